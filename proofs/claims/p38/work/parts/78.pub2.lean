section PUB2
variable {E : EN} {P : Nat → Prop} {H0 : AH} {x : Nat} {d : Nat} {K : Out → AH → Prop} {σ : Sg} {H : AH} {c n T : Nat}
theorem p_stop (C : CW E P H0 x σ H) (G : Good σ T) (hT : T + 200 < 16384) {v : Int32} (hc : JJ (a_stop σ v).2.2 + 400 ≤ JJ σ + c) (hn : 4 * JJ (a_stop σ v).2.2 + 1600 ≤ 4 * JJ σ + n) (hK : ∀ H', CW E P H0 x (a_stop σ v).2.2 H' → K (ou [2, 1] (a_stop σ v)) H') : CRd TTv E (d + 13) mX4_stop [.ref x, .int v] H c n K := by
  obtain ⟨A, wr, rfl, C⟩ := C
  refine crd rfl ?_
  show Ev E (d + 12) mX4_stop K 0 [.ref (A 0 0), .int v, .retAddr 0] [] H c n
  have hm : JJ σ ≤ JJ (a_stop σ v).2.2 := by
    unfold a_stop
    split
    · exact Nat.le_refl _
    · split
      · exact Nat.le_refl _
      · exact JJ_stops
  simp only [eX4_stop_0, eX4_stop_1, eX4_stop_2, eX4_stop_5, eX4_stop_6, eX4_stop_7, eX4_stop_10, eX4_stop_13, eX4_stop_16, eX4_stop_23, eX4_stop_24, eX4_stop_25, eX4_stop_28, eX4_stop_29, eX4_stop_32, eX4_stop_35, isA_r, isA_n, isI_i, isF_f, isL_l, is1_i, is1_r, is1_n, is1_f, true_and, and_true, List.length_cons, List.length_nil, Nat.reduceAdd, Nat.reduceLeDiff, Nat.reduceSub, Option.some.injEq, exists_eq_left', aft_s, aft_n, ite_true, ite_false, if_true, if_false, Nat.zero_le, Nat.le_refl, reduceCtorEq]
  refine ⟨C.oT, invk 1 6 (by omega) (by omega) (k_jobNum C (by omega) (by omega) (fun s hs e => ?_) (fun e => ?_))⟩
  · simp only [eX4_stop_0, eX4_stop_1, eX4_stop_2, eX4_stop_5, eX4_stop_6, eX4_stop_7, eX4_stop_10, eX4_stop_13, eX4_stop_16, eX4_stop_23, eX4_stop_24, eX4_stop_25, eX4_stop_28, eX4_stop_29, eX4_stop_32, eX4_stop_35, isA_r, isA_n, isI_i, isF_f, isL_l, is1_i, is1_r, is1_n, is1_f, true_and, and_true, List.length_cons, List.length_nil, Nat.reduceAdd, Nat.reduceLeDiff, Nat.reduceSub, Option.some.injEq, exists_eq_left', aft_s, aft_n, ite_true, ite_false, if_true, if_false, Nat.zero_le, Nat.le_refl, reduceCtorEq]
    refine inv0 (k_cbs C hs ?_)
    cases hb : cstop σ s with
    | false =>
      have q : a_stop σ v = (2, 0, σ) := by unfold a_stop; rw [e]; dsimp only; rw [if_pos hb]
      rw [q] at hK
      have b0 : (b2 false = 0) = True := eq_true rfl
      simp only [eX4_stop_0, eX4_stop_1, eX4_stop_2, eX4_stop_5, eX4_stop_6, eX4_stop_7, eX4_stop_10, eX4_stop_13, eX4_stop_16, eX4_stop_23, eX4_stop_24, eX4_stop_25, eX4_stop_28, eX4_stop_29, eX4_stop_32, eX4_stop_35, isA_r, isA_n, isI_i, isF_f, isL_l, is1_i, is1_r, is1_n, is1_f, true_and, and_true, List.length_cons, List.length_nil, Nat.reduceAdd, Nat.reduceLeDiff, Nat.reduceSub, Option.some.injEq, exists_eq_left', aft_s, aft_n, ite_true, ite_false, if_true, if_false, Nat.zero_le, Nat.le_refl, reduceCtorEq, b0, Nat.le_add_left, show 1 ≤ c - 1 by omega, show 6 ≤ n - 6 by omega]
      exact hK H ⟨A, wr, rfl, C⟩
    | true =>
      have q : a_stop σ v = (0, nI (s_od (stopsF σ s)).length, stopsF σ s) := by unfold a_stop; rw [e]; dsimp only; rw [if_neg (by rw [hb]; decide)]
      rw [q] at hK hc hn hm
      dsimp only at hc hn hm
      have b1 : (b2 true = 0) = False := eq_false (by decide)
      simp only [eX4_stop_0, eX4_stop_1, eX4_stop_2, eX4_stop_5, eX4_stop_6, eX4_stop_7, eX4_stop_10, eX4_stop_13, eX4_stop_16, eX4_stop_23, eX4_stop_24, eX4_stop_25, eX4_stop_28, eX4_stop_29, eX4_stop_32, eX4_stop_35, isA_r, isA_n, isI_i, isF_f, isL_l, is1_i, is1_r, is1_n, is1_f, true_and, and_true, List.length_cons, List.length_nil, Nat.reduceAdd, Nat.reduceLeDiff, Nat.reduceSub, Option.some.injEq, exists_eq_left', aft_s, aft_n, ite_true, ite_false, if_true, if_false, Nat.zero_le, Nat.le_refl, reduceCtorEq, b1]
      refine ⟨C.oT, invk (JJ (stopsF σ s) - JJ σ) (4 * (JJ (stopsF σ s) - JJ σ)) (by omega) (by omega) (k_pause C G.1 G.2.1 (by omega) hs (cstop_over hb) (by omega) (by omega) (fun H1 C1 => ?_))⟩
      simp only [eX4_stop_0, eX4_stop_1, eX4_stop_2, eX4_stop_5, eX4_stop_6, eX4_stop_7, eX4_stop_10, eX4_stop_13, eX4_stop_16, eX4_stop_23, eX4_stop_24, eX4_stop_25, eX4_stop_28, eX4_stop_29, eX4_stop_32, eX4_stop_35, isA_r, isA_n, isI_i, isF_f, isL_l, is1_i, is1_r, is1_n, is1_f, true_and, and_true, List.length_cons, List.length_nil, Nat.reduceAdd, Nat.reduceLeDiff, Nat.reduceSub, Option.some.injEq, exists_eq_left', aft_s, aft_n, ite_true, ite_false, if_true, if_false, Nat.zero_le, Nat.le_refl, reduceCtorEq, ob_of C1.top, og2]
      refine ⟨C1.lO, inv0 (k_oSize C1 ?_)⟩
      simp only [eX4_stop_0, eX4_stop_1, eX4_stop_2, eX4_stop_5, eX4_stop_6, eX4_stop_7, eX4_stop_10, eX4_stop_13, eX4_stop_16, eX4_stop_23, eX4_stop_24, eX4_stop_25, eX4_stop_28, eX4_stop_29, eX4_stop_32, eX4_stop_35, isA_r, isA_n, isI_i, isF_f, isL_l, is1_i, is1_r, is1_n, is1_f, true_and, and_true, List.length_cons, List.length_nil, Nat.reduceAdd, Nat.reduceLeDiff, Nat.reduceSub, Option.some.injEq, exists_eq_left', aft_s, aft_n, ite_true, ite_false, if_true, if_false, Nat.zero_le, Nat.le_refl, reduceCtorEq]
      exact hK H1 ⟨A, wr, rfl, C1⟩
  · have q : a_stop σ v = (1, 0, σ) := by unfold a_stop; rw [e]
    rw [q] at hK
    exact aft_i rfl rfl (hK H ⟨A, wr, rfl, C⟩)
theorem p_goOn (C : CW E P H0 x σ H) (G : Good σ T) (hT : T + 200 < 16384) {v : Int32} (hc : JJ (a_goOn σ v).2.2 + 400 ≤ JJ σ + c) (hn : 4 * JJ (a_goOn σ v).2.2 + 1600 ≤ 4 * JJ σ + n) (hK : ∀ H', CW E P H0 x (a_goOn σ v).2.2 H' → K (ou [2, 1] (a_goOn σ v)) H') : CRd TTv E (d + 13) mX4_goOn [.ref x, .int v] H c n K := by
  obtain ⟨A, wr, rfl, C⟩ := C
  refine crd rfl ?_
  show Ev E (d + 12) mX4_goOn K 0 [.ref (A 0 0), .int v, .retAddr 0] [] H c n
  have hm : JJ σ ≤ JJ (a_goOn σ v).2.2 := by
    unfold a_goOn
    split
    · exact Nat.le_refl _
    · split
      · exact JJ_goesOn
      · exact Nat.le_refl _
  simp only [eX4_goOn_0, eX4_goOn_1, eX4_goOn_2, eX4_goOn_5, eX4_goOn_6, eX4_goOn_7, eX4_goOn_10, eX4_goOn_13, eX4_goOn_16, eX4_goOn_23, eX4_goOn_24, eX4_goOn_25, eX4_goOn_28, eX4_goOn_29, eX4_goOn_32, eX4_goOn_35, isA_r, isA_n, isI_i, isF_f, isL_l, is1_i, is1_r, is1_n, is1_f, true_and, and_true, List.length_cons, List.length_nil, Nat.reduceAdd, Nat.reduceLeDiff, Nat.reduceSub, Option.some.injEq, exists_eq_left', aft_s, aft_n, ite_true, ite_false, if_true, if_false, Nat.zero_le, Nat.le_refl, reduceCtorEq]
  refine ⟨C.oT, invk 1 6 (by omega) (by omega) (k_jobNum C (by omega) (by omega) (fun s hs e => ?_) (fun e => ?_))⟩
  · simp only [eX4_goOn_0, eX4_goOn_1, eX4_goOn_2, eX4_goOn_5, eX4_goOn_6, eX4_goOn_7, eX4_goOn_10, eX4_goOn_13, eX4_goOn_16, eX4_goOn_23, eX4_goOn_24, eX4_goOn_25, eX4_goOn_28, eX4_goOn_29, eX4_goOn_32, eX4_goOn_35, isA_r, isA_n, isI_i, isF_f, isL_l, is1_i, is1_r, is1_n, is1_f, true_and, and_true, List.length_cons, List.length_nil, Nat.reduceAdd, Nat.reduceLeDiff, Nat.reduceSub, Option.some.injEq, exists_eq_left', aft_s, aft_n, ite_true, ite_false, if_true, if_false, Nat.zero_le, Nat.le_refl, reduceCtorEq]
    refine inv0 (k_cgo C hs ?_)
    by_cases hb : s_st σ s = 115
    · have q : a_goOn σ v = (0, nI (s_od (goesOnF σ s)).length, goesOnF σ s) := by unfold a_goOn; rw [e]; dsimp only; rw [if_pos hb]
      rw [q] at hK hc hn hm
      dsimp only at hc hn hm
      have b1 : (b2 (s_st σ s == 115) = 0) = False := by rw [hb]; exact eq_false (by decide)
      simp only [eX4_goOn_0, eX4_goOn_1, eX4_goOn_2, eX4_goOn_5, eX4_goOn_6, eX4_goOn_7, eX4_goOn_10, eX4_goOn_13, eX4_goOn_16, eX4_goOn_23, eX4_goOn_24, eX4_goOn_25, eX4_goOn_28, eX4_goOn_29, eX4_goOn_32, eX4_goOn_35, isA_r, isA_n, isI_i, isF_f, isL_l, is1_i, is1_r, is1_n, is1_f, true_and, and_true, List.length_cons, List.length_nil, Nat.reduceAdd, Nat.reduceLeDiff, Nat.reduceSub, Option.some.injEq, exists_eq_left', aft_s, aft_n, ite_true, ite_false, if_true, if_false, Nat.zero_le, Nat.le_refl, reduceCtorEq, b1]
      refine ⟨C.oT, invk (JJ (goesOnF σ s) - JJ σ + 11) (4 * (JJ (goesOnF σ s) - JJ σ + 11)) (by omega) (by omega) (k_resume C G.1 G.2.1 (by omega) hs hb (by omega) (by omega) (fun H1 C1 => ?_))⟩
      simp only [eX4_goOn_0, eX4_goOn_1, eX4_goOn_2, eX4_goOn_5, eX4_goOn_6, eX4_goOn_7, eX4_goOn_10, eX4_goOn_13, eX4_goOn_16, eX4_goOn_23, eX4_goOn_24, eX4_goOn_25, eX4_goOn_28, eX4_goOn_29, eX4_goOn_32, eX4_goOn_35, isA_r, isA_n, isI_i, isF_f, isL_l, is1_i, is1_r, is1_n, is1_f, true_and, and_true, List.length_cons, List.length_nil, Nat.reduceAdd, Nat.reduceLeDiff, Nat.reduceSub, Option.some.injEq, exists_eq_left', aft_s, aft_n, ite_true, ite_false, if_true, if_false, Nat.zero_le, Nat.le_refl, reduceCtorEq, ob_of C1.top, og2]
      refine ⟨C1.lO, inv0 (k_oSize C1 ?_)⟩
      simp only [eX4_goOn_0, eX4_goOn_1, eX4_goOn_2, eX4_goOn_5, eX4_goOn_6, eX4_goOn_7, eX4_goOn_10, eX4_goOn_13, eX4_goOn_16, eX4_goOn_23, eX4_goOn_24, eX4_goOn_25, eX4_goOn_28, eX4_goOn_29, eX4_goOn_32, eX4_goOn_35, isA_r, isA_n, isI_i, isF_f, isL_l, is1_i, is1_r, is1_n, is1_f, true_and, and_true, List.length_cons, List.length_nil, Nat.reduceAdd, Nat.reduceLeDiff, Nat.reduceSub, Option.some.injEq, exists_eq_left', aft_s, aft_n, ite_true, ite_false, if_true, if_false, Nat.zero_le, Nat.le_refl, reduceCtorEq]
      exact hK H1 ⟨A, wr, rfl, C1⟩
    · have q : a_goOn σ v = (2, 0, σ) := by unfold a_goOn; rw [e]; dsimp only; rw [if_neg hb]
      rw [q] at hK
      have hf : (s_st σ s == 115) = false := by simp [hb]
      have b0 : (b2 (s_st σ s == 115) = 0) = True := by rw [hf]; exact eq_true rfl
      simp only [eX4_goOn_0, eX4_goOn_1, eX4_goOn_2, eX4_goOn_5, eX4_goOn_6, eX4_goOn_7, eX4_goOn_10, eX4_goOn_13, eX4_goOn_16, eX4_goOn_23, eX4_goOn_24, eX4_goOn_25, eX4_goOn_28, eX4_goOn_29, eX4_goOn_32, eX4_goOn_35, isA_r, isA_n, isI_i, isF_f, isL_l, is1_i, is1_r, is1_n, is1_f, true_and, and_true, List.length_cons, List.length_nil, Nat.reduceAdd, Nat.reduceLeDiff, Nat.reduceSub, Option.some.injEq, exists_eq_left', aft_s, aft_n, ite_true, ite_false, if_true, if_false, Nat.zero_le, Nat.le_refl, reduceCtorEq, b0, Nat.le_add_left, show 1 ≤ c - 1 by omega, show 6 ≤ n - 6 by omega]
      exact hK H ⟨A, wr, rfl, C⟩
  · have q : a_goOn σ v = (1, 0, σ) := by unfold a_goOn; rw [e]
    rw [q] at hK
    exact aft_i rfl rfl (hK H ⟨A, wr, rfl, C⟩)
theorem p_end (C : CW E P H0 x σ H) (G : Good σ T) (hT : T + 200 < 16384) {v : Int32} (hc : JJ (a_end σ v).2.2 + 400 ≤ JJ σ + c) (hn : 4 * JJ (a_end σ v).2.2 + 1600 ≤ 4 * JJ σ + n) (hK : ∀ H', CW E P H0 x (a_end σ v).2.2 H' → K (ou [2, 1] (a_end σ v)) H') : CRd TTv E (d + 13) mX4_end [.ref x, .int v] H c n K := by
  obtain ⟨A, wr, rfl, C⟩ := C
  refine crd rfl ?_
  show Ev E (d + 12) mX4_end K 0 [.ref (A 0 0), .int v, .retAddr 0] [] H c n
  have hm : JJ σ ≤ JJ (a_end σ v).2.2 := by
    unfold a_end
    split
    · exact Nat.le_refl _
    · split
      · exact JJ_ends
      · exact Nat.le_refl _
  simp only [eX4_end_0, eX4_end_1, eX4_end_2, eX4_end_5, eX4_end_6, eX4_end_7, eX4_end_10, eX4_end_13, eX4_end_16, eX4_end_23, eX4_end_24, eX4_end_25, eX4_end_27, eX4_end_30, eX4_end_31, eX4_end_34, eX4_end_37, isA_r, isA_n, isI_i, isF_f, isL_l, is1_i, is1_r, is1_n, is1_f, true_and, and_true, List.length_cons, List.length_nil, Nat.reduceAdd, Nat.reduceLeDiff, Nat.reduceSub, Option.some.injEq, exists_eq_left', aft_s, aft_n, ite_true, ite_false, if_true, if_false, Nat.zero_le, Nat.le_refl, reduceCtorEq]
  refine ⟨C.oT, invk 1 6 (by omega) (by omega) (k_jobNum C (by omega) (by omega) (fun s hs e => ?_) (fun e => ?_))⟩
  · simp only [eX4_end_0, eX4_end_1, eX4_end_2, eX4_end_5, eX4_end_6, eX4_end_7, eX4_end_10, eX4_end_13, eX4_end_16, eX4_end_23, eX4_end_24, eX4_end_25, eX4_end_27, eX4_end_30, eX4_end_31, eX4_end_34, eX4_end_37, isA_r, isA_n, isI_i, isF_f, isL_l, is1_i, is1_r, is1_n, is1_f, true_and, and_true, List.length_cons, List.length_nil, Nat.reduceAdd, Nat.reduceLeDiff, Nat.reduceSub, Option.some.injEq, exists_eq_left', aft_s, aft_n, ite_true, ite_false, if_true, if_false, Nat.zero_le, Nat.le_refl, reduceCtorEq]
    refine inv0 (k_ovr C hs ?_)
    cases hb : over σ s with
    | true =>
      have q : a_end σ v = (2, 0, σ) := by unfold a_end; rw [e]; dsimp only; rw [if_neg (by rw [hb]; decide)]
      rw [q] at hK
      have b1 : (b2 true = 0) = False := eq_false (by decide)
      simp only [eX4_end_0, eX4_end_1, eX4_end_2, eX4_end_5, eX4_end_6, eX4_end_7, eX4_end_10, eX4_end_13, eX4_end_16, eX4_end_23, eX4_end_24, eX4_end_25, eX4_end_27, eX4_end_30, eX4_end_31, eX4_end_34, eX4_end_37, isA_r, isA_n, isI_i, isF_f, isL_l, is1_i, is1_r, is1_n, is1_f, true_and, and_true, List.length_cons, List.length_nil, Nat.reduceAdd, Nat.reduceLeDiff, Nat.reduceSub, Option.some.injEq, exists_eq_left', aft_s, aft_n, ite_true, ite_false, if_true, if_false, Nat.zero_le, Nat.le_refl, reduceCtorEq, b1, Nat.le_add_left, show 1 ≤ c - 1 by omega, show 6 ≤ n - 6 by omega]
      exact hK H ⟨A, wr, rfl, C⟩
    | false =>
      have q : a_end σ v = (0, nI (s_od (endsF σ s 107)).length, endsF σ s 107) := by unfold a_end; rw [e]; dsimp only; rw [if_pos hb]
      rw [q] at hK hc hn hm
      dsimp only at hc hn hm
      have b0 : (b2 false = 0) = True := eq_true rfl
      simp only [eX4_end_0, eX4_end_1, eX4_end_2, eX4_end_5, eX4_end_6, eX4_end_7, eX4_end_10, eX4_end_13, eX4_end_16, eX4_end_23, eX4_end_24, eX4_end_25, eX4_end_27, eX4_end_30, eX4_end_31, eX4_end_34, eX4_end_37, isA_r, isA_n, isI_i, isF_f, isL_l, is1_i, is1_r, is1_n, is1_f, true_and, and_true, List.length_cons, List.length_nil, Nat.reduceAdd, Nat.reduceLeDiff, Nat.reduceSub, Option.some.injEq, exists_eq_left', aft_s, aft_n, ite_true, ite_false, if_true, if_false, Nat.zero_le, Nat.le_refl, reduceCtorEq, b0]
      refine ⟨C.oT, invk (JJ (endsF σ s 107) - JJ σ) (4 * (JJ (endsF σ s 107) - JJ σ)) (by omega) (by omega) (k_finish (how := 107) C G.1 G.2.1 (by omega) hs hb (Or.inr rfl) (by omega) (by omega) (fun H1 C1 => ?_))⟩
      simp only [eX4_end_0, eX4_end_1, eX4_end_2, eX4_end_5, eX4_end_6, eX4_end_7, eX4_end_10, eX4_end_13, eX4_end_16, eX4_end_23, eX4_end_24, eX4_end_25, eX4_end_27, eX4_end_30, eX4_end_31, eX4_end_34, eX4_end_37, isA_r, isA_n, isI_i, isF_f, isL_l, is1_i, is1_r, is1_n, is1_f, true_and, and_true, List.length_cons, List.length_nil, Nat.reduceAdd, Nat.reduceLeDiff, Nat.reduceSub, Option.some.injEq, exists_eq_left', aft_s, aft_n, ite_true, ite_false, if_true, if_false, Nat.zero_le, Nat.le_refl, reduceCtorEq, ob_of C1.top, og2]
      refine ⟨C1.lO, inv0 (k_oSize C1 ?_)⟩
      simp only [eX4_end_0, eX4_end_1, eX4_end_2, eX4_end_5, eX4_end_6, eX4_end_7, eX4_end_10, eX4_end_13, eX4_end_16, eX4_end_23, eX4_end_24, eX4_end_25, eX4_end_27, eX4_end_30, eX4_end_31, eX4_end_34, eX4_end_37, isA_r, isA_n, isI_i, isF_f, isL_l, is1_i, is1_r, is1_n, is1_f, true_and, and_true, List.length_cons, List.length_nil, Nat.reduceAdd, Nat.reduceLeDiff, Nat.reduceSub, Option.some.injEq, exists_eq_left', aft_s, aft_n, ite_true, ite_false, if_true, if_false, Nat.zero_le, Nat.le_refl, reduceCtorEq]
      exact hK H1 ⟨A, wr, rfl, C1⟩
  · have q : a_end σ v = (1, 0, σ) := by unfold a_end; rw [e]
    rw [q] at hK
    exact aft_i rfl rfl (hK H ⟨A, wr, rfl, C⟩)
theorem p_tick (C : CW E P H0 x σ H) (G : Good σ T) (hT : T + 200 < 16384) {v : Int32} (hc : JJ (a_tick σ v).2.2 + 400 ≤ JJ σ + c) (hn : 4 * JJ (a_tick σ v).2.2 + 1600 ≤ 4 * JJ σ + n) (hK : ∀ H', CW E P H0 x (a_tick σ v).2.2 H' → K (ou [4] (a_tick σ v)) H') : CRd TTv E (d + 13) mX4_tick [.ref x, .int v] H c n K := by
  obtain ⟨A, wr, rfl, C⟩ := C
  refine crd rfl ?_
  show Ev E (d + 12) mX4_tick K 0 [.ref (A 0 0), .int v, .retAddr 0, .retAddr 0] [] H c n
  have hm : JJ σ ≤ JJ (a_tick σ v).2.2 := by
    unfold a_tick
    split
    · exact Nat.le_refl _
    · exact JJ_manyF _ _ _
  have bad : badT v = true → a_tick σ v = (1, 0, σ) := fun h => by unfold a_tick; rw [h]
  by_cases h1 : v < 1
  · rw [bad (by unfold badT; simp [h1])] at hK
    simp only [eX4_tick_0, eX4_tick_1, eX4_tick_2, eX4_tick_5, eX4_tick_6, eX4_tick_8, eX4_tick_11, eX4_tick_14, eX4_tick_21, eX4_tick_22, eX4_tick_23, eX4_tick_24, isA_r, isA_n, isI_i, isF_f, isL_l, is1_i, is1_r, is1_n, is1_f, true_and, and_true, List.length_cons, List.length_nil, Nat.reduceAdd, Nat.reduceLeDiff, Nat.reduceSub, Option.some.injEq, exists_eq_left', aft_s, aft_n, ite_true, ite_false, if_true, if_false, Nat.zero_le, Nat.le_refl, reduceCtorEq, h1, Nat.le_add_left, show 1 ≤ c by omega, show 6 ≤ n by omega]
    exact hK H ⟨A, wr, rfl, C⟩
  · by_cases h2 : (60 : Int32) < v
    · rw [bad (by unfold badT; simp [h2])] at hK
      simp only [eX4_tick_0, eX4_tick_1, eX4_tick_2, eX4_tick_5, eX4_tick_6, eX4_tick_8, eX4_tick_11, eX4_tick_14, eX4_tick_21, eX4_tick_22, eX4_tick_23, eX4_tick_24, isA_r, isA_n, isI_i, isF_f, isL_l, is1_i, is1_r, is1_n, is1_f, true_and, and_true, List.length_cons, List.length_nil, Nat.reduceAdd, Nat.reduceLeDiff, Nat.reduceSub, Option.some.injEq, exists_eq_left', aft_s, aft_n, ite_true, ite_false, if_true, if_false, Nat.zero_le, Nat.le_refl, reduceCtorEq, h1, h2, Nat.le_add_left, show 1 ≤ c by omega, show 6 ≤ n by omega]
      exact hK H ⟨A, wr, rfl, C⟩
    · obtain ⟨k, hk, rfl⟩ := t_in h1 h2
      have q : a_tick σ (nI k) = (0, nI (manyF k σ 0).1, (manyF k σ 0).2) := by
        unfold a_tick
        rw [show badT (nI k) = false by unfold badT; simp [h1, h2], nI_clamp (by omega)]
      rw [q] at hK hc hn hm
      dsimp only at hc hn hm
      simp only [eX4_tick_0, eX4_tick_1, eX4_tick_2, eX4_tick_5, eX4_tick_6, eX4_tick_8, eX4_tick_11, eX4_tick_14, eX4_tick_21, eX4_tick_22, eX4_tick_23, eX4_tick_24, isA_r, isA_n, isI_i, isF_f, isL_l, is1_i, is1_r, is1_n, is1_f, true_and, and_true, List.length_cons, List.length_nil, Nat.reduceAdd, Nat.reduceLeDiff, Nat.reduceSub, Option.some.injEq, exists_eq_left', aft_s, aft_n, ite_true, ite_false, if_true, if_false, Nat.zero_le, Nat.le_refl, reduceCtorEq, h1, h2]
      exact l_tk (d := d + 4) hk k 0 σ H wr 0 T c n C G.1 G.2.1 G.2.2 (by omega) rfl (by omega) (by omega) (fun H1 wr1 C1 => hK H1 ⟨A, wr1, rfl, C1⟩)
theorem p_signal (C : CW E P H0 x σ H) (G : Good σ T) (hT : T + 200 < 16384) {v g : Int32} (hc : JJ (a_signal σ v g).2.2 + 400 ≤ JJ σ + c) (hn : 4 * JJ (a_signal σ v g).2.2 + 1600 ≤ 4 * JJ σ + n) (hK : ∀ H', CW E P H0 x (a_signal σ v g).2.2 H' → K (ou [2, 4] (a_signal σ v g)) H') : CRd TTv E (d + 13) mX4_signal [.ref x, .int v, .int g] H c n K := by
  obtain ⟨A, wr, rfl, C⟩ := C
  refine crd rfl ?_
  show Ev E (d + 12) mX4_signal K 0 [.ref (A 0 0), .int v, .int g, .retAddr 0, .retAddr 0, .retAddr 0, .retAddr 0] [] H c n
  have hm : JJ σ ≤ JJ (a_signal σ v g).2.2 := by
    unfold a_signal
    split
    · exact Nat.le_refl _
    · split
      · exact Nat.le_refl _
      · exact JJ_sigL _ _ _ _
  simp only [eX4_signal_0, eX4_signal_1, eX4_signal_2, isA_r, isA_n, isI_i, isF_f, isL_l, is1_i, is1_r, is1_n, is1_f, true_and, and_true, List.length_cons, List.length_nil, Nat.reduceAdd, Nat.reduceLeDiff, Nat.reduceSub, Option.some.injEq, exists_eq_left', aft_s, aft_n, ite_true, ite_false, if_true, if_false, Nat.zero_le, Nat.le_refl, reduceCtorEq]
  have h30 := C.J30
  refine ⟨C.oT, invk 1 6 (by omega) (by omega) (k_sesNum C (by omega) (by omega) (fun s hs e => ?_) (fun e => ?_))⟩
  · have go : ∀ k, (k = 115 ∨ k = 103 ∨ k = 107) → sgn g = some k → g = nI k → Ev E (d + 12) mX4_signal K 34 [.ref (A 0 0), .int v, .int g, .ref (A 13 s), .retAddr 0, .retAddr 0, .retAddr 0] [] H (c - 1) (n - 6) := by
      intro k hk hsg hg
      have q : a_signal σ v g = (0, nI (sigL s k (s_nJ σ) 0 σ 0).1, (sigL s k (s_nJ σ) 0 σ 0).2) := by unfold a_signal; rw [e]; dsimp only; rw [hsg]
      rw [q] at hK hc hn hm
      dsimp only at hc hn hm
      subst hg
      simp only [eX4_signal_34, eX4_signal_35, eX4_signal_37, eX4_signal_38, isA_r, isA_n, isI_i, isF_f, isL_l, is1_i, is1_r, is1_n, is1_f, true_and, and_true, List.length_cons, List.length_nil, Nat.reduceAdd, Nat.reduceLeDiff, Nat.reduceSub, Option.some.injEq, exists_eq_left', aft_s, aft_n, ite_true, ite_false, if_true, if_false, Nat.zero_le, Nat.le_refl, reduceCtorEq]
      exact l_sigC (d := d + 1) hk (s_nJ σ) 0 σ H 0 T _ _ _ C G.1 G.2.1 (by omega) rfl hs (by omega) (by omega) (fun H1 C1 => hK H1 ⟨A, wr, rfl, C1⟩)
    by_cases g1 : g = 115
    · have e1 : (g = 115) = True := eq_true g1
      simp only [eX4_signal_5, eX4_signal_6, eX4_signal_7, eX4_signal_9, isA_r, isA_n, isI_i, isF_f, isL_l, is1_i, is1_r, is1_n, is1_f, true_and, and_true, List.length_cons, List.length_nil, Nat.reduceAdd, Nat.reduceLeDiff, Nat.reduceSub, Option.some.injEq, exists_eq_left', aft_s, aft_n, ite_true, ite_false, if_true, if_false, Nat.zero_le, Nat.le_refl, reduceCtorEq, e1]
      exact go 115 (Or.inl rfl) (by unfold sgn; rw [if_pos g1]) g1
    · have e1 : (g = 115) = False := eq_false g1
      by_cases g2 : g = 103
      · have e2 : (g = 103) = True := eq_true g2
        simp only [eX4_signal_5, eX4_signal_6, eX4_signal_7, eX4_signal_9, eX4_signal_12, eX4_signal_13, eX4_signal_15, isA_r, isA_n, isI_i, isF_f, isL_l, is1_i, is1_r, is1_n, is1_f, true_and, and_true, List.length_cons, List.length_nil, Nat.reduceAdd, Nat.reduceLeDiff, Nat.reduceSub, Option.some.injEq, exists_eq_left', aft_s, aft_n, ite_true, ite_false, if_true, if_false, Nat.zero_le, Nat.le_refl, reduceCtorEq, e1, e2]
        exact go 103 (Or.inr (Or.inl rfl)) (by unfold sgn; rw [if_neg g1, if_pos g2]) g2
      · have e2 : (g = 103) = False := eq_false g2
        by_cases g3 : g = 107
        · have e3 : (g = 107) = True := eq_true g3
          simp only [eX4_signal_5, eX4_signal_6, eX4_signal_7, eX4_signal_9, eX4_signal_12, eX4_signal_13, eX4_signal_15, eX4_signal_18, eX4_signal_19, eX4_signal_21, isA_r, isA_n, isI_i, isF_f, isL_l, is1_i, is1_r, is1_n, is1_f, true_and, and_true, List.length_cons, List.length_nil, Nat.reduceAdd, Nat.reduceLeDiff, Nat.reduceSub, Option.some.injEq, exists_eq_left', aft_s, aft_n, ite_true, ite_false, if_true, if_false, Nat.zero_le, Nat.le_refl, reduceCtorEq, e1, e2, e3]
          exact go 107 (Or.inr (Or.inr rfl)) (by unfold sgn; rw [if_neg g1, if_neg g2, if_pos g3]) g3
        · have e3 : (g = 107) = False := eq_false g3
          have hsg : sgn g = none := by unfold sgn; rw [if_neg g1, if_neg g2, if_neg g3]
          have q : a_signal σ v g = (2, 0, σ) := by unfold a_signal; rw [e]; dsimp only; rw [hsg]
          rw [q] at hK
          simp only [eX4_signal_5, eX4_signal_6, eX4_signal_7, eX4_signal_9, eX4_signal_12, eX4_signal_13, eX4_signal_15, eX4_signal_18, eX4_signal_19, eX4_signal_21, eX4_signal_24, isA_r, isA_n, isI_i, isF_f, isL_l, is1_i, is1_r, is1_n, is1_f, true_and, and_true, List.length_cons, List.length_nil, Nat.reduceAdd, Nat.reduceLeDiff, Nat.reduceSub, Option.some.injEq, exists_eq_left', aft_s, aft_n, ite_true, ite_false, if_true, if_false, Nat.zero_le, Nat.le_refl, reduceCtorEq, e1, e2, e3, Nat.le_add_left, show 1 ≤ c - 1 by omega, show 6 ≤ n - 6 by omega]
          exact hK H ⟨A, wr, rfl, C⟩
  · have q : a_signal σ v g = (1, 0, σ) := by unfold a_signal; rw [e]
    rw [q] at hK
    exact aft_i rfl rfl (hK H ⟨A, wr, rfl, C⟩)
end PUB2
