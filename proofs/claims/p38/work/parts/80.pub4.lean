theorem fdiv_all : ∀ a : Fin 31, ∀ b : Fin 31, b.1 = 0 ∨ FP.fdiv (FP.i2f (nI a.1)) (FP.i2f (nI b.1)) &&& 0x7fffffff ≤ 0x7f800000 := by decide +kernel
theorem fdiv_ok {a b : Nat} (ha : a ≤ 30) (hb : b ≤ 30) (h0 : b ≠ 0) : FP.fdiv (FP.i2f (nI a)) (FP.i2f (nI b)) &&& 0x7fffffff ≤ 0x7f800000 := (fdiv_all ⟨a, by omega⟩ ⟨b, by omega⟩).resolve_left h0
def dnF (σ : Sg) (j : Nat) : Bool := s_st σ j == 100
def shF (σ : Sg) : UInt32 := FP.fdiv (FP.i2f (nI (cN (dnF σ) (s_nJ σ)))) (FP.i2f (nI (s_nJ σ)))
section PUB4
variable {E : EN} {P : Nat → Prop} {H0 : AH} {x : Nat} {d : Nat} {K : Out → AH → Prop} {σ : Sg} {H : AH} {c n T : Nat}
theorem k_isSt {g : Int32} (hK : K (.inl (some (.int (b2 (isLet g))))) H) : CRd TTv E (d + 1) mX4_isState [.int g] H c n K := by
  refine crd rfl ?_
  show Ev E d mX4_isState K 0 [.int g] [] H c n
  unfold isLet at hK
  by_cases g1 : g = 114
  · subst g1
    have e1 : ((114 : Int32) = 114) = True := eq_true rfl
    simp only [eX4_isState_0, eX4_isState_1, eX4_isState_3, eX4_isState_6, eX4_isState_7, eX4_isState_9, eX4_isState_12, eX4_isState_13, eX4_isState_15, eX4_isState_18, eX4_isState_19, eX4_isState_21, eX4_isState_24, eX4_isState_25, eX4_isState_27, eX4_isState_30, eX4_isState_31, eX4_isState_34, eX4_isState_35, isA_r, isA_n, isI_i, isF_f, isL_l, is1_i, is1_r, is1_n, is1_f, true_and, and_true, List.length_cons, List.length_nil, Nat.reduceAdd, Nat.reduceLeDiff, Nat.reduceSub, Option.some.injEq, exists_eq_left', aft_s, aft_n, ite_true, ite_false, if_true, if_false, Nat.zero_le, Nat.le_refl, reduceCtorEq, e1, ok01_1]
    exact hK
  · have e1 : (g = 114) = False := eq_false g1
    by_cases g2 : g = 119
    · subst g2
      have e2 : ((119 : Int32) = 119) = True := eq_true rfl
      simp only [eX4_isState_0, eX4_isState_1, eX4_isState_3, eX4_isState_6, eX4_isState_7, eX4_isState_9, eX4_isState_12, eX4_isState_13, eX4_isState_15, eX4_isState_18, eX4_isState_19, eX4_isState_21, eX4_isState_24, eX4_isState_25, eX4_isState_27, eX4_isState_30, eX4_isState_31, eX4_isState_34, eX4_isState_35, isA_r, isA_n, isI_i, isF_f, isL_l, is1_i, is1_r, is1_n, is1_f, true_and, and_true, List.length_cons, List.length_nil, Nat.reduceAdd, Nat.reduceLeDiff, Nat.reduceSub, Option.some.injEq, exists_eq_left', aft_s, aft_n, ite_true, ite_false, if_true, if_false, Nat.zero_le, Nat.le_refl, reduceCtorEq, e1, e2, ok01_1]
      exact hK
    · have e2 : (g = 119) = False := eq_false g2
      by_cases g3 : g = 115
      · subst g3
        have e3 : ((115 : Int32) = 115) = True := eq_true rfl
        simp only [eX4_isState_0, eX4_isState_1, eX4_isState_3, eX4_isState_6, eX4_isState_7, eX4_isState_9, eX4_isState_12, eX4_isState_13, eX4_isState_15, eX4_isState_18, eX4_isState_19, eX4_isState_21, eX4_isState_24, eX4_isState_25, eX4_isState_27, eX4_isState_30, eX4_isState_31, eX4_isState_34, eX4_isState_35, isA_r, isA_n, isI_i, isF_f, isL_l, is1_i, is1_r, is1_n, is1_f, true_and, and_true, List.length_cons, List.length_nil, Nat.reduceAdd, Nat.reduceLeDiff, Nat.reduceSub, Option.some.injEq, exists_eq_left', aft_s, aft_n, ite_true, ite_false, if_true, if_false, Nat.zero_le, Nat.le_refl, reduceCtorEq, e1, e2, e3, ok01_1]
        exact hK
      · have e3 : (g = 115) = False := eq_false g3
        by_cases g4 : g = 100
        · subst g4
          have e4 : ((100 : Int32) = 100) = True := eq_true rfl
          simp only [eX4_isState_0, eX4_isState_1, eX4_isState_3, eX4_isState_6, eX4_isState_7, eX4_isState_9, eX4_isState_12, eX4_isState_13, eX4_isState_15, eX4_isState_18, eX4_isState_19, eX4_isState_21, eX4_isState_24, eX4_isState_25, eX4_isState_27, eX4_isState_30, eX4_isState_31, eX4_isState_34, eX4_isState_35, isA_r, isA_n, isI_i, isF_f, isL_l, is1_i, is1_r, is1_n, is1_f, true_and, and_true, List.length_cons, List.length_nil, Nat.reduceAdd, Nat.reduceLeDiff, Nat.reduceSub, Option.some.injEq, exists_eq_left', aft_s, aft_n, ite_true, ite_false, if_true, if_false, Nat.zero_le, Nat.le_refl, reduceCtorEq, e1, e2, e3, e4, ok01_1]
          exact hK
        · have e4 : (g = 100) = False := eq_false g4
          by_cases g5 : g = 107
          · subst g5
            have e5 : ((107 : Int32) = 107) = True := eq_true rfl
            simp only [eX4_isState_0, eX4_isState_1, eX4_isState_3, eX4_isState_6, eX4_isState_7, eX4_isState_9, eX4_isState_12, eX4_isState_13, eX4_isState_15, eX4_isState_18, eX4_isState_19, eX4_isState_21, eX4_isState_24, eX4_isState_25, eX4_isState_27, eX4_isState_30, eX4_isState_31, eX4_isState_34, eX4_isState_35, isA_r, isA_n, isI_i, isF_f, isL_l, is1_i, is1_r, is1_n, is1_f, true_and, and_true, List.length_cons, List.length_nil, Nat.reduceAdd, Nat.reduceLeDiff, Nat.reduceSub, Option.some.injEq, exists_eq_left', aft_s, aft_n, ite_true, ite_false, if_true, if_false, Nat.zero_le, Nat.le_refl, reduceCtorEq, e1, e2, e3, e4, e5, ok01_1]
            exact hK
          · have e5 : (g = 107) = False := eq_false g5
            simp only [g1, g2, g3, g4, g5, decide_false, Bool.or_false] at hK
            simp only [eX4_isState_0, eX4_isState_1, eX4_isState_3, eX4_isState_6, eX4_isState_7, eX4_isState_9, eX4_isState_12, eX4_isState_13, eX4_isState_15, eX4_isState_18, eX4_isState_19, eX4_isState_21, eX4_isState_24, eX4_isState_25, eX4_isState_27, eX4_isState_30, eX4_isState_31, eX4_isState_34, eX4_isState_35, isA_r, isA_n, isI_i, isF_f, isL_l, is1_i, is1_r, is1_n, is1_f, true_and, and_true, List.length_cons, List.length_nil, Nat.reduceAdd, Nat.reduceLeDiff, Nat.reduceSub, Option.some.injEq, exists_eq_left', aft_s, aft_n, ite_true, ite_false, if_true, if_false, Nat.zero_le, Nat.le_refl, reduceCtorEq, e1, e2, e3, e4, e5, ok01_0]
            exact hK
theorem p_count (C : CW E P H0 x σ H) (O : Ok σ) {v g : Int32} (hc : 2 ≤ c) (hn : 12 ≤ n) (hK : ∀ H', CW E P H0 x (q_count σ v g).2.2 H' → K (ou [2, 4] (q_count σ v g)) H') : CRd TTv E (d + 12) mX4_count [.ref x, .int v, .int g] H c n K := by
  obtain ⟨A, wr, rfl, C⟩ := C
  refine crd rfl ?_
  show Ev E (d + 11) mX4_count K 0 [.ref (A 0 0), .int v, .int g, .retAddr 0, .retAddr 0, .retAddr 0, .retAddr 0] [] H c n
  have h30 := C.J30
  simp only [eX4_count_0, eX4_count_1, eX4_count_2, isA_r, isA_n, isI_i, isF_f, isL_l, is1_i, is1_r, is1_n, is1_f, true_and, and_true, List.length_cons, List.length_nil, Nat.reduceAdd, Nat.reduceLeDiff, Nat.reduceSub, Option.some.injEq, exists_eq_left', aft_s, aft_n, ite_true, ite_false, if_true, if_false, Nat.zero_le, Nat.le_refl, reduceCtorEq]
  refine ⟨C.oT, invk 1 6 (by omega) (by omega) (k_sesNum C (by omega) (by omega) (fun s hs e => ?_) (fun e => ?_))⟩
  · simp only [eX4_count_5, eX4_count_6, eX4_count_7, isA_r, isA_n, isI_i, isF_f, isL_l, is1_i, is1_r, is1_n, is1_f, true_and, and_true, List.length_cons, List.length_nil, Nat.reduceAdd, Nat.reduceLeDiff, Nat.reduceSub, Option.some.injEq, exists_eq_left', aft_s, aft_n, ite_true, ite_false, if_true, if_false, Nat.zero_le, Nat.le_refl, reduceCtorEq]
    refine inv0 (k_isSt ?_)
    cases hl : isLet g with
    | false =>
      have q : q_count σ v g = (2, 0, σ) := by unfold q_count; rw [e]; dsimp only; rw [if_pos hl]
      rw [q] at hK
      have b0 : (b2 false = 0) = True := eq_true rfl
      simp only [eX4_count_10, eX4_count_13, isA_r, isA_n, isI_i, isF_f, isL_l, is1_i, is1_r, is1_n, is1_f, true_and, and_true, List.length_cons, List.length_nil, Nat.reduceAdd, Nat.reduceLeDiff, Nat.reduceSub, Option.some.injEq, exists_eq_left', aft_s, aft_n, ite_true, ite_false, if_true, if_false, Nat.zero_le, Nat.le_refl, reduceCtorEq, b0, Nat.le_add_left, show 1 ≤ c - 1 by omega, show 6 ≤ n - 6 by omega]
      exact hK H ⟨A, wr, rfl, C⟩
    | true =>
      have q : q_count σ v g = (0, nI (cN (pcnt σ s g) (s_nJ σ)), σ) := by unfold q_count; rw [e]; dsimp only; rw [if_neg (by rw [hl]; decide)]
      rw [q] at hK
      have b1 : (b2 true = 0) = False := eq_false (by decide)
      have loop : ∀ (m j : Nat) (a6 : Value), m + j = s_nJ σ → Ev E (d + 11) mX4_count K 29 [.ref (A 0 0), .int v, .int g, .ref (A 13 s), .int (nI (cN (pcnt σ s g) j)), .int (nI j), a6] [] H (c - 1) (n - 6) := by
        intro m
        induction m with
        | zero =>
          intro j a6 hm
          have hj : j = s_nJ σ := by omega
          subst hj
          rw [hX4_count_29]
          simp only [eX4_count_31, eX4_count_32, eX4_count_35, isA_r, isA_n, isI_i, isF_f, isL_l, is1_i, is1_r, is1_n, is1_f, true_and, and_true, List.length_cons, List.length_nil, Nat.reduceAdd, Nat.reduceLeDiff, Nat.reduceSub, Option.some.injEq, exists_eq_left', aft_s, aft_n, ite_true, ite_false, if_true, if_false, Nat.zero_le, Nat.le_refl, reduceCtorEq, ob_of C.top, og1]
          refine ⟨C.lJ, inv0 (k_jSize C ?_)⟩
          have e1 : (nI (s_nJ σ) < nI (s_nJ σ)) = False := eq_false (nI_nlt (Nat.le_refl _) (by omega))
          simp only [eX4_count_38, eX4_count_41, eX4_count_42, eX4_count_45, eX4_count_47, eX4_count_50, eX4_count_53, eX4_count_55, eX4_count_57, eX4_count_60, eX4_count_61, eX4_count_64, eX4_count_66, eX4_count_69, eX4_count_70, eX4_count_73, eX4_count_76, eX4_count_79, eX4_count_82, eX4_count_84, isA_r, isA_n, isI_i, isF_f, isL_l, is1_i, is1_r, is1_n, is1_f, true_and, and_true, List.length_cons, List.length_nil, Nat.reduceAdd, Nat.reduceLeDiff, Nat.reduceSub, Option.some.injEq, exists_eq_left', aft_s, aft_n, ite_true, ite_false, if_true, if_false, Nat.zero_le, Nat.le_refl, reduceCtorEq, e1]
          exact hK H ⟨A, wr, rfl, C⟩
        | succ m ih =>
          intro j a6 hm
          have hj : j < s_nJ σ := by omega
          rw [hX4_count_29]
          simp only [eX4_count_31, eX4_count_32, eX4_count_35, isA_r, isA_n, isI_i, isF_f, isL_l, is1_i, is1_r, is1_n, is1_f, true_and, and_true, List.length_cons, List.length_nil, Nat.reduceAdd, Nat.reduceLeDiff, Nat.reduceSub, Option.some.injEq, exists_eq_left', aft_s, aft_n, ite_true, ite_false, if_true, if_false, Nat.zero_le, Nat.le_refl, reduceCtorEq, ob_of C.top, og1]
          refine ⟨C.lJ, inv0 (k_jSize C ?_)⟩
          have e1 : (nI j < nI (s_nJ σ)) = True := eq_true (nI_lt hj (by omega))
          simp only [eX4_count_38, eX4_count_41, eX4_count_42, eX4_count_45, eX4_count_47, isA_r, isA_n, isI_i, isF_f, isL_l, is1_i, is1_r, is1_n, is1_f, true_and, and_true, List.length_cons, List.length_nil, Nat.reduceAdd, Nat.reduceLeDiff, Nat.reduceSub, Option.some.injEq, exists_eq_left', aft_s, aft_n, ite_true, ite_false, if_true, if_false, Nat.zero_le, Nat.le_refl, reduceCtorEq, e1, ob_of C.top, og1]
          refine ⟨C.lJ, inv0 (k_jGet C hj ?_)⟩
          have e2 := C.sinj (O.job hj).1 hs
          have hcs := cN_s (p := pcnt σ s g) (n := j)
          by_cases he : s_se σ j = s
          · have e3 : (Value.ref (A 13 (s_se σ j)) = .ref (A 13 s)) = True := by rw [e2]; exact eq_true he
            by_cases hg : nI (s_st σ j) = g
            · have e4 : (nI (s_st σ j) = g) = True := eq_true hg
              have hp : pcnt σ s g j = true := by unfold pcnt; rw [he, hg]; simp
              rw [if_pos hp] at hcs
              simp only [eX4_count_50, eX4_count_53, eX4_count_55, eX4_count_57, eX4_count_60, eX4_count_61, eX4_count_64, eX4_count_66, eX4_count_69, eX4_count_70, eX4_count_73, eX4_count_76, eX4_count_79, isA_r, isA_n, isI_i, isF_f, isL_l, is1_i, is1_r, is1_n, is1_f, true_and, and_true, List.length_cons, List.length_nil, Nat.reduceAdd, Nat.reduceLeDiff, Nat.reduceSub, Option.some.injEq, exists_eq_left', aft_s, aft_n, ite_true, ite_false, if_true, if_false, Nat.zero_le, Nat.le_refl, reduceCtorEq, ob_of (C.job hj), jg1, jg4, e3, e4, nI_1]
              rw [← hcs]
              exact ih (j + 1) _ (by omega)
            · have e4 : (nI (s_st σ j) = g) = False := eq_false hg
              have hp : ¬ pcnt σ s g j = true := by unfold pcnt; simp [hg]
              have hcs : cN (pcnt σ s g) (j + 1) = cN (pcnt σ s g) j := by rw [if_neg hp] at hcs; omega
              simp only [eX4_count_50, eX4_count_53, eX4_count_55, eX4_count_57, eX4_count_60, eX4_count_61, eX4_count_64, eX4_count_66, eX4_count_69, eX4_count_70, eX4_count_73, eX4_count_76, eX4_count_79, isA_r, isA_n, isI_i, isF_f, isL_l, is1_i, is1_r, is1_n, is1_f, true_and, and_true, List.length_cons, List.length_nil, Nat.reduceAdd, Nat.reduceLeDiff, Nat.reduceSub, Option.some.injEq, exists_eq_left', aft_s, aft_n, ite_true, ite_false, if_true, if_false, Nat.zero_le, Nat.le_refl, reduceCtorEq, ob_of (C.job hj), jg1, jg4, e3, e4, nI_1]
              rw [← hcs]
              exact ih (j + 1) _ (by omega)
          · have e3 : (Value.ref (A 13 (s_se σ j)) = .ref (A 13 s)) = False := by rw [e2]; exact eq_false he
            have hp : ¬ pcnt σ s g j = true := by unfold pcnt; simp [he]
            have hcs : cN (pcnt σ s g) (j + 1) = cN (pcnt σ s g) j := by rw [if_neg hp] at hcs; omega
            simp only [eX4_count_50, eX4_count_53, eX4_count_55, eX4_count_57, eX4_count_60, eX4_count_61, eX4_count_64, eX4_count_66, eX4_count_69, eX4_count_70, eX4_count_73, eX4_count_76, eX4_count_79, isA_r, isA_n, isI_i, isF_f, isL_l, is1_i, is1_r, is1_n, is1_f, true_and, and_true, List.length_cons, List.length_nil, Nat.reduceAdd, Nat.reduceLeDiff, Nat.reduceSub, Option.some.injEq, exists_eq_left', aft_s, aft_n, ite_true, ite_false, if_true, if_false, Nat.zero_le, Nat.le_refl, reduceCtorEq, ob_of (C.job hj), jg1, e3, nI_1]
            rw [← hcs]
            exact ih (j + 1) _ (by omega)
      simp only [eX4_count_10, eX4_count_13, eX4_count_16, eX4_count_23, eX4_count_24, eX4_count_26, eX4_count_27, isA_r, isA_n, isI_i, isF_f, isL_l, is1_i, is1_r, is1_n, is1_f, true_and, and_true, List.length_cons, List.length_nil, Nat.reduceAdd, Nat.reduceLeDiff, Nat.reduceSub, Option.some.injEq, exists_eq_left', aft_s, aft_n, ite_true, ite_false, if_true, if_false, Nat.zero_le, Nat.le_refl, reduceCtorEq, b1]
      exact loop (s_nJ σ) 0 _ rfl
  · have q : q_count σ v g = (1, 0, σ) := by unfold q_count; rw [e]
    rw [q] at hK
    exact aft_i rfl rfl (hK H ⟨A, wr, rfl, C⟩)
theorem p_holderByJobs (C : CW E P H0 x σ H) (O : Ok σ) {v : Int32} (hc : 2 ≤ c) (hn : 12 ≤ n) (hK : ∀ H', CW E P H0 x (q_holder σ v).2.2 H' → K (ou [4] (q_holder σ v)) H') : CRd TTv E (d + 12) mX4_holderByJobs [.ref x, .int v] H c n K := by
  obtain ⟨A, wr, rfl, C⟩ := C
  refine crd rfl ?_
  show Ev E (d + 11) mX4_holderByJobs K 0 [.ref (A 0 0), .int v, .retAddr 0, .retAddr 0] [] H c n
  have h30 := C.J30
  simp only [eX4_holderByJobs_0, eX4_holderByJobs_1, isA_r, isA_n, isI_i, isF_f, isL_l, is1_i, is1_r, is1_n, is1_f, true_and, and_true, List.length_cons, List.length_nil, Nat.reduceAdd, Nat.reduceLeDiff, Nat.reduceSub, Option.some.injEq, exists_eq_left', aft_s, aft_n, ite_true, ite_false, if_true, if_false, Nat.zero_le, Nat.le_refl, reduceCtorEq]
  refine invk 1 6 (by omega) (by omega) (k_lock (by omega) (by omega) (fun l hl ev hb => ?_) (fun hb => ?_))
  · have q : q_holder σ v = (0, o2 (hdF σ l), σ) := by unfold q_holder; rw [hb]
    rw [q] at hK
    subst ev
    have loop : ∀ (m j : Nat) (a3 : Value), m + j = s_nJ σ → (∀ i, i < j → (s_hl σ i && bitN (s_nd σ i) l) = false) → Ev E (d + 11) mX4_holderByJobs K 6 [.ref (A 0 0), .int (nI l), .int (nI j), a3] [] H (c - 1) (n - 6) := by
      intro m
      induction m with
      | zero =>
        intro j a3 hm h0
        rw [hX4_holderByJobs_6]
        simp only [eX4_holderByJobs_7, eX4_holderByJobs_8, eX4_holderByJobs_11, isA_r, isA_n, isI_i, isF_f, isL_l, is1_i, is1_r, is1_n, is1_f, true_and, and_true, List.length_cons, List.length_nil, Nat.reduceAdd, Nat.reduceLeDiff, Nat.reduceSub, Option.some.injEq, exists_eq_left', aft_s, aft_n, ite_true, ite_false, if_true, if_false, Nat.zero_le, Nat.le_refl, reduceCtorEq, ob_of C.top, og1]
        refine ⟨C.lJ, inv0 (k_jSize C ?_)⟩
        have e1 : (nI j < nI (s_nJ σ)) = False := eq_false (nI_nlt (by omega) (by omega))
        have hn : hdF σ l = none := fd_none (fun i hi => h0 i (by omega))
        rw [hn] at hK
        simp only [eX4_holderByJobs_14, eX4_holderByJobs_17, eX4_holderByJobs_18, eX4_holderByJobs_21, eX4_holderByJobs_22, eX4_holderByJobs_25, eX4_holderByJobs_28, eX4_holderByJobs_29, eX4_holderByJobs_30, eX4_holderByJobs_33, eX4_holderByJobs_36, eX4_holderByJobs_37, eX4_holderByJobs_38, eX4_holderByJobs_41, eX4_holderByJobs_44, eX4_holderByJobs_45, eX4_holderByJobs_48, eX4_holderByJobs_49, eX4_holderByJobs_52, eX4_holderByJobs_55, eX4_holderByJobs_56, isA_r, isA_n, isI_i, isF_f, isL_l, is1_i, is1_r, is1_n, is1_f, true_and, and_true, List.length_cons, List.length_nil, Nat.reduceAdd, Nat.reduceLeDiff, Nat.reduceSub, Option.some.injEq, exists_eq_left', aft_s, aft_n, ite_true, ite_false, if_true, if_false, Nat.zero_le, Nat.le_refl, reduceCtorEq, e1]
        exact hK H ⟨A, wr, rfl, C⟩
      | succ m ih =>
        intro j a3 hm h0
        have hj : j < s_nJ σ := by omega
        rw [hX4_holderByJobs_6]
        simp only [eX4_holderByJobs_7, eX4_holderByJobs_8, eX4_holderByJobs_11, isA_r, isA_n, isI_i, isF_f, isL_l, is1_i, is1_r, is1_n, is1_f, true_and, and_true, List.length_cons, List.length_nil, Nat.reduceAdd, Nat.reduceLeDiff, Nat.reduceSub, Option.some.injEq, exists_eq_left', aft_s, aft_n, ite_true, ite_false, if_true, if_false, Nat.zero_le, Nat.le_refl, reduceCtorEq, ob_of C.top, og1]
        refine ⟨C.lJ, inv0 (k_jSize C ?_)⟩
        have e1 : (nI j < nI (s_nJ σ)) = True := eq_true (nI_lt hj (by omega))
        simp only [eX4_holderByJobs_14, eX4_holderByJobs_17, eX4_holderByJobs_18, eX4_holderByJobs_21, eX4_holderByJobs_22, isA_r, isA_n, isI_i, isF_f, isL_l, is1_i, is1_r, is1_n, is1_f, true_and, and_true, List.length_cons, List.length_nil, Nat.reduceAdd, Nat.reduceLeDiff, Nat.reduceSub, Option.some.injEq, exists_eq_left', aft_s, aft_n, ite_true, ite_false, if_true, if_false, Nat.zero_le, Nat.le_refl, reduceCtorEq, e1, ob_of C.top, og1]
        refine ⟨C.lJ, inv0 (k_jGet C hj ?_)⟩
        have b0 : (b2 false = 0) = True := eq_true rfl
        have b1 : (b2 true = 0) = False := eq_false (by decide)
        cases hh : s_hl σ j with
        | false =>
          simp only [eX4_holderByJobs_25, eX4_holderByJobs_28, eX4_holderByJobs_29, eX4_holderByJobs_30, eX4_holderByJobs_33, eX4_holderByJobs_36, eX4_holderByJobs_37, eX4_holderByJobs_38, eX4_holderByJobs_41, eX4_holderByJobs_44, eX4_holderByJobs_45, eX4_holderByJobs_48, eX4_holderByJobs_49, eX4_holderByJobs_52, isA_r, isA_n, isI_i, isF_f, isL_l, is1_i, is1_r, is1_n, is1_f, true_and, and_true, List.length_cons, List.length_nil, Nat.reduceAdd, Nat.reduceLeDiff, Nat.reduceSub, Option.some.injEq, exists_eq_left', aft_s, aft_n, ite_true, ite_false, if_true, if_false, Nat.zero_le, Nat.le_refl, reduceCtorEq, ob_of (C.job hj), jg5, hh, b0, nI_1]
          refine ih (j + 1) _ (by omega) (fun i hi => ?_)
          by_cases hij : i = j
          · subst hij; rw [hh]; rfl
          · exact h0 i (by omega)
        | true =>
          simp only [eX4_holderByJobs_25, eX4_holderByJobs_28, eX4_holderByJobs_29, eX4_holderByJobs_30, eX4_holderByJobs_33, eX4_holderByJobs_36, eX4_holderByJobs_37, eX4_holderByJobs_38, isA_r, isA_n, isI_i, isF_f, isL_l, is1_i, is1_r, is1_n, is1_f, true_and, and_true, List.length_cons, List.length_nil, Nat.reduceAdd, Nat.reduceLeDiff, Nat.reduceSub, Option.some.injEq, exists_eq_left', aft_s, aft_n, ite_true, ite_false, if_true, if_false, Nat.zero_le, Nat.le_refl, reduceCtorEq, ob_of (C.job hj), jg5, hh, b1]
          refine ⟨⟨_, rfl⟩, inv0 (v_needs C hj hl ?_)⟩
          cases hbt : bitN (s_nd σ j) l with
          | false =>
            simp only [eX4_holderByJobs_41, eX4_holderByJobs_44, eX4_holderByJobs_45, eX4_holderByJobs_48, eX4_holderByJobs_49, eX4_holderByJobs_52, isA_r, isA_n, isI_i, isF_f, isL_l, is1_i, is1_r, is1_n, is1_f, true_and, and_true, List.length_cons, List.length_nil, Nat.reduceAdd, Nat.reduceLeDiff, Nat.reduceSub, Option.some.injEq, exists_eq_left', aft_s, aft_n, ite_true, ite_false, if_true, if_false, Nat.zero_le, Nat.le_refl, reduceCtorEq, b0, nI_1]
            refine ih (j + 1) _ (by omega) (fun i hi => ?_)
            by_cases hij : i = j
            · subst hij; rw [hh, hbt]; rfl
            · exact h0 i (by omega)
          | true =>
            have hs : hdF σ l = some j := fd_some hj (by rw [hh, hbt]; rfl) h0
            rw [hs] at hK
            simp only [eX4_holderByJobs_41, eX4_holderByJobs_44, eX4_holderByJobs_45, eX4_holderByJobs_48, isA_r, isA_n, isI_i, isF_f, isL_l, is1_i, is1_r, is1_n, is1_f, true_and, and_true, List.length_cons, List.length_nil, Nat.reduceAdd, Nat.reduceLeDiff, Nat.reduceSub, Option.some.injEq, exists_eq_left', aft_s, aft_n, ite_true, ite_false, if_true, if_false, Nat.zero_le, Nat.le_refl, reduceCtorEq, b1, ob_of (C.job hj), jg0]
            exact hK H ⟨A, wr, rfl, C⟩
    simp only [eX4_holderByJobs_4, eX4_holderByJobs_5, isA_r, isA_n, isI_i, isF_f, isL_l, is1_i, is1_r, is1_n, is1_f, true_and, and_true, List.length_cons, List.length_nil, Nat.reduceAdd, Nat.reduceLeDiff, Nat.reduceSub, Option.some.injEq, exists_eq_left', aft_s, aft_n, ite_true, ite_false, if_true, if_false, Nat.zero_le, Nat.le_refl, reduceCtorEq]
    exact loop (s_nJ σ) 0 _ rfl (fun i hi => absurd hi (by omega))
  · have q : q_holder σ v = (1, 0, σ) := by unfold q_holder; rw [hb]
    rw [q] at hK
    exact aft_i rfl rfl (hK H ⟨A, wr, rfl, C⟩)
theorem p_blockers (C : CW E P H0 x σ H) (O : Ok σ) {v : Int32} (hc : 2 ≤ c) (hn : 12 ≤ n) (hK : ∀ H', CW E P H0 x (q_blockers σ v).2.2 H' → K (ou [2, 1] (q_blockers σ v)) H') : CRd TTv E (d + 12) mX4_blockers [.ref x, .int v] H c n K := by
  obtain ⟨A, wr, rfl, C⟩ := C
  refine crd rfl ?_
  show Ev E (d + 11) mX4_blockers K 0 [.ref (A 0 0), .int v, .retAddr 0, .retAddr 0, .retAddr 0, .retAddr 0] [] H c n
  have h30 := C.J30
  simp only [eX4_blockers_0, eX4_blockers_1, eX4_blockers_2, isA_r, isA_n, isI_i, isF_f, isL_l, is1_i, is1_r, is1_n, is1_f, true_and, and_true, List.length_cons, List.length_nil, Nat.reduceAdd, Nat.reduceLeDiff, Nat.reduceSub, Option.some.injEq, exists_eq_left', aft_s, aft_n, ite_true, ite_false, if_true, if_false, Nat.zero_le, Nat.le_refl, reduceCtorEq]
  refine ⟨C.oT, invk 1 6 (by omega) (by omega) (k_jobNum C (by omega) (by omega) (fun s hs e => ?_) (fun e => ?_))⟩
  · have h1 : (nI (s_st σ s) = 119) = (s_st σ s = 119) := propext (st_119 (C.stk hs))
    by_cases hst : s_st σ s = 119
    · have q : q_blockers σ v = (0, nI (cN (blk σ s) (s_nJ σ)), σ) := by unfold q_blockers; rw [e]; dsimp only; rw [if_pos hst]
      rw [q] at hK
      have e0 : (nI (s_st σ s) = 119) = True := by rw [h1]; exact eq_true hst
      have b0 : (b2 false = 0) = True := eq_true rfl
      have b1 : (b2 true = 0) = False := eq_false (by decide)
      have loop : ∀ (m j : Nat) (a5 : Value), m + j = s_nJ σ → Ev E (d + 11) mX4_blockers K 30 [.ref (A 0 0), .int v, .ref (A 16 s), .int (nI (cN (blk σ s) j)), .int (nI j), a5] [] H (c - 1) (n - 6) := by
        intro m
        induction m with
        | zero =>
          intro j a5 hm
          have hj : j = s_nJ σ := by omega
          subst hj
          rw [hX4_blockers_30]
          simp only [eX4_blockers_32, eX4_blockers_33, eX4_blockers_36, isA_r, isA_n, isI_i, isF_f, isL_l, is1_i, is1_r, is1_n, is1_f, true_and, and_true, List.length_cons, List.length_nil, Nat.reduceAdd, Nat.reduceLeDiff, Nat.reduceSub, Option.some.injEq, exists_eq_left', aft_s, aft_n, ite_true, ite_false, if_true, if_false, Nat.zero_le, Nat.le_refl, reduceCtorEq, ob_of C.top, og1]
          refine ⟨C.lJ, inv0 (k_jSize C ?_)⟩
          have e1 : (nI (s_nJ σ) < nI (s_nJ σ)) = False := eq_false (nI_nlt (Nat.le_refl _) (by omega))
          simp only [eX4_blockers_39, eX4_blockers_42, eX4_blockers_43, eX4_blockers_46, eX4_blockers_48, eX4_blockers_51, eX4_blockers_54, eX4_blockers_56, eX4_blockers_58, eX4_blockers_59, eX4_blockers_62, eX4_blockers_64, eX4_blockers_67, eX4_blockers_70, eX4_blockers_72, eX4_blockers_75, eX4_blockers_76, eX4_blockers_79, eX4_blockers_80, eX4_blockers_83, eX4_blockers_86, eX4_blockers_89, eX4_blockers_92, eX4_blockers_93, isA_r, isA_n, isI_i, isF_f, isL_l, is1_i, is1_r, is1_n, is1_f, true_and, and_true, List.length_cons, List.length_nil, Nat.reduceAdd, Nat.reduceLeDiff, Nat.reduceSub, Option.some.injEq, exists_eq_left', aft_s, aft_n, ite_true, ite_false, if_true, if_false, Nat.zero_le, Nat.le_refl, reduceCtorEq, e1]
          exact hK H ⟨A, wr, rfl, C⟩
        | succ m ih =>
          intro j a5 hm
          have hj : j < s_nJ σ := by omega
          rw [hX4_blockers_30]
          simp only [eX4_blockers_32, eX4_blockers_33, eX4_blockers_36, isA_r, isA_n, isI_i, isF_f, isL_l, is1_i, is1_r, is1_n, is1_f, true_and, and_true, List.length_cons, List.length_nil, Nat.reduceAdd, Nat.reduceLeDiff, Nat.reduceSub, Option.some.injEq, exists_eq_left', aft_s, aft_n, ite_true, ite_false, if_true, if_false, Nat.zero_le, Nat.le_refl, reduceCtorEq, ob_of C.top, og1]
          refine ⟨C.lJ, inv0 (k_jSize C ?_)⟩
          have e1 : (nI j < nI (s_nJ σ)) = True := eq_true (nI_lt hj (by omega))
          simp only [eX4_blockers_39, eX4_blockers_42, eX4_blockers_43, eX4_blockers_46, eX4_blockers_48, isA_r, isA_n, isI_i, isF_f, isL_l, is1_i, is1_r, is1_n, is1_f, true_and, and_true, List.length_cons, List.length_nil, Nat.reduceAdd, Nat.reduceLeDiff, Nat.reduceSub, Option.some.injEq, exists_eq_left', aft_s, aft_n, ite_true, ite_false, if_true, if_false, Nat.zero_le, Nat.le_refl, reduceCtorEq, e1, ob_of C.top, og1]
          refine ⟨C.lJ, inv0 (k_jGet C hj ?_)⟩
          have e2 := C.jinj hj hs
          have hcs := cN_s (p := blk σ s) (n := j)
          have m1 := (O.job hj).2.1
          have m2 := (O.job hs).2.1
          have hle : s_nd σ j &&& s_nd σ s ≤ s_nd σ j := Nat.and_le_left
          by_cases he : j = s
          · have e3 : (Value.ref (A 16 j) = .ref (A 16 s)) = True := by rw [e2]; exact eq_true he
            have hp : ¬ blk σ s j = true := by unfold blk; simp [he]
            have hcs : cN (blk σ s) (j + 1) = cN (blk σ s) j := by rw [if_neg hp] at hcs; omega
            simp only [eX4_blockers_51, eX4_blockers_54, eX4_blockers_56, eX4_blockers_58, eX4_blockers_59, eX4_blockers_62, eX4_blockers_64, eX4_blockers_67, eX4_blockers_70, eX4_blockers_72, eX4_blockers_75, eX4_blockers_76, eX4_blockers_79, eX4_blockers_80, eX4_blockers_83, eX4_blockers_86, eX4_blockers_89, isA_r, isA_n, isI_i, isF_f, isL_l, is1_i, is1_r, is1_n, is1_f, true_and, and_true, List.length_cons, List.length_nil, Nat.reduceAdd, Nat.reduceLeDiff, Nat.reduceSub, Option.some.injEq, exists_eq_left', aft_s, aft_n, ite_true, ite_false, if_true, if_false, Nat.zero_le, Nat.le_refl, reduceCtorEq, ob_of (C.job hj), e3, nI_1]
            rw [← hcs]
            exact ih (j + 1) _ (by omega)
          · have e3 : (Value.ref (A 16 j) = .ref (A 16 s)) = False := by rw [e2]; exact eq_false he
            cases hh : s_hl σ j with
            | false =>
              have hp : ¬ blk σ s j = true := by unfold blk; simp [hh]
              have hcs : cN (blk σ s) (j + 1) = cN (blk σ s) j := by rw [if_neg hp] at hcs; omega
              simp only [eX4_blockers_51, eX4_blockers_54, eX4_blockers_56, eX4_blockers_58, eX4_blockers_59, eX4_blockers_62, eX4_blockers_64, eX4_blockers_67, eX4_blockers_70, eX4_blockers_72, eX4_blockers_75, eX4_blockers_76, eX4_blockers_79, eX4_blockers_80, eX4_blockers_83, eX4_blockers_86, eX4_blockers_89, isA_r, isA_n, isI_i, isF_f, isL_l, is1_i, is1_r, is1_n, is1_f, true_and, and_true, List.length_cons, List.length_nil, Nat.reduceAdd, Nat.reduceLeDiff, Nat.reduceSub, Option.some.injEq, exists_eq_left', aft_s, aft_n, ite_true, ite_false, if_true, if_false, Nat.zero_le, Nat.le_refl, reduceCtorEq, ob_of (C.job hj), e3, jg5, hh, b0, nI_1]
              rw [← hcs]
              exact ih (j + 1) _ (by omega)
            | true =>
              have hz : (nI (s_nd σ j) &&& nI (s_nd σ s) = 0) = (s_nd σ j &&& s_nd σ s = 0) := by
                rw [fa_and, ← nI_0]
                exact propext (nI_eq (by omega) (by omega))
              by_cases ha : s_nd σ j &&& s_nd σ s = 0
              · have e4 : (nI (s_nd σ j) &&& nI (s_nd σ s) = 0) = True := by rw [hz]; exact eq_true ha
                have hp : ¬ blk σ s j = true := by unfold blk; simp [ha]
                have hcs : cN (blk σ s) (j + 1) = cN (blk σ s) j := by rw [if_neg hp] at hcs; omega
                simp only [eX4_blockers_51, eX4_blockers_54, eX4_blockers_56, eX4_blockers_58, eX4_blockers_59, eX4_blockers_62, eX4_blockers_64, eX4_blockers_67, eX4_blockers_70, eX4_blockers_72, eX4_blockers_75, eX4_blockers_76, eX4_blockers_79, eX4_blockers_80, eX4_blockers_83, eX4_blockers_86, eX4_blockers_89, isA_r, isA_n, isI_i, isF_f, isL_l, is1_i, is1_r, is1_n, is1_f, true_and, and_true, List.length_cons, List.length_nil, Nat.reduceAdd, Nat.reduceLeDiff, Nat.reduceSub, Option.some.injEq, exists_eq_left', aft_s, aft_n, ite_true, ite_false, if_true, if_false, Nat.zero_le, Nat.le_refl, reduceCtorEq, ob_of (C.job hj), ob_of (C.job hs), e3, jg5, jg2, hh, b1, e4, nI_1]
                rw [← hcs]
                exact ih (j + 1) _ (by omega)
              · have e4 : (nI (s_nd σ j) &&& nI (s_nd σ s) = 0) = False := by rw [hz]; exact eq_false ha
                have hp : blk σ s j = true := by unfold blk; simp [ha, hh, he]
                rw [if_pos hp] at hcs
                simp only [eX4_blockers_51, eX4_blockers_54, eX4_blockers_56, eX4_blockers_58, eX4_blockers_59, eX4_blockers_62, eX4_blockers_64, eX4_blockers_67, eX4_blockers_70, eX4_blockers_72, eX4_blockers_75, eX4_blockers_76, eX4_blockers_79, eX4_blockers_80, eX4_blockers_83, eX4_blockers_86, eX4_blockers_89, isA_r, isA_n, isI_i, isF_f, isL_l, is1_i, is1_r, is1_n, is1_f, true_and, and_true, List.length_cons, List.length_nil, Nat.reduceAdd, Nat.reduceLeDiff, Nat.reduceSub, Option.some.injEq, exists_eq_left', aft_s, aft_n, ite_true, ite_false, if_true, if_false, Nat.zero_le, Nat.le_refl, reduceCtorEq, ob_of (C.job hj), ob_of (C.job hs), e3, jg5, jg2, hh, b1, e4, nI_1]
                rw [← hcs]
                exact ih (j + 1) _ (by omega)
      simp only [eX4_blockers_5, eX4_blockers_6, eX4_blockers_7, eX4_blockers_10, eX4_blockers_12, eX4_blockers_15, eX4_blockers_18, eX4_blockers_25, eX4_blockers_26, eX4_blockers_27, eX4_blockers_28, isA_r, isA_n, isI_i, isF_f, isL_l, is1_i, is1_r, is1_n, is1_f, true_and, and_true, List.length_cons, List.length_nil, Nat.reduceAdd, Nat.reduceLeDiff, Nat.reduceSub, Option.some.injEq, exists_eq_left', aft_s, aft_n, ite_true, ite_false, if_true, if_false, Nat.zero_le, Nat.le_refl, reduceCtorEq, ob_of (C.job hs), jg4, e0]
      exact loop (s_nJ σ) 0 _ rfl
    · have q : q_blockers σ v = (2, 0, σ) := by unfold q_blockers; rw [e]; dsimp only; rw [if_neg hst]
      rw [q] at hK
      have e0 : (nI (s_st σ s) = 119) = False := by rw [h1]; exact eq_false hst
      simp only [eX4_blockers_5, eX4_blockers_6, eX4_blockers_7, eX4_blockers_10, eX4_blockers_12, eX4_blockers_15, eX4_blockers_18, isA_r, isA_n, isI_i, isF_f, isL_l, is1_i, is1_r, is1_n, is1_f, true_and, and_true, List.length_cons, List.length_nil, Nat.reduceAdd, Nat.reduceLeDiff, Nat.reduceSub, Option.some.injEq, exists_eq_left', aft_s, aft_n, ite_true, ite_false, if_true, if_false, Nat.zero_le, Nat.le_refl, reduceCtorEq, ob_of (C.job hs), jg4, e0, Nat.le_add_left, show 1 ≤ c - 1 by omega, show 6 ≤ n - 6 by omega]
      exact hK H ⟨A, wr, rfl, C⟩
  · have q : q_blockers σ v = (1, 0, σ) := by unfold q_blockers; rw [e]
    rw [q] at hK
    exact aft_i rfl rfl (hK H ⟨A, wr, rfl, C⟩)
theorem k_lastSt {A : AD} {wr : Nat → Bool} {ho : Nat → Option Nat} (C : CV E P H0 A σ ho wr H) (O : Ok σ) (hlen : (s_jn σ).length ≤ 16384) {j : Nat} (hj : j < s_nJ σ) (hK : K (.inl (some (.int (nI (s_st σ j))))) H) : CRd TTv E (d + 2) mX2_lastStateOf [.ref (A 7 0), .int (nI j)] H c n K := by
  refine crd rfl ?_
  show Ev E (d + 1) mX2_lastStateOf K 0 [.ref (A 7 0), .int (nI j), .retAddr 0] [] H c n
  obtain ⟨l, r, hlr, hr⟩ := O.2.2.2.2.2.2.2.2.2.1 j hj
  have h30 := C.J30
  have C0 := C
  obtain ⟨Z, X, C, ec⟩ := C
  have hL : (s_jn σ).length = l.length + (r.length + 1) := by rw [hlr, List.length_append, List.length_cons]
  have hgl : (s_jn σ).getD l.length (0, 0) = (j, s_st σ j) := by
    rw [hlr, List.getD_eq_getElem?_getD, List.getElem?_append_right (Nat.le_refl _)]; simp
  have hgr : ∀ i, l.length < i → i < (s_jn σ).length → ((s_jn σ).getD i (0, 0)).1 ≠ j := by
    intro i h1 h2
    refine hr _ ?_
    rw [hlr, List.getD_eq_getElem?_getD, List.getElem?_append_right (by omega)]
    obtain ⟨k, hk⟩ : ∃ k, i - l.length = k + 1 := ⟨i - l.length - 1, by omega⟩
    rw [hk, List.getElem?_cons_succ, List.getElem?_eq_getElem (by omega)]
    exact List.getElem_mem _
  have hcap := (jcap_ok (s_jn σ).length hlen).2
  have hcap2 := jcap_top (n := (s_jn σ).length) hlen
  have loop : ∀ m i, m + (l.length + 1) = i → i ≤ (s_jn σ).length → Ev E (d + 1) mX2_lastStateOf K 7 [.ref (A 7 0), .int (nI j), .int (nI i - 1)] [] H c n := by
    intro m
    induction m with
    | zero =>
      intro i hm hi
      have : i = l.length + 1 := by omega
      subst this
      rw [nI_pred, hX2_lastStateOf_7]
      have e1 : (nI l.length < 0) = False := eq_false (nI_pos (by omega))
      have e3 := (C.rl.2.2.1 l.length (by omega)).1
      rw [hgl] at e3
      have e2 : (x_G X 11 l.length = nI j) = True := eq_true e3
      simp only [eX2_lastStateOf_8, eX2_lastStateOf_11, eX2_lastStateOf_12, eX2_lastStateOf_15, eX2_lastStateOf_16, eX2_lastStateOf_17, eX2_lastStateOf_18, eX2_lastStateOf_21, eX2_lastStateOf_22, eX2_lastStateOf_23, isA_r, isA_n, isI_i, isF_f, isL_l, is1_i, is1_r, is1_n, is1_f, true_and, and_true, List.length_cons, List.length_nil, Nat.reduceAdd, Nat.reduceLeDiff, Nat.reduceSub, Option.some.injEq, exists_eq_left', aft_s, aft_n, ite_true, ite_false, if_true, if_false, Nat.zero_le, Nat.le_refl, reduceCtorEq, e1, ob_of C.jou, ng0, rdI_of C.jar, inB_nI (show l.length < x_cap X 11 by omega) (show x_cap X 11 < 2 ^ 31 by omega), nI_clamp (show l.length < 2 ^ 31 by omega), e2]
      refine ⟨⟨_, rfl⟩, inv0 (k_cAt C0 O hlen (by omega) ?_)⟩
      rw [hgl]
      simp only [eX2_lastStateOf_26, isA_r, isA_n, isI_i, isF_f, isL_l, is1_i, is1_r, is1_n, is1_f, true_and, and_true, List.length_cons, List.length_nil, Nat.reduceAdd, Nat.reduceLeDiff, Nat.reduceSub, Option.some.injEq, exists_eq_left', aft_s, aft_n, ite_true, ite_false, if_true, if_false, Nat.zero_le, Nat.le_refl, reduceCtorEq, (st_ch (C.wl.2.2.1 j hj).2.2).2.2]
      exact hK
    | succ m ih =>
      intro i hm hi
      obtain ⟨k, rfl⟩ : ∃ k, i = k + 1 := ⟨i - 1, by omega⟩
      rw [nI_pred, hX2_lastStateOf_7]
      have e1 : (nI k < 0) = False := eq_false (nI_pos (by omega))
      have e3 := (C.rl.2.2.1 k (by omega)).1
      have hne := hgr k (by omega) (by omega)
      have hm2 : (s_jn σ).getD k (0, 0) ∈ s_jn σ := by
        rw [List.getD_eq_getElem?_getD, List.getElem?_eq_getElem (by omega)]
        exact List.getElem_mem _
      have hlt := (O.2.2.2.2.2.2.2.2.2.2 _ hm2).1
      have e2 : (x_G X 11 k = nI j) = False := eq_false (fun h => by
        rw [e3] at h
        exact hne ((nI_eq (by omega) (by omega)).mp h))
      simp only [eX2_lastStateOf_8, eX2_lastStateOf_11, eX2_lastStateOf_12, eX2_lastStateOf_15, eX2_lastStateOf_16, eX2_lastStateOf_17, eX2_lastStateOf_18, eX2_lastStateOf_21, eX2_lastStateOf_22, eX2_lastStateOf_23, eX2_lastStateOf_26, eX2_lastStateOf_27, eX2_lastStateOf_30, isA_r, isA_n, isI_i, isF_f, isL_l, is1_i, is1_r, is1_n, is1_f, true_and, and_true, List.length_cons, List.length_nil, Nat.reduceAdd, Nat.reduceLeDiff, Nat.reduceSub, Option.some.injEq, exists_eq_left', aft_s, aft_n, ite_true, ite_false, if_true, if_false, Nat.zero_le, Nat.le_refl, reduceCtorEq, e1, ob_of C.jou, ng0, rdI_of C.jar, inB_nI (show k < x_cap X 11 by omega) (show x_cap X 11 < 2 ^ 31 by omega), nI_clamp (show k < 2 ^ 31 by omega), e2, m1_s]
      exact ih k (by omega) (by omega)
  simp only [eX2_lastStateOf_0, eX2_lastStateOf_1, eX2_lastStateOf_4, eX2_lastStateOf_5, eX2_lastStateOf_6, isA_r, isA_n, isI_i, isF_f, isL_l, is1_i, is1_r, is1_n, is1_f, true_and, and_true, List.length_cons, List.length_nil, Nat.reduceAdd, Nat.reduceLeDiff, Nat.reduceSub, Option.some.injEq, exists_eq_left', aft_s, aft_n, ite_true, ite_false, if_true, if_false, Nat.zero_le, Nat.le_refl, reduceCtorEq, ob_of C.jou, ng2]
  exact loop r.length (s_jn σ).length (by omega) (Nat.le_refl _)
theorem p_stateByJournal (C : CW E P H0 x σ H) (O : Ok σ) (hj : (s_jn σ).length ≤ 16384) {v : Int32} (hc : 2 ≤ c) (hn : 12 ≤ n) (hK : ∀ H', CW E P H0 x (q_state σ v).2.2 H' → K (ou [2] (q_state σ v)) H') : CRd TTv E (d + 12) mX4_stateByJournal [.ref x, .int v] H c n K := by
  obtain ⟨A, wr, rfl, C⟩ := C
  refine crd rfl ?_
  show Ev E (d + 11) mX4_stateByJournal K 0 [.ref (A 0 0), .int v] [] H c n
  simp only [eX4_stateByJournal_0, eX4_stateByJournal_1, eX4_stateByJournal_4, eX4_stateByJournal_5, eX4_stateByJournal_6, eX4_stateByJournal_9, eX4_stateByJournal_12, eX4_stateByJournal_15, isA_r, isA_n, isI_i, isF_f, isL_l, is1_i, is1_r, is1_n, is1_f, true_and, and_true, List.length_cons, List.length_nil, Nat.reduceAdd, Nat.reduceLeDiff, Nat.reduceSub, Option.some.injEq, exists_eq_left', aft_s, aft_n, ite_true, ite_false, if_true, if_false, Nat.zero_le, Nat.le_refl, reduceCtorEq, ob_of C.top, og5]
  refine ⟨⟨_, rfl⟩, invk 1 6 (by omega) (by omega) (k_jobNum C (by omega) (by omega) (fun s hs e => ?_) (fun e => ?_))⟩
  · have q : q_state σ v = (0, nI (s_st σ s), σ) := by unfold q_state; rw [e]
    rw [q] at hK
    have ho : ∃ z, ob H (A 7 0) 3 = some z := by
      obtain ⟨Z, X, C, -⟩ := C
      exact ⟨_, ob_of C.jou⟩
    simp only [eX4_stateByJournal_0, eX4_stateByJournal_1, eX4_stateByJournal_4, eX4_stateByJournal_5, eX4_stateByJournal_6, eX4_stateByJournal_9, eX4_stateByJournal_12, eX4_stateByJournal_15, isA_r, isA_n, isI_i, isF_f, isL_l, is1_i, is1_r, is1_n, is1_f, true_and, and_true, List.length_cons, List.length_nil, Nat.reduceAdd, Nat.reduceLeDiff, Nat.reduceSub, Option.some.injEq, exists_eq_left', aft_s, aft_n, ite_true, ite_false, if_true, if_false, Nat.zero_le, Nat.le_refl, reduceCtorEq, ob_of (C.job hs), jg0]
    refine ⟨ho, inv0 (k_lastSt C O hj hs ?_)⟩
    simp only [eX4_stateByJournal_0, eX4_stateByJournal_1, eX4_stateByJournal_4, eX4_stateByJournal_5, eX4_stateByJournal_6, eX4_stateByJournal_9, eX4_stateByJournal_12, eX4_stateByJournal_15, isA_r, isA_n, isI_i, isF_f, isL_l, is1_i, is1_r, is1_n, is1_f, true_and, and_true, List.length_cons, List.length_nil, Nat.reduceAdd, Nat.reduceLeDiff, Nat.reduceSub, Option.some.injEq, exists_eq_left', aft_s, aft_n, ite_true, ite_false, if_true, if_false, Nat.zero_le, Nat.le_refl, reduceCtorEq, (st_ch (C.stk hs)).2.2]
    exact hK H ⟨A, wr, rfl, C⟩
  · have q : q_state σ v = (1, 0, σ) := by unfold q_state; rw [e]
    rw [q] at hK
    exact aft_i rfl rfl (hK H ⟨A, wr, rfl, C⟩)
theorem p_doneShare (C : CW E P H0 x σ H) (hc : 2 ≤ c) (hn : 12 ≤ n) (h0 : s_nJ σ = 0 → K (.inr 3) H) (h1 : s_nJ σ ≠ 0 → K (.inl (some (.float (shF σ)))) H) : CRd TTv E (d + 12) mX4_doneShare [.ref x] H c n K := by
  obtain ⟨A, wr, rfl, C⟩ := C
  refine crd rfl ?_
  show Ev E (d + 11) mX4_doneShare K 0 [.ref (A 0 0), .retAddr 0, .retAddr 0, .retAddr 0] [] H c n
  have h30 := C.J30
  simp only [eX4_doneShare_0, eX4_doneShare_1, eX4_doneShare_4, isA_r, isA_n, isI_i, isF_f, isL_l, is1_i, is1_r, is1_n, is1_f, true_and, and_true, List.length_cons, List.length_nil, Nat.reduceAdd, Nat.reduceLeDiff, Nat.reduceSub, Option.some.injEq, exists_eq_left', aft_s, aft_n, ite_true, ite_false, if_true, if_false, Nat.zero_le, Nat.le_refl, reduceCtorEq, ob_of C.top, og1]
  refine ⟨C.lJ, inv0 (k_jSize C ?_)⟩
  by_cases hz : s_nJ σ = 0
  · have e1 : (nI (s_nJ σ) = 0) = True := by rw [hz]; exact eq_true rfl
    simp only [eX4_doneShare_7, eX4_doneShare_8, eX4_doneShare_9, eX4_doneShare_12, isA_r, isA_n, isI_i, isF_f, isL_l, is1_i, is1_r, is1_n, is1_f, true_and, and_true, List.length_cons, List.length_nil, Nat.reduceAdd, Nat.reduceLeDiff, Nat.reduceSub, Option.some.injEq, exists_eq_left', aft_s, aft_n, ite_true, ite_false, if_true, if_false, Nat.zero_le, Nat.le_refl, reduceCtorEq, e1, Nat.le_add_left, show 1 ≤ c by omega, show 6 ≤ n by omega]
    exact h0 hz
  · have e1 : (nI (s_nJ σ) = 0) = False := eq_false (fun h => hz ((nI_eq (a := s_nJ σ) (b := 0) (by omega) (by omega)).mp h))
    have loop : ∀ m j, m + j = s_nJ σ → Ev E (d + 11) mX4_doneShare K 26 [.ref (A 0 0), .int (nI (s_nJ σ)), .int (nI (cN (dnF σ) j)), .int (nI j)] [] H c n := by
      intro m
      induction m with
      | zero =>
        intro j hm
        have hj : j = s_nJ σ := by omega
        subst hj
        rw [hX4_doneShare_26]
        have e1 : (nI (s_nJ σ) < nI (s_nJ σ)) = False := eq_false (nI_nlt (Nat.le_refl _) (by omega))
        have hle : cN (dnF σ) (s_nJ σ) ≤ s_nJ σ := cN_le
        simp only [eX4_doneShare_27, eX4_doneShare_28, eX4_doneShare_31, eX4_doneShare_32, eX4_doneShare_35, eX4_doneShare_36, eX4_doneShare_39, eX4_doneShare_42, eX4_doneShare_45, eX4_doneShare_47, eX4_doneShare_50, eX4_doneShare_53, eX4_doneShare_56, eX4_doneShare_59, eX4_doneShare_60, eX4_doneShare_61, eX4_doneShare_62, eX4_doneShare_63, eX4_doneShare_64, isA_r, isA_n, isI_i, isF_f, isL_l, is1_i, is1_r, is1_n, is1_f, true_and, and_true, List.length_cons, List.length_nil, Nat.reduceAdd, Nat.reduceLeDiff, Nat.reduceSub, Option.some.injEq, exists_eq_left', aft_s, aft_n, ite_true, ite_false, if_true, if_false, Nat.zero_le, Nat.le_refl, reduceCtorEq, e1]
        exact ⟨fdiv_ok (by omega) (by omega) hz, h1 hz⟩
      | succ m ih =>
        intro j hm
        have hj : j < s_nJ σ := by omega
        rw [hX4_doneShare_26]
        have e1 : (nI j < nI (s_nJ σ)) = True := eq_true (nI_lt hj (by omega))
        simp only [eX4_doneShare_27, eX4_doneShare_28, eX4_doneShare_31, eX4_doneShare_32, eX4_doneShare_35, eX4_doneShare_36, isA_r, isA_n, isI_i, isF_f, isL_l, is1_i, is1_r, is1_n, is1_f, true_and, and_true, List.length_cons, List.length_nil, Nat.reduceAdd, Nat.reduceLeDiff, Nat.reduceSub, Option.some.injEq, exists_eq_left', aft_s, aft_n, ite_true, ite_false, if_true, if_false, Nat.zero_le, Nat.le_refl, reduceCtorEq, e1, ob_of C.top, og1]
        refine ⟨C.lJ, inv0 (k_jGet C hj ?_)⟩
        have hst : (nI (s_st σ j) = 100) = (s_st σ j = 100) := propext (st_100 (C.stk hj))
        have hcs := cN_s (p := dnF σ) (n := j)
        by_cases g1 : s_st σ j = 100
        · have e2 : (nI (s_st σ j) = 100) = True := by rw [hst]; exact eq_true g1
          have hp : dnF σ j = true := by unfold dnF; rw [g1]; rfl
          rw [if_pos hp] at hcs
          simp only [eX4_doneShare_39, eX4_doneShare_42, eX4_doneShare_45, eX4_doneShare_47, eX4_doneShare_50, eX4_doneShare_53, eX4_doneShare_56, isA_r, isA_n, isI_i, isF_f, isL_l, is1_i, is1_r, is1_n, is1_f, true_and, and_true, List.length_cons, List.length_nil, Nat.reduceAdd, Nat.reduceLeDiff, Nat.reduceSub, Option.some.injEq, exists_eq_left', aft_s, aft_n, ite_true, ite_false, if_true, if_false, Nat.zero_le, Nat.le_refl, reduceCtorEq, ob_of (C.job hj), jg4, e2, nI_1]
          rw [← hcs]
          exact ih (j + 1) (by omega)
        · have e2 : (nI (s_st σ j) = 100) = False := by rw [hst]; exact eq_false g1
          have hp : ¬ dnF σ j = true := by unfold dnF; simp [g1]
          have hcs : cN (dnF σ) (j + 1) = cN (dnF σ) j := by rw [if_neg hp] at hcs; omega
          simp only [eX4_doneShare_39, eX4_doneShare_42, eX4_doneShare_45, eX4_doneShare_47, eX4_doneShare_50, eX4_doneShare_53, eX4_doneShare_56, isA_r, isA_n, isI_i, isF_f, isL_l, is1_i, is1_r, is1_n, is1_f, true_and, and_true, List.length_cons, List.length_nil, Nat.reduceAdd, Nat.reduceLeDiff, Nat.reduceSub, Option.some.injEq, exists_eq_left', aft_s, aft_n, ite_true, ite_false, if_true, if_false, Nat.zero_le, Nat.le_refl, reduceCtorEq, ob_of (C.job hj), jg4, e2, nI_1]
          rw [← hcs]
          exact ih (j + 1) (by omega)
    simp only [eX4_doneShare_7, eX4_doneShare_8, eX4_doneShare_9, eX4_doneShare_12, eX4_doneShare_15, eX4_doneShare_22, eX4_doneShare_23, eX4_doneShare_24, eX4_doneShare_25, isA_r, isA_n, isI_i, isF_f, isL_l, is1_i, is1_r, is1_n, is1_f, true_and, and_true, List.length_cons, List.length_nil, Nat.reduceAdd, Nat.reduceLeDiff, Nat.reduceSub, Option.some.injEq, exists_eq_left', aft_s, aft_n, ite_true, ite_false, if_true, if_false, Nat.zero_le, Nat.le_refl, reduceCtorEq, e1]
    exact loop (s_nJ σ) 0 rfl
end PUB4
