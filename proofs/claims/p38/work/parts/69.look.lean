theorem look_1 {σ : Sg} {l : List Nat} : s_nJ (w_od σ l) = s_nJ σ ∧ s_jn (w_od σ l) = s_jn σ ∧ s_nd (w_od σ l) = s_nd σ := ⟨rfl, rfl, rfl⟩
theorem look_2 {σ : Sg} {f : Nat → Bool} : s_nJ (w_hl σ f) = s_nJ σ ∧ s_jn (w_hl σ f) = s_jn σ ∧ s_nd (w_hl σ f) = s_nd σ := ⟨rfl, rfl, rfl⟩
theorem look_3 {σ σ1 : Sg} {j : Nat} {l : List Nat} (e : σ1 = w_od σ l) : comesF (w_hl σ1 (upN (s_hl σ1) j true)) j 114 = grant σ j l := by subst e; rfl
theorem JJ_e {σ τ : Sg} (e : s_jn τ = s_jn σ) : JJ τ = JJ σ := by unfold JJ; rw [e]
section C6
variable {E : EN} {P : Nat → Prop} {H0 : AH} {A : AD} {wr : Nat → Bool} {d : Nat} {K : Out → AH → Prop}
theorem l_look : ∀ (rest pre : List Nat) (σ : Sg) (H : AH) (T c n : Nat) (a3 : Value), CV E P H0 A σ (hdF σ) wr H → Ok σ → Jb σ T → T + 61 < 16384 → s_od σ = pre ++ rest → JJ (looksL rest pre σ) ≤ JJ σ + c → 4 * JJ (looksL rest pre σ) ≤ 4 * JJ σ + n → (∀ H', CV E P H0 A (looksL rest pre σ) (hdF (looksL rest pre σ)) wr H' → K (.inl none) H') →
    Ev E (d + 5) mX4_lookAtOrder K 10 [.ref (A 0 0), .int (nI pre.length), .int (nI rest.length), a3] [] H c n := by
  intro rest
  induction rest with
  | nil =>
    intro pre σ H T c n a3 C O J hT ho hc hn hK
    have e1 : (0 < nI ([] : List Nat).length) = False := eq_false (by decide)
    rw [hX4_lookAtOrder_10]
    simp only [eX4_lookAtOrder_11, eX4_lookAtOrder_14, eX4_lookAtOrder_15, eX4_lookAtOrder_16, eX4_lookAtOrder_19, eX4_lookAtOrder_22, eX4_lookAtOrder_25, eX4_lookAtOrder_26, eX4_lookAtOrder_29, eX4_lookAtOrder_30, eX4_lookAtOrder_33, eX4_lookAtOrder_36, eX4_lookAtOrder_37, eX4_lookAtOrder_38, eX4_lookAtOrder_39, eX4_lookAtOrder_42, eX4_lookAtOrder_45, eX4_lookAtOrder_46, eX4_lookAtOrder_49, eX4_lookAtOrder_50, eX4_lookAtOrder_53, eX4_lookAtOrder_54, eX4_lookAtOrder_55, eX4_lookAtOrder_56, eX4_lookAtOrder_57, eX4_lookAtOrder_60, eX4_lookAtOrder_63, eX4_lookAtOrder_64, eX4_lookAtOrder_65, eX4_lookAtOrder_68, eX4_lookAtOrder_69, eX4_lookAtOrder_70, eX4_lookAtOrder_72, eX4_lookAtOrder_75, eX4_lookAtOrder_78, eX4_lookAtOrder_81, eX4_lookAtOrder_84, eX4_lookAtOrder_87, isA_r, isA_n, isI_i, isF_f, isL_l, is1_i, is1_r, is1_n, is1_f, true_and, and_true, List.length_cons, List.length_nil, Nat.reduceAdd, Nat.reduceLeDiff, Nat.reduceSub, Option.some.injEq, exists_eq_left', aft_s, aft_n, ite_true, ite_false, if_true, if_false, Nat.zero_le, Nat.le_refl, reduceCtorEq, e1]
    exact hK H C
  | cons j r ih =>
    intro pre σ H T c n a3 C O J hT ho hc hn hK
    have hl30 := C.od30
    have hol : (s_od σ).length = pre.length + (r.length + 1) := by rw [ho, List.length_append, List.length_cons]
    have hr : pre.length < (s_od σ).length := by omega
    have hgd : (s_od σ).getD pre.length 0 = j := by rw [ho]; exact getD_m
    have hj : j < s_nJ σ := by rw [← hgd]; exact C.odj hr
    have hjo : j ∈ s_od σ := by rw [ho]; simp
    have hh : s_hl σ j = false := by
      cases h : s_hl σ j with
      | false => rfl
      | true => exact absurd ((O.2.2.1.2 j).mp hjo).2 (O.2.2.2.1 j h).2.2
    have hjl := J.len O.J
    have e1 : (0 < nI (r.length + 1)) = True := eq_true (nI_lt (a := 0) (b := r.length + 1) (by omega) (by omega))
    have e2 : (nI pre.length < nI (s_od σ).length) = True := eq_true (nI_lt hr (by omega))
    rw [hX4_lookAtOrder_10, List.length_cons]
    simp only [eX4_lookAtOrder_11, eX4_lookAtOrder_14, eX4_lookAtOrder_15, eX4_lookAtOrder_16, eX4_lookAtOrder_19, isA_r, isA_n, isI_i, isF_f, isL_l, is1_i, is1_r, is1_n, is1_f, true_and, and_true, List.length_cons, List.length_nil, Nat.reduceAdd, Nat.reduceLeDiff, Nat.reduceSub, Option.some.injEq, exists_eq_left', aft_s, aft_n, ite_true, ite_false, if_true, if_false, Nat.zero_le, Nat.le_refl, reduceCtorEq, e1, ob_of C.top, og2]
    refine ⟨C.lO, inv0 (k_oSize C ?_)⟩
    simp only [eX4_lookAtOrder_22, eX4_lookAtOrder_25, eX4_lookAtOrder_26, eX4_lookAtOrder_29, eX4_lookAtOrder_30, isA_r, isA_n, isI_i, isF_f, isL_l, is1_i, is1_r, is1_n, is1_f, true_and, and_true, List.length_cons, List.length_nil, Nat.reduceAdd, Nat.reduceLeDiff, Nat.reduceSub, Option.some.injEq, exists_eq_left', aft_s, aft_n, ite_true, ite_false, if_true, if_false, Nat.zero_le, Nat.le_refl, reduceCtorEq, e2, ob_of C.top, og2]
    refine ⟨C.lO, inv0 (k_oGet C hr ?_)⟩
    rw [hgd]
    simp only [eX4_lookAtOrder_33, eX4_lookAtOrder_36, eX4_lookAtOrder_37, eX4_lookAtOrder_38, eX4_lookAtOrder_39, isA_r, isA_n, isI_i, isF_f, isL_l, is1_i, is1_r, is1_n, is1_f, true_and, and_true, List.length_cons, List.length_nil, Nat.reduceAdd, Nat.reduceLeDiff, Nat.reduceSub, Option.some.injEq, exists_eq_left', aft_s, aft_n, ite_true, ite_false, if_true, if_false, Nat.zero_le, Nat.le_refl, reduceCtorEq, ob_of (C.job hj)]
    refine ⟨C.oT, inv0 (v_free C hj (hb_hd C.J30) ?_)⟩
    rw [fr_eq (fun o h => (O.job h).2.1) hh]
    have e3 : nI (r.length + 1) + (-1) = nI r.length := by
      rw [m1_s]; exact nI_pred _
    cases hf : freeJ σ j with
    | false =>
      have e4 : (b2 false = 0) = True := eq_true rfl
      simp only [eX4_lookAtOrder_42, eX4_lookAtOrder_45, eX4_lookAtOrder_46, eX4_lookAtOrder_49, eX4_lookAtOrder_50, eX4_lookAtOrder_53, eX4_lookAtOrder_54, eX4_lookAtOrder_55, eX4_lookAtOrder_56, eX4_lookAtOrder_57, eX4_lookAtOrder_60, eX4_lookAtOrder_63, eX4_lookAtOrder_64, eX4_lookAtOrder_65, eX4_lookAtOrder_68, eX4_lookAtOrder_69, eX4_lookAtOrder_70, eX4_lookAtOrder_72, eX4_lookAtOrder_75, eX4_lookAtOrder_78, eX4_lookAtOrder_81, eX4_lookAtOrder_84, isA_r, isA_n, isI_i, isF_f, isL_l, is1_i, is1_r, is1_n, is1_f, true_and, and_true, List.length_cons, List.length_nil, Nat.reduceAdd, Nat.reduceLeDiff, Nat.reduceSub, Option.some.injEq, exists_eq_left', aft_s, aft_n, ite_true, ite_false, if_true, if_false, Nat.zero_le, Nat.le_refl, reduceCtorEq, e4, e3, nI_1]
      have e5 : nI (pre.length + 1) = nI (pre ++ [j]).length := by rw [List.length_append]; rfl
      rw [e5]
      have e6 : looksL (j :: r) pre σ = looksL r (pre ++ [j]) σ := by rw [looksL, hf]
      rw [e6] at hc hn hK
      exact ih (pre ++ [j]) σ H T c n _ C O J hT (by rw [ho]; simp) hc hn hK
    | true =>
      have e4 : (b2 true = 0) = False := eq_false (by decide)
      have e6 : looksL (j :: r) pre σ = looksL r pre (grant σ j (pre ++ r)) := by rw [looksL, hf]
      rw [e6] at hc hn hK
      have hm := jl_looksL r pre (grant σ j (pre ++ r))
      have hg : JJ σ ≤ JJ (grant σ j (pre ++ r)) := jcap_mono (by
        show _ ≤ (s_jn σ ++ [(j, 114)]).length
        rw [List.length_append]; omega)
      simp only [eX4_lookAtOrder_42, eX4_lookAtOrder_45, eX4_lookAtOrder_46, eX4_lookAtOrder_49, eX4_lookAtOrder_50, isA_r, isA_n, isI_i, isF_f, isL_l, is1_i, is1_r, is1_n, is1_f, true_and, and_true, List.length_cons, List.length_nil, Nat.reduceAdd, Nat.reduceLeDiff, Nat.reduceSub, Option.some.injEq, exists_eq_left', aft_s, aft_n, ite_true, ite_false, if_true, if_false, Nat.zero_le, Nat.le_refl, reduceCtorEq, e4, ob_of C.top, og2]
      refine ⟨C.lO, inv0 (k_oRemove C hr (fun H1 C1 => ?_))⟩
      rw [ho, erase_m] at C1
      obtain ⟨σ1, es⟩ : ∃ τ, τ = w_od σ (pre ++ r) := ⟨_, rfl⟩
      rw [← es] at C1
      have n1 : s_nJ σ1 = s_nJ σ ∧ s_jn σ1 = s_jn σ ∧ s_nd σ1 = s_nd σ := by rw [es]; exact look_1
      have hj1 : j < s_nJ σ1 := by rw [n1.1]; exact hj
      have eg := look_3 (j := j) es
      simp only [eX4_lookAtOrder_53, eX4_lookAtOrder_54, eX4_lookAtOrder_55, eX4_lookAtOrder_56, eX4_lookAtOrder_57, eX4_lookAtOrder_60, isA_r, isA_n, isI_i, isF_f, isL_l, is1_i, is1_r, is1_n, is1_f, true_and, and_true, List.length_cons, List.length_nil, Nat.reduceAdd, Nat.reduceLeDiff, Nat.reduceSub, Option.some.injEq, exists_eq_left', aft_s, aft_n, ite_true, ite_false, if_true, if_false, Nat.zero_le, Nat.le_refl, reduceCtorEq, ob_of (C1.job hj1), jg0]
      refine ⟨C1.oT, inv0 (v_setH (x := some j) C1 hj1 (fun H2 C2 => ?_))⟩
      have C3 := C2.phl (v := true) hj1
      have e7 : (.int (1 : Int32) : Value) = .int (b2 true) := rfl
      simp only [eX4_lookAtOrder_63, eX4_lookAtOrder_64, eX4_lookAtOrder_65, isA_r, isA_n, isI_i, isF_f, isL_l, is1_i, is1_r, is1_n, is1_f, true_and, and_true, List.length_cons, List.length_nil, Nat.reduceAdd, Nat.reduceLeDiff, Nat.reduceSub, Option.some.injEq, exists_eq_left', aft_s, aft_n, ite_true, ite_false, if_true, if_false, Nat.zero_le, Nat.le_refl, reduceCtorEq, ob_of (C2.job hj1), jgl, Nat.reduceLT, ok01_1]
      rw [e7, jf_hl]
      obtain ⟨σ2, es2⟩ : ∃ τ, τ = w_hl σ1 (upN (s_hl σ1) j true) := ⟨_, rfl⟩
      have n2 : s_nJ σ2 = s_nJ σ1 ∧ s_jn σ2 = s_jn σ1 ∧ s_nd σ2 = s_nd σ1 := by rw [es2]; exact look_2
      rw [← es2] at C3 eg ⊢
      have j2 : JJ σ2 = JJ σ := JJ_e (n2.2.1.trans n1.2.1)
      have hj2 : j < s_nJ σ2 := by rw [n2.1]; exact hj1
      have h114 : stOK 114 := Or.inl rfl
      have hl2 : (s_jn σ2).length < 16384 := by rw [n2.2.1, n1.2.1]; omega
      simp only [eX4_lookAtOrder_68, eX4_lookAtOrder_69, eX4_lookAtOrder_70, eX4_lookAtOrder_72, isA_r, isA_n, isI_i, isF_f, isL_l, is1_i, is1_r, is1_n, is1_f, true_and, and_true, List.length_cons, List.length_nil, Nat.reduceAdd, Nat.reduceLeDiff, Nat.reduceSub, Option.some.injEq, exists_eq_left', aft_s, aft_n, ite_true, ite_false, if_true, if_false, Nat.zero_le, Nat.le_refl, reduceCtorEq]
      have hc1 : JJ (grant σ j (pre ++ r)) - JJ σ ≤ c := by omega
      have hn1 : 4 * (JJ (grant σ j (pre ++ r)) - JJ σ) ≤ n := by omega
      refine ⟨C3.oT, invk (JJ (grant σ j (pre ++ r)) - JJ σ) (4 * (JJ (grant σ j (pre ++ r)) - JJ σ)) hc1 hn1 (k_comeInto (ch := 114) C3 hj2 h114 hl2 (by rw [eg, j2]; omega) (by rw [eg, j2]; omega) (fun H4 C4 => ?_))⟩
      simp only [eX4_lookAtOrder_75, eX4_lookAtOrder_78, eX4_lookAtOrder_81, eX4_lookAtOrder_84, isA_r, isA_n, isI_i, isF_f, isL_l, is1_i, is1_r, is1_n, is1_f, true_and, and_true, List.length_cons, List.length_nil, Nat.reduceAdd, Nat.reduceLeDiff, Nat.reduceSub, Option.some.injEq, exists_eq_left', aft_s, aft_n, ite_true, ite_false, if_true, if_false, Nat.zero_le, Nat.le_refl, reduceCtorEq, e3]
      rw [eg, n1.2.2] at C4
      have C5 : CV E P H0 A (grant σ j (pre ++ r)) (hdF (grant σ j (pre ++ r))) wr H4 := C4.hoc (fun l hl => hd_grant hf hj hh)
      exact ih pre (grant σ j (pre ++ r)) H4 T _ _ _ C5 (O.gr ho hf) (jb_grant O ho J) hT rfl (by omega) (by omega) hK
theorem k_look {σ : Sg} {H : AH} {c n T : Nat} (C : CV E P H0 A σ (hdF σ) wr H) (O : Ok σ) (J : Jb σ T) (hT : T + 61 < 16384) (hc : JJ (looksF σ) ≤ JJ σ + c) (hn : 4 * JJ (looksF σ) ≤ 4 * JJ σ + n) (hK : ∀ H', CV E P H0 A (looksF σ) (hdF (looksF σ)) wr H' → K (.inl none) H') : CRd TTv E (d + 6) mX4_lookAtOrder [.ref (A 0 0)] H c n K := by
  refine crd rfl ?_
  show Ev E (d + 5) mX4_lookAtOrder K 0 [.ref (A 0 0), .retAddr 0, .retAddr 0, .retAddr 0] [] H c n
  simp only [eX4_lookAtOrder_0, eX4_lookAtOrder_1, eX4_lookAtOrder_2, eX4_lookAtOrder_3, eX4_lookAtOrder_6, isA_r, isA_n, isI_i, isF_f, isL_l, is1_i, is1_r, is1_n, is1_f, true_and, and_true, List.length_cons, List.length_nil, Nat.reduceAdd, Nat.reduceLeDiff, Nat.reduceSub, Option.some.injEq, exists_eq_left', aft_s, aft_n, ite_true, ite_false, if_true, if_false, Nat.zero_le, Nat.le_refl, reduceCtorEq, ob_of C.top, og2]
  refine ⟨C.lO, inv0 (k_oSize C ?_)⟩
  simp only [eX4_lookAtOrder_9, isA_r, isA_n, isI_i, isF_f, isL_l, is1_i, is1_r, is1_n, is1_f, true_and, and_true, List.length_cons, List.length_nil, Nat.reduceAdd, Nat.reduceLeDiff, Nat.reduceSub, Option.some.injEq, exists_eq_left', aft_s, aft_n, ite_true, ite_false, if_true, if_false, Nat.zero_le, Nat.le_refl, reduceCtorEq]
  exact l_look (s_od σ) [] σ H T c n _ C O J hT rfl hc hn hK
end C6
