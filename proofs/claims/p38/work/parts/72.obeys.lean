/-! tests of a job, obeys, the loop of signal -/
theorem JJ_stops {σ : Sg} {j : Nat} : JJ σ ≤ JJ (stopsF σ j) := by
  have e : stopsF σ j = looksF (comesF (leavesF σ j) j 115) := rfl
  rw [e]
  have h1 := JJ_e (lf_1 (σ := σ) (j := j)).2.2.2.1
  have h2 := JJ_c (σ := leavesF σ j) (j := j) (ch := 115)
  have h3 := JJ_l (σ := comesF (leavesF σ j) j 115)
  omega
theorem JJ_goesOn {σ : Sg} {j : Nat} : JJ σ ≤ JJ (goesOnF σ j) := by
  rw [goesOn_eq]
  have h1 : JJ (unpk σ j) = JJ σ := JJ_e unpk_1.2.2.2.1
  have h3 := JJ_l (σ := goesOn0 σ j)
  have h2 : JJ (unpk σ j) ≤ JJ (goesOn0 σ j) := by
    unfold goesOn0
    split
    · rw [← JJ_e (σ := unpk σ j) (τ := w_od (unpk σ j) (s_od (unpk σ j) ++ [j])) g_jn_od]
      exact JJ_c
    · exact JJ_c
  omega
theorem JJ_ends {σ : Sg} {j how : Nat} : JJ σ ≤ JJ (endsF σ j how) := by
  have es : endsF σ j how = looksF (ends0 σ j how) := rfl
  rw [es]
  have h3 := JJ_l (σ := ends0 σ j how)
  have h2 : JJ σ ≤ JJ (ends0 σ j how) := by
    unfold ends0
    have h1 := JJ_c (σ := unfr (w_hl (leavesF σ j) (upN (s_hl (leavesF σ j)) j false)) j) (j := j) (ch := how)
    rw [JJ_e (σ := w_hl (leavesF σ j) (upN (s_hl (leavesF σ j)) j false)) unfr_1.2.2.2, JJ_e (σ := leavesF σ j) g_jn_hl, JJ_e lf_1.2.2.2.1] at h1
    exact h1
  omega
theorem JJ_sig1 {σ τ : Sg} {s k j : Nat} (h : sig1 σ s k j = some τ) : JJ σ ≤ JJ τ := by
  unfold sig1 at h
  split at h
  · split at h
    · split at h
      · cases h
      · cases h; exact JJ_stops
    · split at h
      · split at h
        · cases h; exact JJ_goesOn
        · cases h
      · split at h
        · cases h; exact JJ_ends
        · cases h
  · cases h
theorem JJ_sigL {s k : Nat} : ∀ (m j : Nat) (σ : Sg) (cnt : Nat), JJ σ ≤ JJ (sigL s k m j σ cnt).2 := by
  intro m
  induction m with
  | zero => intro j σ cnt; exact Nat.le_refl _
  | succ m ih =>
    intro j σ cnt
    unfold sigL
    cases h : sig1 σ s k j with
    | none => exact ih _ _ _
    | some τ => exact Nat.le_trans (JJ_sig1 h) (ih _ _ _)
section C9
variable {E : EN} {P : Nat → Prop} {H0 : AH} {A : AD} {wr : Nat → Bool} {d : Nat} {K : Out → AH → Prop} {σ : Sg} {H : AH} {c n T : Nat} {ho : Nat → Option Nat}
theorem CV.stk (C : CV E P H0 A σ ho wr H) {j : Nat} (hj : j < s_nJ σ) : stOK (s_st σ j) := (C.wl.2.2.1 j hj).2.2
theorem k_cbs (C : CV E P H0 A σ ho wr H) {j : Nat} (hj : j < s_nJ σ) (hK : K (.inl (some (.int (b2 (cstop σ j))))) H) : CRd TTv E (d + 1) mX4_canBeStopped [.ref (A 16 j)] H c n K := by
  refine crd rfl ?_
  show Ev E d mX4_canBeStopped K 0 [.ref (A 16 j)] [] H c n
  have h1 : (nI (s_st σ j) = 114) = (s_st σ j = 114) := propext (st_114 (C.stk hj))
  have h2 : (nI (s_st σ j) = 119) = (s_st σ j = 119) := propext (st_119 (C.stk hj))
  unfold cstop at hK
  by_cases g1 : s_st σ j = 114
  · rw [g1] at hK
    have h3 : (nI (s_st σ j) = 114) = True := by rw [h1]; exact eq_true g1
    simp only [eX4_canBeStopped_0, eX4_canBeStopped_1, eX4_canBeStopped_4, eX4_canBeStopped_6, eX4_canBeStopped_9, eX4_canBeStopped_10, eX4_canBeStopped_13, eX4_canBeStopped_15, eX4_canBeStopped_18, eX4_canBeStopped_19, eX4_canBeStopped_22, eX4_canBeStopped_23, isA_r, isA_n, isI_i, isF_f, isL_l, is1_i, is1_r, is1_n, is1_f, true_and, and_true, List.length_cons, List.length_nil, Nat.reduceAdd, Nat.reduceLeDiff, Nat.reduceSub, Option.some.injEq, exists_eq_left', aft_s, aft_n, ite_true, ite_false, if_true, if_false, Nat.zero_le, Nat.le_refl, reduceCtorEq, ob_of (C.job hj), jg4, h3, ok01_1]
    exact hK
  · have h3 : (nI (s_st σ j) = 114) = False := by rw [h1]; exact eq_false g1
    by_cases g2 : s_st σ j = 119
    · rw [g2] at hK
      have h4 : (nI (s_st σ j) = 119) = True := by rw [h2]; exact eq_true g2
      simp only [eX4_canBeStopped_0, eX4_canBeStopped_1, eX4_canBeStopped_4, eX4_canBeStopped_6, eX4_canBeStopped_9, eX4_canBeStopped_10, eX4_canBeStopped_13, eX4_canBeStopped_15, eX4_canBeStopped_18, eX4_canBeStopped_19, eX4_canBeStopped_22, eX4_canBeStopped_23, isA_r, isA_n, isI_i, isF_f, isL_l, is1_i, is1_r, is1_n, is1_f, true_and, and_true, List.length_cons, List.length_nil, Nat.reduceAdd, Nat.reduceLeDiff, Nat.reduceSub, Option.some.injEq, exists_eq_left', aft_s, aft_n, ite_true, ite_false, if_true, if_false, Nat.zero_le, Nat.le_refl, reduceCtorEq, ob_of (C.job hj), jg4, h3, h4, ok01_1]
      exact hK
    · have h4 : (nI (s_st σ j) = 119) = False := by rw [h2]; exact eq_false g2
      have h5 : (s_st σ j == 114 || s_st σ j == 119) = false := by simp [g1, g2]
      rw [h5] at hK
      simp only [eX4_canBeStopped_0, eX4_canBeStopped_1, eX4_canBeStopped_4, eX4_canBeStopped_6, eX4_canBeStopped_9, eX4_canBeStopped_10, eX4_canBeStopped_13, eX4_canBeStopped_15, eX4_canBeStopped_18, eX4_canBeStopped_19, eX4_canBeStopped_22, eX4_canBeStopped_23, isA_r, isA_n, isI_i, isF_f, isL_l, is1_i, is1_r, is1_n, is1_f, true_and, and_true, List.length_cons, List.length_nil, Nat.reduceAdd, Nat.reduceLeDiff, Nat.reduceSub, Option.some.injEq, exists_eq_left', aft_s, aft_n, ite_true, ite_false, if_true, if_false, Nat.zero_le, Nat.le_refl, reduceCtorEq, ob_of (C.job hj), jg4, h3, h4, ok01_0]
      exact hK
theorem k_ovr (C : CV E P H0 A σ ho wr H) {j : Nat} (hj : j < s_nJ σ) (hK : K (.inl (some (.int (b2 (over σ j))))) H) : CRd TTv E (d + 1) mX4_isOver [.ref (A 16 j)] H c n K := by
  refine crd rfl ?_
  show Ev E d mX4_isOver K 0 [.ref (A 16 j)] [] H c n
  have h1 : (nI (s_st σ j) = 100) = (s_st σ j = 100) := propext (st_100 (C.stk hj))
  have h2 : (nI (s_st σ j) = 107) = (s_st σ j = 107) := propext (st_107 (C.stk hj))
  unfold over at hK
  by_cases g1 : s_st σ j = 100
  · rw [g1] at hK
    have h3 : (nI (s_st σ j) = 100) = True := by rw [h1]; exact eq_true g1
    simp only [eX4_isOver_0, eX4_isOver_1, eX4_isOver_4, eX4_isOver_6, eX4_isOver_9, eX4_isOver_10, eX4_isOver_13, eX4_isOver_15, eX4_isOver_18, eX4_isOver_19, eX4_isOver_22, eX4_isOver_23, isA_r, isA_n, isI_i, isF_f, isL_l, is1_i, is1_r, is1_n, is1_f, true_and, and_true, List.length_cons, List.length_nil, Nat.reduceAdd, Nat.reduceLeDiff, Nat.reduceSub, Option.some.injEq, exists_eq_left', aft_s, aft_n, ite_true, ite_false, if_true, if_false, Nat.zero_le, Nat.le_refl, reduceCtorEq, ob_of (C.job hj), jg4, h3, ok01_1]
    exact hK
  · have h3 : (nI (s_st σ j) = 100) = False := by rw [h1]; exact eq_false g1
    by_cases g2 : s_st σ j = 107
    · rw [g2] at hK
      have h4 : (nI (s_st σ j) = 107) = True := by rw [h2]; exact eq_true g2
      simp only [eX4_isOver_0, eX4_isOver_1, eX4_isOver_4, eX4_isOver_6, eX4_isOver_9, eX4_isOver_10, eX4_isOver_13, eX4_isOver_15, eX4_isOver_18, eX4_isOver_19, eX4_isOver_22, eX4_isOver_23, isA_r, isA_n, isI_i, isF_f, isL_l, is1_i, is1_r, is1_n, is1_f, true_and, and_true, List.length_cons, List.length_nil, Nat.reduceAdd, Nat.reduceLeDiff, Nat.reduceSub, Option.some.injEq, exists_eq_left', aft_s, aft_n, ite_true, ite_false, if_true, if_false, Nat.zero_le, Nat.le_refl, reduceCtorEq, ob_of (C.job hj), jg4, h3, h4, ok01_1]
      exact hK
    · have h4 : (nI (s_st σ j) = 107) = False := by rw [h2]; exact eq_false g2
      have h5 : (s_st σ j == 100 || s_st σ j == 107) = false := by simp [g1, g2]
      rw [h5] at hK
      simp only [eX4_isOver_0, eX4_isOver_1, eX4_isOver_4, eX4_isOver_6, eX4_isOver_9, eX4_isOver_10, eX4_isOver_13, eX4_isOver_15, eX4_isOver_18, eX4_isOver_19, eX4_isOver_22, eX4_isOver_23, isA_r, isA_n, isI_i, isF_f, isL_l, is1_i, is1_r, is1_n, is1_f, true_and, and_true, List.length_cons, List.length_nil, Nat.reduceAdd, Nat.reduceLeDiff, Nat.reduceSub, Option.some.injEq, exists_eq_left', aft_s, aft_n, ite_true, ite_false, if_true, if_false, Nat.zero_le, Nat.le_refl, reduceCtorEq, ob_of (C.job hj), jg4, h3, h4, ok01_0]
      exact hK
theorem k_cgo (C : CV E P H0 A σ ho wr H) {j : Nat} (hj : j < s_nJ σ) (hK : K (.inl (some (.int (b2 (s_st σ j == 115))))) H) : CRd TTv E (d + 1) mX4_canGoOn [.ref (A 16 j)] H c n K := by
  refine crd rfl ?_
  show Ev E d mX4_canGoOn K 0 [.ref (A 16 j)] [] H c n
  have h1 : (nI (s_st σ j) = 115) = (s_st σ j = 115) := propext (st_115 (C.stk hj))
  by_cases g1 : s_st σ j = 115
  · rw [g1] at hK
    have h3 : (nI (s_st σ j) = 115) = True := by rw [h1]; exact eq_true g1
    simp only [eX4_canGoOn_0, eX4_canGoOn_1, eX4_canGoOn_4, eX4_canGoOn_6, eX4_canGoOn_9, eX4_canGoOn_10, eX4_canGoOn_13, eX4_canGoOn_14, isA_r, isA_n, isI_i, isF_f, isL_l, is1_i, is1_r, is1_n, is1_f, true_and, and_true, List.length_cons, List.length_nil, Nat.reduceAdd, Nat.reduceLeDiff, Nat.reduceSub, Option.some.injEq, exists_eq_left', aft_s, aft_n, ite_true, ite_false, if_true, if_false, Nat.zero_le, Nat.le_refl, reduceCtorEq, ob_of (C.job hj), jg4, h3, ok01_1]
    exact hK
  · have h3 : (nI (s_st σ j) = 115) = False := by rw [h1]; exact eq_false g1
    have h5 : (s_st σ j == 115) = false := by simp [g1]
    rw [h5] at hK
    simp only [eX4_canGoOn_0, eX4_canGoOn_1, eX4_canGoOn_4, eX4_canGoOn_6, eX4_canGoOn_9, eX4_canGoOn_10, eX4_canGoOn_13, eX4_canGoOn_14, isA_r, isA_n, isI_i, isF_f, isL_l, is1_i, is1_r, is1_n, is1_f, true_and, and_true, List.length_cons, List.length_nil, Nat.reduceAdd, Nat.reduceLeDiff, Nat.reduceSub, Option.some.injEq, exists_eq_left', aft_s, aft_n, ite_true, ite_false, if_true, if_false, Nat.zero_le, Nat.le_refl, reduceCtorEq, ob_of (C.job hj), jg4, h3, ok01_0]
    exact hK
theorem k_obeys (C : CV E P H0 A σ (hdF σ) wr H) (O : Ok σ) (J : Jb σ T) (hT : T + 62 < 16384) {s k j : Nat} (hj : j < s_nJ σ) (hse : s_se σ j = s) (hk : k = 115 ∨ k = 103 ∨ k = 107) (hr : ∀ τ, sig1 σ s k j = some τ → JJ τ + 11 ≤ JJ σ + c ∧ 4 * JJ τ + 44 ≤ 4 * JJ σ + n)
    (hK0 : sig1 σ s k j = none → K (.inl (some (.int 0))) H) (hK1 : ∀ τ, sig1 σ s k j = some τ → ∀ H', CV E P H0 A τ (hdF τ) wr H' → K (.inl (some (.int 1))) H') : CRd TTv E (d + 11) mX4_obeys [.ref (A 0 0), .ref (A 16 j), .int (nI k)] H c n K := by
  refine crd rfl ?_
  show Ev E (d + 10) mX4_obeys K 0 [.ref (A 0 0), .ref (A 16 j), .int (nI k)] [] H c n
  have b0 : (b2 false = 0) = True := eq_true rfl
  have b1 : (b2 true = 0) = False := eq_false (by decide)
  rcases hk with rfl | rfl | rfl
  · have es : sig1 σ s 115 j = if cstop σ j = false then none else some (stopsF σ j) := by unfold sig1; rw [if_pos hse, if_pos rfl]
    have e1 : (nI 115 = 115) = True := eq_true (by decide)
    have e2 : (nI 115 = 103) = False := eq_false (by decide)
    have e3 : (nI 115 = 107) = False := eq_false (by decide)
    simp only [eX4_obeys_0, eX4_obeys_1, eX4_obeys_3, eX4_obeys_6, eX4_obeys_7, eX4_obeys_10, eX4_obeys_13, eX4_obeys_14, eX4_obeys_15, eX4_obeys_18, eX4_obeys_19, eX4_obeys_20, eX4_obeys_21, eX4_obeys_23, eX4_obeys_26, eX4_obeys_27, eX4_obeys_30, eX4_obeys_33, eX4_obeys_34, eX4_obeys_35, eX4_obeys_38, eX4_obeys_39, eX4_obeys_40, eX4_obeys_41, eX4_obeys_43, eX4_obeys_46, eX4_obeys_47, eX4_obeys_50, eX4_obeys_53, eX4_obeys_54, eX4_obeys_55, eX4_obeys_57, eX4_obeys_60, eX4_obeys_61, eX4_obeys_62, eX4_obeys_63, isA_r, isA_n, isI_i, isF_f, isL_l, is1_i, is1_r, is1_n, is1_f, true_and, and_true, List.length_cons, List.length_nil, Nat.reduceAdd, Nat.reduceLeDiff, Nat.reduceSub, Option.some.injEq, exists_eq_left', aft_s, aft_n, ite_true, ite_false, if_true, if_false, Nat.zero_le, Nat.le_refl, reduceCtorEq, e1]
    refine inv0 (k_cbs C hj ?_)
    cases hcs : cstop σ j with
    | false =>
      rw [hcs, if_pos rfl] at es
      simp only [eX4_obeys_0, eX4_obeys_1, eX4_obeys_3, eX4_obeys_6, eX4_obeys_7, eX4_obeys_10, eX4_obeys_13, eX4_obeys_14, eX4_obeys_15, eX4_obeys_18, eX4_obeys_19, eX4_obeys_20, eX4_obeys_21, eX4_obeys_23, eX4_obeys_26, eX4_obeys_27, eX4_obeys_30, eX4_obeys_33, eX4_obeys_34, eX4_obeys_35, eX4_obeys_38, eX4_obeys_39, eX4_obeys_40, eX4_obeys_41, eX4_obeys_43, eX4_obeys_46, eX4_obeys_47, eX4_obeys_50, eX4_obeys_53, eX4_obeys_54, eX4_obeys_55, eX4_obeys_57, eX4_obeys_60, eX4_obeys_61, eX4_obeys_62, eX4_obeys_63, isA_r, isA_n, isI_i, isF_f, isL_l, is1_i, is1_r, is1_n, is1_f, true_and, and_true, List.length_cons, List.length_nil, Nat.reduceAdd, Nat.reduceLeDiff, Nat.reduceSub, Option.some.injEq, exists_eq_left', aft_s, aft_n, ite_true, ite_false, if_true, if_false, Nat.zero_le, Nat.le_refl, reduceCtorEq, b0, e2, e3, ok01_0]
      exact hK0 es
    | true =>
      rw [hcs, if_neg (by decide)] at es
      simp only [eX4_obeys_0, eX4_obeys_1, eX4_obeys_3, eX4_obeys_6, eX4_obeys_7, eX4_obeys_10, eX4_obeys_13, eX4_obeys_14, eX4_obeys_15, eX4_obeys_18, eX4_obeys_19, eX4_obeys_20, eX4_obeys_21, eX4_obeys_23, eX4_obeys_26, eX4_obeys_27, eX4_obeys_30, eX4_obeys_33, eX4_obeys_34, eX4_obeys_35, eX4_obeys_38, eX4_obeys_39, eX4_obeys_40, eX4_obeys_41, eX4_obeys_43, eX4_obeys_46, eX4_obeys_47, eX4_obeys_50, eX4_obeys_53, eX4_obeys_54, eX4_obeys_55, eX4_obeys_57, eX4_obeys_60, eX4_obeys_61, eX4_obeys_62, eX4_obeys_63, isA_r, isA_n, isI_i, isF_f, isL_l, is1_i, is1_r, is1_n, is1_f, true_and, and_true, List.length_cons, List.length_nil, Nat.reduceAdd, Nat.reduceLeDiff, Nat.reduceSub, Option.some.injEq, exists_eq_left', aft_s, aft_n, ite_true, ite_false, if_true, if_false, Nat.zero_le, Nat.le_refl, reduceCtorEq, b1]
      obtain ⟨hc, hn⟩ := hr _ es
      refine ⟨C.oT, invk c n (Nat.le_refl _) (Nat.le_refl _) (k_pause C O J hT hj (cstop_over hcs) (by omega) (by omega) (fun H1 C1 => ?_))⟩
      simp only [eX4_obeys_0, eX4_obeys_1, eX4_obeys_3, eX4_obeys_6, eX4_obeys_7, eX4_obeys_10, eX4_obeys_13, eX4_obeys_14, eX4_obeys_15, eX4_obeys_18, eX4_obeys_19, eX4_obeys_20, eX4_obeys_21, eX4_obeys_23, eX4_obeys_26, eX4_obeys_27, eX4_obeys_30, eX4_obeys_33, eX4_obeys_34, eX4_obeys_35, eX4_obeys_38, eX4_obeys_39, eX4_obeys_40, eX4_obeys_41, eX4_obeys_43, eX4_obeys_46, eX4_obeys_47, eX4_obeys_50, eX4_obeys_53, eX4_obeys_54, eX4_obeys_55, eX4_obeys_57, eX4_obeys_60, eX4_obeys_61, eX4_obeys_62, eX4_obeys_63, isA_r, isA_n, isI_i, isF_f, isL_l, is1_i, is1_r, is1_n, is1_f, true_and, and_true, List.length_cons, List.length_nil, Nat.reduceAdd, Nat.reduceLeDiff, Nat.reduceSub, Option.some.injEq, exists_eq_left', aft_s, aft_n, ite_true, ite_false, if_true, if_false, Nat.zero_le, Nat.le_refl, reduceCtorEq, ok01_1]
      exact hK1 _ es H1 C1
  · have es : sig1 σ s 103 j = if s_st σ j = 115 then some (goesOnF σ j) else none := by unfold sig1; rw [if_pos hse, if_neg (by decide), if_pos rfl]
    have e1 : (nI 103 = 115) = False := eq_false (by decide)
    have e2 : (nI 103 = 103) = True := eq_true (by decide)
    have e3 : (nI 103 = 107) = False := eq_false (by decide)
    simp only [eX4_obeys_0, eX4_obeys_1, eX4_obeys_3, eX4_obeys_6, eX4_obeys_7, eX4_obeys_10, eX4_obeys_13, eX4_obeys_14, eX4_obeys_15, eX4_obeys_18, eX4_obeys_19, eX4_obeys_20, eX4_obeys_21, eX4_obeys_23, eX4_obeys_26, eX4_obeys_27, eX4_obeys_30, eX4_obeys_33, eX4_obeys_34, eX4_obeys_35, eX4_obeys_38, eX4_obeys_39, eX4_obeys_40, eX4_obeys_41, eX4_obeys_43, eX4_obeys_46, eX4_obeys_47, eX4_obeys_50, eX4_obeys_53, eX4_obeys_54, eX4_obeys_55, eX4_obeys_57, eX4_obeys_60, eX4_obeys_61, eX4_obeys_62, eX4_obeys_63, isA_r, isA_n, isI_i, isF_f, isL_l, is1_i, is1_r, is1_n, is1_f, true_and, and_true, List.length_cons, List.length_nil, Nat.reduceAdd, Nat.reduceLeDiff, Nat.reduceSub, Option.some.injEq, exists_eq_left', aft_s, aft_n, ite_true, ite_false, if_true, if_false, Nat.zero_le, Nat.le_refl, reduceCtorEq, e1, e2]
    refine inv0 (k_cgo C hj ?_)
    by_cases hcs : s_st σ j = 115
    · rw [if_pos hcs] at es
      have hb : (s_st σ j == 115) = true := by rw [hcs]; rfl
      simp only [eX4_obeys_0, eX4_obeys_1, eX4_obeys_3, eX4_obeys_6, eX4_obeys_7, eX4_obeys_10, eX4_obeys_13, eX4_obeys_14, eX4_obeys_15, eX4_obeys_18, eX4_obeys_19, eX4_obeys_20, eX4_obeys_21, eX4_obeys_23, eX4_obeys_26, eX4_obeys_27, eX4_obeys_30, eX4_obeys_33, eX4_obeys_34, eX4_obeys_35, eX4_obeys_38, eX4_obeys_39, eX4_obeys_40, eX4_obeys_41, eX4_obeys_43, eX4_obeys_46, eX4_obeys_47, eX4_obeys_50, eX4_obeys_53, eX4_obeys_54, eX4_obeys_55, eX4_obeys_57, eX4_obeys_60, eX4_obeys_61, eX4_obeys_62, eX4_obeys_63, isA_r, isA_n, isI_i, isF_f, isL_l, is1_i, is1_r, is1_n, is1_f, true_and, and_true, List.length_cons, List.length_nil, Nat.reduceAdd, Nat.reduceLeDiff, Nat.reduceSub, Option.some.injEq, exists_eq_left', aft_s, aft_n, ite_true, ite_false, if_true, if_false, Nat.zero_le, Nat.le_refl, reduceCtorEq, hb, b1]
      obtain ⟨hc, hn⟩ := hr _ es
      refine ⟨C.oT, invk c n (Nat.le_refl _) (Nat.le_refl _) (k_resume C O J hT hj hcs hc hn (fun H1 C1 => ?_))⟩
      simp only [eX4_obeys_0, eX4_obeys_1, eX4_obeys_3, eX4_obeys_6, eX4_obeys_7, eX4_obeys_10, eX4_obeys_13, eX4_obeys_14, eX4_obeys_15, eX4_obeys_18, eX4_obeys_19, eX4_obeys_20, eX4_obeys_21, eX4_obeys_23, eX4_obeys_26, eX4_obeys_27, eX4_obeys_30, eX4_obeys_33, eX4_obeys_34, eX4_obeys_35, eX4_obeys_38, eX4_obeys_39, eX4_obeys_40, eX4_obeys_41, eX4_obeys_43, eX4_obeys_46, eX4_obeys_47, eX4_obeys_50, eX4_obeys_53, eX4_obeys_54, eX4_obeys_55, eX4_obeys_57, eX4_obeys_60, eX4_obeys_61, eX4_obeys_62, eX4_obeys_63, isA_r, isA_n, isI_i, isF_f, isL_l, is1_i, is1_r, is1_n, is1_f, true_and, and_true, List.length_cons, List.length_nil, Nat.reduceAdd, Nat.reduceLeDiff, Nat.reduceSub, Option.some.injEq, exists_eq_left', aft_s, aft_n, ite_true, ite_false, if_true, if_false, Nat.zero_le, Nat.le_refl, reduceCtorEq, ok01_1]
      exact hK1 _ es H1 C1
    · rw [if_neg hcs] at es
      have hb : (s_st σ j == 115) = false := by simp [hcs]
      simp only [eX4_obeys_0, eX4_obeys_1, eX4_obeys_3, eX4_obeys_6, eX4_obeys_7, eX4_obeys_10, eX4_obeys_13, eX4_obeys_14, eX4_obeys_15, eX4_obeys_18, eX4_obeys_19, eX4_obeys_20, eX4_obeys_21, eX4_obeys_23, eX4_obeys_26, eX4_obeys_27, eX4_obeys_30, eX4_obeys_33, eX4_obeys_34, eX4_obeys_35, eX4_obeys_38, eX4_obeys_39, eX4_obeys_40, eX4_obeys_41, eX4_obeys_43, eX4_obeys_46, eX4_obeys_47, eX4_obeys_50, eX4_obeys_53, eX4_obeys_54, eX4_obeys_55, eX4_obeys_57, eX4_obeys_60, eX4_obeys_61, eX4_obeys_62, eX4_obeys_63, isA_r, isA_n, isI_i, isF_f, isL_l, is1_i, is1_r, is1_n, is1_f, true_and, and_true, List.length_cons, List.length_nil, Nat.reduceAdd, Nat.reduceLeDiff, Nat.reduceSub, Option.some.injEq, exists_eq_left', aft_s, aft_n, ite_true, ite_false, if_true, if_false, Nat.zero_le, Nat.le_refl, reduceCtorEq, hb, b0, e3, ok01_0]
      exact hK0 es
  · have es : sig1 σ s 107 j = if over σ j = false then some (endsF σ j 107) else none := by unfold sig1; rw [if_pos hse, if_neg (by decide), if_neg (by decide)]
    have e1 : (nI 107 = 115) = False := eq_false (by decide)
    have e2 : (nI 107 = 103) = False := eq_false (by decide)
    have e3 : (nI 107 = 107) = True := eq_true (by decide)
    simp only [eX4_obeys_0, eX4_obeys_1, eX4_obeys_3, eX4_obeys_6, eX4_obeys_7, eX4_obeys_10, eX4_obeys_13, eX4_obeys_14, eX4_obeys_15, eX4_obeys_18, eX4_obeys_19, eX4_obeys_20, eX4_obeys_21, eX4_obeys_23, eX4_obeys_26, eX4_obeys_27, eX4_obeys_30, eX4_obeys_33, eX4_obeys_34, eX4_obeys_35, eX4_obeys_38, eX4_obeys_39, eX4_obeys_40, eX4_obeys_41, eX4_obeys_43, eX4_obeys_46, eX4_obeys_47, eX4_obeys_50, eX4_obeys_53, eX4_obeys_54, eX4_obeys_55, eX4_obeys_57, eX4_obeys_60, eX4_obeys_61, eX4_obeys_62, eX4_obeys_63, isA_r, isA_n, isI_i, isF_f, isL_l, is1_i, is1_r, is1_n, is1_f, true_and, and_true, List.length_cons, List.length_nil, Nat.reduceAdd, Nat.reduceLeDiff, Nat.reduceSub, Option.some.injEq, exists_eq_left', aft_s, aft_n, ite_true, ite_false, if_true, if_false, Nat.zero_le, Nat.le_refl, reduceCtorEq, e1, e2, e3]
    refine inv0 (k_ovr C hj ?_)
    cases hcs : over σ j with
    | true =>
      rw [hcs, if_neg (by decide)] at es
      simp only [eX4_obeys_0, eX4_obeys_1, eX4_obeys_3, eX4_obeys_6, eX4_obeys_7, eX4_obeys_10, eX4_obeys_13, eX4_obeys_14, eX4_obeys_15, eX4_obeys_18, eX4_obeys_19, eX4_obeys_20, eX4_obeys_21, eX4_obeys_23, eX4_obeys_26, eX4_obeys_27, eX4_obeys_30, eX4_obeys_33, eX4_obeys_34, eX4_obeys_35, eX4_obeys_38, eX4_obeys_39, eX4_obeys_40, eX4_obeys_41, eX4_obeys_43, eX4_obeys_46, eX4_obeys_47, eX4_obeys_50, eX4_obeys_53, eX4_obeys_54, eX4_obeys_55, eX4_obeys_57, eX4_obeys_60, eX4_obeys_61, eX4_obeys_62, eX4_obeys_63, isA_r, isA_n, isI_i, isF_f, isL_l, is1_i, is1_r, is1_n, is1_f, true_and, and_true, List.length_cons, List.length_nil, Nat.reduceAdd, Nat.reduceLeDiff, Nat.reduceSub, Option.some.injEq, exists_eq_left', aft_s, aft_n, ite_true, ite_false, if_true, if_false, Nat.zero_le, Nat.le_refl, reduceCtorEq, b1, ok01_0]
      exact hK0 es
    | false =>
      rw [hcs, if_pos rfl] at es
      simp only [eX4_obeys_0, eX4_obeys_1, eX4_obeys_3, eX4_obeys_6, eX4_obeys_7, eX4_obeys_10, eX4_obeys_13, eX4_obeys_14, eX4_obeys_15, eX4_obeys_18, eX4_obeys_19, eX4_obeys_20, eX4_obeys_21, eX4_obeys_23, eX4_obeys_26, eX4_obeys_27, eX4_obeys_30, eX4_obeys_33, eX4_obeys_34, eX4_obeys_35, eX4_obeys_38, eX4_obeys_39, eX4_obeys_40, eX4_obeys_41, eX4_obeys_43, eX4_obeys_46, eX4_obeys_47, eX4_obeys_50, eX4_obeys_53, eX4_obeys_54, eX4_obeys_55, eX4_obeys_57, eX4_obeys_60, eX4_obeys_61, eX4_obeys_62, eX4_obeys_63, isA_r, isA_n, isI_i, isF_f, isL_l, is1_i, is1_r, is1_n, is1_f, true_and, and_true, List.length_cons, List.length_nil, Nat.reduceAdd, Nat.reduceLeDiff, Nat.reduceSub, Option.some.injEq, exists_eq_left', aft_s, aft_n, ite_true, ite_false, if_true, if_false, Nat.zero_le, Nat.le_refl, reduceCtorEq, b0]
      obtain ⟨hc, hn⟩ := hr _ es
      refine ⟨C.oT, invk c n (Nat.le_refl _) (Nat.le_refl _) (k_finish (how := 107) C O J hT hj hcs (Or.inr rfl) (by omega) (by omega) (fun H1 C1 => ?_))⟩
      simp only [eX4_obeys_0, eX4_obeys_1, eX4_obeys_3, eX4_obeys_6, eX4_obeys_7, eX4_obeys_10, eX4_obeys_13, eX4_obeys_14, eX4_obeys_15, eX4_obeys_18, eX4_obeys_19, eX4_obeys_20, eX4_obeys_21, eX4_obeys_23, eX4_obeys_26, eX4_obeys_27, eX4_obeys_30, eX4_obeys_33, eX4_obeys_34, eX4_obeys_35, eX4_obeys_38, eX4_obeys_39, eX4_obeys_40, eX4_obeys_41, eX4_obeys_43, eX4_obeys_46, eX4_obeys_47, eX4_obeys_50, eX4_obeys_53, eX4_obeys_54, eX4_obeys_55, eX4_obeys_57, eX4_obeys_60, eX4_obeys_61, eX4_obeys_62, eX4_obeys_63, isA_r, isA_n, isI_i, isF_f, isL_l, is1_i, is1_r, is1_n, is1_f, true_and, and_true, List.length_cons, List.length_nil, Nat.reduceAdd, Nat.reduceLeDiff, Nat.reduceSub, Option.some.injEq, exists_eq_left', aft_s, aft_n, ite_true, ite_false, if_true, if_false, Nat.zero_le, Nat.le_refl, reduceCtorEq, ok01_1]
      exact hK1 _ es H1 C1
end C9
