section MD4
variable {E : EN} {d : Nat} {h : AH} {c n : Nat} {K : Out → AH → Prop} {mo : Nat} {ad : Nat → Nat} {th : Nat}
/-- what the walks need of a state -/
def Wf (σ : Sg) (B : Nat) : Prop := s_nJ σ ≤ 30 ∧ (∀ j, j < s_nJ σ → s_nd σ j ≤ 63) ∧ (s_od σ).Nodup ∧ (∀ j ∈ s_od σ, j < s_nJ σ) ∧ (s_jn σ).length ≤ B
theorem Wf.len {σ : Sg} {B : Nat} (W : Wf σ B) : (s_od σ).length ≤ 30 := Nat.le_trans (nodup_len W.2.2.1 W.2.2.2.1) W.1
theorem filter_out {pre r : List Nat} {j : Nat} (h : (pre ++ j :: r).Nodup) : (pre ++ j :: r).filter (fun i => i != j) = pre ++ r := by
  rw [List.nodup_append] at h
  obtain ⟨h1, h2, h3⟩ := h
  rw [List.nodup_cons] at h2
  rw [List.filter_append, List.filter_cons]
  have e1 : pre.filter (fun i => i != j) = pre := List.filter_eq_self.mpr (fun x hx => by simpa using h3 x hx j List.mem_cons_self)
  have e2 : r.filter (fun i => i != j) = r := List.filter_eq_self.mpr (fun x hx => by
    have : x ≠ j := fun z => h2.1 (z ▸ hx)
    simpa using this)
  rw [e1, e2]
  simp
theorem Wf.grant {σ : Sg} {B j : Nat} {pre r : List Nat} (W : Wf σ B) (ho : s_od σ = pre ++ j :: r) : Wf (grant σ j (pre ++ r)) (B + 1) := by
  obtain ⟨h1, h2, h3, h4, h5⟩ := W
  rw [ho] at h3 h4
  refine ⟨h1, h2, ?_, fun i hi => h4 i ?_, ?_⟩
  · show (pre ++ r).Nodup
    rw [← filter_out h3]
    exact h3.filter _
  · have hi : i ∈ pre ++ r := hi
    rcases List.mem_append.mp hi with hi | hi
    · exact List.mem_append_left _ hi
    · exact List.mem_append_right _ (List.mem_cons_of_mem _ hi)
  · show (s_jn σ ++ [(j, 114)]).length ≤ B + 1
    rw [List.length_append]; exact Nat.succ_le_succ h5
theorem grant_eq {σ : Sg} {j : Nat} {pre r : List Nat} (h : (s_od σ).Nodup) (ho : s_od σ = pre ++ j :: r) : comesF (leavesF (w_hl σ (upN (s_hl σ) j true)) j) j 114 = grant σ j (pre ++ r) := by
  have e : leavesF (w_hl σ (upN (s_hl σ) j true)) j = w_hl (w_od σ (pre ++ r)) (upN (s_hl σ) j true) := by
    show w_od (w_hl σ (upN (s_hl σ) j true)) ((s_od σ).filter (fun i => i != j)) = _
    rw [ho, filter_out (by rw [← ho]; exact h)]
    unfold w_od w_hl
    simp only [s_nS, s_nJ, s_wk, s_pv, s_dr, s_fr, s_pk, s_hi, s_cm, s_se, s_lf, s_nd, s_st, s_hl, s_od, s_jn]
  rw [e]
  unfold grant
  rfl
theorem lk_pre {σ : Sg} {j B : Nat} {f : Nat → Bool} (hj : j < s_nJ σ) (h1 : s_nJ σ ≤ 30) (h2 : (s_jn σ).length ≤ B) (h3 : B < 32000) : j < s_nJ (leavesF (w_hl σ f) j) ∧ s_nJ (leavesF (w_hl σ f) j) ≤ 30 ∧ (s_jn (leavesF (w_hl σ f) j)).length < 32000 := by
  unfold leavesF
  rw [g_nJ_od, g_nJ_hl, g_jn_od, g_jn_hl]
  exact ⟨hj, h1, Nat.lt_of_le_of_lt h2 h3⟩
theorem l_looks (A : ADok mo ad) : ∀ (rest pre : List Nat) (σ : Sg) (M : MS) (a2 : Value) (B : Nat), RM σ th M → Wf σ B → s_od σ = pre ++ rest → B + rest.length < 32000 → (∀ M', RM (looksL rest pre σ) th M' → K (.inl none) (mv h mo ad M')) →
    Ev E (d + 1) mX5_looks K 2 [.ref mo, .int (nI pre.length), a2] [] (mv h mo ad M) c n := by
  intro rest
  induction rest with
  | nil =>
    intro pre σ M a2 B R W ho hB hk
    rw [List.append_nil] at ho
    have hl := W.len
    rw [hX5_looks_2]
    simp only [eX5_looks_3, eX5_looks_4, eX5_looks_7, eX5_looks_10, eX5_looks_11, eX5_looks_14, eX5_looks_15, eX5_looks_16, eX5_looks_17, eX5_looks_18, eX5_looks_19, eX5_looks_22, eX5_looks_25, eX5_looks_28, eX5_looks_29, eX5_looks_32, eX5_looks_33, eX5_looks_34, eX5_looks_35, eX5_looks_36, eX5_looks_37, eX5_looks_40, eX5_looks_41, eX5_looks_42, eX5_looks_44, eX5_looks_47, eX5_looks_50, eX5_looks_53, eX5_looks_56, isA_r, isA_n, isI_i, isF_f, isL_l, is1_i, is1_r, is1_n, is1_f, true_and, and_true, List.length_cons, List.length_nil, Nat.reduceAdd, Nat.reduceLeDiff, Nat.reduceSub, Option.some.injEq, exists_eq_left', aft_s, aft_n, ite_true, ite_false, if_true, if_false, Nat.zero_le, Nat.le_refl, reduceCtorEq, mv_ob, mr0 A, mw0 A, ms0 A, mr1 A, mw1 A, ms1 A, mr2 A, mw2 A, ms2 A, mr3 A, mw3 A, ms3 A, mr4 A, mw4 A, ms4 A, mr5 A, mw5 A, ms5 A, mr6 A, mw6 A, ms6 A, mr7 A, mw7 A, ms7 A, mr8 A, mw8 A, ms8 A, mr9 A, mw9 A, ms9 A, mr10 A, mw10 A, ms10 A, mr11 A, mw11 A, ms11 A, mr12 A, mw12 A, ms12 A, mr13 A, mw13 A, ms13 A, mr14 A, mw14 A, ms14 A, mf0, mf1, mf2, mf3, mf4, mf5, mf6, mg0, mg1, mg2, mg3, mg4, mg5, mg6, mg7, mg8, mg9, mg10, mg11, mg12, mg13, mg14, mg15, mg16, mg17, mg18, mg19, mg20, mg21, mgl, Nat.reduceLT, va_up_self, R.1.2.2.2.1, ho, if_neg (nI_nlt (Nat.le_refl pre.length) (by rw [ho] at hl; omega))]
    exact hk _ R
  | cons j r ih =>
    intro pre σ M a2 B R W ho hB hk
    have hl := W.len
    have hlt : pre.length < (s_od σ).length := by rw [ho]; simp
    have hj : j < s_nJ σ := W.2.2.2.1 j (by rw [ho]; simp)
    have hj30 : j < 30 := Nat.lt_of_lt_of_le hj W.1
    have e1 : (nI pre.length).toNatClampNeg = pre.length := nI_clamp (by omega)
    have e2 : (nI j).toNatClampNeg = j := nI_clamp (by omega)
    have hrd : M.2.2 11 pre.length = nI j := by
      rw [R.2.2.2.2.2.2.2.2.2.2.2.2.1 _ hlt, ho]
      simp
    rw [hX5_looks_2]
    simp only [eX5_looks_3, eX5_looks_4, eX5_looks_7, eX5_looks_10, eX5_looks_11, eX5_looks_14, eX5_looks_15, eX5_looks_16, eX5_looks_17, eX5_looks_18, eX5_looks_19, eX5_looks_22, eX5_looks_25, eX5_looks_28, eX5_looks_29, eX5_looks_32, eX5_looks_33, eX5_looks_34, eX5_looks_35, eX5_looks_36, eX5_looks_37, eX5_looks_40, eX5_looks_41, eX5_looks_42, eX5_looks_44, eX5_looks_47, eX5_looks_50, eX5_looks_53, eX5_looks_56, isA_r, isA_n, isI_i, isF_f, isL_l, is1_i, is1_r, is1_n, is1_f, true_and, and_true, List.length_cons, List.length_nil, Nat.reduceAdd, Nat.reduceLeDiff, Nat.reduceSub, Option.some.injEq, exists_eq_left', aft_s, aft_n, ite_true, ite_false, if_true, if_false, Nat.zero_le, Nat.le_refl, reduceCtorEq, mv_ob, mr0 A, mw0 A, ms0 A, mr1 A, mw1 A, ms1 A, mr2 A, mw2 A, ms2 A, mr3 A, mw3 A, ms3 A, mr4 A, mw4 A, ms4 A, mr5 A, mw5 A, ms5 A, mr6 A, mw6 A, ms6 A, mr7 A, mw7 A, ms7 A, mr8 A, mw8 A, ms8 A, mr9 A, mw9 A, ms9 A, mr10 A, mw10 A, ms10 A, mr11 A, mw11 A, ms11 A, mr12 A, mw12 A, ms12 A, mr13 A, mw13 A, ms13 A, mr14 A, mw14 A, ms14 A, mf0, mf1, mf2, mf3, mf4, mf5, mf6, mg0, mg1, mg2, mg3, mg4, mg5, mg6, mg7, mg8, mg9, mg10, mg11, mg12, mg13, mg14, mg15, mg16, mg17, mg18, mg19, mg20, mg21, mgl, Nat.reduceLT, va_up_self, R.1.2.2.2.1, if_pos (nI_lt hlt (by omega)), inB_nI (show pre.length < 30 by omega) (by decide), e1, hrd, exists_eq']
    refine inv0 (c_isFree A R W.1 W.2.1 hj ?_)
    unfold looksL at hk
    cases hf : freeJ σ j with
    | false =>
      rw [hf] at hk
      simp only [eX5_looks_3, eX5_looks_4, eX5_looks_7, eX5_looks_10, eX5_looks_11, eX5_looks_14, eX5_looks_15, eX5_looks_16, eX5_looks_17, eX5_looks_18, eX5_looks_19, eX5_looks_22, eX5_looks_25, eX5_looks_28, eX5_looks_29, eX5_looks_32, eX5_looks_33, eX5_looks_34, eX5_looks_35, eX5_looks_36, eX5_looks_37, eX5_looks_40, eX5_looks_41, eX5_looks_42, eX5_looks_44, eX5_looks_47, eX5_looks_50, eX5_looks_53, eX5_looks_56, isA_r, isA_n, isI_i, isF_f, isL_l, is1_i, is1_r, is1_n, is1_f, true_and, and_true, List.length_cons, List.length_nil, Nat.reduceAdd, Nat.reduceLeDiff, Nat.reduceSub, Option.some.injEq, exists_eq_left', aft_s, aft_n, ite_true, ite_false, if_true, if_false, Nat.zero_le, Nat.le_refl, reduceCtorEq, mv_ob, mr0 A, mw0 A, ms0 A, mr1 A, mw1 A, ms1 A, mr2 A, mw2 A, ms2 A, mr3 A, mw3 A, ms3 A, mr4 A, mw4 A, ms4 A, mr5 A, mw5 A, ms5 A, mr6 A, mw6 A, ms6 A, mr7 A, mw7 A, ms7 A, mr8 A, mw8 A, ms8 A, mr9 A, mw9 A, ms9 A, mr10 A, mw10 A, ms10 A, mr11 A, mw11 A, ms11 A, mr12 A, mw12 A, ms12 A, mr13 A, mw13 A, ms13 A, mr14 A, mw14 A, ms14 A, mf0, mf1, mf2, mf3, mf4, mf5, mf6, mg0, mg1, mg2, mg3, mg4, mg5, mg6, mg7, mg8, mg9, mg10, mg11, mg12, mg13, mg14, mg15, mg16, mg17, mg18, mg19, mg20, mg21, mgl, Nat.reduceLT, va_up_self, b2_0, nI_1]
      have := ih (pre ++ [j]) σ M (.int (nI j)) B R W (by rw [ho]; simp) (by simp at hB ⊢; omega) hk
      rw [List.length_append] at this
      exact this
    | true =>
      rw [hf] at hk
      have R1 := R.hl (j := j) (b := true)
      have W1 : ∀ i ∈ s_od σ, i < 30 := fun i hi => Nat.lt_of_lt_of_le (W.2.2.2.1 i hi) W.1
      simp only [eX5_looks_3, eX5_looks_4, eX5_looks_7, eX5_looks_10, eX5_looks_11, eX5_looks_14, eX5_looks_15, eX5_looks_16, eX5_looks_17, eX5_looks_18, eX5_looks_19, eX5_looks_22, eX5_looks_25, eX5_looks_28, eX5_looks_29, eX5_looks_32, eX5_looks_33, eX5_looks_34, eX5_looks_35, eX5_looks_36, eX5_looks_37, eX5_looks_40, eX5_looks_41, eX5_looks_42, eX5_looks_44, eX5_looks_47, eX5_looks_50, eX5_looks_53, eX5_looks_56, isA_r, isA_n, isI_i, isF_f, isL_l, is1_i, is1_r, is1_n, is1_f, true_and, and_true, List.length_cons, List.length_nil, Nat.reduceAdd, Nat.reduceLeDiff, Nat.reduceSub, Option.some.injEq, exists_eq_left', aft_s, aft_n, ite_true, ite_false, if_true, if_false, Nat.zero_le, Nat.le_refl, reduceCtorEq, mv_ob, mr0 A, mw0 A, ms0 A, mr1 A, mw1 A, ms1 A, mr2 A, mw2 A, ms2 A, mr3 A, mw3 A, ms3 A, mr4 A, mw4 A, ms4 A, mr5 A, mw5 A, ms5 A, mr6 A, mw6 A, ms6 A, mr7 A, mw7 A, ms7 A, mr8 A, mw8 A, ms8 A, mr9 A, mw9 A, ms9 A, mr10 A, mw10 A, ms10 A, mr11 A, mw11 A, ms11 A, mr12 A, mw12 A, ms12 A, mr13 A, mw13 A, ms13 A, mr14 A, mw14 A, ms14 A, mf0, mf1, mf2, mf3, mf4, mf5, mf6, mg0, mg1, mg2, mg3, mg4, mg5, mg6, mg7, mg8, mg9, mg10, mg11, mg12, mg13, mg14, mg15, mg16, mg17, mg18, mg19, mg20, mg21, mgl, Nat.reduceLT, va_up_self, b2_0, inB_nI (show j < 30 by omega) (by decide), e2, ok01_1, exists_eq', Bool.true_eq_false]
      refine inv0 (c_leaves A R1 W1 hl hj30 (fun M2 R2 => ?_))
      simp only [eX5_looks_3, eX5_looks_4, eX5_looks_7, eX5_looks_10, eX5_looks_11, eX5_looks_14, eX5_looks_15, eX5_looks_16, eX5_looks_17, eX5_looks_18, eX5_looks_19, eX5_looks_22, eX5_looks_25, eX5_looks_28, eX5_looks_29, eX5_looks_32, eX5_looks_33, eX5_looks_34, eX5_looks_35, eX5_looks_36, eX5_looks_37, eX5_looks_40, eX5_looks_41, eX5_looks_42, eX5_looks_44, eX5_looks_47, eX5_looks_50, eX5_looks_53, eX5_looks_56, isA_r, isA_n, isI_i, isF_f, isL_l, is1_i, is1_r, is1_n, is1_f, true_and, and_true, List.length_cons, List.length_nil, Nat.reduceAdd, Nat.reduceLeDiff, Nat.reduceSub, Option.some.injEq, exists_eq_left', aft_s, aft_n, ite_true, ite_false, if_true, if_false, Nat.zero_le, Nat.le_refl, reduceCtorEq, mv_ob, mr0 A, mw0 A, ms0 A, mr1 A, mw1 A, ms1 A, mr2 A, mw2 A, ms2 A, mr3 A, mw3 A, ms3 A, mr4 A, mw4 A, ms4 A, mr5 A, mw5 A, ms5 A, mr6 A, mw6 A, ms6 A, mr7 A, mw7 A, ms7 A, mr8 A, mw8 A, ms8 A, mr9 A, mw9 A, ms9 A, mr10 A, mw10 A, ms10 A, mr11 A, mw11 A, ms11 A, mr12 A, mw12 A, ms12 A, mr13 A, mw13 A, ms13 A, mr14 A, mw14 A, ms14 A, mf0, mf1, mf2, mf3, mf4, mf5, mf6, mg0, mg1, mg2, mg3, mg4, mg5, mg6, mg7, mg8, mg9, mg10, mg11, mg12, mg13, mg14, mg15, mg16, mg17, mg18, mg19, mg20, mg21, mgl, Nat.reduceLT, va_up_self, exists_eq']
      have hp := lk_pre (f := upN (s_hl σ) j true) hj W.1 W.2.2.2.2 (by simp at hB; omega)
      refine inv0 (c_comes A R2 (ch := 114) hp.1 hp.2.1 hp.2.2 (fun M3 R3 => ?_))
      have hg := grant_eq W.2.2.1 ho
      rw [hg] at R3
      simp only [eX5_looks_3, eX5_looks_4, eX5_looks_7, eX5_looks_10, eX5_looks_11, eX5_looks_14, eX5_looks_15, eX5_looks_16, eX5_looks_17, eX5_looks_18, eX5_looks_19, eX5_looks_22, eX5_looks_25, eX5_looks_28, eX5_looks_29, eX5_looks_32, eX5_looks_33, eX5_looks_34, eX5_looks_35, eX5_looks_36, eX5_looks_37, eX5_looks_40, eX5_looks_41, eX5_looks_42, eX5_looks_44, eX5_looks_47, eX5_looks_50, eX5_looks_53, eX5_looks_56, isA_r, isA_n, isI_i, isF_f, isL_l, is1_i, is1_r, is1_n, is1_f, true_and, and_true, List.length_cons, List.length_nil, Nat.reduceAdd, Nat.reduceLeDiff, Nat.reduceSub, Option.some.injEq, exists_eq_left', aft_s, aft_n, ite_true, ite_false, if_true, if_false, Nat.zero_le, Nat.le_refl, reduceCtorEq, mv_ob, mr0 A, mw0 A, ms0 A, mr1 A, mw1 A, ms1 A, mr2 A, mw2 A, ms2 A, mr3 A, mw3 A, ms3 A, mr4 A, mw4 A, ms4 A, mr5 A, mw5 A, ms5 A, mr6 A, mw6 A, ms6 A, mr7 A, mw7 A, ms7 A, mr8 A, mw8 A, ms8 A, mr9 A, mw9 A, ms9 A, mr10 A, mw10 A, ms10 A, mr11 A, mw11 A, ms11 A, mr12 A, mw12 A, ms12 A, mr13 A, mw13 A, ms13 A, mr14 A, mw14 A, ms14 A, mf0, mf1, mf2, mf3, mf4, mf5, mf6, mg0, mg1, mg2, mg3, mg4, mg5, mg6, mg7, mg8, mg9, mg10, mg11, mg12, mg13, mg14, mg15, mg16, mg17, mg18, mg19, mg20, mg21, mgl, Nat.reduceLT, va_up_self]
      have hii : nI pre.length + (-1) + 1 = nI pre.length := by
        rw [Int32.add_assoc]
        show nI pre.length + ((-1 : Int32) + 1) = _
        rw [show ((-1 : Int32) + 1) = 0 by decide, Int32.add_zero]
      rw [hii]
      exact ih pre _ M3 (.int (nI j)) (B + 1) R3 (W.grant ho) rfl (by simp at hB; omega) hk
theorem c_looks (A : ADok mo ad) {σ : Sg} {M : MS} {B : Nat} (R : RM σ th M) (W : Wf σ B) (hB : B < 31000) (hk : ∀ M', RM (looksF σ) th M' → K (.inl none) (mv h mo ad M')) : CRd TTv E (d + 2) mX5_looks [.ref mo] (mv h mo ad M) c n K := by
  refine crd rfl ?_
  show Ev E (d + 1) mX5_looks K 0 [.ref mo, .retAddr 0, .retAddr 0] [] _ c n
  simp only [eX5_looks_0, eX5_looks_1, isA_r, isA_n, isI_i, isF_f, isL_l, is1_i, is1_r, is1_n, is1_f, true_and, and_true, List.length_cons, List.length_nil, Nat.reduceAdd, Nat.reduceLeDiff, Nat.reduceSub, Option.some.injEq, exists_eq_left', aft_s, aft_n, ite_true, ite_false, if_true, if_false, Nat.zero_le, Nat.le_refl, reduceCtorEq]
  have hl := W.len
  exact l_looks A (s_od σ) [] σ M _ B R W rfl (by omega) hk
end MD4
