def sig1 (σ : Sg) (s k j : Nat) : Option Sg :=
  if s_se σ j = s then (if k = 115 then (if cstop σ j = false then none else some (stopsF σ j)) else if k = 103 then (if s_st σ j = 115 then some (goesOnF σ j) else none) else (if over σ j = false then some (endsF σ j 107) else none)) else none
def sigL (s k : Nat) : Nat → Nat → Sg → Nat → Nat × Sg
  | 0, _, σ, n => (n, σ)
  | m + 1, j, σ, n => match sig1 σ s k j with
    | none => sigL s k m (j + 1) σ n
    | some τ => sigL s k m (j + 1) τ (n + 1)
theorem z1 : ((115 : Int32) = 103) = False := eq_false (by decide)
theorem z2 : ((115 : Int32) = 107) = False := eq_false (by decide)
theorem z3 : ((103 : Int32) = 115) = False := eq_false (by decide)
theorem z4 : ((103 : Int32) = 107) = False := eq_false (by decide)
theorem z5 : ((107 : Int32) = 115) = False := eq_false (by decide)
theorem z6 : ((107 : Int32) = 103) = False := eq_false (by decide)
theorem cstop_over {σ : Sg} {j : Nat} (h : cstop σ j = true) : over σ j = false := by
  unfold cstop at h
  unfold over
  simp at h
  rcases h with h | h <;> rw [h] <;> rfl
section MD16
variable {E : EN} {d : Nat} {h : AH} {c n : Nat} {K : Out → AH → Prop} {mo : Nat} {ad : Nat → Nat}
/-- what one job's turn does -/
def turn (E : EN) (d : Nat) (h : AH) (c n : Nat) (K : Out → AH → Prop) (mo : Nat) (ad : Nat → Nat) (s k j cnt : Nat) (σ : Sg) (M : MS) : Prop :=
  (sig1 σ s k j = none → Ev E (d + 3) mX5_signal K 39 [.ref mo, .int (nI s), .int (nI k), .int (nI cnt), .int (nI (j + 1))] [] (mv h mo ad M) c n) →
  (∀ τ M', sig1 σ s k j = some τ → RM τ 0 M' → Ev E (d + 3) mX5_signal K 39 [.ref mo, .int (nI s), .int (nI k), .int (nI (cnt + 1)), .int (nI (j + 1))] [] (mv h mo ad M') c n) →
  Ev E (d + 3) mX5_signal K 39 [.ref mo, .int (nI s), .int (nI k), .int (nI cnt), .int (nI j)] [] (mv h mo ad M) c n
theorem turn_no (A : ADok mo ad) {σ : Sg} {M : MS} (R : RM σ 0 M) (O : Ok σ) {s k j cnt : Nat} (hs : s < s_nS σ) (hj : j < s_nJ σ) (hse : s_se σ j ≠ s) : turn E d h c n K mo ad s k j cnt σ M := by
  intro h0 _
  have hJ := O.J
  have hS := O.S
  have e1 : (nI j).toNatClampNeg = j := nI_clamp (by omega)
  have b7 := R.2.2.2.2.2.2.2.2.1 j hj
  have hse1 := (O.job hj).1
  have hq : (nI (s_se σ j) = nI s) ↔ s_se σ j = s := nI_eq (by omega) (by omega)
  rw [hX5_signal_39]
  simp only [eX5_signal_41, eX5_signal_42, eX5_signal_45, eX5_signal_48, eX5_signal_49, eX5_signal_52, eX5_signal_54, eX5_signal_55, isA_r, isA_n, isI_i, isF_f, isL_l, is1_i, is1_r, is1_n, is1_f, true_and, and_true, List.length_cons, List.length_nil, Nat.reduceAdd, Nat.reduceLeDiff, Nat.reduceSub, Option.some.injEq, exists_eq_left', aft_s, aft_n, ite_true, ite_false, if_true, if_false, Nat.zero_le, Nat.le_refl, reduceCtorEq, mv_ob, mr0 A, mw0 A, ms0 A, mr1 A, mw1 A, ms1 A, mr2 A, mw2 A, ms2 A, mr3 A, mw3 A, ms3 A, mr4 A, mw4 A, ms4 A, mr5 A, mw5 A, ms5 A, mr6 A, mw6 A, ms6 A, mr7 A, mw7 A, ms7 A, mr8 A, mw8 A, ms8 A, mr9 A, mw9 A, ms9 A, mr10 A, mw10 A, ms10 A, mr11 A, mw11 A, ms11 A, mr12 A, mw12 A, ms12 A, mr13 A, mw13 A, ms13 A, mr14 A, mw14 A, ms14 A, mf0, mf1, mf2, mf3, mf4, mf5, mf6, mg0, mg1, mg2, mg3, mg4, mg5, mg6, mg7, mg8, mg9, mg10, mg11, mg12, mg13, mg14, mg15, mg16, mg17, mg18, mg19, mg20, mg21, mgl, Nat.reduceLT, va_up_self, R.1.2.2.1, if_pos (nI_lt hj (by omega)), inB_nI (show j < 30 by omega) (by decide), e1, b7]
  rw [eX5_signal_56, if_neg (fun z => hse (hq.mp z))]
  simp only [eX5_signal_151, eX5_signal_154, isA_r, isA_n, isI_i, isF_f, isL_l, is1_i, is1_r, is1_n, is1_f, true_and, and_true, List.length_cons, List.length_nil, Nat.reduceAdd, Nat.reduceLeDiff, Nat.reduceSub, Option.some.injEq, exists_eq_left', aft_s, aft_n, ite_true, ite_false, if_true, if_false, Nat.zero_le, Nat.le_refl, reduceCtorEq, nI_1]
  exact h0 (by unfold sig1; rw [if_neg hse])
theorem turn_s (A : ADok mo ad) {σ : Sg} {M : MS} (R : RM σ 0 M) (O : Ok σ) {B : Nat} (hB : B + 1 < 31000) (hb : (s_jn σ).length ≤ B) {s j cnt : Nat} (hs : s < s_nS σ) (hj : j < s_nJ σ) (hse : s_se σ j = s) : turn E d h c n K mo ad s 115 j cnt σ M := by
  intro h0 h1
  have hJ := O.J
  have hS := O.S
  have e1 : (nI j).toNatClampNeg = j := nI_clamp (by omega)
  have b7 := R.2.2.2.2.2.2.2.2.1 j hj
  have hs1 : ∀ x, sig1 σ s 115 j = x ↔ (if cstop σ j = false then none else some (stopsF σ j)) = x := fun x => by unfold sig1; rw [if_pos hse, if_pos rfl]
  rw [hX5_signal_39]
  simp only [eX5_signal_41, eX5_signal_42, eX5_signal_45, eX5_signal_48, eX5_signal_49, eX5_signal_52, eX5_signal_54, eX5_signal_55, isA_r, isA_n, isI_i, isF_f, isL_l, is1_i, is1_r, is1_n, is1_f, true_and, and_true, List.length_cons, List.length_nil, Nat.reduceAdd, Nat.reduceLeDiff, Nat.reduceSub, Option.some.injEq, exists_eq_left', aft_s, aft_n, ite_true, ite_false, if_true, if_false, Nat.zero_le, Nat.le_refl, reduceCtorEq, mv_ob, mr0 A, mw0 A, ms0 A, mr1 A, mw1 A, ms1 A, mr2 A, mw2 A, ms2 A, mr3 A, mw3 A, ms3 A, mr4 A, mw4 A, ms4 A, mr5 A, mw5 A, ms5 A, mr6 A, mw6 A, ms6 A, mr7 A, mw7 A, ms7 A, mr8 A, mw8 A, ms8 A, mr9 A, mw9 A, ms9 A, mr10 A, mw10 A, ms10 A, mr11 A, mw11 A, ms11 A, mr12 A, mw12 A, ms12 A, mr13 A, mw13 A, ms13 A, mr14 A, mw14 A, ms14 A, mf0, mf1, mf2, mf3, mf4, mf5, mf6, mg0, mg1, mg2, mg3, mg4, mg5, mg6, mg7, mg8, mg9, mg10, mg11, mg12, mg13, mg14, mg15, mg16, mg17, mg18, mg19, mg20, mg21, mgl, Nat.reduceLT, va_up_self, R.1.2.2.1, if_pos (nI_lt hj (by omega)), inB_nI (show j < 30 by omega) (by decide), e1, b7]
  rw [eX5_signal_56, if_pos (by rw [hse])]
  simp only [eX5_signal_59, eX5_signal_60, isA_r, isA_n, isI_i, isF_f, isL_l, is1_i, is1_r, is1_n, is1_f, true_and, and_true, List.length_cons, List.length_nil, Nat.reduceAdd, Nat.reduceLeDiff, Nat.reduceSub, Option.some.injEq, exists_eq_left', aft_s, aft_n, ite_true, ite_false, if_true, if_false, Nat.zero_le, Nat.le_refl, reduceCtorEq]
  rw [eX5_signal_62, if_pos (show nI 115 = 115 by decide)]
  simp only [eX5_signal_65, eX5_signal_66, eX5_signal_68, isA_r, isA_n, isI_i, isF_f, isL_l, is1_i, is1_r, is1_n, is1_f, true_and, and_true, List.length_cons, List.length_nil, Nat.reduceAdd, Nat.reduceLeDiff, Nat.reduceSub, Option.some.injEq, exists_eq_left', aft_s, aft_n, ite_true, ite_false, if_true, if_false, Nat.zero_le, Nat.le_refl, reduceCtorEq, mv_ob, mr0 A, mw0 A, ms0 A, mr1 A, mw1 A, ms1 A, mr2 A, mw2 A, ms2 A, mr3 A, mw3 A, ms3 A, mr4 A, mw4 A, ms4 A, mr5 A, mw5 A, ms5 A, mr6 A, mw6 A, ms6 A, mr7 A, mw7 A, ms7 A, mr8 A, mw8 A, ms8 A, mr9 A, mw9 A, ms9 A, mr10 A, mw10 A, ms10 A, mr11 A, mw11 A, ms11 A, mr12 A, mw12 A, ms12 A, mr13 A, mw13 A, ms13 A, mr14 A, mw14 A, ms14 A, mf0, mf1, mf2, mf3, mf4, mf5, mf6, mg0, mg1, mg2, mg3, mg4, mg5, mg6, mg7, mg8, mg9, mg10, mg11, mg12, mg13, mg14, mg15, mg16, mg17, mg18, mg19, mg20, mg21, mgl, Nat.reduceLT, va_up_self, exists_eq']
  refine inv0 (c_canStop A R hj hJ (O.job hj).2.2.1 ?_)
  simp only [aft_s, Nat.reduceAdd]
  refine (eX5_signal_71).mpr ?_
  by_cases hc : cstop σ j = false
  · rw [if_pos (b2_0.mpr hc)]
    simp only [eX5_signal_151, eX5_signal_154, isA_r, isA_n, isI_i, isF_f, isL_l, is1_i, is1_r, is1_n, is1_f, true_and, and_true, List.length_cons, List.length_nil, Nat.reduceAdd, Nat.reduceLeDiff, Nat.reduceSub, Option.some.injEq, exists_eq_left', aft_s, aft_n, ite_true, ite_false, if_true, if_false, Nat.zero_le, Nat.le_refl, reduceCtorEq, nI_1]
    exact h0 ((hs1 _).mpr (if_pos hc))
  · rw [if_neg (fun z => hc (b2_0.mp z))]
    simp only [eX5_signal_74, eX5_signal_110, eX5_signal_113, eX5_signal_114, isA_r, isA_n, isI_i, isF_f, isL_l, is1_i, is1_r, is1_n, is1_f, true_and, and_true, List.length_cons, List.length_nil, Nat.reduceAdd, Nat.reduceLeDiff, Nat.reduceSub, Option.some.injEq, exists_eq_left', aft_s, aft_n, ite_true, ite_false, if_true, if_false, Nat.zero_le, Nat.le_refl, reduceCtorEq, nI_1]
    rw [eX5_signal_116, if_pos (show nI 115 = 115 by decide)]
    simp only [eX5_signal_119, eX5_signal_120, eX5_signal_122, isA_r, isA_n, isI_i, isF_f, isL_l, is1_i, is1_r, is1_n, is1_f, true_and, and_true, List.length_cons, List.length_nil, Nat.reduceAdd, Nat.reduceLeDiff, Nat.reduceSub, Option.some.injEq, exists_eq_left', aft_s, aft_n, ite_true, ite_false, if_true, if_false, Nat.zero_le, Nat.le_refl, reduceCtorEq, mv_ob, mr0 A, mw0 A, ms0 A, mr1 A, mw1 A, ms1 A, mr2 A, mw2 A, ms2 A, mr3 A, mw3 A, ms3 A, mr4 A, mw4 A, ms4 A, mr5 A, mw5 A, ms5 A, mr6 A, mw6 A, ms6 A, mr7 A, mw7 A, ms7 A, mr8 A, mw8 A, ms8 A, mr9 A, mw9 A, ms9 A, mr10 A, mw10 A, ms10 A, mr11 A, mw11 A, ms11 A, mr12 A, mw12 A, ms12 A, mr13 A, mw13 A, ms13 A, mr14 A, mw14 A, ms14 A, mf0, mf1, mf2, mf3, mf4, mf5, mf6, mg0, mg1, mg2, mg3, mg4, mg5, mg6, mg7, mg8, mg9, mg10, mg11, mg12, mg13, mg14, mg15, mg16, mg17, mg18, mg19, mg20, mg21, mgl, Nat.reduceLT, va_up_self, exists_eq']
    refine inv0 (c_stops A R (O.wf hb) hB hj (fun M2 R2 => ?_))
    simp only [aft_n, Nat.reduceAdd]
    simp only [eX5_signal_125, eX5_signal_126, isA_r, isA_n, isI_i, isF_f, isL_l, is1_i, is1_r, is1_n, is1_f, true_and, and_true, List.length_cons, List.length_nil, Nat.reduceAdd, Nat.reduceLeDiff, Nat.reduceSub, Option.some.injEq, exists_eq_left', aft_s, aft_n, ite_true, ite_false, if_true, if_false, Nat.zero_le, Nat.le_refl, reduceCtorEq]
    rw [eX5_signal_128, if_neg (show ¬ nI 115 = 103 by decide)]
    simp only [eX5_signal_137, eX5_signal_138, isA_r, isA_n, isI_i, isF_f, isL_l, is1_i, is1_r, is1_n, is1_f, true_and, and_true, List.length_cons, List.length_nil, Nat.reduceAdd, Nat.reduceLeDiff, Nat.reduceSub, Option.some.injEq, exists_eq_left', aft_s, aft_n, ite_true, ite_false, if_true, if_false, Nat.zero_le, Nat.le_refl, reduceCtorEq]
    rw [eX5_signal_140, if_neg (show ¬ nI 115 = 107 by decide)]
    simp only [eX5_signal_151, eX5_signal_154, isA_r, isA_n, isI_i, isF_f, isL_l, is1_i, is1_r, is1_n, is1_f, true_and, and_true, List.length_cons, List.length_nil, Nat.reduceAdd, Nat.reduceLeDiff, Nat.reduceSub, Option.some.injEq, exists_eq_left', aft_s, aft_n, ite_true, ite_false, if_true, if_false, Nat.zero_le, Nat.le_refl, reduceCtorEq, nI_1]
    exact h1 _ _ ((hs1 _).mpr (if_neg hc)) R2
theorem turn_g (A : ADok mo ad) {σ : Sg} {M : MS} (R : RM σ 0 M) (O : Ok σ) {B : Nat} (hB : B + 1 < 31000) (hb : (s_jn σ).length ≤ B) {s j cnt : Nat} (hs : s < s_nS σ) (hj : j < s_nJ σ) (hse : s_se σ j = s) : turn E d h c n K mo ad s 103 j cnt σ M := by
  intro h0 h1
  have hJ := O.J
  have hS := O.S
  have e1 : (nI j).toNatClampNeg = j := nI_clamp (by omega)
  have b7 := R.2.2.2.2.2.2.2.2.1 j hj
  have b10 := R.2.2.2.2.2.2.2.2.2.2.2.1 j hj
  have h5 := st_115 (O.job hj).2.2.1
  have hs1 : ∀ x, sig1 σ s 103 j = x ↔ (if s_st σ j = 115 then some (goesOnF σ j) else none) = x := fun x => by unfold sig1; rw [if_pos hse, if_neg (by decide), if_pos rfl]
  rw [hX5_signal_39]
  simp only [eX5_signal_41, eX5_signal_42, eX5_signal_45, eX5_signal_48, eX5_signal_49, eX5_signal_52, eX5_signal_54, eX5_signal_55, isA_r, isA_n, isI_i, isF_f, isL_l, is1_i, is1_r, is1_n, is1_f, true_and, and_true, List.length_cons, List.length_nil, Nat.reduceAdd, Nat.reduceLeDiff, Nat.reduceSub, Option.some.injEq, exists_eq_left', aft_s, aft_n, ite_true, ite_false, if_true, if_false, Nat.zero_le, Nat.le_refl, reduceCtorEq, mv_ob, mr0 A, mw0 A, ms0 A, mr1 A, mw1 A, ms1 A, mr2 A, mw2 A, ms2 A, mr3 A, mw3 A, ms3 A, mr4 A, mw4 A, ms4 A, mr5 A, mw5 A, ms5 A, mr6 A, mw6 A, ms6 A, mr7 A, mw7 A, ms7 A, mr8 A, mw8 A, ms8 A, mr9 A, mw9 A, ms9 A, mr10 A, mw10 A, ms10 A, mr11 A, mw11 A, ms11 A, mr12 A, mw12 A, ms12 A, mr13 A, mw13 A, ms13 A, mr14 A, mw14 A, ms14 A, mf0, mf1, mf2, mf3, mf4, mf5, mf6, mg0, mg1, mg2, mg3, mg4, mg5, mg6, mg7, mg8, mg9, mg10, mg11, mg12, mg13, mg14, mg15, mg16, mg17, mg18, mg19, mg20, mg21, mgl, Nat.reduceLT, va_up_self, R.1.2.2.1, if_pos (nI_lt hj (by omega)), inB_nI (show j < 30 by omega) (by decide), e1, b7]
  rw [eX5_signal_56, if_pos (by rw [hse])]
  simp only [eX5_signal_59, eX5_signal_60, isA_r, isA_n, isI_i, isF_f, isL_l, is1_i, is1_r, is1_n, is1_f, true_and, and_true, List.length_cons, List.length_nil, Nat.reduceAdd, Nat.reduceLeDiff, Nat.reduceSub, Option.some.injEq, exists_eq_left', aft_s, aft_n, ite_true, ite_false, if_true, if_false, Nat.zero_le, Nat.le_refl, reduceCtorEq]
  rw [eX5_signal_62, if_neg (show ¬ nI 103 = 115 by decide)]
  simp only [eX5_signal_77, eX5_signal_78, isA_r, isA_n, isI_i, isF_f, isL_l, is1_i, is1_r, is1_n, is1_f, true_and, and_true, List.length_cons, List.length_nil, Nat.reduceAdd, Nat.reduceLeDiff, Nat.reduceSub, Option.some.injEq, exists_eq_left', aft_s, aft_n, ite_true, ite_false, if_true, if_false, Nat.zero_le, Nat.le_refl, reduceCtorEq]
  rw [eX5_signal_80, if_pos (show nI 103 = 103 by decide)]
  simp only [eX5_signal_83, eX5_signal_84, eX5_signal_87, eX5_signal_89, eX5_signal_90, isA_r, isA_n, isI_i, isF_f, isL_l, is1_i, is1_r, is1_n, is1_f, true_and, and_true, List.length_cons, List.length_nil, Nat.reduceAdd, Nat.reduceLeDiff, Nat.reduceSub, Option.some.injEq, exists_eq_left', aft_s, aft_n, ite_true, ite_false, if_true, if_false, Nat.zero_le, Nat.le_refl, reduceCtorEq, mv_ob, mr0 A, mw0 A, ms0 A, mr1 A, mw1 A, ms1 A, mr2 A, mw2 A, ms2 A, mr3 A, mw3 A, ms3 A, mr4 A, mw4 A, ms4 A, mr5 A, mw5 A, ms5 A, mr6 A, mw6 A, ms6 A, mr7 A, mw7 A, ms7 A, mr8 A, mw8 A, ms8 A, mr9 A, mw9 A, ms9 A, mr10 A, mw10 A, ms10 A, mr11 A, mw11 A, ms11 A, mr12 A, mw12 A, ms12 A, mr13 A, mw13 A, ms13 A, mr14 A, mw14 A, ms14 A, mf0, mf1, mf2, mf3, mf4, mf5, mf6, mg0, mg1, mg2, mg3, mg4, mg5, mg6, mg7, mg8, mg9, mg10, mg11, mg12, mg13, mg14, mg15, mg16, mg17, mg18, mg19, mg20, mg21, mgl, Nat.reduceLT, va_up_self, inB_nI (show j < 30 by omega) (by decide), e1, b10]
  rw [eX5_signal_92]
  by_cases hc : s_st σ j = 115
  · rw [if_pos (h5.mpr hc)]
    simp only [eX5_signal_95, eX5_signal_110, eX5_signal_113, eX5_signal_114, isA_r, isA_n, isI_i, isF_f, isL_l, is1_i, is1_r, is1_n, is1_f, true_and, and_true, List.length_cons, List.length_nil, Nat.reduceAdd, Nat.reduceLeDiff, Nat.reduceSub, Option.some.injEq, exists_eq_left', aft_s, aft_n, ite_true, ite_false, if_true, if_false, Nat.zero_le, Nat.le_refl, reduceCtorEq, nI_1]
    rw [eX5_signal_116, if_neg (show ¬ nI 103 = 115 by decide)]
    simp only [eX5_signal_125, eX5_signal_126, isA_r, isA_n, isI_i, isF_f, isL_l, is1_i, is1_r, is1_n, is1_f, true_and, and_true, List.length_cons, List.length_nil, Nat.reduceAdd, Nat.reduceLeDiff, Nat.reduceSub, Option.some.injEq, exists_eq_left', aft_s, aft_n, ite_true, ite_false, if_true, if_false, Nat.zero_le, Nat.le_refl, reduceCtorEq]
    rw [eX5_signal_128, if_pos (show nI 103 = 103 by decide)]
    simp only [eX5_signal_131, eX5_signal_132, eX5_signal_134, isA_r, isA_n, isI_i, isF_f, isL_l, is1_i, is1_r, is1_n, is1_f, true_and, and_true, List.length_cons, List.length_nil, Nat.reduceAdd, Nat.reduceLeDiff, Nat.reduceSub, Option.some.injEq, exists_eq_left', aft_s, aft_n, ite_true, ite_false, if_true, if_false, Nat.zero_le, Nat.le_refl, reduceCtorEq, mv_ob, mr0 A, mw0 A, ms0 A, mr1 A, mw1 A, ms1 A, mr2 A, mw2 A, ms2 A, mr3 A, mw3 A, ms3 A, mr4 A, mw4 A, ms4 A, mr5 A, mw5 A, ms5 A, mr6 A, mw6 A, ms6 A, mr7 A, mw7 A, ms7 A, mr8 A, mw8 A, ms8 A, mr9 A, mw9 A, ms9 A, mr10 A, mw10 A, ms10 A, mr11 A, mw11 A, ms11 A, mr12 A, mw12 A, ms12 A, mr13 A, mw13 A, ms13 A, mr14 A, mw14 A, ms14 A, mf0, mf1, mf2, mf3, mf4, mf5, mf6, mg0, mg1, mg2, mg3, mg4, mg5, mg6, mg7, mg8, mg9, mg10, mg11, mg12, mg13, mg14, mg15, mg16, mg17, mg18, mg19, mg20, mg21, mgl, Nat.reduceLT, va_up_self, exists_eq']
    refine inv0 (c_goesOn A R (O.wf hb) hB hj O.S (O.job hj).1 (fun i hi => O.pk hi) (fun _ hm => absurd ((O.2.2.1.2 j).mp hm).2 (by omega)) (fun M2 R2 => ?_))
    simp only [aft_n, Nat.reduceAdd]
    simp only [eX5_signal_137, eX5_signal_138, isA_r, isA_n, isI_i, isF_f, isL_l, is1_i, is1_r, is1_n, is1_f, true_and, and_true, List.length_cons, List.length_nil, Nat.reduceAdd, Nat.reduceLeDiff, Nat.reduceSub, Option.some.injEq, exists_eq_left', aft_s, aft_n, ite_true, ite_false, if_true, if_false, Nat.zero_le, Nat.le_refl, reduceCtorEq]
    rw [eX5_signal_140, if_neg (show ¬ nI 103 = 107 by decide)]
    simp only [eX5_signal_151, eX5_signal_154, isA_r, isA_n, isI_i, isF_f, isL_l, is1_i, is1_r, is1_n, is1_f, true_and, and_true, List.length_cons, List.length_nil, Nat.reduceAdd, Nat.reduceLeDiff, Nat.reduceSub, Option.some.injEq, exists_eq_left', aft_s, aft_n, ite_true, ite_false, if_true, if_false, Nat.zero_le, Nat.le_refl, reduceCtorEq, nI_1]
    exact h1 _ _ ((hs1 _).mpr (if_pos hc)) R2
  · rw [if_neg (fun z => hc (h5.mp z))]
    simp only [eX5_signal_151, eX5_signal_154, isA_r, isA_n, isI_i, isF_f, isL_l, is1_i, is1_r, is1_n, is1_f, true_and, and_true, List.length_cons, List.length_nil, Nat.reduceAdd, Nat.reduceLeDiff, Nat.reduceSub, Option.some.injEq, exists_eq_left', aft_s, aft_n, ite_true, ite_false, if_true, if_false, Nat.zero_le, Nat.le_refl, reduceCtorEq, nI_1]
    exact h0 ((hs1 _).mpr (if_neg hc))
theorem turn_k (A : ADok mo ad) {σ : Sg} {M : MS} (R : RM σ 0 M) (O : Ok σ) {B : Nat} (hB : B + 1 < 31000) (hb : (s_jn σ).length ≤ B) {s j cnt : Nat} (hs : s < s_nS σ) (hj : j < s_nJ σ) (hse : s_se σ j = s) : turn E d h c n K mo ad s 107 j cnt σ M := by
  intro h0 h1
  have hJ := O.J
  have hS := O.S
  have e1 : (nI j).toNatClampNeg = j := nI_clamp (by omega)
  have b7 := R.2.2.2.2.2.2.2.2.1 j hj
  have hs1 : ∀ x, sig1 σ s 107 j = x ↔ (if over σ j = false then some (endsF σ j 107) else none) = x := fun x => by unfold sig1; rw [if_pos hse, if_neg (by decide), if_neg (by decide)]
  rw [hX5_signal_39]
  simp only [eX5_signal_41, eX5_signal_42, eX5_signal_45, eX5_signal_48, eX5_signal_49, eX5_signal_52, eX5_signal_54, eX5_signal_55, isA_r, isA_n, isI_i, isF_f, isL_l, is1_i, is1_r, is1_n, is1_f, true_and, and_true, List.length_cons, List.length_nil, Nat.reduceAdd, Nat.reduceLeDiff, Nat.reduceSub, Option.some.injEq, exists_eq_left', aft_s, aft_n, ite_true, ite_false, if_true, if_false, Nat.zero_le, Nat.le_refl, reduceCtorEq, mv_ob, mr0 A, mw0 A, ms0 A, mr1 A, mw1 A, ms1 A, mr2 A, mw2 A, ms2 A, mr3 A, mw3 A, ms3 A, mr4 A, mw4 A, ms4 A, mr5 A, mw5 A, ms5 A, mr6 A, mw6 A, ms6 A, mr7 A, mw7 A, ms7 A, mr8 A, mw8 A, ms8 A, mr9 A, mw9 A, ms9 A, mr10 A, mw10 A, ms10 A, mr11 A, mw11 A, ms11 A, mr12 A, mw12 A, ms12 A, mr13 A, mw13 A, ms13 A, mr14 A, mw14 A, ms14 A, mf0, mf1, mf2, mf3, mf4, mf5, mf6, mg0, mg1, mg2, mg3, mg4, mg5, mg6, mg7, mg8, mg9, mg10, mg11, mg12, mg13, mg14, mg15, mg16, mg17, mg18, mg19, mg20, mg21, mgl, Nat.reduceLT, va_up_self, R.1.2.2.1, if_pos (nI_lt hj (by omega)), inB_nI (show j < 30 by omega) (by decide), e1, b7]
  rw [eX5_signal_56, if_pos (by rw [hse])]
  simp only [eX5_signal_59, eX5_signal_60, isA_r, isA_n, isI_i, isF_f, isL_l, is1_i, is1_r, is1_n, is1_f, true_and, and_true, List.length_cons, List.length_nil, Nat.reduceAdd, Nat.reduceLeDiff, Nat.reduceSub, Option.some.injEq, exists_eq_left', aft_s, aft_n, ite_true, ite_false, if_true, if_false, Nat.zero_le, Nat.le_refl, reduceCtorEq]
  rw [eX5_signal_62, if_neg (show ¬ nI 107 = 115 by decide)]
  simp only [eX5_signal_77, eX5_signal_78, isA_r, isA_n, isI_i, isF_f, isL_l, is1_i, is1_r, is1_n, is1_f, true_and, and_true, List.length_cons, List.length_nil, Nat.reduceAdd, Nat.reduceLeDiff, Nat.reduceSub, Option.some.injEq, exists_eq_left', aft_s, aft_n, ite_true, ite_false, if_true, if_false, Nat.zero_le, Nat.le_refl, reduceCtorEq]
  rw [eX5_signal_80, if_neg (show ¬ nI 107 = 103 by decide)]
  simp only [eX5_signal_98, eX5_signal_99, eX5_signal_101, isA_r, isA_n, isI_i, isF_f, isL_l, is1_i, is1_r, is1_n, is1_f, true_and, and_true, List.length_cons, List.length_nil, Nat.reduceAdd, Nat.reduceLeDiff, Nat.reduceSub, Option.some.injEq, exists_eq_left', aft_s, aft_n, ite_true, ite_false, if_true, if_false, Nat.zero_le, Nat.le_refl, reduceCtorEq, mv_ob, mr0 A, mw0 A, ms0 A, mr1 A, mw1 A, ms1 A, mr2 A, mw2 A, ms2 A, mr3 A, mw3 A, ms3 A, mr4 A, mw4 A, ms4 A, mr5 A, mw5 A, ms5 A, mr6 A, mw6 A, ms6 A, mr7 A, mw7 A, ms7 A, mr8 A, mw8 A, ms8 A, mr9 A, mw9 A, ms9 A, mr10 A, mw10 A, ms10 A, mr11 A, mw11 A, ms11 A, mr12 A, mw12 A, ms12 A, mr13 A, mw13 A, ms13 A, mr14 A, mw14 A, ms14 A, mf0, mf1, mf2, mf3, mf4, mf5, mf6, mg0, mg1, mg2, mg3, mg4, mg5, mg6, mg7, mg8, mg9, mg10, mg11, mg12, mg13, mg14, mg15, mg16, mg17, mg18, mg19, mg20, mg21, mgl, Nat.reduceLT, va_up_self, exists_eq']
  refine inv0 (c_isOver A R hj hJ (O.job hj).2.2.1 ?_)
  simp only [aft_s, Nat.reduceAdd]
  refine (eX5_signal_104).mpr ?_
  by_cases hc : over σ j = false
  · rw [if_pos (b2_0.mpr hc)]
    simp only [eX5_signal_110, eX5_signal_113, eX5_signal_114, isA_r, isA_n, isI_i, isF_f, isL_l, is1_i, is1_r, is1_n, is1_f, true_and, and_true, List.length_cons, List.length_nil, Nat.reduceAdd, Nat.reduceLeDiff, Nat.reduceSub, Option.some.injEq, exists_eq_left', aft_s, aft_n, ite_true, ite_false, if_true, if_false, Nat.zero_le, Nat.le_refl, reduceCtorEq, nI_1]
    rw [eX5_signal_116, if_neg (show ¬ nI 107 = 115 by decide)]
    simp only [eX5_signal_125, eX5_signal_126, isA_r, isA_n, isI_i, isF_f, isL_l, is1_i, is1_r, is1_n, is1_f, true_and, and_true, List.length_cons, List.length_nil, Nat.reduceAdd, Nat.reduceLeDiff, Nat.reduceSub, Option.some.injEq, exists_eq_left', aft_s, aft_n, ite_true, ite_false, if_true, if_false, Nat.zero_le, Nat.le_refl, reduceCtorEq]
    rw [eX5_signal_128, if_neg (show ¬ nI 107 = 103 by decide)]
    simp only [eX5_signal_137, eX5_signal_138, isA_r, isA_n, isI_i, isF_f, isL_l, is1_i, is1_r, is1_n, is1_f, true_and, and_true, List.length_cons, List.length_nil, Nat.reduceAdd, Nat.reduceLeDiff, Nat.reduceSub, Option.some.injEq, exists_eq_left', aft_s, aft_n, ite_true, ite_false, if_true, if_false, Nat.zero_le, Nat.le_refl, reduceCtorEq]
    rw [eX5_signal_140, if_pos (show nI 107 = 107 by decide)]
    simp only [eX5_signal_143, eX5_signal_144, eX5_signal_146, eX5_signal_148, isA_r, isA_n, isI_i, isF_f, isL_l, is1_i, is1_r, is1_n, is1_f, true_and, and_true, List.length_cons, List.length_nil, Nat.reduceAdd, Nat.reduceLeDiff, Nat.reduceSub, Option.some.injEq, exists_eq_left', aft_s, aft_n, ite_true, ite_false, if_true, if_false, Nat.zero_le, Nat.le_refl, reduceCtorEq, mv_ob, mr0 A, mw0 A, ms0 A, mr1 A, mw1 A, ms1 A, mr2 A, mw2 A, ms2 A, mr3 A, mw3 A, ms3 A, mr4 A, mw4 A, ms4 A, mr5 A, mw5 A, ms5 A, mr6 A, mw6 A, ms6 A, mr7 A, mw7 A, ms7 A, mr8 A, mw8 A, ms8 A, mr9 A, mw9 A, ms9 A, mr10 A, mw10 A, ms10 A, mr11 A, mw11 A, ms11 A, mr12 A, mw12 A, ms12 A, mr13 A, mw13 A, ms13 A, mr14 A, mw14 A, ms14 A, mf0, mf1, mf2, mf3, mf4, mf5, mf6, mg0, mg1, mg2, mg3, mg4, mg5, mg6, mg7, mg8, mg9, mg10, mg11, mg12, mg13, mg14, mg15, mg16, mg17, mg18, mg19, mg20, mg21, mgl, Nat.reduceLT, va_up_self, exists_eq']
    refine inv0 (c_ends A R (how := 107) (O.wf hb) hB hj O.S (O.job hj).1 (fun i hi => O.fr hi) (fun M2 R2 => ?_))
    simp only [aft_n, Nat.reduceAdd]
    simp only [eX5_signal_151, eX5_signal_154, isA_r, isA_n, isI_i, isF_f, isL_l, is1_i, is1_r, is1_n, is1_f, true_and, and_true, List.length_cons, List.length_nil, Nat.reduceAdd, Nat.reduceLeDiff, Nat.reduceSub, Option.some.injEq, exists_eq_left', aft_s, aft_n, ite_true, ite_false, if_true, if_false, Nat.zero_le, Nat.le_refl, reduceCtorEq, nI_1]
    exact h1 _ _ ((hs1 _).mpr (if_pos hc)) R2
  · rw [if_neg (fun z => hc (b2_0.mp z))]
    simp only [eX5_signal_107, eX5_signal_151, eX5_signal_154, isA_r, isA_n, isI_i, isF_f, isL_l, is1_i, is1_r, is1_n, is1_f, true_and, and_true, List.length_cons, List.length_nil, Nat.reduceAdd, Nat.reduceLeDiff, Nat.reduceSub, Option.some.injEq, exists_eq_left', aft_s, aft_n, ite_true, ite_false, if_true, if_false, Nat.zero_le, Nat.le_refl, reduceCtorEq, nI_1]
    exact h0 ((hs1 _).mpr (if_neg hc))
theorem turn_any (A : ADok mo ad) {σ : Sg} {M : MS} (R : RM σ 0 M) (O : Ok σ) {B : Nat} (hB : B + 1 < 31000) (hb : (s_jn σ).length ≤ B) {s k j cnt : Nat} (hk : k = 115 ∨ k = 103 ∨ k = 107) (hs : s < s_nS σ) (hj : j < s_nJ σ) : turn E d h c n K mo ad s k j cnt σ M := by
  by_cases hse : s_se σ j = s
  · rcases hk with h | h | h
    · subst h; exact turn_s A R O hB hb hs hj hse
    · subst h; exact turn_g A R O hB hb hs hj hse
    · subst h; exact turn_k A R O hB hb hs hj hse
  · exact turn_no A R O hs hj hse
/-- what one job's turn keeps -/
theorem sig1_keep {σ τ : Sg} (O : Ok σ) {s k j T : Nat} (J : Jb σ T) (hj : j < s_nJ σ) (h : sig1 σ s k j = some τ) : Ok τ ∧ Jb τ (T + 1) ∧ Same σ τ := by
  have up : ∀ {υ : Sg}, Jb υ T → Jb υ (T + 1) := fun {υ} h => by unfold Jb at h ⊢; omega
  unfold sig1 at h
  split at h
  · split at h
    · split at h
      · exact absurd h (by simp)
      · next hc =>
        rw [Option.some.injEq] at h
        subst h
        exact ⟨ok_stops O hj, jb_stops O J hj (cstop_over (by simpa using hc)), same_stops⟩
    · split at h
      · split at h
        · next hc =>
          rw [Option.some.injEq] at h
          subst h
          exact ⟨ok_goesOn O hj hc, jb_goesOn O J hj hc, same_goesOn⟩
        · exact absurd h (by simp)
      · split at h
        · next hc =>
          rw [Option.some.injEq] at h
          subst h
          exact ⟨ok_ends O hj (Or.inr rfl), up (jb_ends O J hj hc (Or.inr rfl)), same_ends⟩
        · exact absurd h (by simp)
  · exact absurd h (by simp)
theorem l_signal (A : ADok mo ad) {s k : Nat} (hk : k = 115 ∨ k = 103 ∨ k = 107) : ∀ (m j : Nat) (σ : Sg) (cnt T : Nat) (M : MS), RM σ 0 M → Ok σ → Jb σ T → T + m + 61 < 30999 → m + j = s_nJ σ → s < s_nS σ → (∀ M', RM (sigL s k m j σ cnt).2 0 M' → K (.inl (some (.int (nI (sigL s k m j σ cnt).1)))) (mv h mo ad M')) →
    Ev E (d + 3) mX5_signal K 39 [.ref mo, .int (nI s), .int (nI k), .int (nI cnt), .int (nI j)] [] (mv h mo ad M) c n := by
  intro m
  induction m with
  | zero =>
    intro j σ cnt T M R O J hT hm hs hK
    have hJ := O.J
    rw [hX5_signal_39]
    simp only [eX5_signal_41, eX5_signal_42, eX5_signal_45, eX5_signal_157, eX5_signal_158, isA_r, isA_n, isI_i, isF_f, isL_l, is1_i, is1_r, is1_n, is1_f, true_and, and_true, List.length_cons, List.length_nil, Nat.reduceAdd, Nat.reduceLeDiff, Nat.reduceSub, Option.some.injEq, exists_eq_left', aft_s, aft_n, ite_true, ite_false, if_true, if_false, Nat.zero_le, Nat.le_refl, reduceCtorEq, mv_ob, mr0 A, mw0 A, ms0 A, mr1 A, mw1 A, ms1 A, mr2 A, mw2 A, ms2 A, mr3 A, mw3 A, ms3 A, mr4 A, mw4 A, ms4 A, mr5 A, mw5 A, ms5 A, mr6 A, mw6 A, ms6 A, mr7 A, mw7 A, ms7 A, mr8 A, mw8 A, ms8 A, mr9 A, mw9 A, ms9 A, mr10 A, mw10 A, ms10 A, mr11 A, mw11 A, ms11 A, mr12 A, mw12 A, ms12 A, mr13 A, mw13 A, ms13 A, mr14 A, mw14 A, ms14 A, mf0, mf1, mf2, mf3, mf4, mf5, mf6, mg0, mg1, mg2, mg3, mg4, mg5, mg6, mg7, mg8, mg9, mg10, mg11, mg12, mg13, mg14, mg15, mg16, mg17, mg18, mg19, mg20, mg21, mgl, Nat.reduceLT, va_up_self, R.1.2.2.1, if_neg (nI_nlt (show s_nJ σ ≤ j by omega) (by omega))]
    exact hK _ R
  | succ m ih =>
    intro j σ cnt T M R O J hT hm hs hK
    have hjl : j < s_nJ σ := by omega
    have hb := J.len O.J
    unfold sigL at hK
    refine turn_any (B := T + 60) A R O (by omega) hb hk hs hjl (fun h0 => ?_) (fun τ M' h1 R' => ?_)
    · rw [h0] at hK
      exact ih (j + 1) σ cnt T M R O J (by omega) (by omega) hs hK
    · rw [h1] at hK
      obtain ⟨O', J', S'⟩ := sig1_keep O J hjl h1
      exact ih (j + 1) τ (cnt + 1) (T + 1) M' R' O' J' (by omega) (by rw [S'.2.1]; omega) (by rw [S'.1]; exact hs) hK
end MD16
