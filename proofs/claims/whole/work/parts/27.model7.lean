section MD7
variable {E : EN} {d : Nat} {h : AH} {c n : Nat} {K : Out → AH → Prop} {mo : Nat} {ad : Nat → Nat} {M : MS} {σ : Sg} {th : Nat}
theorem c_front (A : ADok mo ad) (R : RM σ th M) (O : Ok σ) {v : Int32} (hk : ∀ M', RM (q_front σ v).2.2 (q_front σ v).1 M' → K (.inl (some (.int (q_front σ v).2.1))) (mv h mo ad M')) : CRd TTv E (d + 4) mX5_front [.ref mo, .int v] (mv h mo ad M) c n K := by
  refine crd rfl ?_
  show Ev E (d + 3) mX5_front K 0 [.ref mo, .int v] [] _ c n
  have hS := O.S
  have hJ := O.J
  simp only [eX5_front_0, eX5_front_1, eX5_front_2, eX5_front_5, eX5_front_8, eX5_front_9, eX5_front_10, eX5_front_11, eX5_front_14, eX5_front_15, eX5_front_16, eX5_front_17, eX5_front_20, eX5_front_21, eX5_front_22, eX5_front_25, eX5_front_28, eX5_front_29, eX5_front_32, eX5_front_33, eX5_front_34, isA_r, isA_n, isI_i, isF_f, isL_l, is1_i, is1_r, is1_n, is1_f, true_and, and_true, List.length_cons, List.length_nil, Nat.reduceAdd, Nat.reduceLeDiff, Nat.reduceSub, Option.some.injEq, exists_eq_left', aft_s, aft_n, ite_true, ite_false, if_true, if_false, Nat.zero_le, Nat.le_refl, reduceCtorEq, mv_ob, mr0 A, mw0 A, ms0 A, mr1 A, mw1 A, ms1 A, mr2 A, mw2 A, ms2 A, mr3 A, mw3 A, ms3 A, mr4 A, mw4 A, ms4 A, mr5 A, mw5 A, ms5 A, mr6 A, mw6 A, ms6 A, mr7 A, mw7 A, ms7 A, mr8 A, mw8 A, ms8 A, mr9 A, mw9 A, ms9 A, mr10 A, mw10 A, ms10 A, mr11 A, mw11 A, ms11 A, mr12 A, mw12 A, ms12 A, mr13 A, mw13 A, ms13 A, mr14 A, mw14 A, ms14 A, mf0, mf1, mf2, mf3, mf4, mf5, mf6, mg0, mg1, mg2, mg3, mg4, mg5, mg6, mg7, mg8, mg9, mg10, mg11, mg12, mg13, mg14, mg15, mg16, mg17, mg18, mg19, mg20, mg21, mgl, Nat.reduceLT, va_up_self, exists_eq', ok01_b2]
  refine inv0 (c_isSession R O.S (fun s hs hv M1 R1 => ?_) (fun hne M1 R1 => ?_))
  · subst hv
    have e1 : (nI s).toNatClampNeg = s := nI_clamp (by omega)
    have i1 := ix_s hs (by omega)
    have ⟨⟨a0, a1, a2, a3, a4, a5, a6⟩, b0, b1, b2q, b3, b4, b5, b6, b7, b8, b9, b10, b11, b12, b13, b14⟩ := R1
    have hf : ∀ i, s_fr σ s = some i → i < 30 := fun i hi => O.fr hi
    simp only [q_front, i1] at hk
    simp only [eX5_front_0, eX5_front_1, eX5_front_2, eX5_front_5, eX5_front_8, eX5_front_9, eX5_front_10, eX5_front_11, eX5_front_14, eX5_front_15, eX5_front_16, eX5_front_17, eX5_front_20, eX5_front_21, eX5_front_22, eX5_front_25, eX5_front_28, eX5_front_29, eX5_front_32, eX5_front_33, eX5_front_34, isA_r, isA_n, isI_i, isF_f, isL_l, is1_i, is1_r, is1_n, is1_f, true_and, and_true, List.length_cons, List.length_nil, Nat.reduceAdd, Nat.reduceLeDiff, Nat.reduceSub, Option.some.injEq, exists_eq_left', aft_s, aft_n, ite_true, ite_false, if_true, if_false, Nat.zero_le, Nat.le_refl, reduceCtorEq, mv_ob, mr0 A, mw0 A, ms0 A, mr1 A, mw1 A, ms1 A, mr2 A, mw2 A, ms2 A, mr3 A, mw3 A, ms3 A, mr4 A, mw4 A, ms4 A, mr5 A, mw5 A, ms5 A, mr6 A, mw6 A, ms6 A, mr7 A, mw7 A, ms7 A, mr8 A, mw8 A, ms8 A, mr9 A, mw9 A, ms9 A, mr10 A, mw10 A, ms10 A, mr11 A, mw11 A, ms11 A, mr12 A, mw12 A, ms12 A, mr13 A, mw13 A, ms13 A, mr14 A, mw14 A, ms14 A, mf0, mf1, mf2, mf3, mf4, mf5, mf6, mg0, mg1, mg2, mg3, mg4, mg5, mg6, mg7, mg8, mg9, mg10, mg11, mg12, mg13, mg14, mg15, mg16, mg17, mg18, mg19, mg20, mg21, mgl, Nat.reduceLT, va_up_self, i10, i00, inB_nI (show s < 4 by omega) (by decide), e1, b2q s hs, o2_m1 hf, exists_eq']
    cases hc : s_fr σ s with
    | none =>
      simp only [hc, if_true, reduceIte] at hk ⊢
      refine inv0 (c_fails ?_)
      simp only [eX5_front_0, eX5_front_1, eX5_front_2, eX5_front_5, eX5_front_8, eX5_front_9, eX5_front_10, eX5_front_11, eX5_front_14, eX5_front_15, eX5_front_16, eX5_front_17, eX5_front_20, eX5_front_21, eX5_front_22, eX5_front_25, eX5_front_28, eX5_front_29, eX5_front_32, eX5_front_33, eX5_front_34, isA_r, isA_n, isI_i, isF_f, isL_l, is1_i, is1_r, is1_n, is1_f, true_and, and_true, List.length_cons, List.length_nil, Nat.reduceAdd, Nat.reduceLeDiff, Nat.reduceSub, Option.some.injEq, exists_eq_left', aft_s, aft_n, ite_true, ite_false, if_true, if_false, Nat.zero_le, Nat.le_refl, reduceCtorEq]
      exact hk _ (R1.t 2)
    | some j =>
      simp only [hc, reduceCtorEq, if_false, reduceIte] at hk ⊢
      exact hk M1 R1
  · simp only [q_front, ix_n hne] at hk
    simp only [eX5_front_0, eX5_front_1, eX5_front_2, eX5_front_5, eX5_front_8, eX5_front_9, eX5_front_10, eX5_front_11, eX5_front_14, eX5_front_15, eX5_front_16, eX5_front_17, eX5_front_20, eX5_front_21, eX5_front_22, eX5_front_25, eX5_front_28, eX5_front_29, eX5_front_32, eX5_front_33, eX5_front_34, isA_r, isA_n, isI_i, isF_f, isL_l, is1_i, is1_r, is1_n, is1_f, true_and, and_true, List.length_cons, List.length_nil, Nat.reduceAdd, Nat.reduceLeDiff, Nat.reduceSub, Option.some.injEq, exists_eq_left', aft_s, aft_n, ite_true, ite_false, if_true, if_false, Nat.zero_le, Nat.le_refl, reduceCtorEq, mv_ob, mr0 A, mw0 A, ms0 A, mr1 A, mw1 A, ms1 A, mr2 A, mw2 A, ms2 A, mr3 A, mw3 A, ms3 A, mr4 A, mw4 A, ms4 A, mr5 A, mw5 A, ms5 A, mr6 A, mw6 A, ms6 A, mr7 A, mw7 A, ms7 A, mr8 A, mw8 A, ms8 A, mr9 A, mw9 A, ms9 A, mr10 A, mw10 A, ms10 A, mr11 A, mw11 A, ms11 A, mr12 A, mw12 A, ms12 A, mr13 A, mw13 A, ms13 A, mr14 A, mw14 A, ms14 A, mf0, mf1, mf2, mf3, mf4, mf5, mf6, mg0, mg1, mg2, mg3, mg4, mg5, mg6, mg7, mg8, mg9, mg10, mg11, mg12, mg13, mg14, mg15, mg16, mg17, mg18, mg19, mg20, mg21, mgl, Nat.reduceLT, va_up_self, i00, i10, ok01_0, ok16_0, ch_0]
    exact hk M1 R1

theorem c_toBack (A : ADok mo ad) (R : RM σ th M) (O : Ok σ) {v : Int32} (hk : ∀ M', RM (q_toBack σ v).2.2 (q_toBack σ v).1 M' → K (.inl (some (.int (q_toBack σ v).2.1))) (mv h mo ad M')) : CRd TTv E (d + 4) mX5_toBack [.ref mo, .int v] (mv h mo ad M) c n K := by
  refine crd rfl ?_
  show Ev E (d + 3) mX5_toBack K 0 [.ref mo, .int v, .retAddr 0] [] _ c n
  have hS := O.S
  have hJ := O.J
  simp only [eX5_toBack_0, eX5_toBack_1, eX5_toBack_2, eX5_toBack_5, eX5_toBack_8, eX5_toBack_9, eX5_toBack_10, eX5_toBack_11, eX5_toBack_14, eX5_toBack_15, eX5_toBack_16, eX5_toBack_17, eX5_toBack_18, eX5_toBack_19, eX5_toBack_22, eX5_toBack_23, eX5_toBack_24, eX5_toBack_27, eX5_toBack_28, eX5_toBack_29, eX5_toBack_32, eX5_toBack_33, eX5_toBack_34, eX5_toBack_35, eX5_toBack_36, isA_r, isA_n, isI_i, isF_f, isL_l, is1_i, is1_r, is1_n, is1_f, true_and, and_true, List.length_cons, List.length_nil, Nat.reduceAdd, Nat.reduceLeDiff, Nat.reduceSub, Option.some.injEq, exists_eq_left', aft_s, aft_n, ite_true, ite_false, if_true, if_false, Nat.zero_le, Nat.le_refl, reduceCtorEq, mv_ob, mr0 A, mw0 A, ms0 A, mr1 A, mw1 A, ms1 A, mr2 A, mw2 A, ms2 A, mr3 A, mw3 A, ms3 A, mr4 A, mw4 A, ms4 A, mr5 A, mw5 A, ms5 A, mr6 A, mw6 A, ms6 A, mr7 A, mw7 A, ms7 A, mr8 A, mw8 A, ms8 A, mr9 A, mw9 A, ms9 A, mr10 A, mw10 A, ms10 A, mr11 A, mw11 A, ms11 A, mr12 A, mw12 A, ms12 A, mr13 A, mw13 A, ms13 A, mr14 A, mw14 A, ms14 A, mf0, mf1, mf2, mf3, mf4, mf5, mf6, mg0, mg1, mg2, mg3, mg4, mg5, mg6, mg7, mg8, mg9, mg10, mg11, mg12, mg13, mg14, mg15, mg16, mg17, mg18, mg19, mg20, mg21, mgl, Nat.reduceLT, va_up_self, exists_eq', ok01_b2]
  refine inv0 (c_isSession R O.S (fun s hs hv M1 R1 => ?_) (fun hne M1 R1 => ?_))
  · subst hv
    have e1 : (nI s).toNatClampNeg = s := nI_clamp (by omega)
    have i1 := ix_s hs (by omega)
    have ⟨⟨a0, a1, a2, a3, a4, a5, a6⟩, b0, b1, b2q, b3, b4, b5, b6, b7, b8, b9, b10, b11, b12, b13, b14⟩ := R1
    have hf : ∀ i, s_fr σ s = some i → i < 30 := fun i hi => O.fr hi
    simp only [q_toBack, i1] at hk
    simp only [eX5_toBack_0, eX5_toBack_1, eX5_toBack_2, eX5_toBack_5, eX5_toBack_8, eX5_toBack_9, eX5_toBack_10, eX5_toBack_11, eX5_toBack_14, eX5_toBack_15, eX5_toBack_16, eX5_toBack_17, eX5_toBack_18, eX5_toBack_19, eX5_toBack_22, eX5_toBack_23, eX5_toBack_24, eX5_toBack_27, eX5_toBack_28, eX5_toBack_29, eX5_toBack_32, eX5_toBack_33, eX5_toBack_34, eX5_toBack_35, eX5_toBack_36, isA_r, isA_n, isI_i, isF_f, isL_l, is1_i, is1_r, is1_n, is1_f, true_and, and_true, List.length_cons, List.length_nil, Nat.reduceAdd, Nat.reduceLeDiff, Nat.reduceSub, Option.some.injEq, exists_eq_left', aft_s, aft_n, ite_true, ite_false, if_true, if_false, Nat.zero_le, Nat.le_refl, reduceCtorEq, mv_ob, mr0 A, mw0 A, ms0 A, mr1 A, mw1 A, ms1 A, mr2 A, mw2 A, ms2 A, mr3 A, mw3 A, ms3 A, mr4 A, mw4 A, ms4 A, mr5 A, mw5 A, ms5 A, mr6 A, mw6 A, ms6 A, mr7 A, mw7 A, ms7 A, mr8 A, mw8 A, ms8 A, mr9 A, mw9 A, ms9 A, mr10 A, mw10 A, ms10 A, mr11 A, mw11 A, ms11 A, mr12 A, mw12 A, ms12 A, mr13 A, mw13 A, ms13 A, mr14 A, mw14 A, ms14 A, mf0, mf1, mf2, mf3, mf4, mf5, mf6, mg0, mg1, mg2, mg3, mg4, mg5, mg6, mg7, mg8, mg9, mg10, mg11, mg12, mg13, mg14, mg15, mg16, mg17, mg18, mg19, mg20, mg21, mgl, Nat.reduceLT, va_up_self, i10, i00, inB_nI (show s < 4 by omega) (by decide), e1, b2q s hs, o2_m1 hf, exists_eq']
    cases hc : s_fr σ s with
    | none =>
      simp only [hc, if_true, reduceIte] at hk ⊢
      refine inv0 (c_fails ?_)
      simp only [eX5_toBack_0, eX5_toBack_1, eX5_toBack_2, eX5_toBack_5, eX5_toBack_8, eX5_toBack_9, eX5_toBack_10, eX5_toBack_11, eX5_toBack_14, eX5_toBack_15, eX5_toBack_16, eX5_toBack_17, eX5_toBack_18, eX5_toBack_19, eX5_toBack_22, eX5_toBack_23, eX5_toBack_24, eX5_toBack_27, eX5_toBack_28, eX5_toBack_29, eX5_toBack_32, eX5_toBack_33, eX5_toBack_34, eX5_toBack_35, eX5_toBack_36, isA_r, isA_n, isI_i, isF_f, isL_l, is1_i, is1_r, is1_n, is1_f, true_and, and_true, List.length_cons, List.length_nil, Nat.reduceAdd, Nat.reduceLeDiff, Nat.reduceSub, Option.some.injEq, exists_eq_left', aft_s, aft_n, ite_true, ite_false, if_true, if_false, Nat.zero_le, Nat.le_refl, reduceCtorEq]
      exact hk _ (R1.t 2)
    | some j =>
      simp only [hc, reduceCtorEq, if_false, reduceIte] at hk ⊢
      exact hk _ (R1.fr (j := s) (b := none))
  · simp only [q_toBack, ix_n hne] at hk
    simp only [eX5_toBack_0, eX5_toBack_1, eX5_toBack_2, eX5_toBack_5, eX5_toBack_8, eX5_toBack_9, eX5_toBack_10, eX5_toBack_11, eX5_toBack_14, eX5_toBack_15, eX5_toBack_16, eX5_toBack_17, eX5_toBack_18, eX5_toBack_19, eX5_toBack_22, eX5_toBack_23, eX5_toBack_24, eX5_toBack_27, eX5_toBack_28, eX5_toBack_29, eX5_toBack_32, eX5_toBack_33, eX5_toBack_34, eX5_toBack_35, eX5_toBack_36, isA_r, isA_n, isI_i, isF_f, isL_l, is1_i, is1_r, is1_n, is1_f, true_and, and_true, List.length_cons, List.length_nil, Nat.reduceAdd, Nat.reduceLeDiff, Nat.reduceSub, Option.some.injEq, exists_eq_left', aft_s, aft_n, ite_true, ite_false, if_true, if_false, Nat.zero_le, Nat.le_refl, reduceCtorEq, mv_ob, mr0 A, mw0 A, ms0 A, mr1 A, mw1 A, ms1 A, mr2 A, mw2 A, ms2 A, mr3 A, mw3 A, ms3 A, mr4 A, mw4 A, ms4 A, mr5 A, mw5 A, ms5 A, mr6 A, mw6 A, ms6 A, mr7 A, mw7 A, ms7 A, mr8 A, mw8 A, ms8 A, mr9 A, mw9 A, ms9 A, mr10 A, mw10 A, ms10 A, mr11 A, mw11 A, ms11 A, mr12 A, mw12 A, ms12 A, mr13 A, mw13 A, ms13 A, mr14 A, mw14 A, ms14 A, mf0, mf1, mf2, mf3, mf4, mf5, mf6, mg0, mg1, mg2, mg3, mg4, mg5, mg6, mg7, mg8, mg9, mg10, mg11, mg12, mg13, mg14, mg15, mg16, mg17, mg18, mg19, mg20, mg21, mgl, Nat.reduceLT, va_up_self, i00, i10, ok01_0, ok16_0, ch_0]
    exact hk M1 R1

theorem c_setPrivate (A : ADok mo ad) (R : RM σ th M) (O : Ok σ) {v : Int32} {p : Bool} (hk : ∀ M', RM (q_setPrivate σ v p).2.2 (q_setPrivate σ v p).1 M' → K (.inl (some (.int (q_setPrivate σ v p).2.1))) (mv h mo ad M')) : CRd TTv E (d + 4) mX5_setPrivate [.ref mo, .int v, .int (b2 p)] (mv h mo ad M) c n K := by
  refine crd rfl ?_
  show Ev E (d + 3) mX5_setPrivate K 0 [.ref mo, .int v, .int (b2 p), .retAddr 0] [] _ c n
  have hS := O.S
  have hJ := O.J
  simp only [eX5_setPrivate_0, eX5_setPrivate_1, eX5_setPrivate_2, eX5_setPrivate_5, eX5_setPrivate_8, eX5_setPrivate_9, eX5_setPrivate_10, eX5_setPrivate_11, eX5_setPrivate_14, eX5_setPrivate_15, eX5_setPrivate_16, eX5_setPrivate_17, eX5_setPrivate_18, eX5_setPrivate_21, eX5_setPrivate_22, eX5_setPrivate_23, eX5_setPrivate_24, eX5_setPrivate_25, isA_r, isA_n, isI_i, isF_f, isL_l, is1_i, is1_r, is1_n, is1_f, true_and, and_true, List.length_cons, List.length_nil, Nat.reduceAdd, Nat.reduceLeDiff, Nat.reduceSub, Option.some.injEq, exists_eq_left', aft_s, aft_n, ite_true, ite_false, if_true, if_false, Nat.zero_le, Nat.le_refl, reduceCtorEq, mv_ob, mr0 A, mw0 A, ms0 A, mr1 A, mw1 A, ms1 A, mr2 A, mw2 A, ms2 A, mr3 A, mw3 A, ms3 A, mr4 A, mw4 A, ms4 A, mr5 A, mw5 A, ms5 A, mr6 A, mw6 A, ms6 A, mr7 A, mw7 A, ms7 A, mr8 A, mw8 A, ms8 A, mr9 A, mw9 A, ms9 A, mr10 A, mw10 A, ms10 A, mr11 A, mw11 A, ms11 A, mr12 A, mw12 A, ms12 A, mr13 A, mw13 A, ms13 A, mr14 A, mw14 A, ms14 A, mf0, mf1, mf2, mf3, mf4, mf5, mf6, mg0, mg1, mg2, mg3, mg4, mg5, mg6, mg7, mg8, mg9, mg10, mg11, mg12, mg13, mg14, mg15, mg16, mg17, mg18, mg19, mg20, mg21, mgl, Nat.reduceLT, va_up_self, exists_eq', ok01_b2]
  refine inv0 (c_isSession R O.S (fun s hs hv M1 R1 => ?_) (fun hne M1 R1 => ?_))
  · subst hv
    have e1 : (nI s).toNatClampNeg = s := nI_clamp (by omega)
    have i1 := ix_s hs (by omega)
    have ⟨⟨a0, a1, a2, a3, a4, a5, a6⟩, b0, b1, b2q, b3, b4, b5, b6, b7, b8, b9, b10, b11, b12, b13, b14⟩ := R1
    simp only [q_setPrivate, i1] at hk
    simp only [eX5_setPrivate_0, eX5_setPrivate_1, eX5_setPrivate_2, eX5_setPrivate_5, eX5_setPrivate_8, eX5_setPrivate_9, eX5_setPrivate_10, eX5_setPrivate_11, eX5_setPrivate_14, eX5_setPrivate_15, eX5_setPrivate_16, eX5_setPrivate_17, eX5_setPrivate_18, eX5_setPrivate_21, eX5_setPrivate_22, eX5_setPrivate_23, eX5_setPrivate_24, eX5_setPrivate_25, isA_r, isA_n, isI_i, isF_f, isL_l, is1_i, is1_r, is1_n, is1_f, true_and, and_true, List.length_cons, List.length_nil, Nat.reduceAdd, Nat.reduceLeDiff, Nat.reduceSub, Option.some.injEq, exists_eq_left', aft_s, aft_n, ite_true, ite_false, if_true, if_false, Nat.zero_le, Nat.le_refl, reduceCtorEq, mv_ob, mr0 A, mw0 A, ms0 A, mr1 A, mw1 A, ms1 A, mr2 A, mw2 A, ms2 A, mr3 A, mw3 A, ms3 A, mr4 A, mw4 A, ms4 A, mr5 A, mw5 A, ms5 A, mr6 A, mw6 A, ms6 A, mr7 A, mw7 A, ms7 A, mr8 A, mw8 A, ms8 A, mr9 A, mw9 A, ms9 A, mr10 A, mw10 A, ms10 A, mr11 A, mw11 A, ms11 A, mr12 A, mw12 A, ms12 A, mr13 A, mw13 A, ms13 A, mr14 A, mw14 A, ms14 A, mf0, mf1, mf2, mf3, mf4, mf5, mf6, mg0, mg1, mg2, mg3, mg4, mg5, mg6, mg7, mg8, mg9, mg10, mg11, mg12, mg13, mg14, mg15, mg16, mg17, mg18, mg19, mg20, mg21, mgl, Nat.reduceLT, va_up_self, i10, i00, inB_nI (show s < 4 by omega) (by decide), e1, b0 s (by omega), ok01_b2, exists_eq']
    exact hk _ (R1.pv (j := s) (b := p))
  · simp only [q_setPrivate, ix_n hne] at hk
    simp only [eX5_setPrivate_0, eX5_setPrivate_1, eX5_setPrivate_2, eX5_setPrivate_5, eX5_setPrivate_8, eX5_setPrivate_9, eX5_setPrivate_10, eX5_setPrivate_11, eX5_setPrivate_14, eX5_setPrivate_15, eX5_setPrivate_16, eX5_setPrivate_17, eX5_setPrivate_18, eX5_setPrivate_21, eX5_setPrivate_22, eX5_setPrivate_23, eX5_setPrivate_24, eX5_setPrivate_25, isA_r, isA_n, isI_i, isF_f, isL_l, is1_i, is1_r, is1_n, is1_f, true_and, and_true, List.length_cons, List.length_nil, Nat.reduceAdd, Nat.reduceLeDiff, Nat.reduceSub, Option.some.injEq, exists_eq_left', aft_s, aft_n, ite_true, ite_false, if_true, if_false, Nat.zero_le, Nat.le_refl, reduceCtorEq, mv_ob, mr0 A, mw0 A, ms0 A, mr1 A, mw1 A, ms1 A, mr2 A, mw2 A, ms2 A, mr3 A, mw3 A, ms3 A, mr4 A, mw4 A, ms4 A, mr5 A, mw5 A, ms5 A, mr6 A, mw6 A, ms6 A, mr7 A, mw7 A, ms7 A, mr8 A, mw8 A, ms8 A, mr9 A, mw9 A, ms9 A, mr10 A, mw10 A, ms10 A, mr11 A, mw11 A, ms11 A, mr12 A, mw12 A, ms12 A, mr13 A, mw13 A, ms13 A, mr14 A, mw14 A, ms14 A, mf0, mf1, mf2, mf3, mf4, mf5, mf6, mg0, mg1, mg2, mg3, mg4, mg5, mg6, mg7, mg8, mg9, mg10, mg11, mg12, mg13, mg14, mg15, mg16, mg17, mg18, mg19, mg20, mg21, mgl, Nat.reduceLT, va_up_self, i00, i10, ok01_0, ok16_0, ch_0]
    exact hk M1 R1

theorem c_waitingAt (A : ADok mo ad) (R : RM σ th M) (O : Ok σ) {v : Int32}  (hk : ∀ M', RM (q_waitingAt σ v).2.2 (q_waitingAt σ v).1 M' → K (.inl (some (.int (q_waitingAt σ v).2.1))) (mv h mo ad M')) : CRd TTv E (d + 4) mX5_waitingAt [.ref mo, .int v] (mv h mo ad M) c n K := by
  refine crd rfl ?_
  show Ev E (d + 3) mX5_waitingAt K 0 [.ref mo, .int v] [] _ c n
  have hS := O.S
  have hJ := O.J
  have hlen := O.odlen
  have ⟨⟨a0, a1, a2, a3, a4, a5, a6⟩, b0, b1, b2q, b3, b4, b5, b6, b7, b8, b9, b10, b11, b12, b13, b14⟩ := R
  have hcm := O.2.2.2.2.2.2.2.1.2.1
  simp only [eX5_waitingAt_0, eX5_waitingAt_1, eX5_waitingAt_2, eX5_waitingAt_3, eX5_waitingAt_6, eX5_waitingAt_7, eX5_waitingAt_8, eX5_waitingAt_11, eX5_waitingAt_14, eX5_waitingAt_15, eX5_waitingAt_16, eX5_waitingAt_19, eX5_waitingAt_20, eX5_waitingAt_21, eX5_waitingAt_22, eX5_waitingAt_25, eX5_waitingAt_26, eX5_waitingAt_29, eX5_waitingAt_30, eX5_waitingAt_31, isA_r, isA_n, isI_i, isF_f, isL_l, is1_i, is1_r, is1_n, is1_f, true_and, and_true, List.length_cons, List.length_nil, Nat.reduceAdd, Nat.reduceLeDiff, Nat.reduceSub, Option.some.injEq, exists_eq_left', aft_s, aft_n, ite_true, ite_false, if_true, if_false, Nat.zero_le, Nat.le_refl, reduceCtorEq, mv_ob, mr0 A, mw0 A, ms0 A, mr1 A, mw1 A, ms1 A, mr2 A, mw2 A, ms2 A, mr3 A, mw3 A, ms3 A, mr4 A, mw4 A, ms4 A, mr5 A, mw5 A, ms5 A, mr6 A, mw6 A, ms6 A, mr7 A, mw7 A, ms7 A, mr8 A, mw8 A, ms8 A, mr9 A, mw9 A, ms9 A, mr10 A, mw10 A, ms10 A, mr11 A, mw11 A, ms11 A, mr12 A, mw12 A, ms12 A, mr13 A, mw13 A, ms13 A, mr14 A, mw14 A, ms14 A, mf0, mf1, mf2, mf3, mf4, mf5, mf6, mg0, mg1, mg2, mg3, mg4, mg5, mg6, mg7, mg8, mg9, mg10, mg11, mg12, mg13, mg14, mg15, mg16, mg17, mg18, mg19, mg20, mg21, mgl, Nat.reduceLT, va_up_self, a3]
  refine inv0 (c_in0 (by omega) (fun k hk1 hv => ?_) (fun hne => ?_))
  · subst hv
    have e1 : (nI k).toNatClampNeg = k := nI_clamp (by omega)
    have i1 := ix_s hk1 (by omega)
    simp only [q_waitingAt, i1] at hk
    simp only [eX5_waitingAt_0, eX5_waitingAt_1, eX5_waitingAt_2, eX5_waitingAt_3, eX5_waitingAt_6, eX5_waitingAt_7, eX5_waitingAt_8, eX5_waitingAt_11, eX5_waitingAt_14, eX5_waitingAt_15, eX5_waitingAt_16, eX5_waitingAt_19, eX5_waitingAt_20, eX5_waitingAt_21, eX5_waitingAt_22, eX5_waitingAt_25, eX5_waitingAt_26, eX5_waitingAt_29, eX5_waitingAt_30, eX5_waitingAt_31, isA_r, isA_n, isI_i, isF_f, isL_l, is1_i, is1_r, is1_n, is1_f, true_and, and_true, List.length_cons, List.length_nil, Nat.reduceAdd, Nat.reduceLeDiff, Nat.reduceSub, Option.some.injEq, exists_eq_left', aft_s, aft_n, ite_true, ite_false, if_true, if_false, Nat.zero_le, Nat.le_refl, reduceCtorEq, mv_ob, mr0 A, mw0 A, ms0 A, mr1 A, mw1 A, ms1 A, mr2 A, mw2 A, ms2 A, mr3 A, mw3 A, ms3 A, mr4 A, mw4 A, ms4 A, mr5 A, mw5 A, ms5 A, mr6 A, mw6 A, ms6 A, mr7 A, mw7 A, ms7 A, mr8 A, mw8 A, ms8 A, mr9 A, mw9 A, ms9 A, mr10 A, mw10 A, ms10 A, mr11 A, mw11 A, ms11 A, mr12 A, mw12 A, ms12 A, mr13 A, mw13 A, ms13 A, mr14 A, mw14 A, ms14 A, mf0, mf1, mf2, mf3, mf4, mf5, mf6, mg0, mg1, mg2, mg3, mg4, mg5, mg6, mg7, mg8, mg9, mg10, mg11, mg12, mg13, mg14, mg15, mg16, mg17, mg18, mg19, mg20, mg21, mgl, Nat.reduceLT, va_up_self, i10, i00, a3, va_up, Nat.reduceEqDiff, reduceIte, inB_nI (show k < 30 by omega) (by decide), e1, b11 k hk1]
    exact hk _ (R.t 0)
  · simp only [q_waitingAt, ix_n hne] at hk
    simp only [eX5_waitingAt_0, eX5_waitingAt_1, eX5_waitingAt_2, eX5_waitingAt_3, eX5_waitingAt_6, eX5_waitingAt_7, eX5_waitingAt_8, eX5_waitingAt_11, eX5_waitingAt_14, eX5_waitingAt_15, eX5_waitingAt_16, eX5_waitingAt_19, eX5_waitingAt_20, eX5_waitingAt_21, eX5_waitingAt_22, eX5_waitingAt_25, eX5_waitingAt_26, eX5_waitingAt_29, eX5_waitingAt_30, eX5_waitingAt_31, isA_r, isA_n, isI_i, isF_f, isL_l, is1_i, is1_r, is1_n, is1_f, true_and, and_true, List.length_cons, List.length_nil, Nat.reduceAdd, Nat.reduceLeDiff, Nat.reduceSub, Option.some.injEq, exists_eq_left', aft_s, aft_n, ite_true, ite_false, if_true, if_false, Nat.zero_le, Nat.le_refl, reduceCtorEq, mv_ob, mr0 A, mw0 A, ms0 A, mr1 A, mw1 A, ms1 A, mr2 A, mw2 A, ms2 A, mr3 A, mw3 A, ms3 A, mr4 A, mw4 A, ms4 A, mr5 A, mw5 A, ms5 A, mr6 A, mw6 A, ms6 A, mr7 A, mw7 A, ms7 A, mr8 A, mw8 A, ms8 A, mr9 A, mw9 A, ms9 A, mr10 A, mw10 A, ms10 A, mr11 A, mw11 A, ms11 A, mr12 A, mw12 A, ms12 A, mr13 A, mw13 A, ms13 A, mr14 A, mw14 A, ms14 A, mf0, mf1, mf2, mf3, mf4, mf5, mf6, mg0, mg1, mg2, mg3, mg4, mg5, mg6, mg7, mg8, mg9, mg10, mg11, mg12, mg13, mg14, mg15, mg16, mg17, mg18, mg19, mg20, mg21, mgl, Nat.reduceLT, va_up_self, i00, i10, exists_eq']
    refine inv0 (c_fails ?_)
    simp only [eX5_waitingAt_0, eX5_waitingAt_1, eX5_waitingAt_2, eX5_waitingAt_3, eX5_waitingAt_6, eX5_waitingAt_7, eX5_waitingAt_8, eX5_waitingAt_11, eX5_waitingAt_14, eX5_waitingAt_15, eX5_waitingAt_16, eX5_waitingAt_19, eX5_waitingAt_20, eX5_waitingAt_21, eX5_waitingAt_22, eX5_waitingAt_25, eX5_waitingAt_26, eX5_waitingAt_29, eX5_waitingAt_30, eX5_waitingAt_31, isA_r, isA_n, isI_i, isF_f, isL_l, is1_i, is1_r, is1_n, is1_f, true_and, and_true, List.length_cons, List.length_nil, Nat.reduceAdd, Nat.reduceLeDiff, Nat.reduceSub, Option.some.injEq, exists_eq_left', aft_s, aft_n, ite_true, ite_false, if_true, if_false, Nat.zero_le, Nat.le_refl, reduceCtorEq]
    exact hk _ (R.t 1)

theorem c_entryJob (A : ADok mo ad) (R : RM σ th M) (O : Ok σ) {v : Int32} (hjn : (s_jn σ).length < 32000) (hk : ∀ M', RM (q_entryJob σ v).2.2 (q_entryJob σ v).1 M' → K (.inl (some (.int (q_entryJob σ v).2.1))) (mv h mo ad M')) : CRd TTv E (d + 4) mX5_entryJob [.ref mo, .int v] (mv h mo ad M) c n K := by
  refine crd rfl ?_
  show Ev E (d + 3) mX5_entryJob K 0 [.ref mo, .int v] [] _ c n
  have hS := O.S
  have hJ := O.J
  have hlen := O.odlen
  have ⟨⟨a0, a1, a2, a3, a4, a5, a6⟩, b0, b1, b2q, b3, b4, b5, b6, b7, b8, b9, b10, b11, b12, b13, b14⟩ := R
  have hcm := O.2.2.2.2.2.2.2.1.2.1
  simp only [eX5_entryJob_0, eX5_entryJob_1, eX5_entryJob_2, eX5_entryJob_3, eX5_entryJob_6, eX5_entryJob_7, eX5_entryJob_8, eX5_entryJob_11, eX5_entryJob_14, eX5_entryJob_15, eX5_entryJob_16, eX5_entryJob_19, eX5_entryJob_20, eX5_entryJob_21, eX5_entryJob_22, eX5_entryJob_25, eX5_entryJob_26, eX5_entryJob_29, eX5_entryJob_30, eX5_entryJob_31, isA_r, isA_n, isI_i, isF_f, isL_l, is1_i, is1_r, is1_n, is1_f, true_and, and_true, List.length_cons, List.length_nil, Nat.reduceAdd, Nat.reduceLeDiff, Nat.reduceSub, Option.some.injEq, exists_eq_left', aft_s, aft_n, ite_true, ite_false, if_true, if_false, Nat.zero_le, Nat.le_refl, reduceCtorEq, mv_ob, mr0 A, mw0 A, ms0 A, mr1 A, mw1 A, ms1 A, mr2 A, mw2 A, ms2 A, mr3 A, mw3 A, ms3 A, mr4 A, mw4 A, ms4 A, mr5 A, mw5 A, ms5 A, mr6 A, mw6 A, ms6 A, mr7 A, mw7 A, ms7 A, mr8 A, mw8 A, ms8 A, mr9 A, mw9 A, ms9 A, mr10 A, mw10 A, ms10 A, mr11 A, mw11 A, ms11 A, mr12 A, mw12 A, ms12 A, mr13 A, mw13 A, ms13 A, mr14 A, mw14 A, ms14 A, mf0, mf1, mf2, mf3, mf4, mf5, mf6, mg0, mg1, mg2, mg3, mg4, mg5, mg6, mg7, mg8, mg9, mg10, mg11, mg12, mg13, mg14, mg15, mg16, mg17, mg18, mg19, mg20, mg21, mgl, Nat.reduceLT, va_up_self, a5]
  refine inv0 (c_in0 (by omega) (fun k hk1 hv => ?_) (fun hne => ?_))
  · subst hv
    have e1 : (nI k).toNatClampNeg = k := nI_clamp (by omega)
    have i1 := ix_s hk1 (by omega)
    simp only [q_entryJob, i1] at hk
    simp only [eX5_entryJob_0, eX5_entryJob_1, eX5_entryJob_2, eX5_entryJob_3, eX5_entryJob_6, eX5_entryJob_7, eX5_entryJob_8, eX5_entryJob_11, eX5_entryJob_14, eX5_entryJob_15, eX5_entryJob_16, eX5_entryJob_19, eX5_entryJob_20, eX5_entryJob_21, eX5_entryJob_22, eX5_entryJob_25, eX5_entryJob_26, eX5_entryJob_29, eX5_entryJob_30, eX5_entryJob_31, isA_r, isA_n, isI_i, isF_f, isL_l, is1_i, is1_r, is1_n, is1_f, true_and, and_true, List.length_cons, List.length_nil, Nat.reduceAdd, Nat.reduceLeDiff, Nat.reduceSub, Option.some.injEq, exists_eq_left', aft_s, aft_n, ite_true, ite_false, if_true, if_false, Nat.zero_le, Nat.le_refl, reduceCtorEq, mv_ob, mr0 A, mw0 A, ms0 A, mr1 A, mw1 A, ms1 A, mr2 A, mw2 A, ms2 A, mr3 A, mw3 A, ms3 A, mr4 A, mw4 A, ms4 A, mr5 A, mw5 A, ms5 A, mr6 A, mw6 A, ms6 A, mr7 A, mw7 A, ms7 A, mr8 A, mw8 A, ms8 A, mr9 A, mw9 A, ms9 A, mr10 A, mw10 A, ms10 A, mr11 A, mw11 A, ms11 A, mr12 A, mw12 A, ms12 A, mr13 A, mw13 A, ms13 A, mr14 A, mw14 A, ms14 A, mf0, mf1, mf2, mf3, mf4, mf5, mf6, mg0, mg1, mg2, mg3, mg4, mg5, mg6, mg7, mg8, mg9, mg10, mg11, mg12, mg13, mg14, mg15, mg16, mg17, mg18, mg19, mg20, mg21, mgl, Nat.reduceLT, va_up_self, i10, i00, a5, va_up, Nat.reduceEqDiff, reduceIte, inB_nI (show k < 32000 by omega) (by decide), e1, b13 k hk1]
    exact hk _ (R.t 0)
  · simp only [q_entryJob, ix_n hne] at hk
    simp only [eX5_entryJob_0, eX5_entryJob_1, eX5_entryJob_2, eX5_entryJob_3, eX5_entryJob_6, eX5_entryJob_7, eX5_entryJob_8, eX5_entryJob_11, eX5_entryJob_14, eX5_entryJob_15, eX5_entryJob_16, eX5_entryJob_19, eX5_entryJob_20, eX5_entryJob_21, eX5_entryJob_22, eX5_entryJob_25, eX5_entryJob_26, eX5_entryJob_29, eX5_entryJob_30, eX5_entryJob_31, isA_r, isA_n, isI_i, isF_f, isL_l, is1_i, is1_r, is1_n, is1_f, true_and, and_true, List.length_cons, List.length_nil, Nat.reduceAdd, Nat.reduceLeDiff, Nat.reduceSub, Option.some.injEq, exists_eq_left', aft_s, aft_n, ite_true, ite_false, if_true, if_false, Nat.zero_le, Nat.le_refl, reduceCtorEq, mv_ob, mr0 A, mw0 A, ms0 A, mr1 A, mw1 A, ms1 A, mr2 A, mw2 A, ms2 A, mr3 A, mw3 A, ms3 A, mr4 A, mw4 A, ms4 A, mr5 A, mw5 A, ms5 A, mr6 A, mw6 A, ms6 A, mr7 A, mw7 A, ms7 A, mr8 A, mw8 A, ms8 A, mr9 A, mw9 A, ms9 A, mr10 A, mw10 A, ms10 A, mr11 A, mw11 A, ms11 A, mr12 A, mw12 A, ms12 A, mr13 A, mw13 A, ms13 A, mr14 A, mw14 A, ms14 A, mf0, mf1, mf2, mf3, mf4, mf5, mf6, mg0, mg1, mg2, mg3, mg4, mg5, mg6, mg7, mg8, mg9, mg10, mg11, mg12, mg13, mg14, mg15, mg16, mg17, mg18, mg19, mg20, mg21, mgl, Nat.reduceLT, va_up_self, i00, i10, exists_eq']
    refine inv0 (c_fails ?_)
    simp only [eX5_entryJob_0, eX5_entryJob_1, eX5_entryJob_2, eX5_entryJob_3, eX5_entryJob_6, eX5_entryJob_7, eX5_entryJob_8, eX5_entryJob_11, eX5_entryJob_14, eX5_entryJob_15, eX5_entryJob_16, eX5_entryJob_19, eX5_entryJob_20, eX5_entryJob_21, eX5_entryJob_22, eX5_entryJob_25, eX5_entryJob_26, eX5_entryJob_29, eX5_entryJob_30, eX5_entryJob_31, isA_r, isA_n, isI_i, isF_f, isL_l, is1_i, is1_r, is1_n, is1_f, true_and, and_true, List.length_cons, List.length_nil, Nat.reduceAdd, Nat.reduceLeDiff, Nat.reduceSub, Option.some.injEq, exists_eq_left', aft_s, aft_n, ite_true, ite_false, if_true, if_false, Nat.zero_le, Nat.le_refl, reduceCtorEq]
    exact hk _ (R.t 1)

theorem c_commonAt (A : ADok mo ad) (R : RM σ th M) (O : Ok σ) {v : Int32}  (hk : ∀ M', RM (q_commonAt σ v).2.2 (q_commonAt σ v).1 M' → K (.inl (some (.int (q_commonAt σ v).2.1))) (mv h mo ad M')) : CRd TTv E (d + 4) mX5_commonAt [.ref mo, .int v] (mv h mo ad M) c n K := by
  refine crd rfl ?_
  show Ev E (d + 3) mX5_commonAt K 0 [.ref mo, .int v] [] _ c n
  have hS := O.S
  have hJ := O.J
  have hlen := O.odlen
  have ⟨⟨a0, a1, a2, a3, a4, a5, a6⟩, b0, b1, b2q, b3, b4, b5, b6, b7, b8, b9, b10, b11, b12, b13, b14⟩ := R
  have hcm := O.2.2.2.2.2.2.2.1.2.1
  simp only [eX5_commonAt_0, eX5_commonAt_1, eX5_commonAt_2, eX5_commonAt_3, eX5_commonAt_6, eX5_commonAt_7, eX5_commonAt_8, eX5_commonAt_11, eX5_commonAt_14, eX5_commonAt_15, eX5_commonAt_16, eX5_commonAt_19, eX5_commonAt_20, eX5_commonAt_21, eX5_commonAt_22, eX5_commonAt_25, eX5_commonAt_26, eX5_commonAt_29, eX5_commonAt_30, eX5_commonAt_33, eX5_commonAt_34, eX5_commonAt_35, eX5_commonAt_36, eX5_commonAt_37, eX5_commonAt_38, isA_r, isA_n, isI_i, isF_f, isL_l, is1_i, is1_r, is1_n, is1_f, true_and, and_true, List.length_cons, List.length_nil, Nat.reduceAdd, Nat.reduceLeDiff, Nat.reduceSub, Option.some.injEq, exists_eq_left', aft_s, aft_n, ite_true, ite_false, if_true, if_false, Nat.zero_le, Nat.le_refl, reduceCtorEq, mv_ob, mr0 A, mw0 A, ms0 A, mr1 A, mw1 A, ms1 A, mr2 A, mw2 A, ms2 A, mr3 A, mw3 A, ms3 A, mr4 A, mw4 A, ms4 A, mr5 A, mw5 A, ms5 A, mr6 A, mw6 A, ms6 A, mr7 A, mw7 A, ms7 A, mr8 A, mw8 A, ms8 A, mr9 A, mw9 A, ms9 A, mr10 A, mw10 A, ms10 A, mr11 A, mw11 A, ms11 A, mr12 A, mw12 A, ms12 A, mr13 A, mw13 A, ms13 A, mr14 A, mw14 A, ms14 A, mf0, mf1, mf2, mf3, mf4, mf5, mf6, mg0, mg1, mg2, mg3, mg4, mg5, mg6, mg7, mg8, mg9, mg10, mg11, mg12, mg13, mg14, mg15, mg16, mg17, mg18, mg19, mg20, mg21, mgl, Nat.reduceLT, va_up_self, a4]
  refine inv0 (c_in0 (by omega) (fun k hk1 hv => ?_) (fun hne => ?_))
  · subst hv
    have e1 : (nI k).toNatClampNeg = k := nI_clamp (by omega)
    have i1 := ix_s hk1 (by omega)
    have x1 : nI (s_cm σ).length - 1 = nI ((s_cm σ).length - 1) := by rw [show (1 : Int32) = nI 1 from rfl]; exact pk_sub (by omega)
    have x2 : nI ((s_cm σ).length - 1) - nI k = nI ((s_cm σ).length - 1 - k) := pk_sub (by omega)
    have e2 : (nI ((s_cm σ).length - 1 - k)).toNatClampNeg = (s_cm σ).length - 1 - k := nI_clamp (by omega)
    simp only [q_commonAt, i1] at hk
    simp only [eX5_commonAt_0, eX5_commonAt_1, eX5_commonAt_2, eX5_commonAt_3, eX5_commonAt_6, eX5_commonAt_7, eX5_commonAt_8, eX5_commonAt_11, eX5_commonAt_14, eX5_commonAt_15, eX5_commonAt_16, eX5_commonAt_19, eX5_commonAt_20, eX5_commonAt_21, eX5_commonAt_22, eX5_commonAt_25, eX5_commonAt_26, eX5_commonAt_29, eX5_commonAt_30, eX5_commonAt_33, eX5_commonAt_34, eX5_commonAt_35, eX5_commonAt_36, eX5_commonAt_37, eX5_commonAt_38, isA_r, isA_n, isI_i, isF_f, isL_l, is1_i, is1_r, is1_n, is1_f, true_and, and_true, List.length_cons, List.length_nil, Nat.reduceAdd, Nat.reduceLeDiff, Nat.reduceSub, Option.some.injEq, exists_eq_left', aft_s, aft_n, ite_true, ite_false, if_true, if_false, Nat.zero_le, Nat.le_refl, reduceCtorEq, mv_ob, mr0 A, mw0 A, ms0 A, mr1 A, mw1 A, ms1 A, mr2 A, mw2 A, ms2 A, mr3 A, mw3 A, ms3 A, mr4 A, mw4 A, ms4 A, mr5 A, mw5 A, ms5 A, mr6 A, mw6 A, ms6 A, mr7 A, mw7 A, ms7 A, mr8 A, mw8 A, ms8 A, mr9 A, mw9 A, ms9 A, mr10 A, mw10 A, ms10 A, mr11 A, mw11 A, ms11 A, mr12 A, mw12 A, ms12 A, mr13 A, mw13 A, ms13 A, mr14 A, mw14 A, ms14 A, mf0, mf1, mf2, mf3, mf4, mf5, mf6, mg0, mg1, mg2, mg3, mg4, mg5, mg6, mg7, mg8, mg9, mg10, mg11, mg12, mg13, mg14, mg15, mg16, mg17, mg18, mg19, mg20, mg21, mgl, Nat.reduceLT, va_up_self, i10, i00, a4, va_up, Nat.reduceEqDiff, reduceIte, inB_nI (show (s_cm σ).length - 1 - k < 13 by omega) (by decide), e2, b6 ((s_cm σ).length - 1 - k) (by omega), x1, x2]
    exact hk _ (R.t 0)
  · simp only [q_commonAt, ix_n hne] at hk
    simp only [eX5_commonAt_0, eX5_commonAt_1, eX5_commonAt_2, eX5_commonAt_3, eX5_commonAt_6, eX5_commonAt_7, eX5_commonAt_8, eX5_commonAt_11, eX5_commonAt_14, eX5_commonAt_15, eX5_commonAt_16, eX5_commonAt_19, eX5_commonAt_20, eX5_commonAt_21, eX5_commonAt_22, eX5_commonAt_25, eX5_commonAt_26, eX5_commonAt_29, eX5_commonAt_30, eX5_commonAt_33, eX5_commonAt_34, eX5_commonAt_35, eX5_commonAt_36, eX5_commonAt_37, eX5_commonAt_38, isA_r, isA_n, isI_i, isF_f, isL_l, is1_i, is1_r, is1_n, is1_f, true_and, and_true, List.length_cons, List.length_nil, Nat.reduceAdd, Nat.reduceLeDiff, Nat.reduceSub, Option.some.injEq, exists_eq_left', aft_s, aft_n, ite_true, ite_false, if_true, if_false, Nat.zero_le, Nat.le_refl, reduceCtorEq, mv_ob, mr0 A, mw0 A, ms0 A, mr1 A, mw1 A, ms1 A, mr2 A, mw2 A, ms2 A, mr3 A, mw3 A, ms3 A, mr4 A, mw4 A, ms4 A, mr5 A, mw5 A, ms5 A, mr6 A, mw6 A, ms6 A, mr7 A, mw7 A, ms7 A, mr8 A, mw8 A, ms8 A, mr9 A, mw9 A, ms9 A, mr10 A, mw10 A, ms10 A, mr11 A, mw11 A, ms11 A, mr12 A, mw12 A, ms12 A, mr13 A, mw13 A, ms13 A, mr14 A, mw14 A, ms14 A, mf0, mf1, mf2, mf3, mf4, mf5, mf6, mg0, mg1, mg2, mg3, mg4, mg5, mg6, mg7, mg8, mg9, mg10, mg11, mg12, mg13, mg14, mg15, mg16, mg17, mg18, mg19, mg20, mg21, mgl, Nat.reduceLT, va_up_self, i00, i10, exists_eq']
    refine inv0 (c_fails ?_)
    simp only [eX5_commonAt_0, eX5_commonAt_1, eX5_commonAt_2, eX5_commonAt_3, eX5_commonAt_6, eX5_commonAt_7, eX5_commonAt_8, eX5_commonAt_11, eX5_commonAt_14, eX5_commonAt_15, eX5_commonAt_16, eX5_commonAt_19, eX5_commonAt_20, eX5_commonAt_21, eX5_commonAt_22, eX5_commonAt_25, eX5_commonAt_26, eX5_commonAt_29, eX5_commonAt_30, eX5_commonAt_33, eX5_commonAt_34, eX5_commonAt_35, eX5_commonAt_36, eX5_commonAt_37, eX5_commonAt_38, isA_r, isA_n, isI_i, isF_f, isL_l, is1_i, is1_r, is1_n, is1_f, true_and, and_true, List.length_cons, List.length_nil, Nat.reduceAdd, Nat.reduceLeDiff, Nat.reduceSub, Option.some.injEq, exists_eq_left', aft_s, aft_n, ite_true, ite_false, if_true, if_false, Nat.zero_le, Nat.le_refl, reduceCtorEq]
    exact hk _ (R.t 1)

theorem c_stateByJournal (A : ADok mo ad) (R : RM σ th M) (O : Ok σ) {v : Int32} (hk : ∀ M', RM (q_state σ v).2.2 (q_state σ v).1 M' → K (.inl (some (.int (q_state σ v).2.1))) (mv h mo ad M')) : CRd TTv E (d + 5) mX5_stateByJournal [.ref mo, .int v] (mv h mo ad M) c n K := by
  refine crd rfl ?_
  show Ev E (d + 4) mX5_stateByJournal K 0 [.ref mo, .int v] [] _ c n
  simp only [eX5_stateByJournal_0, eX5_stateByJournal_1, eX5_stateByJournal_2, eX5_stateByJournal_5, isA_r, isA_n, isI_i, isF_f, isL_l, is1_i, is1_r, is1_n, is1_f, true_and, and_true, List.length_cons, List.length_nil, Nat.reduceAdd, Nat.reduceLeDiff, Nat.reduceSub, Option.some.injEq, exists_eq_left', aft_s, aft_n, ite_true, ite_false, if_true, if_false, Nat.zero_le, Nat.le_refl, reduceCtorEq, mv_ob, mr0 A, mw0 A, ms0 A, mr1 A, mw1 A, ms1 A, mr2 A, mw2 A, ms2 A, mr3 A, mw3 A, ms3 A, mr4 A, mw4 A, ms4 A, mr5 A, mw5 A, ms5 A, mr6 A, mw6 A, ms6 A, mr7 A, mw7 A, ms7 A, mr8 A, mw8 A, ms8 A, mr9 A, mw9 A, ms9 A, mr10 A, mw10 A, ms10 A, mr11 A, mw11 A, ms11 A, mr12 A, mw12 A, ms12 A, mr13 A, mw13 A, ms13 A, mr14 A, mw14 A, ms14 A, mf0, mf1, mf2, mf3, mf4, mf5, mf6, mg0, mg1, mg2, mg3, mg4, mg5, mg6, mg7, mg8, mg9, mg10, mg11, mg12, mg13, mg14, mg15, mg16, mg17, mg18, mg19, mg20, mg21, mgl, Nat.reduceLT, va_up_self, exists_eq']
  refine inv0 (c_state A R O (fun M1 R1 => ?_))
  have h16 : ok16 (.int (q_state σ v).2.1) = true := by
    unfold q_state
    rcases pk_ix v (n := s_nJ σ) (by have := O.J; omega) with h0 | h0 | ⟨j, hj, rfl⟩
    · rw [ix_n (fun j hj he => by rw [he] at h0; exact nI_pos (by have := O.J; omega) h0)]; exact ok16_0
    · rw [ix_n (fun j hj he => by rw [he] at h0; exact nI_ge hj (by have := O.J; omega) h0)]; exact ok16_0
    · rw [ix_s hj (by have := O.J; omega)]; exact (st_ch (O.job hj).2.2.1).2.2
  simp only [eX5_stateByJournal_0, eX5_stateByJournal_1, eX5_stateByJournal_2, eX5_stateByJournal_5, isA_r, isA_n, isI_i, isF_f, isL_l, is1_i, is1_r, is1_n, is1_f, true_and, and_true, List.length_cons, List.length_nil, Nat.reduceAdd, Nat.reduceLeDiff, Nat.reduceSub, Option.some.injEq, exists_eq_left', aft_s, aft_n, ite_true, ite_false, if_true, if_false, Nat.zero_le, Nat.le_refl, reduceCtorEq, h16]
  exact hk M1 R1
theorem c_isOver (A : ADok mo ad) (R : RM σ th M) {j : Nat} (hj : j < s_nJ σ) (hJ : s_nJ σ ≤ 30) (hs : stOK (s_st σ j)) (hk : K (.inl (some (.int (b2 (over σ j))))) (mv h mo ad M)) : CRd TTv E (d + 1) mX5_isOver [.ref mo, .int (nI j)] (mv h mo ad M) c n K := by
  refine crd rfl ?_
  show Ev E d mX5_isOver K 0 [.ref mo, .int (nI j)] [] _ c n
  have e1 : (nI j).toNatClampNeg = j := nI_clamp (by omega)
  have f := R.2.2.2.2.2.2.2.2.2.2.2.1 j hj
  simp only [eX5_isOver_0, eX5_isOver_1, eX5_isOver_4, eX5_isOver_5, eX5_isOver_6, eX5_isOver_8, eX5_isOver_11, eX5_isOver_12, eX5_isOver_15, eX5_isOver_16, eX5_isOver_17, eX5_isOver_19, eX5_isOver_22, eX5_isOver_23, eX5_isOver_26, eX5_isOver_27, isA_r, isA_n, isI_i, isF_f, isL_l, is1_i, is1_r, is1_n, is1_f, true_and, and_true, List.length_cons, List.length_nil, Nat.reduceAdd, Nat.reduceLeDiff, Nat.reduceSub, Option.some.injEq, exists_eq_left', aft_s, aft_n, ite_true, ite_false, if_true, if_false, Nat.zero_le, Nat.le_refl, reduceCtorEq, mv_ob, mr0 A, mw0 A, ms0 A, mr1 A, mw1 A, ms1 A, mr2 A, mw2 A, ms2 A, mr3 A, mw3 A, ms3 A, mr4 A, mw4 A, ms4 A, mr5 A, mw5 A, ms5 A, mr6 A, mw6 A, ms6 A, mr7 A, mw7 A, ms7 A, mr8 A, mw8 A, ms8 A, mr9 A, mw9 A, ms9 A, mr10 A, mw10 A, ms10 A, mr11 A, mw11 A, ms11 A, mr12 A, mw12 A, ms12 A, mr13 A, mw13 A, ms13 A, mr14 A, mw14 A, ms14 A, mf0, mf1, mf2, mf3, mf4, mf5, mf6, mg0, mg1, mg2, mg3, mg4, mg5, mg6, mg7, mg8, mg9, mg10, mg11, mg12, mg13, mg14, mg15, mg16, mg17, mg18, mg19, mg20, mg21, mgl, Nat.reduceLT, va_up_self, inB_nI (show j < 30 by omega) (by decide), e1, f, st_100 hs, st_107 hs, ok01_0, ok01_1]
  unfold over at hk
  by_cases h1 : s_st σ j = 100
  · rw [if_pos h1]; simpa [h1, b2] using hk
  · rw [if_neg h1]
    by_cases h2 : s_st σ j = 107
    · rw [if_pos h2]; simpa [h2, b2] using hk
    · rw [if_neg h2]; simpa [h1, h2, b2] using hk
def cstop (σ : Sg) (j : Nat) : Bool := s_st σ j == 114 || s_st σ j == 119
theorem c_canStop (A : ADok mo ad) (R : RM σ th M) {j : Nat} (hj : j < s_nJ σ) (hJ : s_nJ σ ≤ 30) (hs : stOK (s_st σ j)) (hk : K (.inl (some (.int (b2 (cstop σ j))))) (mv h mo ad M)) : CRd TTv E (d + 1) mX5_canStop [.ref mo, .int (nI j)] (mv h mo ad M) c n K := by
  refine crd rfl ?_
  show Ev E d mX5_canStop K 0 [.ref mo, .int (nI j)] [] _ c n
  have e1 : (nI j).toNatClampNeg = j := nI_clamp (by omega)
  have f := R.2.2.2.2.2.2.2.2.2.2.2.1 j hj
  simp only [eX5_canStop_0, eX5_canStop_1, eX5_canStop_4, eX5_canStop_5, eX5_canStop_6, eX5_canStop_8, eX5_canStop_11, eX5_canStop_12, eX5_canStop_15, eX5_canStop_16, eX5_canStop_17, eX5_canStop_19, eX5_canStop_22, eX5_canStop_23, eX5_canStop_26, eX5_canStop_27, isA_r, isA_n, isI_i, isF_f, isL_l, is1_i, is1_r, is1_n, is1_f, true_and, and_true, List.length_cons, List.length_nil, Nat.reduceAdd, Nat.reduceLeDiff, Nat.reduceSub, Option.some.injEq, exists_eq_left', aft_s, aft_n, ite_true, ite_false, if_true, if_false, Nat.zero_le, Nat.le_refl, reduceCtorEq, mv_ob, mr0 A, mw0 A, ms0 A, mr1 A, mw1 A, ms1 A, mr2 A, mw2 A, ms2 A, mr3 A, mw3 A, ms3 A, mr4 A, mw4 A, ms4 A, mr5 A, mw5 A, ms5 A, mr6 A, mw6 A, ms6 A, mr7 A, mw7 A, ms7 A, mr8 A, mw8 A, ms8 A, mr9 A, mw9 A, ms9 A, mr10 A, mw10 A, ms10 A, mr11 A, mw11 A, ms11 A, mr12 A, mw12 A, ms12 A, mr13 A, mw13 A, ms13 A, mr14 A, mw14 A, ms14 A, mf0, mf1, mf2, mf3, mf4, mf5, mf6, mg0, mg1, mg2, mg3, mg4, mg5, mg6, mg7, mg8, mg9, mg10, mg11, mg12, mg13, mg14, mg15, mg16, mg17, mg18, mg19, mg20, mg21, mgl, Nat.reduceLT, va_up_self, inB_nI (show j < 30 by omega) (by decide), e1, f, st_114 hs, st_119 hs, ok01_0, ok01_1]
  unfold cstop at hk
  by_cases h1 : s_st σ j = 114
  · rw [if_pos h1]; simpa [h1, b2] using hk
  · rw [if_neg h1]
    by_cases h2 : s_st σ j = 119
    · rw [if_pos h2]; simpa [h2, b2] using hk
    · rw [if_neg h2]; simpa [h1, h2, b2] using hk
def isLet (x : Int32) : Bool := decide (x = 114) || decide (x = 119) || decide (x = 115) || decide (x = 100) || decide (x = 107)
theorem c_isState {x : Int32} {h : AH} (hk : K (.inl (some (.int (b2 (isLet x))))) h) : CRd TTv E (d + 1) mX5_isState [.int x] h c n K := by
  refine crd rfl ?_
  show Ev E d mX5_isState K 0 [.int x] [] _ c n
  simp only [eX5_isState_0, eX5_isState_1, eX5_isState_3, eX5_isState_6, eX5_isState_7, eX5_isState_9, eX5_isState_12, eX5_isState_13, eX5_isState_15, eX5_isState_18, eX5_isState_19, eX5_isState_21, eX5_isState_24, eX5_isState_25, eX5_isState_27, eX5_isState_30, eX5_isState_31, eX5_isState_34, eX5_isState_35, isA_r, isA_n, isI_i, isF_f, isL_l, is1_i, is1_r, is1_n, is1_f, true_and, and_true, List.length_cons, List.length_nil, Nat.reduceAdd, Nat.reduceLeDiff, Nat.reduceSub, Option.some.injEq, exists_eq_left', aft_s, aft_n, ite_true, ite_false, if_true, if_false, Nat.zero_le, Nat.le_refl, reduceCtorEq, ok01_0, ok01_1]
  unfold isLet at hk
  by_cases h1 : x = 114
  · rw [if_pos h1]; simpa [h1, b2] using hk
  · rw [if_neg h1]
    by_cases h2 : x = 119
    · rw [if_pos h2]; simpa [h2, b2] using hk
    · rw [if_neg h2]
      by_cases h3 : x = 115
      · rw [if_pos h3]; simpa [h3, b2] using hk
      · rw [if_neg h3]
        by_cases h4 : x = 100
        · rw [if_pos h4]; simpa [h4, b2] using hk
        · rw [if_neg h4]
          by_cases h5 : x = 107
          · rw [if_pos h5]; simpa [h5, b2] using hk
          · rw [if_neg h5]; simpa [h1, h2, h3, h4, h5, b2] using hk
theorem c_waiting (R : RM σ th M) (hk : ∀ M', RM σ 0 M' → K (.inl (some (.int (nI (s_od σ).length)))) (mv h mo ad M')) : CRd TTv E (d + 1) mX5_waiting [.ref mo] (mv h mo ad M) c n K := by
  refine crd rfl ?_
  show Ev E d mX5_waiting K 0 [.ref mo] [] _ c n
  have a3 := R.1.2.2.2.1
  simp only [eX5_waiting_0, eX5_waiting_1, eX5_waiting_2, eX5_waiting_5, eX5_waiting_6, eX5_waiting_9, isA_r, isA_n, isI_i, isF_f, isL_l, is1_i, is1_r, is1_n, is1_f, true_and, and_true, List.length_cons, List.length_nil, Nat.reduceAdd, Nat.reduceLeDiff, Nat.reduceSub, Option.some.injEq, exists_eq_left', aft_s, aft_n, ite_true, ite_false, if_true, if_false, Nat.zero_le, Nat.le_refl, reduceCtorEq, mv_ob, mf0, mg3, mgl, Nat.reduceLT, va_up, Nat.reduceEqDiff, reduceIte, a3]
  exact hk _ (R.t 0)
theorem c_entries (R : RM σ th M) (hk : ∀ M', RM σ 0 M' → K (.inl (some (.int (nI (s_jn σ).length)))) (mv h mo ad M')) : CRd TTv E (d + 1) mX5_entries [.ref mo] (mv h mo ad M) c n K := by
  refine crd rfl ?_
  show Ev E d mX5_entries K 0 [.ref mo] [] _ c n
  have a5 := R.1.2.2.2.2.2.1
  simp only [eX5_entries_0, eX5_entries_1, eX5_entries_2, eX5_entries_5, eX5_entries_6, eX5_entries_9, isA_r, isA_n, isI_i, isF_f, isL_l, is1_i, is1_r, is1_n, is1_f, true_and, and_true, List.length_cons, List.length_nil, Nat.reduceAdd, Nat.reduceLeDiff, Nat.reduceSub, Option.some.injEq, exists_eq_left', aft_s, aft_n, ite_true, ite_false, if_true, if_false, Nat.zero_le, Nat.le_refl, reduceCtorEq, mv_ob, mf0, mg5, mgl, Nat.reduceLT, va_up, Nat.reduceEqDiff, reduceIte, a5]
  exact hk _ (R.t 0)
theorem c_common (R : RM σ th M) (hk : ∀ M', RM σ 0 M' → K (.inl (some (.int (nI (s_cm σ).length)))) (mv h mo ad M')) : CRd TTv E (d + 1) mX5_common [.ref mo] (mv h mo ad M) c n K := by
  refine crd rfl ?_
  show Ev E d mX5_common K 0 [.ref mo] [] _ c n
  have a4 := R.1.2.2.2.2.1
  simp only [eX5_common_0, eX5_common_1, eX5_common_2, eX5_common_5, eX5_common_6, eX5_common_9, isA_r, isA_n, isI_i, isF_f, isL_l, is1_i, is1_r, is1_n, is1_f, true_and, and_true, List.length_cons, List.length_nil, Nat.reduceAdd, Nat.reduceLeDiff, Nat.reduceSub, Option.some.injEq, exists_eq_left', aft_s, aft_n, ite_true, ite_false, if_true, if_false, Nat.zero_le, Nat.le_refl, reduceCtorEq, mv_ob, mf0, mg4, mgl, Nat.reduceLT, va_up, Nat.reduceEqDiff, reduceIte, a4]
  exact hk _ (R.t 0)
theorem c_worked (R : RM σ th M) (hk : ∀ M', RM σ 0 M' → K (.inl (some (.long (s_wk σ)))) (mv h mo ad M')) : CRd TTv E (d + 1) mX5_worked [.ref mo] (mv h mo ad M) c n K := by
  refine crd rfl ?_
  show Ev E d mX5_worked K 0 [.ref mo] [] _ c n
  have a6 := R.1.2.2.2.2.2.2
  simp only [eX5_worked_0, eX5_worked_1, eX5_worked_2, eX5_worked_5, eX5_worked_6, eX5_worked_9, isA_r, isA_n, isI_i, isF_f, isL_l, is1_i, is1_r, is1_n, is1_f, true_and, and_true, List.length_cons, List.length_nil, Nat.reduceAdd, Nat.reduceLeDiff, Nat.reduceSub, Option.some.injEq, exists_eq_left', aft_s, aft_n, ite_true, ite_false, if_true, if_false, Nat.zero_le, Nat.le_refl, reduceCtorEq, mv_ob, mf0, mg6, mgl, Nat.reduceLT, va_up, Nat.reduceEqDiff, reduceIte, a6]
  have R0 := R.t 0
  rw [a6] at R0
  exact hk _ R0

end MD7
