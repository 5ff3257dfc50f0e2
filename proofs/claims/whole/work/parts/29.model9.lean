section MD9
variable {E : EN} {d : Nat} {h : AH} {c n : Nat} {K : Out → AH → Prop} {mo : Nat} {ad : Nat → Nat} {M : MS} {σ : Sg} {th : Nat}
theorem c_takeUp (A : ADok mo ad) (R : RM σ th M) (O : Ok σ) {B : Nat} (hB : B + 1 < 31000) (hj : (s_jn σ).length ≤ B) {v : Int32} (hk : ∀ M', RM (a_takeUp σ v).2.2 (a_takeUp σ v).1 M' → K (.inl (some (.int (a_takeUp σ v).2.1))) (mv h mo ad M')) : CRd TTv E (d + 4) mX5_takeUp [.ref mo, .int v] (mv h mo ad M) c n K := by
  refine crd rfl ?_
  show Ev E (d + 3) mX5_takeUp K 0 [.ref mo, .int v, .retAddr 0] [] _ c n
  have hS := O.S
  have hJ := O.J
  simp only [eX5_takeUp_0, eX5_takeUp_1, eX5_takeUp_2, eX5_takeUp_5, eX5_takeUp_8, eX5_takeUp_9, eX5_takeUp_10, eX5_takeUp_11, eX5_takeUp_14, eX5_takeUp_15, eX5_takeUp_16, eX5_takeUp_19, eX5_takeUp_20, eX5_takeUp_21, eX5_takeUp_24, eX5_takeUp_25, eX5_takeUp_26, eX5_takeUp_29, eX5_takeUp_30, eX5_takeUp_31, eX5_takeUp_32, eX5_takeUp_33, eX5_takeUp_36, eX5_takeUp_37, eX5_takeUp_38, eX5_takeUp_39, eX5_takeUp_40, eX5_takeUp_43, eX5_takeUp_44, eX5_takeUp_45, eX5_takeUp_46, eX5_takeUp_47, eX5_takeUp_48, eX5_takeUp_51, eX5_takeUp_52, eX5_takeUp_55, eX5_takeUp_56, eX5_takeUp_57, eX5_takeUp_59, eX5_takeUp_62, eX5_takeUp_63, eX5_takeUp_64, eX5_takeUp_65, eX5_takeUp_66, eX5_takeUp_69, eX5_takeUp_70, isA_r, isA_n, isI_i, isF_f, isL_l, is1_i, is1_r, is1_n, is1_f, true_and, and_true, List.length_cons, List.length_nil, Nat.reduceAdd, Nat.reduceLeDiff, Nat.reduceSub, Option.some.injEq, exists_eq_left', aft_s, aft_n, ite_true, ite_false, if_true, if_false, Nat.zero_le, Nat.le_refl, reduceCtorEq, mv_ob, mr0 A, mw0 A, ms0 A, mr1 A, mw1 A, ms1 A, mr2 A, mw2 A, ms2 A, mr3 A, mw3 A, ms3 A, mr4 A, mw4 A, ms4 A, mr5 A, mw5 A, ms5 A, mr6 A, mw6 A, ms6 A, mr7 A, mw7 A, ms7 A, mr8 A, mw8 A, ms8 A, mr9 A, mw9 A, ms9 A, mr10 A, mw10 A, ms10 A, mr11 A, mw11 A, ms11 A, mr12 A, mw12 A, ms12 A, mr13 A, mw13 A, ms13 A, mr14 A, mw14 A, ms14 A, mf0, mf1, mf2, mf3, mf4, mf5, mf6, mg0, mg1, mg2, mg3, mg4, mg5, mg6, mg7, mg8, mg9, mg10, mg11, mg12, mg13, mg14, mg15, mg16, mg17, mg18, mg19, mg20, mg21, mgl, Nat.reduceLT, va_up_self, exists_eq']
  refine inv0 (c_isSession R O.S (fun s hs hv M1 R1 => ?_) (fun hne M1 R1 => ?_))
  · subst hv
    have e1 : (nI s).toNatClampNeg = s := nI_clamp (by omega)
    have b1 := R1.2.2.1 s (by omega)
    have b3 := R1.2.2.2.2.1 s hs
    have hf : ∀ i, s_pk σ s = some i → i < 30 := fun i hi => O.pk hi
    simp only [a_takeUp, ix_s hs (show s_nS σ < 2 ^ 31 by omega)] at hk
    simp only [eX5_takeUp_0, eX5_takeUp_1, eX5_takeUp_2, eX5_takeUp_5, eX5_takeUp_8, eX5_takeUp_9, eX5_takeUp_10, eX5_takeUp_11, eX5_takeUp_14, eX5_takeUp_15, eX5_takeUp_16, eX5_takeUp_19, eX5_takeUp_20, eX5_takeUp_21, eX5_takeUp_24, eX5_takeUp_25, eX5_takeUp_26, eX5_takeUp_29, eX5_takeUp_30, eX5_takeUp_31, eX5_takeUp_32, eX5_takeUp_33, eX5_takeUp_36, eX5_takeUp_37, eX5_takeUp_38, eX5_takeUp_39, eX5_takeUp_40, eX5_takeUp_43, eX5_takeUp_44, eX5_takeUp_45, eX5_takeUp_46, eX5_takeUp_47, eX5_takeUp_48, eX5_takeUp_51, eX5_takeUp_52, eX5_takeUp_55, eX5_takeUp_56, eX5_takeUp_57, eX5_takeUp_59, eX5_takeUp_62, eX5_takeUp_63, eX5_takeUp_64, eX5_takeUp_65, eX5_takeUp_66, eX5_takeUp_69, eX5_takeUp_70, isA_r, isA_n, isI_i, isF_f, isL_l, is1_i, is1_r, is1_n, is1_f, true_and, and_true, List.length_cons, List.length_nil, Nat.reduceAdd, Nat.reduceLeDiff, Nat.reduceSub, Option.some.injEq, exists_eq_left', aft_s, aft_n, ite_true, ite_false, if_true, if_false, Nat.zero_le, Nat.le_refl, reduceCtorEq, mv_ob, mr0 A, mw0 A, ms0 A, mr1 A, mw1 A, ms1 A, mr2 A, mw2 A, ms2 A, mr3 A, mw3 A, ms3 A, mr4 A, mw4 A, ms4 A, mr5 A, mw5 A, ms5 A, mr6 A, mw6 A, ms6 A, mr7 A, mw7 A, ms7 A, mr8 A, mw8 A, ms8 A, mr9 A, mw9 A, ms9 A, mr10 A, mw10 A, ms10 A, mr11 A, mw11 A, ms11 A, mr12 A, mw12 A, ms12 A, mr13 A, mw13 A, ms13 A, mr14 A, mw14 A, ms14 A, mf0, mf1, mf2, mf3, mf4, mf5, mf6, mg0, mg1, mg2, mg3, mg4, mg5, mg6, mg7, mg8, mg9, mg10, mg11, mg12, mg13, mg14, mg15, mg16, mg17, mg18, mg19, mg20, mg21, mgl, Nat.reduceLT, va_up_self, i10, i00, exists_eq', inB_nI (show s < 4 by omega) (by decide), e1, b1, b2_0, ok01_0, va_up, Nat.reduceEqDiff, reduceIte, b3, o2_m1 hf]
    have R2 := (R1.dr (j := s) (b := false)).pk (j := s) (b := none)
    by_cases hd : s_dr σ s = false
    · rw [if_pos hd]
      rw [if_pos hd] at hk
      refine inv0 (c_fails ?_)
      simp only [eX5_takeUp_0, eX5_takeUp_1, eX5_takeUp_2, eX5_takeUp_5, eX5_takeUp_8, eX5_takeUp_9, eX5_takeUp_10, eX5_takeUp_11, eX5_takeUp_14, eX5_takeUp_15, eX5_takeUp_16, eX5_takeUp_19, eX5_takeUp_20, eX5_takeUp_21, eX5_takeUp_24, eX5_takeUp_25, eX5_takeUp_26, eX5_takeUp_29, eX5_takeUp_30, eX5_takeUp_31, eX5_takeUp_32, eX5_takeUp_33, eX5_takeUp_36, eX5_takeUp_37, eX5_takeUp_38, eX5_takeUp_39, eX5_takeUp_40, eX5_takeUp_43, eX5_takeUp_44, eX5_takeUp_45, eX5_takeUp_46, eX5_takeUp_47, eX5_takeUp_48, eX5_takeUp_51, eX5_takeUp_52, eX5_takeUp_55, eX5_takeUp_56, eX5_takeUp_57, eX5_takeUp_59, eX5_takeUp_62, eX5_takeUp_63, eX5_takeUp_64, eX5_takeUp_65, eX5_takeUp_66, eX5_takeUp_69, eX5_takeUp_70, isA_r, isA_n, isI_i, isF_f, isL_l, is1_i, is1_r, is1_n, is1_f, true_and, and_true, List.length_cons, List.length_nil, Nat.reduceAdd, Nat.reduceLeDiff, Nat.reduceSub, Option.some.injEq, exists_eq_left', aft_s, aft_n, ite_true, ite_false, if_true, if_false, Nat.zero_le, Nat.le_refl, reduceCtorEq]
      exact hk _ (R1.t 2)
    · rw [if_neg hd]
      rw [if_neg hd] at hk
      cases hc : s_pk σ s with
      | none =>
        simp only [hc, if_true, reduceIte] at hk ⊢
        exact hk _ R2
      | some j =>
        have hjn := (O.2.2.2.2.2.1.2 s j hc).1
        have hse := (O.2.2.2.2.2.1.2 s j hc).2
        have hst := (O.job hjn).2.2.1
        have e2 : (nI j).toNatClampNeg = j := nI_clamp (by omega)
        have b10 := R1.2.2.2.2.2.2.2.2.2.2.2.1 j hjn
        simp only [hc, reduceCtorEq, if_false, reduceIte] at hk ⊢
        simp only [show o2 (some j) = nI j from rfl]
        simp only [eX5_takeUp_0, eX5_takeUp_1, eX5_takeUp_2, eX5_takeUp_5, eX5_takeUp_8, eX5_takeUp_9, eX5_takeUp_10, eX5_takeUp_11, eX5_takeUp_14, eX5_takeUp_15, eX5_takeUp_16, eX5_takeUp_19, eX5_takeUp_20, eX5_takeUp_21, eX5_takeUp_24, eX5_takeUp_25, eX5_takeUp_26, eX5_takeUp_29, eX5_takeUp_30, eX5_takeUp_31, eX5_takeUp_32, eX5_takeUp_33, eX5_takeUp_36, eX5_takeUp_37, eX5_takeUp_38, eX5_takeUp_39, eX5_takeUp_40, eX5_takeUp_43, eX5_takeUp_44, eX5_takeUp_45, eX5_takeUp_46, eX5_takeUp_47, eX5_takeUp_48, eX5_takeUp_51, eX5_takeUp_52, eX5_takeUp_55, eX5_takeUp_56, eX5_takeUp_57, eX5_takeUp_59, eX5_takeUp_62, eX5_takeUp_63, eX5_takeUp_64, eX5_takeUp_65, eX5_takeUp_66, eX5_takeUp_69, eX5_takeUp_70, isA_r, isA_n, isI_i, isF_f, isL_l, is1_i, is1_r, is1_n, is1_f, true_and, and_true, List.length_cons, List.length_nil, Nat.reduceAdd, Nat.reduceLeDiff, Nat.reduceSub, Option.some.injEq, exists_eq_left', aft_s, aft_n, ite_true, ite_false, if_true, if_false, Nat.zero_le, Nat.le_refl, reduceCtorEq, mv_ob, mr0 A, mw0 A, ms0 A, mr1 A, mw1 A, ms1 A, mr2 A, mw2 A, ms2 A, mr3 A, mw3 A, ms3 A, mr4 A, mw4 A, ms4 A, mr5 A, mw5 A, ms5 A, mr6 A, mw6 A, ms6 A, mr7 A, mw7 A, ms7 A, mr8 A, mw8 A, ms8 A, mr9 A, mw9 A, ms9 A, mr10 A, mw10 A, ms10 A, mr11 A, mw11 A, ms11 A, mr12 A, mw12 A, ms12 A, mr13 A, mw13 A, ms13 A, mr14 A, mw14 A, ms14 A, mf0, mf1, mf2, mf3, mf4, mf5, mf6, mg0, mg1, mg2, mg3, mg4, mg5, mg6, mg7, mg8, mg9, mg10, mg11, mg12, mg13, mg14, mg15, mg16, mg17, mg18, mg19, mg20, mg21, mgl, Nat.reduceLT, va_up_self, inB_nI (show j < 30 by omega) (by decide), e2, b10, st_115 hst, exists_eq', va_up, Nat.reduceEqDiff, reduceIte]
        have hW : Wf (parkF (attF σ s false) s none) B := (O.wf hj).congr rfl rfl rfl rfl
        by_cases h1 : s_st σ j = 115
        · rw [if_pos h1]
          rw [if_pos h1] at hk
          have hnp : s_pk (parkF (attF σ s false) s none) s = none := by
            show upN (s_pk (attF σ s false)) s none s = none
            exact upN_s
          refine inv0 (c_goesOn (σ := parkF (attF σ s false) s none) A R2 hW hB hjn hS (by show s_se σ j < s_nS σ; rw [hse]; exact hs) (fun i hi => ?_) (fun _ hm => ?_) (fun M3 R3 => ?_))
          · have hi : s_pk (parkF (attF σ s false) s none) (s_se σ j) = some i := hi
            rw [hse, hnp] at hi
            exact absurd hi (by simp)
          · have hm : j ∈ s_od σ := hm
            exact absurd ((O.2.2.1.2 j).mp hm).2 (by omega)
          simp only [eX5_takeUp_0, eX5_takeUp_1, eX5_takeUp_2, eX5_takeUp_5, eX5_takeUp_8, eX5_takeUp_9, eX5_takeUp_10, eX5_takeUp_11, eX5_takeUp_14, eX5_takeUp_15, eX5_takeUp_16, eX5_takeUp_19, eX5_takeUp_20, eX5_takeUp_21, eX5_takeUp_24, eX5_takeUp_25, eX5_takeUp_26, eX5_takeUp_29, eX5_takeUp_30, eX5_takeUp_31, eX5_takeUp_32, eX5_takeUp_33, eX5_takeUp_36, eX5_takeUp_37, eX5_takeUp_38, eX5_takeUp_39, eX5_takeUp_40, eX5_takeUp_43, eX5_takeUp_44, eX5_takeUp_45, eX5_takeUp_46, eX5_takeUp_47, eX5_takeUp_48, eX5_takeUp_51, eX5_takeUp_52, eX5_takeUp_55, eX5_takeUp_56, eX5_takeUp_57, eX5_takeUp_59, eX5_takeUp_62, eX5_takeUp_63, eX5_takeUp_64, eX5_takeUp_65, eX5_takeUp_66, eX5_takeUp_69, eX5_takeUp_70, isA_r, isA_n, isI_i, isF_f, isL_l, is1_i, is1_r, is1_n, is1_f, true_and, and_true, List.length_cons, List.length_nil, Nat.reduceAdd, Nat.reduceLeDiff, Nat.reduceSub, Option.some.injEq, exists_eq_left', aft_s, aft_n, ite_true, ite_false, if_true, if_false, Nat.zero_le, Nat.le_refl, reduceCtorEq, mv_ob, mr0 A, mw0 A, ms0 A, mr1 A, mw1 A, ms1 A, mr2 A, mw2 A, ms2 A, mr3 A, mw3 A, ms3 A, mr4 A, mw4 A, ms4 A, mr5 A, mw5 A, ms5 A, mr6 A, mw6 A, ms6 A, mr7 A, mw7 A, ms7 A, mr8 A, mw8 A, ms8 A, mr9 A, mw9 A, ms9 A, mr10 A, mw10 A, ms10 A, mr11 A, mw11 A, ms11 A, mr12 A, mw12 A, ms12 A, mr13 A, mw13 A, ms13 A, mr14 A, mw14 A, ms14 A, mf0, mf1, mf2, mf3, mf4, mf5, mf6, mg0, mg1, mg2, mg3, mg4, mg5, mg6, mg7, mg8, mg9, mg10, mg11, mg12, mg13, mg14, mg15, mg16, mg17, mg18, mg19, mg20, mg21, mgl, Nat.reduceLT, va_up_self]
          exact hk _ R3
        · rw [if_neg h1]
          rw [if_neg h1] at hk
          exact hk _ R2
  · simp only [a_takeUp, ix_n hne] at hk
    simp only [eX5_takeUp_0, eX5_takeUp_1, eX5_takeUp_2, eX5_takeUp_5, eX5_takeUp_8, eX5_takeUp_9, eX5_takeUp_10, eX5_takeUp_11, eX5_takeUp_14, eX5_takeUp_15, eX5_takeUp_16, eX5_takeUp_19, eX5_takeUp_20, eX5_takeUp_21, eX5_takeUp_24, eX5_takeUp_25, eX5_takeUp_26, eX5_takeUp_29, eX5_takeUp_30, eX5_takeUp_31, eX5_takeUp_32, eX5_takeUp_33, eX5_takeUp_36, eX5_takeUp_37, eX5_takeUp_38, eX5_takeUp_39, eX5_takeUp_40, eX5_takeUp_43, eX5_takeUp_44, eX5_takeUp_45, eX5_takeUp_46, eX5_takeUp_47, eX5_takeUp_48, eX5_takeUp_51, eX5_takeUp_52, eX5_takeUp_55, eX5_takeUp_56, eX5_takeUp_57, eX5_takeUp_59, eX5_takeUp_62, eX5_takeUp_63, eX5_takeUp_64, eX5_takeUp_65, eX5_takeUp_66, eX5_takeUp_69, eX5_takeUp_70, isA_r, isA_n, isI_i, isF_f, isL_l, is1_i, is1_r, is1_n, is1_f, true_and, and_true, List.length_cons, List.length_nil, Nat.reduceAdd, Nat.reduceLeDiff, Nat.reduceSub, Option.some.injEq, exists_eq_left', aft_s, aft_n, ite_true, ite_false, if_true, if_false, Nat.zero_le, Nat.le_refl, reduceCtorEq, mv_ob, mr0 A, mw0 A, ms0 A, mr1 A, mw1 A, ms1 A, mr2 A, mw2 A, ms2 A, mr3 A, mw3 A, ms3 A, mr4 A, mw4 A, ms4 A, mr5 A, mw5 A, ms5 A, mr6 A, mw6 A, ms6 A, mr7 A, mw7 A, ms7 A, mr8 A, mw8 A, ms8 A, mr9 A, mw9 A, ms9 A, mr10 A, mw10 A, ms10 A, mr11 A, mw11 A, ms11 A, mr12 A, mw12 A, ms12 A, mr13 A, mw13 A, ms13 A, mr14 A, mw14 A, ms14 A, mf0, mf1, mf2, mf3, mf4, mf5, mf6, mg0, mg1, mg2, mg3, mg4, mg5, mg6, mg7, mg8, mg9, mg10, mg11, mg12, mg13, mg14, mg15, mg16, mg17, mg18, mg19, mg20, mg21, mgl, Nat.reduceLT, va_up_self, i00, i10]
    exact hk M1 R1
theorem RM.opn (R : RM σ th M) (O : Ok σ) (hlt : s_nS σ < 4) {p : Bool} : RM (openF σ p) 0 (va_up (va_up M.1 0 0) 1 (nI (s_nS σ) + 1), M.2.1, va_up (va_up (va_up M.2.2 0 (upd (M.2.2 0) (s_nS σ) (b2 p))) 2 (upd (M.2.2 2) (s_nS σ) (-1))) 3 (upd (M.2.2 3) (s_nS σ) (-1))) := by
  obtain ⟨⟨a0, a1, a2, a3, a4, a5, a6⟩, b0, b1, b2q, b3, b4, b5, b6, b7, b8, b9, b10, b11, b12, b13, b14⟩ := R
  refine ⟨⟨rfl, ?_, a2, a3, a4, a5, a6⟩, ?_, b1, ?_, ?_, b4, b5, b6, b7, b8, b9, b10, b11, b12, b13, b14⟩
  · show va_up (va_up M.1 0 0) 1 (nI (s_nS σ) + 1) 1 = nI (s_nS σ + 1)
    rw [va_up_self, nI_1]
  · intro i hi
    show va_up (va_up (va_up M.2.2 0 (upd (M.2.2 0) (s_nS σ) (b2 p))) 2 (upd (M.2.2 2) (s_nS σ) (-1))) 3 (upd (M.2.2 3) (s_nS σ) (-1)) 0 i = b2 (upN (s_pv σ) (s_nS σ) p i)
    simp only [va_up, Nat.reduceEqDiff, reduceIte, upd, upN]
    split
    · rfl
    · exact b0 i hi
  · intro i hi
    have hi : i < s_nS σ + 1 := hi
    show va_up (va_up (va_up M.2.2 0 (upd (M.2.2 0) (s_nS σ) (b2 p))) 2 (upd (M.2.2 2) (s_nS σ) (-1))) 3 (upd (M.2.2 3) (s_nS σ) (-1)) 2 i = o2 (upN (s_fr σ) (s_nS σ) none i)
    simp only [va_up, Nat.reduceEqDiff, reduceIte, upd, upN]
    split
    · rfl
    · exact b2q i (by omega)
  · intro i hi
    have hi : i < s_nS σ + 1 := hi
    show va_up (va_up (va_up M.2.2 0 (upd (M.2.2 0) (s_nS σ) (b2 p))) 2 (upd (M.2.2 2) (s_nS σ) (-1))) 3 (upd (M.2.2 3) (s_nS σ) (-1)) 3 i = o2 (upN (s_pk σ) (s_nS σ) none i)
    simp only [va_up, Nat.reduceEqDiff, reduceIte, upd, upN]
    split
    · rfl
    · exact b3 i (by omega)
theorem c_open (A : ADok mo ad) (R : RM σ th M) (O : Ok σ) {p : Bool} (hk : ∀ M', RM (a_open σ p).2.2 (a_open σ p).1 M' → K (.inl (some (.int (a_open σ p).2.1))) (mv h mo ad M')) : CRd TTv E (d + 2) mX5_open [.ref mo, .int (b2 p)] (mv h mo ad M) c n K := by
  refine crd rfl ?_
  show Ev E (d + 1) mX5_open K 0 [.ref mo, .int (b2 p)] [] _ c n
  have hS := O.S
  have a1 := R.1.2.1
  have h4 : (nI (s_nS σ) = 4) ↔ s_nS σ = 4 := nI_eq (by omega) (by decide)
  simp only [eX5_open_0, eX5_open_1, eX5_open_4, eX5_open_5, eX5_open_8, eX5_open_9, eX5_open_10, eX5_open_13, eX5_open_14, eX5_open_15, eX5_open_16, eX5_open_19, eX5_open_20, eX5_open_23, eX5_open_24, eX5_open_27, eX5_open_28, eX5_open_29, eX5_open_30, eX5_open_33, eX5_open_34, eX5_open_37, eX5_open_38, eX5_open_39, eX5_open_40, eX5_open_43, eX5_open_44, eX5_open_47, eX5_open_48, eX5_open_49, eX5_open_50, eX5_open_51, eX5_open_54, eX5_open_55, eX5_open_56, eX5_open_59, eX5_open_60, eX5_open_63, eX5_open_64, eX5_open_65, isA_r, isA_n, isI_i, isF_f, isL_l, is1_i, is1_r, is1_n, is1_f, true_and, and_true, List.length_cons, List.length_nil, Nat.reduceAdd, Nat.reduceLeDiff, Nat.reduceSub, Option.some.injEq, exists_eq_left', aft_s, aft_n, ite_true, ite_false, if_true, if_false, Nat.zero_le, Nat.le_refl, reduceCtorEq, mv_ob, mr0 A, mw0 A, ms0 A, mr1 A, mw1 A, ms1 A, mr2 A, mw2 A, ms2 A, mr3 A, mw3 A, ms3 A, mr4 A, mw4 A, ms4 A, mr5 A, mw5 A, ms5 A, mr6 A, mw6 A, ms6 A, mr7 A, mw7 A, ms7 A, mr8 A, mw8 A, ms8 A, mr9 A, mw9 A, ms9 A, mr10 A, mw10 A, ms10 A, mr11 A, mw11 A, ms11 A, mr12 A, mw12 A, ms12 A, mr13 A, mw13 A, ms13 A, mr14 A, mw14 A, ms14 A, mf0, mf1, mf2, mf3, mf4, mf5, mf6, mg0, mg1, mg2, mg3, mg4, mg5, mg6, mg7, mg8, mg9, mg10, mg11, mg12, mg13, mg14, mg15, mg16, mg17, mg18, mg19, mg20, mg21, mgl, Nat.reduceLT, va_up_self, exists_eq', a1, h4]
  unfold a_open at hk
  by_cases hc : s_nS σ = 4
  · rw [if_pos hc]
    rw [if_pos hc] at hk
    refine inv0 (c_fails ?_)
    simp only [eX5_open_0, eX5_open_1, eX5_open_4, eX5_open_5, eX5_open_8, eX5_open_9, eX5_open_10, eX5_open_13, eX5_open_14, eX5_open_15, eX5_open_16, eX5_open_19, eX5_open_20, eX5_open_23, eX5_open_24, eX5_open_27, eX5_open_28, eX5_open_29, eX5_open_30, eX5_open_33, eX5_open_34, eX5_open_37, eX5_open_38, eX5_open_39, eX5_open_40, eX5_open_43, eX5_open_44, eX5_open_47, eX5_open_48, eX5_open_49, eX5_open_50, eX5_open_51, eX5_open_54, eX5_open_55, eX5_open_56, eX5_open_59, eX5_open_60, eX5_open_63, eX5_open_64, eX5_open_65, isA_r, isA_n, isI_i, isF_f, isL_l, is1_i, is1_r, is1_n, is1_f, true_and, and_true, List.length_cons, List.length_nil, Nat.reduceAdd, Nat.reduceLeDiff, Nat.reduceSub, Option.some.injEq, exists_eq_left', aft_s, aft_n, ite_true, ite_false, if_true, if_false, Nat.zero_le, Nat.le_refl, reduceCtorEq]
    exact hk _ (R.t 1)
  · rw [if_neg hc]
    rw [if_neg hc] at hk
    have hlt : s_nS σ < 4 := by omega
    have e1 : (nI (s_nS σ)).toNatClampNeg = s_nS σ := nI_clamp (by omega)
    have hx : nI (s_nS σ) + 1 - 1 = nI (s_nS σ) := by rw [nI_1, nI_pred]
    simp only [eX5_open_0, eX5_open_1, eX5_open_4, eX5_open_5, eX5_open_8, eX5_open_9, eX5_open_10, eX5_open_13, eX5_open_14, eX5_open_15, eX5_open_16, eX5_open_19, eX5_open_20, eX5_open_23, eX5_open_24, eX5_open_27, eX5_open_28, eX5_open_29, eX5_open_30, eX5_open_33, eX5_open_34, eX5_open_37, eX5_open_38, eX5_open_39, eX5_open_40, eX5_open_43, eX5_open_44, eX5_open_47, eX5_open_48, eX5_open_49, eX5_open_50, eX5_open_51, eX5_open_54, eX5_open_55, eX5_open_56, eX5_open_59, eX5_open_60, eX5_open_63, eX5_open_64, eX5_open_65, isA_r, isA_n, isI_i, isF_f, isL_l, is1_i, is1_r, is1_n, is1_f, true_and, and_true, List.length_cons, List.length_nil, Nat.reduceAdd, Nat.reduceLeDiff, Nat.reduceSub, Option.some.injEq, exists_eq_left', aft_s, aft_n, ite_true, ite_false, if_true, if_false, Nat.zero_le, Nat.le_refl, reduceCtorEq, mv_ob, mr0 A, mw0 A, ms0 A, mr1 A, mw1 A, ms1 A, mr2 A, mw2 A, ms2 A, mr3 A, mw3 A, ms3 A, mr4 A, mw4 A, ms4 A, mr5 A, mw5 A, ms5 A, mr6 A, mw6 A, ms6 A, mr7 A, mw7 A, ms7 A, mr8 A, mw8 A, ms8 A, mr9 A, mw9 A, ms9 A, mr10 A, mw10 A, ms10 A, mr11 A, mw11 A, ms11 A, mr12 A, mw12 A, ms12 A, mr13 A, mw13 A, ms13 A, mr14 A, mw14 A, ms14 A, mf0, mf1, mf2, mf3, mf4, mf5, mf6, mg0, mg1, mg2, mg3, mg4, mg5, mg6, mg7, mg8, mg9, mg10, mg11, mg12, mg13, mg14, mg15, mg16, mg17, mg18, mg19, mg20, mg21, mgl, Nat.reduceLT, va_up_self, exists_eq', a1, inB_nI hlt (by decide), e1, ok01_b2, va_up, Nat.reduceEqDiff, reduceIte, hx]
    exact hk _ (by have := R.opn O hlt (p := p); simpa only [va_up, Nat.reduceEqDiff, reduceIte] using this)
theorem c_toFront (A : ADok mo ad) (R : RM σ th M) (O : Ok σ) {v : Int32} (hk : ∀ M', RM (a_toFront σ v).2.2 (a_toFront σ v).1 M' → K (.inl (some (.int (a_toFront σ v).2.1))) (mv h mo ad M')) : CRd TTv E (d + 4) mX5_toFront [.ref mo, .int v] (mv h mo ad M) c n K := by
  refine crd rfl ?_
  show Ev E (d + 3) mX5_toFront K 0 [.ref mo, .int v, .retAddr 0, .retAddr 0] [] _ c n
  have hS := O.S
  have hJ := O.J
  simp only [eX5_toFront_0, eX5_toFront_1, eX5_toFront_2, eX5_toFront_5, eX5_toFront_8, eX5_toFront_9, eX5_toFront_10, eX5_toFront_11, eX5_toFront_14, eX5_toFront_15, eX5_toFront_16, eX5_toFront_17, eX5_toFront_18, eX5_toFront_19, eX5_toFront_22, eX5_toFront_23, eX5_toFront_24, eX5_toFront_25, eX5_toFront_28, eX5_toFront_29, eX5_toFront_32, eX5_toFront_33, eX5_toFront_34, eX5_toFront_37, eX5_toFront_38, eX5_toFront_41, eX5_toFront_42, eX5_toFront_43, eX5_toFront_46, eX5_toFront_49, eX5_toFront_50, eX5_toFront_53, eX5_toFront_54, eX5_toFront_57, eX5_toFront_58, eX5_toFront_61, eX5_toFront_64, eX5_toFront_65, eX5_toFront_66, eX5_toFront_67, eX5_toFront_70, eX5_toFront_71, eX5_toFront_72, eX5_toFront_73, eX5_toFront_76, eX5_toFront_77, eX5_toFront_80, eX5_toFront_81, eX5_toFront_82, eX5_toFront_83, eX5_toFront_86, eX5_toFront_87, eX5_toFront_88, eX5_toFront_89, eX5_toFront_90, isA_r, isA_n, isI_i, isF_f, isL_l, is1_i, is1_r, is1_n, is1_f, true_and, and_true, List.length_cons, List.length_nil, Nat.reduceAdd, Nat.reduceLeDiff, Nat.reduceSub, Option.some.injEq, exists_eq_left', aft_s, aft_n, ite_true, ite_false, if_true, if_false, Nat.zero_le, Nat.le_refl, reduceCtorEq, mv_ob, mr0 A, mw0 A, ms0 A, mr1 A, mw1 A, ms1 A, mr2 A, mw2 A, ms2 A, mr3 A, mw3 A, ms3 A, mr4 A, mw4 A, ms4 A, mr5 A, mw5 A, ms5 A, mr6 A, mw6 A, ms6 A, mr7 A, mw7 A, ms7 A, mr8 A, mw8 A, ms8 A, mr9 A, mw9 A, ms9 A, mr10 A, mw10 A, ms10 A, mr11 A, mw11 A, ms11 A, mr12 A, mw12 A, ms12 A, mr13 A, mw13 A, ms13 A, mr14 A, mw14 A, ms14 A, mf0, mf1, mf2, mf3, mf4, mf5, mf6, mg0, mg1, mg2, mg3, mg4, mg5, mg6, mg7, mg8, mg9, mg10, mg11, mg12, mg13, mg14, mg15, mg16, mg17, mg18, mg19, mg20, mg21, mgl, Nat.reduceLT, va_up_self, exists_eq']
  refine inv0 (c_isJob R O.J (fun j hs hv M1 R1 => ?_) (fun hne M1 R1 => ?_))
  · subst hv
    have hse := (O.job hs).1
    have e1 : (nI j).toNatClampNeg = j := nI_clamp (by omega)
    have e2 : (nI (s_se σ j)).toNatClampNeg = s_se σ j := nI_clamp (by omega)
    have b1 := R1.2.2.1 (s_se σ j) (by omega)
    have b2q := R1.2.2.2.1 (s_se σ j) hse
    have b7 := R1.2.2.2.2.2.2.2.2.1 j hs
    have hf : ∀ i, s_fr σ (s_se σ j) = some i → i < 30 := fun i hi => O.fr hi
    have hq := o2_nI hf (show j < 30 by omega)
    have p2 : (0 : Int32) < 2 := by decide
    have p3 : (0 : Int32) < 3 := by decide
    have p0 : ¬ (0 : Int32) < 0 := by decide
    simp only [a_toFront, ix_s hs (show s_nJ σ < 2 ^ 31 by omega)] at hk
    simp only [eX5_toFront_0, eX5_toFront_1, eX5_toFront_2, eX5_toFront_5, eX5_toFront_8, eX5_toFront_9, eX5_toFront_10, eX5_toFront_11, eX5_toFront_14, eX5_toFront_15, eX5_toFront_16, eX5_toFront_17, eX5_toFront_18, eX5_toFront_19, eX5_toFront_22, eX5_toFront_23, eX5_toFront_24, eX5_toFront_25, eX5_toFront_28, eX5_toFront_29, eX5_toFront_32, eX5_toFront_33, eX5_toFront_34, eX5_toFront_37, eX5_toFront_38, eX5_toFront_41, eX5_toFront_42, eX5_toFront_43, eX5_toFront_46, eX5_toFront_49, eX5_toFront_50, eX5_toFront_53, eX5_toFront_54, eX5_toFront_57, eX5_toFront_58, eX5_toFront_61, eX5_toFront_64, eX5_toFront_65, eX5_toFront_66, eX5_toFront_67, eX5_toFront_70, eX5_toFront_71, eX5_toFront_72, eX5_toFront_73, eX5_toFront_76, eX5_toFront_77, eX5_toFront_80, eX5_toFront_81, eX5_toFront_82, eX5_toFront_83, eX5_toFront_86, eX5_toFront_87, eX5_toFront_88, eX5_toFront_89, eX5_toFront_90, isA_r, isA_n, isI_i, isF_f, isL_l, is1_i, is1_r, is1_n, is1_f, true_and, and_true, List.length_cons, List.length_nil, Nat.reduceAdd, Nat.reduceLeDiff, Nat.reduceSub, Option.some.injEq, exists_eq_left', aft_s, aft_n, ite_true, ite_false, if_true, if_false, Nat.zero_le, Nat.le_refl, reduceCtorEq, mv_ob, mr0 A, mw0 A, ms0 A, mr1 A, mw1 A, ms1 A, mr2 A, mw2 A, ms2 A, mr3 A, mw3 A, ms3 A, mr4 A, mw4 A, ms4 A, mr5 A, mw5 A, ms5 A, mr6 A, mw6 A, ms6 A, mr7 A, mw7 A, ms7 A, mr8 A, mw8 A, ms8 A, mr9 A, mw9 A, ms9 A, mr10 A, mw10 A, ms10 A, mr11 A, mw11 A, ms11 A, mr12 A, mw12 A, ms12 A, mr13 A, mw13 A, ms13 A, mr14 A, mw14 A, ms14 A, mf0, mf1, mf2, mf3, mf4, mf5, mf6, mg0, mg1, mg2, mg3, mg4, mg5, mg6, mg7, mg8, mg9, mg10, mg11, mg12, mg13, mg14, mg15, mg16, mg17, mg18, mg19, mg20, mg21, mgl, Nat.reduceLT, va_up_self, i10, i00, exists_eq', inB_nI (show j < 30 by omega) (by decide), inB_nI (show s_se σ j < 4 by omega) (by decide), e1, e2, b1, b7, b2q, b2_0, hq, va_up, Nat.reduceEqDiff, reduceIte, p2, ok01_0]
    by_cases hc : s_fr σ (s_se σ j) = some j
    · rw [if_pos hc]
      rw [if_pos hc] at hk
      exact hk _ (R1.t 2)
    · rw [if_neg hc]
      rw [if_neg hc] at hk
      by_cases hd : s_dr σ (s_se σ j) = false
      · rw [if_pos hd]
        rw [if_pos hd] at hk
        refine inv0 (c_isOver A R1 hs hJ (O.job hs).2.2.1 ?_)
        simp only [eX5_toFront_0, eX5_toFront_1, eX5_toFront_2, eX5_toFront_5, eX5_toFront_8, eX5_toFront_9, eX5_toFront_10, eX5_toFront_11, eX5_toFront_14, eX5_toFront_15, eX5_toFront_16, eX5_toFront_17, eX5_toFront_18, eX5_toFront_19, eX5_toFront_22, eX5_toFront_23, eX5_toFront_24, eX5_toFront_25, eX5_toFront_28, eX5_toFront_29, eX5_toFront_32, eX5_toFront_33, eX5_toFront_34, eX5_toFront_37, eX5_toFront_38, eX5_toFront_41, eX5_toFront_42, eX5_toFront_43, eX5_toFront_46, eX5_toFront_49, eX5_toFront_50, eX5_toFront_53, eX5_toFront_54, eX5_toFront_57, eX5_toFront_58, eX5_toFront_61, eX5_toFront_64, eX5_toFront_65, eX5_toFront_66, eX5_toFront_67, eX5_toFront_70, eX5_toFront_71, eX5_toFront_72, eX5_toFront_73, eX5_toFront_76, eX5_toFront_77, eX5_toFront_80, eX5_toFront_81, eX5_toFront_82, eX5_toFront_83, eX5_toFront_86, eX5_toFront_87, eX5_toFront_88, eX5_toFront_89, eX5_toFront_90, isA_r, isA_n, isI_i, isF_f, isL_l, is1_i, is1_r, is1_n, is1_f, true_and, and_true, List.length_cons, List.length_nil, Nat.reduceAdd, Nat.reduceLeDiff, Nat.reduceSub, Option.some.injEq, exists_eq_left', aft_s, aft_n, ite_true, ite_false, if_true, if_false, Nat.zero_le, Nat.le_refl, reduceCtorEq, mv_ob, mr0 A, mw0 A, ms0 A, mr1 A, mw1 A, ms1 A, mr2 A, mw2 A, ms2 A, mr3 A, mw3 A, ms3 A, mr4 A, mw4 A, ms4 A, mr5 A, mw5 A, ms5 A, mr6 A, mw6 A, ms6 A, mr7 A, mw7 A, ms7 A, mr8 A, mw8 A, ms8 A, mr9 A, mw9 A, ms9 A, mr10 A, mw10 A, ms10 A, mr11 A, mw11 A, ms11 A, mr12 A, mw12 A, ms12 A, mr13 A, mw13 A, ms13 A, mr14 A, mw14 A, ms14 A, mf0, mf1, mf2, mf3, mf4, mf5, mf6, mg0, mg1, mg2, mg3, mg4, mg5, mg6, mg7, mg8, mg9, mg10, mg11, mg12, mg13, mg14, mg15, mg16, mg17, mg18, mg19, mg20, mg21, mgl, Nat.reduceLT, va_up_self, b2_0, exists_eq', i10, i00, inB_nI (show j < 30 by omega) (by decide), inB_nI (show s_se σ j < 4 by omega) (by decide), e1, e2, b2q, va_up, Nat.reduceEqDiff, reduceIte, p3, p0, ok01_0, ok01_1, o2_m1 hf]
        by_cases ho : over σ j = false
        · rw [if_pos ho]
          rw [if_pos ho] at hk
          cases hz : s_fr σ (s_se σ j) with
          | none =>
            simp only [hz, if_true, reduceIte] at hk ⊢
            exact hk _ ((R1.t 0).fr (j := s_se σ j) (b := some j))
          | some i =>
            simp only [hz, reduceCtorEq, if_false, reduceIte] at hk ⊢
            exact hk _ ((R1.t 0).fr (j := s_se σ j) (b := some j))
        · rw [if_neg ho]
          rw [if_neg ho] at hk
          exact hk _ (R1.t 3)
      · rw [if_neg hd]
        rw [if_neg hd] at hk
        exact hk _ (R1.t 2)
  · simp only [a_toFront, ix_n hne] at hk
    simp only [eX5_toFront_0, eX5_toFront_1, eX5_toFront_2, eX5_toFront_5, eX5_toFront_8, eX5_toFront_9, eX5_toFront_10, eX5_toFront_11, eX5_toFront_14, eX5_toFront_15, eX5_toFront_16, eX5_toFront_17, eX5_toFront_18, eX5_toFront_19, eX5_toFront_22, eX5_toFront_23, eX5_toFront_24, eX5_toFront_25, eX5_toFront_28, eX5_toFront_29, eX5_toFront_32, eX5_toFront_33, eX5_toFront_34, eX5_toFront_37, eX5_toFront_38, eX5_toFront_41, eX5_toFront_42, eX5_toFront_43, eX5_toFront_46, eX5_toFront_49, eX5_toFront_50, eX5_toFront_53, eX5_toFront_54, eX5_toFront_57, eX5_toFront_58, eX5_toFront_61, eX5_toFront_64, eX5_toFront_65, eX5_toFront_66, eX5_toFront_67, eX5_toFront_70, eX5_toFront_71, eX5_toFront_72, eX5_toFront_73, eX5_toFront_76, eX5_toFront_77, eX5_toFront_80, eX5_toFront_81, eX5_toFront_82, eX5_toFront_83, eX5_toFront_86, eX5_toFront_87, eX5_toFront_88, eX5_toFront_89, eX5_toFront_90, isA_r, isA_n, isI_i, isF_f, isL_l, is1_i, is1_r, is1_n, is1_f, true_and, and_true, List.length_cons, List.length_nil, Nat.reduceAdd, Nat.reduceLeDiff, Nat.reduceSub, Option.some.injEq, exists_eq_left', aft_s, aft_n, ite_true, ite_false, if_true, if_false, Nat.zero_le, Nat.le_refl, reduceCtorEq, mv_ob, mr0 A, mw0 A, ms0 A, mr1 A, mw1 A, ms1 A, mr2 A, mw2 A, ms2 A, mr3 A, mw3 A, ms3 A, mr4 A, mw4 A, ms4 A, mr5 A, mw5 A, ms5 A, mr6 A, mw6 A, ms6 A, mr7 A, mw7 A, ms7 A, mr8 A, mw8 A, ms8 A, mr9 A, mw9 A, ms9 A, mr10 A, mw10 A, ms10 A, mr11 A, mw11 A, ms11 A, mr12 A, mw12 A, ms12 A, mr13 A, mw13 A, ms13 A, mr14 A, mw14 A, ms14 A, mf0, mf1, mf2, mf3, mf4, mf5, mf6, mg0, mg1, mg2, mg3, mg4, mg5, mg6, mg7, mg8, mg9, mg10, mg11, mg12, mg13, mg14, mg15, mg16, mg17, mg18, mg19, mg20, mg21, mgl, Nat.reduceLT, va_up_self, i00, i10, ok01_0]
    exact hk M1 R1
theorem c_commandAt (A : ADok mo ad) (R : RM σ th M) (O : Ok σ) {v w : Int32} (hk : ∀ M', RM (q_commandAt σ v w).2.2 (q_commandAt σ v w).1 M' → K (.inl (some (.int (q_commandAt σ v w).2.1))) (mv h mo ad M')) : CRd TTv E (d + 4) mX5_commandAt [.ref mo, .int v, .int w] (mv h mo ad M) c n K := by
  refine crd rfl ?_
  show Ev E (d + 3) mX5_commandAt K 0 [.ref mo, .int v, .int w] [] _ c n
  have hS := O.S
  simp only [eX5_commandAt_0, eX5_commandAt_1, eX5_commandAt_2, eX5_commandAt_5, eX5_commandAt_8, eX5_commandAt_9, eX5_commandAt_10, eX5_commandAt_11, eX5_commandAt_12, eX5_commandAt_13, eX5_commandAt_16, eX5_commandAt_17, eX5_commandAt_18, eX5_commandAt_19, eX5_commandAt_20, eX5_commandAt_23, eX5_commandAt_26, eX5_commandAt_27, eX5_commandAt_30, eX5_commandAt_32, eX5_commandAt_33, eX5_commandAt_34, eX5_commandAt_35, eX5_commandAt_38, eX5_commandAt_39, eX5_commandAt_40, eX5_commandAt_41, eX5_commandAt_42, eX5_commandAt_43, eX5_commandAt_44, eX5_commandAt_45, eX5_commandAt_46, eX5_commandAt_49, eX5_commandAt_50, eX5_commandAt_51, eX5_commandAt_54, isA_r, isA_n, isI_i, isF_f, isL_l, is1_i, is1_r, is1_n, is1_f, true_and, and_true, List.length_cons, List.length_nil, Nat.reduceAdd, Nat.reduceLeDiff, Nat.reduceSub, Option.some.injEq, exists_eq_left', aft_s, aft_n, ite_true, ite_false, if_true, if_false, Nat.zero_le, Nat.le_refl, reduceCtorEq, mv_ob, mr0 A, mw0 A, ms0 A, mr1 A, mw1 A, ms1 A, mr2 A, mw2 A, ms2 A, mr3 A, mw3 A, ms3 A, mr4 A, mw4 A, ms4 A, mr5 A, mw5 A, ms5 A, mr6 A, mw6 A, ms6 A, mr7 A, mw7 A, ms7 A, mr8 A, mw8 A, ms8 A, mr9 A, mw9 A, ms9 A, mr10 A, mw10 A, ms10 A, mr11 A, mw11 A, ms11 A, mr12 A, mw12 A, ms12 A, mr13 A, mw13 A, ms13 A, mr14 A, mw14 A, ms14 A, mf0, mf1, mf2, mf3, mf4, mf5, mf6, mg0, mg1, mg2, mg3, mg4, mg5, mg6, mg7, mg8, mg9, mg10, mg11, mg12, mg13, mg14, mg15, mg16, mg17, mg18, mg19, mg20, mg21, mgl, Nat.reduceLT, va_up_self, exists_eq']
  refine inv0 (c_isSession R O.S (fun s hs hv M1 R1 => ?_) (fun hne M1 R1 => ?_))
  · subst hv
    have hl := (O.2.2.2.2.2.2.2.1.1 s).1
    have e1 : (nI s).toNatClampNeg = s := nI_clamp (by omega)
    have b4 := R1.2.2.2.2.2.1 s (by omega)
    simp only [q_commandAt, ix_s hs (show s_nS σ < 2 ^ 31 by omega)] at hk
    simp only [eX5_commandAt_0, eX5_commandAt_1, eX5_commandAt_2, eX5_commandAt_5, eX5_commandAt_8, eX5_commandAt_9, eX5_commandAt_10, eX5_commandAt_11, eX5_commandAt_12, eX5_commandAt_13, eX5_commandAt_16, eX5_commandAt_17, eX5_commandAt_18, eX5_commandAt_19, eX5_commandAt_20, eX5_commandAt_23, eX5_commandAt_26, eX5_commandAt_27, eX5_commandAt_30, eX5_commandAt_32, eX5_commandAt_33, eX5_commandAt_34, eX5_commandAt_35, eX5_commandAt_38, eX5_commandAt_39, eX5_commandAt_40, eX5_commandAt_41, eX5_commandAt_42, eX5_commandAt_43, eX5_commandAt_44, eX5_commandAt_45, eX5_commandAt_46, eX5_commandAt_49, eX5_commandAt_50, eX5_commandAt_51, eX5_commandAt_54, isA_r, isA_n, isI_i, isF_f, isL_l, is1_i, is1_r, is1_n, is1_f, true_and, and_true, List.length_cons, List.length_nil, Nat.reduceAdd, Nat.reduceLeDiff, Nat.reduceSub, Option.some.injEq, exists_eq_left', aft_s, aft_n, ite_true, ite_false, if_true, if_false, Nat.zero_le, Nat.le_refl, reduceCtorEq, mv_ob, mr0 A, mw0 A, ms0 A, mr1 A, mw1 A, ms1 A, mr2 A, mw2 A, ms2 A, mr3 A, mw3 A, ms3 A, mr4 A, mw4 A, ms4 A, mr5 A, mw5 A, ms5 A, mr6 A, mw6 A, ms6 A, mr7 A, mw7 A, ms7 A, mr8 A, mw8 A, ms8 A, mr9 A, mw9 A, ms9 A, mr10 A, mw10 A, ms10 A, mr11 A, mw11 A, ms11 A, mr12 A, mw12 A, ms12 A, mr13 A, mw13 A, ms13 A, mr14 A, mw14 A, ms14 A, mf0, mf1, mf2, mf3, mf4, mf5, mf6, mg0, mg1, mg2, mg3, mg4, mg5, mg6, mg7, mg8, mg9, mg10, mg11, mg12, mg13, mg14, mg15, mg16, mg17, mg18, mg19, mg20, mg21, mgl, Nat.reduceLT, va_up_self, i10, i00, exists_eq', inB_nI (show s < 4 by omega) (by decide), e1, b4]
    refine inv0 (c_in0 (by omega) (fun k hk1 hv => ?_) (fun hne => ?_))
    · subst hv
      simp only [ix_s hk1 (show (s_hi σ s).length < 2 ^ 31 by omega)] at hk
      have b5 := R1.2.2.2.2.2.2.1 s (by omega) ((s_hi σ s).length - 1 - k) (by omega)
      have x0 : (8 : Int32) * nI s = nI (8 * s) := pk_mul 8 s
      have x1 : nI (8 * s + (s_hi σ s).length) - 1 = nI (8 * s + ((s_hi σ s).length - 1)) := by
        rw [show (1 : Int32) = nI 1 from rfl, pk_sub (by omega)]
        congr 1
        omega
      have x2 : nI (8 * s + ((s_hi σ s).length - 1)) - nI k = nI (8 * s + ((s_hi σ s).length - 1 - k)) := by
        rw [pk_sub (by omega)]
        congr 1
        omega
      have e2 : (nI (8 * s + ((s_hi σ s).length - 1 - k))).toNatClampNeg = 8 * s + ((s_hi σ s).length - 1 - k) := nI_clamp (by omega)
      simp only [eX5_commandAt_0, eX5_commandAt_1, eX5_commandAt_2, eX5_commandAt_5, eX5_commandAt_8, eX5_commandAt_9, eX5_commandAt_10, eX5_commandAt_11, eX5_commandAt_12, eX5_commandAt_13, eX5_commandAt_16, eX5_commandAt_17, eX5_commandAt_18, eX5_commandAt_19, eX5_commandAt_20, eX5_commandAt_23, eX5_commandAt_26, eX5_commandAt_27, eX5_commandAt_30, eX5_commandAt_32, eX5_commandAt_33, eX5_commandAt_34, eX5_commandAt_35, eX5_commandAt_38, eX5_commandAt_39, eX5_commandAt_40, eX5_commandAt_41, eX5_commandAt_42, eX5_commandAt_43, eX5_commandAt_44, eX5_commandAt_45, eX5_commandAt_46, eX5_commandAt_49, eX5_commandAt_50, eX5_commandAt_51, eX5_commandAt_54, isA_r, isA_n, isI_i, isF_f, isL_l, is1_i, is1_r, is1_n, is1_f, true_and, and_true, List.length_cons, List.length_nil, Nat.reduceAdd, Nat.reduceLeDiff, Nat.reduceSub, Option.some.injEq, exists_eq_left', aft_s, aft_n, ite_true, ite_false, if_true, if_false, Nat.zero_le, Nat.le_refl, reduceCtorEq, mv_ob, mr0 A, mw0 A, ms0 A, mr1 A, mw1 A, ms1 A, mr2 A, mw2 A, ms2 A, mr3 A, mw3 A, ms3 A, mr4 A, mw4 A, ms4 A, mr5 A, mw5 A, ms5 A, mr6 A, mw6 A, ms6 A, mr7 A, mw7 A, ms7 A, mr8 A, mw8 A, ms8 A, mr9 A, mw9 A, ms9 A, mr10 A, mw10 A, ms10 A, mr11 A, mw11 A, ms11 A, mr12 A, mw12 A, ms12 A, mr13 A, mw13 A, ms13 A, mr14 A, mw14 A, ms14 A, mf0, mf1, mf2, mf3, mf4, mf5, mf6, mg0, mg1, mg2, mg3, mg4, mg5, mg6, mg7, mg8, mg9, mg10, mg11, mg12, mg13, mg14, mg15, mg16, mg17, mg18, mg19, mg20, mg21, mgl, Nat.reduceLT, va_up_self, i10, i00, inB_nI (show s < 4 by omega) (by decide), e1, b4, x0, nI_add, x1, x2, e2, inB_nI (show 8 * s + ((s_hi σ s).length - 1 - k) < 32 by omega) (by decide), b5]
      exact hk _ R1
    · simp only [ix_n hne] at hk
      simp only [eX5_commandAt_0, eX5_commandAt_1, eX5_commandAt_2, eX5_commandAt_5, eX5_commandAt_8, eX5_commandAt_9, eX5_commandAt_10, eX5_commandAt_11, eX5_commandAt_12, eX5_commandAt_13, eX5_commandAt_16, eX5_commandAt_17, eX5_commandAt_18, eX5_commandAt_19, eX5_commandAt_20, eX5_commandAt_23, eX5_commandAt_26, eX5_commandAt_27, eX5_commandAt_30, eX5_commandAt_32, eX5_commandAt_33, eX5_commandAt_34, eX5_commandAt_35, eX5_commandAt_38, eX5_commandAt_39, eX5_commandAt_40, eX5_commandAt_41, eX5_commandAt_42, eX5_commandAt_43, eX5_commandAt_44, eX5_commandAt_45, eX5_commandAt_46, eX5_commandAt_49, eX5_commandAt_50, eX5_commandAt_51, eX5_commandAt_54, isA_r, isA_n, isI_i, isF_f, isL_l, is1_i, is1_r, is1_n, is1_f, true_and, and_true, List.length_cons, List.length_nil, Nat.reduceAdd, Nat.reduceLeDiff, Nat.reduceSub, Option.some.injEq, exists_eq_left', aft_s, aft_n, ite_true, ite_false, if_true, if_false, Nat.zero_le, Nat.le_refl, reduceCtorEq, mv_ob, mr0 A, mw0 A, ms0 A, mr1 A, mw1 A, ms1 A, mr2 A, mw2 A, ms2 A, mr3 A, mw3 A, ms3 A, mr4 A, mw4 A, ms4 A, mr5 A, mw5 A, ms5 A, mr6 A, mw6 A, ms6 A, mr7 A, mw7 A, ms7 A, mr8 A, mw8 A, ms8 A, mr9 A, mw9 A, ms9 A, mr10 A, mw10 A, ms10 A, mr11 A, mw11 A, ms11 A, mr12 A, mw12 A, ms12 A, mr13 A, mw13 A, ms13 A, mr14 A, mw14 A, ms14 A, mf0, mf1, mf2, mf3, mf4, mf5, mf6, mg0, mg1, mg2, mg3, mg4, mg5, mg6, mg7, mg8, mg9, mg10, mg11, mg12, mg13, mg14, mg15, mg16, mg17, mg18, mg19, mg20, mg21, mgl, Nat.reduceLT, va_up_self, i10, i00, exists_eq']
      refine inv0 (c_fails ?_)
      simp only [eX5_commandAt_0, eX5_commandAt_1, eX5_commandAt_2, eX5_commandAt_5, eX5_commandAt_8, eX5_commandAt_9, eX5_commandAt_10, eX5_commandAt_11, eX5_commandAt_12, eX5_commandAt_13, eX5_commandAt_16, eX5_commandAt_17, eX5_commandAt_18, eX5_commandAt_19, eX5_commandAt_20, eX5_commandAt_23, eX5_commandAt_26, eX5_commandAt_27, eX5_commandAt_30, eX5_commandAt_32, eX5_commandAt_33, eX5_commandAt_34, eX5_commandAt_35, eX5_commandAt_38, eX5_commandAt_39, eX5_commandAt_40, eX5_commandAt_41, eX5_commandAt_42, eX5_commandAt_43, eX5_commandAt_44, eX5_commandAt_45, eX5_commandAt_46, eX5_commandAt_49, eX5_commandAt_50, eX5_commandAt_51, eX5_commandAt_54, isA_r, isA_n, isI_i, isF_f, isL_l, is1_i, is1_r, is1_n, is1_f, true_and, and_true, List.length_cons, List.length_nil, Nat.reduceAdd, Nat.reduceLeDiff, Nat.reduceSub, Option.some.injEq, exists_eq_left', aft_s, aft_n, ite_true, ite_false, if_true, if_false, Nat.zero_le, Nat.le_refl, reduceCtorEq]
      exact hk _ (R1.t 2)
  · simp only [q_commandAt, ix_n hne] at hk
    simp only [eX5_commandAt_0, eX5_commandAt_1, eX5_commandAt_2, eX5_commandAt_5, eX5_commandAt_8, eX5_commandAt_9, eX5_commandAt_10, eX5_commandAt_11, eX5_commandAt_12, eX5_commandAt_13, eX5_commandAt_16, eX5_commandAt_17, eX5_commandAt_18, eX5_commandAt_19, eX5_commandAt_20, eX5_commandAt_23, eX5_commandAt_26, eX5_commandAt_27, eX5_commandAt_30, eX5_commandAt_32, eX5_commandAt_33, eX5_commandAt_34, eX5_commandAt_35, eX5_commandAt_38, eX5_commandAt_39, eX5_commandAt_40, eX5_commandAt_41, eX5_commandAt_42, eX5_commandAt_43, eX5_commandAt_44, eX5_commandAt_45, eX5_commandAt_46, eX5_commandAt_49, eX5_commandAt_50, eX5_commandAt_51, eX5_commandAt_54, isA_r, isA_n, isI_i, isF_f, isL_l, is1_i, is1_r, is1_n, is1_f, true_and, and_true, List.length_cons, List.length_nil, Nat.reduceAdd, Nat.reduceLeDiff, Nat.reduceSub, Option.some.injEq, exists_eq_left', aft_s, aft_n, ite_true, ite_false, if_true, if_false, Nat.zero_le, Nat.le_refl, reduceCtorEq, mv_ob, mr0 A, mw0 A, ms0 A, mr1 A, mw1 A, ms1 A, mr2 A, mw2 A, ms2 A, mr3 A, mw3 A, ms3 A, mr4 A, mw4 A, ms4 A, mr5 A, mw5 A, ms5 A, mr6 A, mw6 A, ms6 A, mr7 A, mw7 A, ms7 A, mr8 A, mw8 A, ms8 A, mr9 A, mw9 A, ms9 A, mr10 A, mw10 A, ms10 A, mr11 A, mw11 A, ms11 A, mr12 A, mw12 A, ms12 A, mr13 A, mw13 A, ms13 A, mr14 A, mw14 A, ms14 A, mf0, mf1, mf2, mf3, mf4, mf5, mf6, mg0, mg1, mg2, mg3, mg4, mg5, mg6, mg7, mg8, mg9, mg10, mg11, mg12, mg13, mg14, mg15, mg16, mg17, mg18, mg19, mg20, mg21, mgl, Nat.reduceLT, va_up_self, i00, i10]
    exact hk M1 R1
theorem c_entryState (A : ADok mo ad) (R : RM σ th M) (O : Ok σ) (hjn : (s_jn σ).length < 32000) {v : Int32} (hk : ∀ M', RM (q_entryState σ v).2.2 (q_entryState σ v).1 M' → K (.inl (some (.int (q_entryState σ v).2.1))) (mv h mo ad M')) : CRd TTv E (d + 4) mX5_entryState [.ref mo, .int v] (mv h mo ad M) c n K := by
  refine crd rfl ?_
  show Ev E (d + 3) mX5_entryState K 0 [.ref mo, .int v] [] _ c n
  have a5 := R.1.2.2.2.2.2.1
  have p1 : (0 : Int32) < 1 := by decide
  have p0 : ¬ (0 : Int32) < 0 := by decide
  simp only [eX5_entryState_0, eX5_entryState_1, eX5_entryState_2, eX5_entryState_3, eX5_entryState_4, eX5_entryState_7, eX5_entryState_8, eX5_entryState_9, eX5_entryState_12, eX5_entryState_15, eX5_entryState_16, eX5_entryState_19, eX5_entryState_20, eX5_entryState_23, eX5_entryState_24, eX5_entryState_27, eX5_entryState_30, eX5_entryState_31, eX5_entryState_34, eX5_entryState_35, eX5_entryState_38, eX5_entryState_39, eX5_entryState_40, eX5_entryState_41, isA_r, isA_n, isI_i, isF_f, isL_l, is1_i, is1_r, is1_n, is1_f, true_and, and_true, List.length_cons, List.length_nil, Nat.reduceAdd, Nat.reduceLeDiff, Nat.reduceSub, Option.some.injEq, exists_eq_left', aft_s, aft_n, ite_true, ite_false, if_true, if_false, Nat.zero_le, Nat.le_refl, reduceCtorEq, mv_ob, mr0 A, mw0 A, ms0 A, mr1 A, mw1 A, ms1 A, mr2 A, mw2 A, ms2 A, mr3 A, mw3 A, ms3 A, mr4 A, mw4 A, ms4 A, mr5 A, mw5 A, ms5 A, mr6 A, mw6 A, ms6 A, mr7 A, mw7 A, ms7 A, mr8 A, mw8 A, ms8 A, mr9 A, mw9 A, ms9 A, mr10 A, mw10 A, ms10 A, mr11 A, mw11 A, ms11 A, mr12 A, mw12 A, ms12 A, mr13 A, mw13 A, ms13 A, mr14 A, mw14 A, ms14 A, mf0, mf1, mf2, mf3, mf4, mf5, mf6, mg0, mg1, mg2, mg3, mg4, mg5, mg6, mg7, mg8, mg9, mg10, mg11, mg12, mg13, mg14, mg15, mg16, mg17, mg18, mg19, mg20, mg21, mgl, Nat.reduceLT, va_up_self, a5]
  refine inv0 (c_in0 (by omega) (fun k hk1 hv => ?_) (fun hne => ?_))
  · subst hv
    have e1 : (nI k).toNatClampNeg = k := nI_clamp (by omega)
    have i1 := ix_s hk1 (show (s_jn σ).length < 2 ^ 31 by omega)
    have b14 := R.2.2.2.2.2.2.2.2.2.2.2.2.2.2.2 k hk1
    have hso : stOK ((s_jn σ).getD k (0, 0)).2 := by
      rw [List.getD_eq_getElem?_getD, List.getElem?_eq_getElem hk1]
      exact (O.2.2.2.2.2.2.2.2.2.2 _ (List.getElem_mem hk1)).2
    simp only [q_entryState, i1] at hk
    simp only [eX5_entryState_0, eX5_entryState_1, eX5_entryState_2, eX5_entryState_3, eX5_entryState_4, eX5_entryState_7, eX5_entryState_8, eX5_entryState_9, eX5_entryState_12, eX5_entryState_15, eX5_entryState_16, eX5_entryState_19, eX5_entryState_20, eX5_entryState_23, eX5_entryState_24, eX5_entryState_27, eX5_entryState_30, eX5_entryState_31, eX5_entryState_34, eX5_entryState_35, eX5_entryState_38, eX5_entryState_39, eX5_entryState_40, eX5_entryState_41, isA_r, isA_n, isI_i, isF_f, isL_l, is1_i, is1_r, is1_n, is1_f, true_and, and_true, List.length_cons, List.length_nil, Nat.reduceAdd, Nat.reduceLeDiff, Nat.reduceSub, Option.some.injEq, exists_eq_left', aft_s, aft_n, ite_true, ite_false, if_true, if_false, Nat.zero_le, Nat.le_refl, reduceCtorEq, mv_ob, mr0 A, mw0 A, ms0 A, mr1 A, mw1 A, ms1 A, mr2 A, mw2 A, ms2 A, mr3 A, mw3 A, ms3 A, mr4 A, mw4 A, ms4 A, mr5 A, mw5 A, ms5 A, mr6 A, mw6 A, ms6 A, mr7 A, mw7 A, ms7 A, mr8 A, mw8 A, ms8 A, mr9 A, mw9 A, ms9 A, mr10 A, mw10 A, ms10 A, mr11 A, mw11 A, ms11 A, mr12 A, mw12 A, ms12 A, mr13 A, mw13 A, ms13 A, mr14 A, mw14 A, ms14 A, mf0, mf1, mf2, mf3, mf4, mf5, mf6, mg0, mg1, mg2, mg3, mg4, mg5, mg6, mg7, mg8, mg9, mg10, mg11, mg12, mg13, mg14, mg15, mg16, mg17, mg18, mg19, mg20, mg21, mgl, Nat.reduceLT, va_up_self, i10, i00, a5, va_up, Nat.reduceEqDiff, reduceIte, p0, inB_nI (show k < 32000 by omega) (by decide), e1, b14, st_c1 hso, (st_ch hso).2.2]
    exact hk _ (R.t 0)
  · simp only [q_entryState, ix_n hne] at hk
    simp only [eX5_entryState_0, eX5_entryState_1, eX5_entryState_2, eX5_entryState_3, eX5_entryState_4, eX5_entryState_7, eX5_entryState_8, eX5_entryState_9, eX5_entryState_12, eX5_entryState_15, eX5_entryState_16, eX5_entryState_19, eX5_entryState_20, eX5_entryState_23, eX5_entryState_24, eX5_entryState_27, eX5_entryState_30, eX5_entryState_31, eX5_entryState_34, eX5_entryState_35, eX5_entryState_38, eX5_entryState_39, eX5_entryState_40, eX5_entryState_41, isA_r, isA_n, isI_i, isF_f, isL_l, is1_i, is1_r, is1_n, is1_f, true_and, and_true, List.length_cons, List.length_nil, Nat.reduceAdd, Nat.reduceLeDiff, Nat.reduceSub, Option.some.injEq, exists_eq_left', aft_s, aft_n, ite_true, ite_false, if_true, if_false, Nat.zero_le, Nat.le_refl, reduceCtorEq, mv_ob, mr0 A, mw0 A, ms0 A, mr1 A, mw1 A, ms1 A, mr2 A, mw2 A, ms2 A, mr3 A, mw3 A, ms3 A, mr4 A, mw4 A, ms4 A, mr5 A, mw5 A, ms5 A, mr6 A, mw6 A, ms6 A, mr7 A, mw7 A, ms7 A, mr8 A, mw8 A, ms8 A, mr9 A, mw9 A, ms9 A, mr10 A, mw10 A, ms10 A, mr11 A, mw11 A, ms11 A, mr12 A, mw12 A, ms12 A, mr13 A, mw13 A, ms13 A, mr14 A, mw14 A, ms14 A, mf0, mf1, mf2, mf3, mf4, mf5, mf6, mg0, mg1, mg2, mg3, mg4, mg5, mg6, mg7, mg8, mg9, mg10, mg11, mg12, mg13, mg14, mg15, mg16, mg17, mg18, mg19, mg20, mg21, mgl, Nat.reduceLT, va_up_self, i00, i10, a5, va_up, Nat.reduceEqDiff, reduceIte, p1, ch_0, ok16_0]
    exact hk _ (R.t 1)
end MD9
