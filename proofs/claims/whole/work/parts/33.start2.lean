theorem nI_sur (v : Int32) : ∃ n, v = nI n := by
  refine ⟨v.toBitVec.toNat, ?_⟩
  apply Int32.toBitVec_inj.1
  show v.toBitVec = BitVec.ofNat 32 v.toBitVec.toNat
  simp
theorem rem_st {Y : Sg} {g : Nat → Nat} {s x : Nat} : rememberF (w_st Y g) s x = w_st (rememberF Y s x) g := by
  unfold rememberF
  rw [show s_pv (w_st Y g) = s_pv Y from rfl]
  split <;> rfl
theorem com_st {X : Sg} {j v0 : Nat} {f : Nat → Nat} (hf : s_st X = f) : comesF (w_st X (upN f j v0)) j 119 = comesF X j 119 := by
  unfold comesF
  rw [g_st_st, g_jn_st, upN_upN, hf]
  rfl
theorem od_st {X : Sg} {g : Nat → Nat} {l : List Nat} : w_od (w_st X g) l = w_st (w_od X l) g := by
  obtain ⟨x0, x1, x2, x3, x4, x5, x6, x7, x8, x9, x10, x11, x12, x13, x14, x15⟩ := X
  simp only [w_od, w_st, s_nS, s_nJ, s_wk, s_pv, s_dr, s_fr, s_pk, s_hi, s_cm, s_se, s_lf, s_nd, s_st, s_hl, s_od, s_jn]
theorem rem_keep {Y : Sg} {s x : Nat} : s_nJ (rememberF Y s x) = s_nJ Y ∧ s_nd (rememberF Y s x) = s_nd Y ∧ s_od (rememberF Y s x) = s_od Y ∧ s_jn (rememberF Y s x) = s_jn Y ∧ s_st (rememberF Y s x) = s_st Y := by
  unfold rememberF
  split <;> exact ⟨rfl, rfl, rfl, rfl, rfl⟩
theorem sta_keep {σ : Sg} {s w l : Nat} {f : Bool} : s_nJ (startF σ s w l f) = s_nJ σ + 1 ∧ s_nd (startF σ s w l f) = upN (s_nd σ) (s_nJ σ) l ∧ s_od (startF σ s w l f) = s_od σ ∧ s_jn (startF σ s w l f) = s_jn σ ∧ s_st (startF σ s w l f) = s_st σ ∧ s_hi (startF σ s w l f) = s_hi σ ∧ s_cm (startF σ s w l f) = s_cm σ ∧ s_pv (startF σ s w l f) = s_pv σ := by
  unfold startF
  split <;> exact ⟨rfl, rfl, rfl, rfl, rfl, rfl, rfl, rfl⟩
theorem RM.start0 {M : MS} {σ : Sg} {th : Nat} (R : RM σ th M) {s w l v0 : Nat} (hv : M.2.2 10 (s_nJ σ) = nI v0) : RM (w_st (start0 σ s w l) (upN (s_st σ) (s_nJ σ) v0)) th (va_up M.1 2 (nI (s_nJ σ) + 1), M.2.1, va_up (va_up (va_up M.2.2 7 (upd (M.2.2 7) (s_nJ σ) (nI s))) 8 (upd (M.2.2 8) (s_nJ σ) (nI w))) 9 (upd (M.2.2 9) (s_nJ σ) (nI l))) := by
  obtain ⟨⟨a0, a1, a2, a3, a4, a5, a6⟩, b0, b1, b2q, b3, b4, b5, b6, b7, b8, b9, b10, b11, b12, b13, b14⟩ := R
  refine ⟨⟨a0, a1, ?_, a3, a4, a5, a6⟩, b0, b1, b2q, b3, b4, b5, b6, ?_, ?_, ?_, ?_, b11, b12, b13, b14⟩
  · show va_up M.1 2 (nI (s_nJ σ) + 1) 2 = nI (s_nJ σ + 1)
    rw [va_up_self, nI_1]
  · intro j hj
    have hj : j < s_nJ σ + 1 := hj
    show va_up (va_up (va_up M.2.2 7 (upd (M.2.2 7) (s_nJ σ) (nI s))) 8 (upd (M.2.2 8) (s_nJ σ) (nI w))) 9 (upd (M.2.2 9) (s_nJ σ) (nI l)) 7 j = nI (upN (s_se σ) (s_nJ σ) s j)
    simp only [va_up, Nat.reduceEqDiff, reduceIte, upd, upN]
    split
    · rfl
    · exact b7 j (by omega)
  · intro j hj
    have hj : j < s_nJ σ + 1 := hj
    show va_up (va_up (va_up M.2.2 7 (upd (M.2.2 7) (s_nJ σ) (nI s))) 8 (upd (M.2.2 8) (s_nJ σ) (nI w))) 9 (upd (M.2.2 9) (s_nJ σ) (nI l)) 8 j = nI (upN (s_lf σ) (s_nJ σ) w j)
    simp only [va_up, Nat.reduceEqDiff, reduceIte, upd, upN]
    split
    · rfl
    · exact b8 j (by omega)
  · intro j hj
    have hj : j < s_nJ σ + 1 := hj
    show va_up (va_up (va_up M.2.2 7 (upd (M.2.2 7) (s_nJ σ) (nI s))) 8 (upd (M.2.2 8) (s_nJ σ) (nI w))) 9 (upd (M.2.2 9) (s_nJ σ) (nI l)) 9 j = nI (upN (s_nd σ) (s_nJ σ) l j)
    simp only [va_up, Nat.reduceEqDiff, reduceIte, upd, upN]
    split
    · rfl
    · exact b9 j (by omega)
  · intro j hj
    have hj : j < s_nJ σ + 1 := hj
    show M.2.2 10 j = nI (upN (s_st σ) (s_nJ σ) v0 j)
    unfold upN
    split
    · next h => rw [h]; exact hv
    · exact b10 j (by omega)
theorem w_in {w : Int32} (h1 : ¬ w < 1) (h2 : ¬ 50 < w) : ∃ k : Nat, k ≤ 50 ∧ 1 ≤ k ∧ w = nI k := by
  rw [Int32.lt_iff_toInt_lt] at h1 h2
  have e1 : (1 : Int32).toInt = 1 := by decide
  have e2 : (50 : Int32).toInt = 50 := by decide
  rw [e1] at h1
  rw [e2] at h2
  obtain ⟨k, hk, he⟩ := nI_of (x := w) (by rw [Int32.lt_iff_toInt_lt]; have : (0 : Int32).toInt = 0 := by decide
                                           omega)
  subst he
  rw [nI_toInt hk] at h1 h2
  exact ⟨k, by omega, by omega, rfl⟩
section MD13
variable {E : EN} {d : Nat} {h : AH} {c n : Nat} {K : Out → AH → Prop} {mo : Nat} {ad : Nat → Nat} {M : MS} {σ : Sg} {th : Nat}
/-- from remembers on -/
theorem l_start (A : ADok mo ad) (O : Ok σ) {B : Nat} (hB : B + 1 < 31000) (hjn : (s_jn σ).length ≤ B) {s x w l v0 : Nat} {f : Bool} (hs : s < s_nS σ) (hx : x < 100) (hl : l < 64) (hJ : s_nJ σ < 30) (R : RM (w_st (startF σ s w l f) (upN (s_st σ) (s_nJ σ) v0)) th M) {a4 a5 a6 : Value} (hk : ∀ M', RM (started σ s x w l f) th M' → K (.inl (some (.int (nI (s_nJ σ))))) (mv h mo ad M')) : Ev E (d + 3) mX5_start K 136 [.ref mo, .int (nI s), .int (nI x), a4, a5, a6, .int (nI (s_nJ σ))] [] (mv h mo ad M) c n := by
  have hS := O.S
  have hB2 : B < 32000 := by omega
  have k1 := sta_keep (σ := σ) (s := s) (w := w) (l := l) (f := f)
  simp only [eX5_start_136, eX5_start_137, eX5_start_138, eX5_start_139, isA_r, isA_n, isI_i, isF_f, isL_l, is1_i, is1_r, is1_n, is1_f, true_and, and_true, List.length_cons, List.length_nil, Nat.reduceAdd, Nat.reduceLeDiff, Nat.reduceSub, Option.some.injEq, exists_eq_left', aft_s, aft_n, ite_true, ite_false, if_true, if_false, Nat.zero_le, Nat.le_refl, reduceCtorEq, mv_ob, mr0 A, mw0 A, ms0 A, mr1 A, mw1 A, ms1 A, mr2 A, mw2 A, ms2 A, mr3 A, mw3 A, ms3 A, mr4 A, mw4 A, ms4 A, mr5 A, mw5 A, ms5 A, mr6 A, mw6 A, ms6 A, mr7 A, mw7 A, ms7 A, mr8 A, mw8 A, ms8 A, mr9 A, mw9 A, ms9 A, mr10 A, mw10 A, ms10 A, mr11 A, mw11 A, ms11 A, mr12 A, mw12 A, ms12 A, mr13 A, mw13 A, ms13 A, mr14 A, mw14 A, ms14 A, mf0, mf1, mf2, mf3, mf4, mf5, mf6, mg0, mg1, mg2, mg3, mg4, mg5, mg6, mg7, mg8, mg9, mg10, mg11, mg12, mg13, mg14, mg15, mg16, mg17, mg18, mg19, mg20, mg21, mgl, Nat.reduceLT, va_up_self, exists_eq']
  refine inv0 (c_remembers A R (by omega) (fun i => ?_) ?_ ?_ hx (fun M2 R2 => ?_))
  · rw [g_hi_st, k1.2.2.2.2.2.1]; exact (O.2.2.2.2.2.2.2.1.1 i).1
  · rw [g_cm_st, k1.2.2.2.2.2.2.1]; exact O.2.2.2.2.2.2.2.1.2.1
  · rw [g_cm_st, k1.2.2.2.2.2.2.1]; exact O.2.2.2.2.2.2.2.1.2.2.2
  rw [rem_st] at R2
  have k2 := rem_keep (Y := startF σ s w l f) (s := s) (x := x)
  generalize hX : rememberF (startF σ s w l f) s x = X at R2 k2
  have hod : s_od X = s_od σ := by rw [k2.2.2.1, k1.2.2.1]
  have hnJ : s_nJ X = s_nJ σ + 1 := by rw [k2.1, k1.1]
  have hln := O.odlen
  have hnin : s_nJ σ ∉ s_od σ := fun hm => absurd ((O.2.2.1.2 _).mp hm).1 (Nat.lt_irrefl _)
  have hW : Wf X B := by
    refine ⟨by rw [hnJ]; omega, fun j hj => ?_, by rw [hod]; exact O.2.2.1.1, fun j hj => ?_, by rw [k2.2.2.2.1, k1.2.2.2.1]; exact hjn⟩
    · rw [hnJ] at hj
      rw [k2.2.1, k1.2.1]
      unfold upN
      split
      · omega
      · exact (O.job (by omega)).2.1
    · rw [hod] at hj
      rw [hnJ]
      have := ((O.2.2.1.2 j).mp hj).1
      omega
  have hlt : (s_od σ).length < 30 := by
    have := (hW.push (j := s_nJ σ) (by rw [hnJ]; omega) (by rw [hod]; exact hnin)).len
    rw [g_od_od, List.length_append, hod] at this
    exact this
  have e1 : (nI (s_od σ).length).toNatClampNeg = (s_od σ).length := nI_clamp (by omega)
  have a3 := R2.1.2.2.2.1
  rw [g_od_st, hod] at a3
  have R3 := R2.push (j := s_nJ σ)
  rw [g_od_st, hod] at R3
  have hW2 := (hW.push (j := s_nJ σ) (by rw [hnJ]; omega) (by rw [hod]; exact hnin)).comes (j := s_nJ σ) (ch := 119)
  rw [hod] at hW2
  simp only [eX5_start_139, eX5_start_142, eX5_start_143, eX5_start_146, eX5_start_147, eX5_start_150, eX5_start_152, eX5_start_153, eX5_start_154, eX5_start_155, eX5_start_158, eX5_start_159, eX5_start_160, eX5_start_163, eX5_start_164, eX5_start_166, eX5_start_168, eX5_start_171, eX5_start_172, eX5_start_175, eX5_start_177, isA_r, isA_n, isI_i, isF_f, isL_l, is1_i, is1_r, is1_n, is1_f, true_and, and_true, List.length_cons, List.length_nil, Nat.reduceAdd, Nat.reduceLeDiff, Nat.reduceSub, Option.some.injEq, exists_eq_left', aft_s, aft_n, ite_true, ite_false, if_true, if_false, Nat.zero_le, Nat.le_refl, reduceCtorEq, mv_ob, mr0 A, mw0 A, ms0 A, mr1 A, mw1 A, ms1 A, mr2 A, mw2 A, ms2 A, mr3 A, mw3 A, ms3 A, mr4 A, mw4 A, ms4 A, mr5 A, mw5 A, ms5 A, mr6 A, mw6 A, ms6 A, mr7 A, mw7 A, ms7 A, mr8 A, mw8 A, ms8 A, mr9 A, mw9 A, ms9 A, mr10 A, mw10 A, ms10 A, mr11 A, mw11 A, ms11 A, mr12 A, mw12 A, ms12 A, mr13 A, mw13 A, ms13 A, mr14 A, mw14 A, ms14 A, mf0, mf1, mf2, mf3, mf4, mf5, mf6, mg0, mg1, mg2, mg3, mg4, mg5, mg6, mg7, mg8, mg9, mg10, mg11, mg12, mg13, mg14, mg15, mg16, mg17, mg18, mg19, mg20, mg21, mgl, Nat.reduceLT, va_up_self, exists_eq', a3, e1, inB_nI hlt (by decide), va_up, Nat.reduceEqDiff, reduceIte]
  refine inv0 (c_comes (σ := w_od (w_st X (upN (s_st σ) (s_nJ σ) v0)) (s_od σ ++ [s_nJ σ])) A (by simpa only [va_up, Nat.reduceEqDiff, reduceIte] using R3) (ch := 119) (by rw [g_nJ_od, g_nJ_st, hnJ]; omega) (by rw [g_nJ_od, g_nJ_st, hnJ]; omega) (by rw [g_jn_od, g_jn_st, k2.2.2.2.1, k1.2.2.2.1]; exact Nat.lt_of_le_of_lt hjn hB2) (fun M4 R4 => ?_))
  rw [od_st, com_st (by rw [g_st_od, k2.2.2.2.2, k1.2.2.2.2.1])] at R4
  simp only [eX5_start_168, eX5_start_171, eX5_start_172, eX5_start_175, eX5_start_177, isA_r, isA_n, isI_i, isF_f, isL_l, is1_i, is1_r, is1_n, is1_f, true_and, and_true, List.length_cons, List.length_nil, Nat.reduceAdd, Nat.reduceLeDiff, Nat.reduceSub, Option.some.injEq, exists_eq_left', aft_s, aft_n, ite_true, ite_false, if_true, if_false, Nat.zero_le, Nat.le_refl, reduceCtorEq, mv_ob, mr0 A, mw0 A, ms0 A, mr1 A, mw1 A, ms1 A, mr2 A, mw2 A, ms2 A, mr3 A, mw3 A, ms3 A, mr4 A, mw4 A, ms4 A, mr5 A, mw5 A, ms5 A, mr6 A, mw6 A, ms6 A, mr7 A, mw7 A, ms7 A, mr8 A, mw8 A, ms8 A, mr9 A, mw9 A, ms9 A, mr10 A, mw10 A, ms10 A, mr11 A, mw11 A, ms11 A, mr12 A, mw12 A, ms12 A, mr13 A, mw13 A, ms13 A, mr14 A, mw14 A, ms14 A, mf0, mf1, mf2, mf3, mf4, mf5, mf6, mg0, mg1, mg2, mg3, mg4, mg5, mg6, mg7, mg8, mg9, mg10, mg11, mg12, mg13, mg14, mg15, mg16, mg17, mg18, mg19, mg20, mg21, mgl, Nat.reduceLT, va_up_self, exists_eq']
  refine inv0 (c_looks A R4 hW2 (by omega) (fun M5 R5 => ?_))
  simp only [eX5_start_168, eX5_start_171, eX5_start_172, eX5_start_175, eX5_start_177, isA_r, isA_n, isI_i, isF_f, isL_l, is1_i, is1_r, is1_n, is1_f, true_and, and_true, List.length_cons, List.length_nil, Nat.reduceAdd, Nat.reduceLeDiff, Nat.reduceSub, Option.some.injEq, exists_eq_left', aft_s, aft_n, ite_true, ite_false, if_true, if_false, Nat.zero_le, Nat.le_refl, reduceCtorEq, mv_ob, mr0 A, mw0 A, ms0 A, mr1 A, mw1 A, ms1 A, mr2 A, mw2 A, ms2 A, mr3 A, mw3 A, ms3 A, mr4 A, mw4 A, ms4 A, mr5 A, mw5 A, ms5 A, mr6 A, mw6 A, ms6 A, mr7 A, mw7 A, ms7 A, mr8 A, mw8 A, ms8 A, mr9 A, mw9 A, ms9 A, mr10 A, mw10 A, ms10 A, mr11 A, mw11 A, ms11 A, mr12 A, mw12 A, ms12 A, mr13 A, mw13 A, ms13 A, mr14 A, mw14 A, ms14 A, mf0, mf1, mf2, mf3, mf4, mf5, mf6, mg0, mg1, mg2, mg3, mg4, mg5, mg6, mg7, mg8, mg9, mg10, mg11, mg12, mg13, mg14, mg15, mg16, mg17, mg18, mg19, mg20, mg21, mgl, Nat.reduceLT, va_up_self]
  exact hk _ (by unfold started; rw [hX]; exact R5)
end MD13
