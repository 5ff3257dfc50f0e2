def cN (p : Nat → Bool) (n : Nat) : Nat := (List.range n).countP p
theorem cN_0 {p : Nat → Bool} : cN p 0 = 0 := rfl
theorem cN_s {p : Nat → Bool} {n : Nat} : cN p (n + 1) = cN p n + (if p n = true then 1 else 0) := by
  unfold cN
  rw [List.range_succ, List.countP_append]
  simp [List.countP_cons]
theorem cN_le {p : Nat → Bool} {n : Nat} : cN p n ≤ n := by
  unfold cN
  have := List.countP_le_length (p := p) (l := List.range n)
  simpa using this
def bitN (m l : Nat) : Bool := m.testBit l
theorem bit_all : ∀ m : Fin 64, ∀ l : Fin 6, (((nI m.1 >>> (nI l.1 &&& 31)) &&& 1 = 1) ↔ bitN m.1 l.1 = true) := by decide +kernel
theorem bit_iff {m l : Nat} (hm : m ≤ 63) (hl : l < 6) : ((nI m >>> (nI l &&& 31)) &&& 1 = 1) ↔ bitN m l = true := bit_all ⟨m, by omega⟩ ⟨l, hl⟩
def hdF (σ : Sg) (l : Nat) : Option Nat := (List.range (s_nJ σ)).find? (fun j => s_hl σ j && bitN (s_nd σ j) l)
theorem fd_some {p : Nat → Bool} {n j : Nat} (hj : j < n) (h1 : p j = true) (h0 : ∀ i, i < j → p i = false) : (List.range n).find? p = some j := by
  rw [List.find?_range_eq_some]
  exact ⟨h1, List.mem_range.mpr hj, fun i hi => by rw [h0 i hi]; rfl⟩
theorem fd_none {p : Nat → Bool} {n : Nat} (h0 : ∀ i, i < n → p i = false) : (List.range n).find? p = none := by
  rw [List.find?_eq_none]
  intro x hx
  rw [h0 x (List.mem_range.mp hx)]
  decide
def pcnt (σ : Sg) (s : Nat) (x : Int32) (j : Nat) : Bool := s_se σ j == s && decide (nI (s_st σ j) = x)
def q_count (σ : Sg) (v x : Int32) : SP := match ix v (s_nS σ) with
  | none => (1, 0, σ)
  | some s => if isLet x = false then (2, 0, σ) else (0, nI (cN (pcnt σ s x) (s_nJ σ)), σ)
def q_holder (σ : Sg) (v : Int32) : SP := match ix v 6 with
  | none => (1, 0, σ)
  | some l => (0, o2 (hdF σ l), σ)
def q_blockers (σ : Sg) (v : Int32) : SP := match ix v (s_nJ σ) with
  | none => (1, 0, σ)
  | some j => if s_st σ j = 119 then (0, nI (cN (blk σ j) (s_nJ σ)), σ) else (2, 0, σ)
section MD10
variable {E : EN} {d : Nat} {h : AH} {c n : Nat} {K : Out → AH → Prop} {mo : Nat} {ad : Nat → Nat} {M : MS} {σ : Sg} {th : Nat}
theorem l_count (A : ADok mo ad) (R : RM σ th M) (O : Ok σ) {s : Nat} {x : Int32} (hs : s < s_nS σ) (hk : K (.inl (some (.int (nI (cN (pcnt σ s x) (s_nJ σ)))))) (mv h mo ad M)) : ∀ k j, k + j = s_nJ σ → Ev E d mX5_count K 28 [.ref mo, .int (nI s), .int x, .int (nI (cN (pcnt σ s x) j)), .int (nI j)] [] (mv h mo ad M) c n := by
  have hJ := O.J
  have hS := O.S
  intro k
  induction k with
  | zero =>
    intro j hj
    have hj : j = s_nJ σ := by omega
    rw [hX5_count_28]
    simp only [eX5_count_30, eX5_count_31, eX5_count_34, eX5_count_37, eX5_count_38, eX5_count_39, eX5_count_42, eX5_count_44, eX5_count_45, eX5_count_46, eX5_count_49, eX5_count_50, eX5_count_53, eX5_count_55, eX5_count_56, eX5_count_57, eX5_count_60, eX5_count_61, eX5_count_64, eX5_count_65, eX5_count_66, eX5_count_67, eX5_count_70, eX5_count_73, eX5_count_74, isA_r, isA_n, isI_i, isF_f, isL_l, is1_i, is1_r, is1_n, is1_f, true_and, and_true, List.length_cons, List.length_nil, Nat.reduceAdd, Nat.reduceLeDiff, Nat.reduceSub, Option.some.injEq, exists_eq_left', aft_s, aft_n, ite_true, ite_false, if_true, if_false, Nat.zero_le, Nat.le_refl, reduceCtorEq, mv_ob, mr0 A, mw0 A, ms0 A, mr1 A, mw1 A, ms1 A, mr2 A, mw2 A, ms2 A, mr3 A, mw3 A, ms3 A, mr4 A, mw4 A, ms4 A, mr5 A, mw5 A, ms5 A, mr6 A, mw6 A, ms6 A, mr7 A, mw7 A, ms7 A, mr8 A, mw8 A, ms8 A, mr9 A, mw9 A, ms9 A, mr10 A, mw10 A, ms10 A, mr11 A, mw11 A, ms11 A, mr12 A, mw12 A, ms12 A, mr13 A, mw13 A, ms13 A, mr14 A, mw14 A, ms14 A, mf0, mf1, mf2, mf3, mf4, mf5, mf6, mg0, mg1, mg2, mg3, mg4, mg5, mg6, mg7, mg8, mg9, mg10, mg11, mg12, mg13, mg14, mg15, mg16, mg17, mg18, mg19, mg20, mg21, mgl, Nat.reduceLT, va_up_self, R.1.2.2.1, if_neg (nI_nlt (show s_nJ σ ≤ j by omega) (by omega))]
    rw [hj]
    exact hk
  | succ k ih =>
    intro j hj
    have hlt : j < s_nJ σ := by omega
    have e1 : (nI j).toNatClampNeg = j := nI_clamp (by omega)
    have b7 := R.2.2.2.2.2.2.2.2.1 j hlt
    have b10 := R.2.2.2.2.2.2.2.2.2.2.2.1 j hlt
    have hse := (O.job hlt).1
    have hq : (nI (s_se σ j) = nI s) ↔ s_se σ j = s := nI_eq (by omega) (by omega)
    have := ih (j + 1) (by omega)
    rw [cN_s] at this
    rw [hX5_count_28]
    simp only [eX5_count_30, eX5_count_31, eX5_count_34, eX5_count_37, eX5_count_38, eX5_count_39, eX5_count_42, eX5_count_44, eX5_count_45, eX5_count_46, eX5_count_49, eX5_count_50, eX5_count_53, eX5_count_55, eX5_count_56, eX5_count_57, eX5_count_60, eX5_count_61, eX5_count_64, eX5_count_65, eX5_count_66, eX5_count_67, eX5_count_70, eX5_count_73, eX5_count_74, isA_r, isA_n, isI_i, isF_f, isL_l, is1_i, is1_r, is1_n, is1_f, true_and, and_true, List.length_cons, List.length_nil, Nat.reduceAdd, Nat.reduceLeDiff, Nat.reduceSub, Option.some.injEq, exists_eq_left', aft_s, aft_n, ite_true, ite_false, if_true, if_false, Nat.zero_le, Nat.le_refl, reduceCtorEq, mv_ob, mr0 A, mw0 A, ms0 A, mr1 A, mw1 A, ms1 A, mr2 A, mw2 A, ms2 A, mr3 A, mw3 A, ms3 A, mr4 A, mw4 A, ms4 A, mr5 A, mw5 A, ms5 A, mr6 A, mw6 A, ms6 A, mr7 A, mw7 A, ms7 A, mr8 A, mw8 A, ms8 A, mr9 A, mw9 A, ms9 A, mr10 A, mw10 A, ms10 A, mr11 A, mw11 A, ms11 A, mr12 A, mw12 A, ms12 A, mr13 A, mw13 A, ms13 A, mr14 A, mw14 A, ms14 A, mf0, mf1, mf2, mf3, mf4, mf5, mf6, mg0, mg1, mg2, mg3, mg4, mg5, mg6, mg7, mg8, mg9, mg10, mg11, mg12, mg13, mg14, mg15, mg16, mg17, mg18, mg19, mg20, mg21, mgl, Nat.reduceLT, va_up_self, R.1.2.2.1, if_pos (nI_lt hlt (by omega)), inB_nI (show j < 30 by omega) (by decide), e1, b7, b10, hq, nI_1, Int32.add_zero]
    by_cases h1 : s_se σ j = s
    · rw [if_pos h1]
      by_cases h2 : nI (s_st σ j) = x
      · rw [if_pos h2]
        rw [if_pos (by unfold pcnt; simp [h1, h2])] at this
        exact this
      · rw [if_neg h2]
        rw [if_neg (by unfold pcnt; simp [h1, h2])] at this
        exact this
    · rw [if_neg h1]
      rw [if_neg (by unfold pcnt; simp [h1])] at this
      exact this
theorem c_count (A : ADok mo ad) (R : RM σ th M) (O : Ok σ) {v x : Int32} (hk : ∀ M', RM (q_count σ v x).2.2 (q_count σ v x).1 M' → K (.inl (some (.int (q_count σ v x).2.1))) (mv h mo ad M')) : CRd TTv E (d + 4) mX5_count [.ref mo, .int v, .int x] (mv h mo ad M) c n K := by
  refine crd rfl ?_
  show Ev E (d + 3) mX5_count K 0 [.ref mo, .int v, .int x, .retAddr 0, .retAddr 0] [] _ c n
  have hS := O.S
  simp only [eX5_count_0, eX5_count_1, eX5_count_2, eX5_count_5, eX5_count_8, eX5_count_9, eX5_count_10, eX5_count_11, eX5_count_14, eX5_count_17, eX5_count_18, eX5_count_19, eX5_count_22, eX5_count_23, eX5_count_24, eX5_count_25, eX5_count_26, isA_r, isA_n, isI_i, isF_f, isL_l, is1_i, is1_r, is1_n, is1_f, true_and, and_true, List.length_cons, List.length_nil, Nat.reduceAdd, Nat.reduceLeDiff, Nat.reduceSub, Option.some.injEq, exists_eq_left', aft_s, aft_n, ite_true, ite_false, if_true, if_false, Nat.zero_le, Nat.le_refl, reduceCtorEq, mv_ob, mr0 A, mw0 A, ms0 A, mr1 A, mw1 A, ms1 A, mr2 A, mw2 A, ms2 A, mr3 A, mw3 A, ms3 A, mr4 A, mw4 A, ms4 A, mr5 A, mw5 A, ms5 A, mr6 A, mw6 A, ms6 A, mr7 A, mw7 A, ms7 A, mr8 A, mw8 A, ms8 A, mr9 A, mw9 A, ms9 A, mr10 A, mw10 A, ms10 A, mr11 A, mw11 A, ms11 A, mr12 A, mw12 A, ms12 A, mr13 A, mw13 A, ms13 A, mr14 A, mw14 A, ms14 A, mf0, mf1, mf2, mf3, mf4, mf5, mf6, mg0, mg1, mg2, mg3, mg4, mg5, mg6, mg7, mg8, mg9, mg10, mg11, mg12, mg13, mg14, mg15, mg16, mg17, mg18, mg19, mg20, mg21, mgl, Nat.reduceLT, va_up_self, exists_eq']
  refine inv0 (c_isSession R O.S (fun s hs hv M1 R1 => ?_) (fun hne M1 R1 => ?_))
  · subst hv
    simp only [q_count, ix_s hs (show s_nS σ < 2 ^ 31 by omega)] at hk
    simp only [eX5_count_0, eX5_count_1, eX5_count_2, eX5_count_5, eX5_count_8, eX5_count_9, eX5_count_10, eX5_count_11, eX5_count_14, eX5_count_17, eX5_count_18, eX5_count_19, eX5_count_22, eX5_count_23, eX5_count_24, eX5_count_25, eX5_count_26, isA_r, isA_n, isI_i, isF_f, isL_l, is1_i, is1_r, is1_n, is1_f, true_and, and_true, List.length_cons, List.length_nil, Nat.reduceAdd, Nat.reduceLeDiff, Nat.reduceSub, Option.some.injEq, exists_eq_left', aft_s, aft_n, ite_true, ite_false, if_true, if_false, Nat.zero_le, Nat.le_refl, reduceCtorEq, mv_ob, mr0 A, mw0 A, ms0 A, mr1 A, mw1 A, ms1 A, mr2 A, mw2 A, ms2 A, mr3 A, mw3 A, ms3 A, mr4 A, mw4 A, ms4 A, mr5 A, mw5 A, ms5 A, mr6 A, mw6 A, ms6 A, mr7 A, mw7 A, ms7 A, mr8 A, mw8 A, ms8 A, mr9 A, mw9 A, ms9 A, mr10 A, mw10 A, ms10 A, mr11 A, mw11 A, ms11 A, mr12 A, mw12 A, ms12 A, mr13 A, mw13 A, ms13 A, mr14 A, mw14 A, ms14 A, mf0, mf1, mf2, mf3, mf4, mf5, mf6, mg0, mg1, mg2, mg3, mg4, mg5, mg6, mg7, mg8, mg9, mg10, mg11, mg12, mg13, mg14, mg15, mg16, mg17, mg18, mg19, mg20, mg21, mgl, Nat.reduceLT, va_up_self, i10, i00, exists_eq']
    refine inv0 (c_isState ?_)
    simp only [eX5_count_0, eX5_count_1, eX5_count_2, eX5_count_5, eX5_count_8, eX5_count_9, eX5_count_10, eX5_count_11, eX5_count_14, eX5_count_17, eX5_count_18, eX5_count_19, eX5_count_22, eX5_count_23, eX5_count_24, eX5_count_25, eX5_count_26, isA_r, isA_n, isI_i, isF_f, isL_l, is1_i, is1_r, is1_n, is1_f, true_and, and_true, List.length_cons, List.length_nil, Nat.reduceAdd, Nat.reduceLeDiff, Nat.reduceSub, Option.some.injEq, exists_eq_left', aft_s, aft_n, ite_true, ite_false, if_true, if_false, Nat.zero_le, Nat.le_refl, reduceCtorEq, mv_ob, mr0 A, mw0 A, ms0 A, mr1 A, mw1 A, ms1 A, mr2 A, mw2 A, ms2 A, mr3 A, mw3 A, ms3 A, mr4 A, mw4 A, ms4 A, mr5 A, mw5 A, ms5 A, mr6 A, mw6 A, ms6 A, mr7 A, mw7 A, ms7 A, mr8 A, mw8 A, ms8 A, mr9 A, mw9 A, ms9 A, mr10 A, mw10 A, ms10 A, mr11 A, mw11 A, ms11 A, mr12 A, mw12 A, ms12 A, mr13 A, mw13 A, ms13 A, mr14 A, mw14 A, ms14 A, mf0, mf1, mf2, mf3, mf4, mf5, mf6, mg0, mg1, mg2, mg3, mg4, mg5, mg6, mg7, mg8, mg9, mg10, mg11, mg12, mg13, mg14, mg15, mg16, mg17, mg18, mg19, mg20, mg21, mgl, Nat.reduceLT, va_up_self, b2_0, exists_eq']
    by_cases hc : isLet x = false
    · rw [if_pos hc]
      rw [if_pos hc] at hk
      refine inv0 (c_fails ?_)
      simp only [eX5_count_0, eX5_count_1, eX5_count_2, eX5_count_5, eX5_count_8, eX5_count_9, eX5_count_10, eX5_count_11, eX5_count_14, eX5_count_17, eX5_count_18, eX5_count_19, eX5_count_22, eX5_count_23, eX5_count_24, eX5_count_25, eX5_count_26, isA_r, isA_n, isI_i, isF_f, isL_l, is1_i, is1_r, is1_n, is1_f, true_and, and_true, List.length_cons, List.length_nil, Nat.reduceAdd, Nat.reduceLeDiff, Nat.reduceSub, Option.some.injEq, exists_eq_left', aft_s, aft_n, ite_true, ite_false, if_true, if_false, Nat.zero_le, Nat.le_refl, reduceCtorEq]
      exact hk _ (R1.t 2)
    · rw [if_neg hc]
      rw [if_neg hc] at hk
      exact l_count A R1 O hs (hk _ R1) (s_nJ σ) 0 (by omega)
  · simp only [q_count, ix_n hne] at hk
    simp only [eX5_count_0, eX5_count_1, eX5_count_2, eX5_count_5, eX5_count_8, eX5_count_9, eX5_count_10, eX5_count_11, eX5_count_14, eX5_count_17, eX5_count_18, eX5_count_19, eX5_count_22, eX5_count_23, eX5_count_24, eX5_count_25, eX5_count_26, isA_r, isA_n, isI_i, isF_f, isL_l, is1_i, is1_r, is1_n, is1_f, true_and, and_true, List.length_cons, List.length_nil, Nat.reduceAdd, Nat.reduceLeDiff, Nat.reduceSub, Option.some.injEq, exists_eq_left', aft_s, aft_n, ite_true, ite_false, if_true, if_false, Nat.zero_le, Nat.le_refl, reduceCtorEq, mv_ob, mr0 A, mw0 A, ms0 A, mr1 A, mw1 A, ms1 A, mr2 A, mw2 A, ms2 A, mr3 A, mw3 A, ms3 A, mr4 A, mw4 A, ms4 A, mr5 A, mw5 A, ms5 A, mr6 A, mw6 A, ms6 A, mr7 A, mw7 A, ms7 A, mr8 A, mw8 A, ms8 A, mr9 A, mw9 A, ms9 A, mr10 A, mw10 A, ms10 A, mr11 A, mw11 A, ms11 A, mr12 A, mw12 A, ms12 A, mr13 A, mw13 A, ms13 A, mr14 A, mw14 A, ms14 A, mf0, mf1, mf2, mf3, mf4, mf5, mf6, mg0, mg1, mg2, mg3, mg4, mg5, mg6, mg7, mg8, mg9, mg10, mg11, mg12, mg13, mg14, mg15, mg16, mg17, mg18, mg19, mg20, mg21, mgl, Nat.reduceLT, va_up_self, i00, i10]
    exact hk M1 R1
theorem l_holder (A : ADok mo ad) (R : RM σ th M) (O : Ok σ) {l : Nat} (hl : l < 6) (hk : K (.inl (some (.int (o2 (hdF σ l))))) (mv h mo ad M)) : ∀ k j, k + j = s_nJ σ → (∀ i, i < j → (s_hl σ i && bitN (s_nd σ i) l) = false) → Ev E d mX5_holder K 22 [.ref mo, .int (nI l), .int (nI j)] [] (mv h mo ad M) c n := by
  have hJ := O.J
  intro k
  induction k with
  | zero =>
    intro j hj h0
    have hj : j = s_nJ σ := by omega
    rw [hX5_holder_22]
    simp only [eX5_holder_23, eX5_holder_24, eX5_holder_27, eX5_holder_30, eX5_holder_31, eX5_holder_34, eX5_holder_35, eX5_holder_36, eX5_holder_39, eX5_holder_40, eX5_holder_43, eX5_holder_44, eX5_holder_45, eX5_holder_46, eX5_holder_47, eX5_holder_48, eX5_holder_49, eX5_holder_50, eX5_holder_53, eX5_holder_54, eX5_holder_55, eX5_holder_58, eX5_holder_61, eX5_holder_62, isA_r, isA_n, isI_i, isF_f, isL_l, is1_i, is1_r, is1_n, is1_f, true_and, and_true, List.length_cons, List.length_nil, Nat.reduceAdd, Nat.reduceLeDiff, Nat.reduceSub, Option.some.injEq, exists_eq_left', aft_s, aft_n, ite_true, ite_false, if_true, if_false, Nat.zero_le, Nat.le_refl, reduceCtorEq, mv_ob, mr0 A, mw0 A, ms0 A, mr1 A, mw1 A, ms1 A, mr2 A, mw2 A, ms2 A, mr3 A, mw3 A, ms3 A, mr4 A, mw4 A, ms4 A, mr5 A, mw5 A, ms5 A, mr6 A, mw6 A, ms6 A, mr7 A, mw7 A, ms7 A, mr8 A, mw8 A, ms8 A, mr9 A, mw9 A, ms9 A, mr10 A, mw10 A, ms10 A, mr11 A, mw11 A, ms11 A, mr12 A, mw12 A, ms12 A, mr13 A, mw13 A, ms13 A, mr14 A, mw14 A, ms14 A, mf0, mf1, mf2, mf3, mf4, mf5, mf6, mg0, mg1, mg2, mg3, mg4, mg5, mg6, mg7, mg8, mg9, mg10, mg11, mg12, mg13, mg14, mg15, mg16, mg17, mg18, mg19, mg20, mg21, mgl, Nat.reduceLT, va_up_self, R.1.2.2.1, if_neg (nI_nlt (show s_nJ σ ≤ j by omega) (by omega))]
    have : hdF σ l = none := fd_none (fun i hi => h0 i (by omega))
    rw [this] at hk
    exact hk
  | succ k ih =>
    intro j hj h0
    have hlt : j < s_nJ σ := by omega
    have e1 : (nI j).toNatClampNeg = j := nI_clamp (by omega)
    have b12 := R.2.2.2.2.2.2.2.2.2.2.2.2.2.1 j (by omega)
    have b9 := R.2.2.2.2.2.2.2.2.2.2.1 j hlt
    have hbit := bit_iff (O.job hlt).2.1 hl
    have next : (s_hl σ j && bitN (s_nd σ j) l) = false → Ev E d mX5_holder K 22 [.ref mo, .int (nI l), .int (nI (j + 1))] [] (mv h mo ad M) c n := fun hf => ih (j + 1) (by omega) (fun i hi => by
      by_cases hij : i = j
      · rw [hij]; exact hf
      · exact h0 i (by omega))
    rw [hX5_holder_22]
    simp only [eX5_holder_23, eX5_holder_24, eX5_holder_27, eX5_holder_30, eX5_holder_31, eX5_holder_34, eX5_holder_35, eX5_holder_36, eX5_holder_39, eX5_holder_40, eX5_holder_43, eX5_holder_44, eX5_holder_45, eX5_holder_46, eX5_holder_47, eX5_holder_48, eX5_holder_49, eX5_holder_50, eX5_holder_53, eX5_holder_54, eX5_holder_55, eX5_holder_58, eX5_holder_61, eX5_holder_62, isA_r, isA_n, isI_i, isF_f, isL_l, is1_i, is1_r, is1_n, is1_f, true_and, and_true, List.length_cons, List.length_nil, Nat.reduceAdd, Nat.reduceLeDiff, Nat.reduceSub, Option.some.injEq, exists_eq_left', aft_s, aft_n, ite_true, ite_false, if_true, if_false, Nat.zero_le, Nat.le_refl, reduceCtorEq, mv_ob, mr0 A, mw0 A, ms0 A, mr1 A, mw1 A, ms1 A, mr2 A, mw2 A, ms2 A, mr3 A, mw3 A, ms3 A, mr4 A, mw4 A, ms4 A, mr5 A, mw5 A, ms5 A, mr6 A, mw6 A, ms6 A, mr7 A, mw7 A, ms7 A, mr8 A, mw8 A, ms8 A, mr9 A, mw9 A, ms9 A, mr10 A, mw10 A, ms10 A, mr11 A, mw11 A, ms11 A, mr12 A, mw12 A, ms12 A, mr13 A, mw13 A, ms13 A, mr14 A, mw14 A, ms14 A, mf0, mf1, mf2, mf3, mf4, mf5, mf6, mg0, mg1, mg2, mg3, mg4, mg5, mg6, mg7, mg8, mg9, mg10, mg11, mg12, mg13, mg14, mg15, mg16, mg17, mg18, mg19, mg20, mg21, mgl, Nat.reduceLT, va_up_self, R.1.2.2.1, if_pos (nI_lt hlt (by omega)), inB_nI (show j < 30 by omega) (by decide), e1, b12, b9, b2_0, hbit, nI_1]
    by_cases h1 : s_hl σ j = false
    · rw [if_pos h1]; exact next (by rw [h1]; rfl)
    · rw [if_neg h1]
      have h1 : s_hl σ j = true := by simpa using h1
      by_cases h2 : bitN (s_nd σ j) l = true
      · rw [if_pos h2]
        have : hdF σ l = some j := fd_some hlt (by rw [h1, h2]; rfl) h0
        rw [this] at hk
        exact hk
      · rw [if_neg h2]
        have h2 : bitN (s_nd σ j) l = false := by simpa using h2
        exact next (by rw [h2]; simp)
theorem c_holder (A : ADok mo ad) (R : RM σ th M) (O : Ok σ) {v : Int32} (hk : ∀ M', RM (q_holder σ v).2.2 (q_holder σ v).1 M' → K (.inl (some (.int (q_holder σ v).2.1))) (mv h mo ad M')) : CRd TTv E (d + 4) mX5_holder [.ref mo, .int v] (mv h mo ad M) c n K := by
  refine crd rfl ?_
  show Ev E (d + 3) mX5_holder K 0 [.ref mo, .int v, .retAddr 0] [] _ c n
  simp only [eX5_holder_0, eX5_holder_1, eX5_holder_2, eX5_holder_3, eX5_holder_6, eX5_holder_9, eX5_holder_10, eX5_holder_11, eX5_holder_14, eX5_holder_15, eX5_holder_16, eX5_holder_17, eX5_holder_20, eX5_holder_21, isA_r, isA_n, isI_i, isF_f, isL_l, is1_i, is1_r, is1_n, is1_f, true_and, and_true, List.length_cons, List.length_nil, Nat.reduceAdd, Nat.reduceLeDiff, Nat.reduceSub, Option.some.injEq, exists_eq_left', aft_s, aft_n, ite_true, ite_false, if_true, if_false, Nat.zero_le, Nat.le_refl, reduceCtorEq, mv_ob, mr0 A, mw0 A, ms0 A, mr1 A, mw1 A, ms1 A, mr2 A, mw2 A, ms2 A, mr3 A, mw3 A, ms3 A, mr4 A, mw4 A, ms4 A, mr5 A, mw5 A, ms5 A, mr6 A, mw6 A, ms6 A, mr7 A, mw7 A, ms7 A, mr8 A, mw8 A, ms8 A, mr9 A, mw9 A, ms9 A, mr10 A, mw10 A, ms10 A, mr11 A, mw11 A, ms11 A, mr12 A, mw12 A, ms12 A, mr13 A, mw13 A, ms13 A, mr14 A, mw14 A, ms14 A, mf0, mf1, mf2, mf3, mf4, mf5, mf6, mg0, mg1, mg2, mg3, mg4, mg5, mg6, mg7, mg8, mg9, mg10, mg11, mg12, mg13, mg14, mg15, mg16, mg17, mg18, mg19, mg20, mg21, mgl, Nat.reduceLT, va_up_self]
  have h5 : (5 : Int32) = nI 6 - 1 := by decide
  rw [h5]
  refine inv0 (c_in0 (by decide) (fun k hk1 hv => ?_) (fun hne => ?_))
  · subst hv
    simp only [q_holder, ix_s hk1 (show 6 < 2 ^ 31 by decide)] at hk
    simp only [eX5_holder_0, eX5_holder_1, eX5_holder_2, eX5_holder_3, eX5_holder_6, eX5_holder_9, eX5_holder_10, eX5_holder_11, eX5_holder_14, eX5_holder_15, eX5_holder_16, eX5_holder_17, eX5_holder_20, eX5_holder_21, isA_r, isA_n, isI_i, isF_f, isL_l, is1_i, is1_r, is1_n, is1_f, true_and, and_true, List.length_cons, List.length_nil, Nat.reduceAdd, Nat.reduceLeDiff, Nat.reduceSub, Option.some.injEq, exists_eq_left', aft_s, aft_n, ite_true, ite_false, if_true, if_false, Nat.zero_le, Nat.le_refl, reduceCtorEq, mv_ob, mr0 A, mw0 A, ms0 A, mr1 A, mw1 A, ms1 A, mr2 A, mw2 A, ms2 A, mr3 A, mw3 A, ms3 A, mr4 A, mw4 A, ms4 A, mr5 A, mw5 A, ms5 A, mr6 A, mw6 A, ms6 A, mr7 A, mw7 A, ms7 A, mr8 A, mw8 A, ms8 A, mr9 A, mw9 A, ms9 A, mr10 A, mw10 A, ms10 A, mr11 A, mw11 A, ms11 A, mr12 A, mw12 A, ms12 A, mr13 A, mw13 A, ms13 A, mr14 A, mw14 A, ms14 A, mf0, mf1, mf2, mf3, mf4, mf5, mf6, mg0, mg1, mg2, mg3, mg4, mg5, mg6, mg7, mg8, mg9, mg10, mg11, mg12, mg13, mg14, mg15, mg16, mg17, mg18, mg19, mg20, mg21, mgl, Nat.reduceLT, va_up_self, i10, i00]
    exact l_holder A (R.t 0) O hk1 (hk _ (R.t 0)) (s_nJ σ) 0 (by omega) (fun i hi => absurd hi (by omega))
  · simp only [q_holder, ix_n hne] at hk
    simp only [eX5_holder_0, eX5_holder_1, eX5_holder_2, eX5_holder_3, eX5_holder_6, eX5_holder_9, eX5_holder_10, eX5_holder_11, eX5_holder_14, eX5_holder_15, eX5_holder_16, eX5_holder_17, eX5_holder_20, eX5_holder_21, isA_r, isA_n, isI_i, isF_f, isL_l, is1_i, is1_r, is1_n, is1_f, true_and, and_true, List.length_cons, List.length_nil, Nat.reduceAdd, Nat.reduceLeDiff, Nat.reduceSub, Option.some.injEq, exists_eq_left', aft_s, aft_n, ite_true, ite_false, if_true, if_false, Nat.zero_le, Nat.le_refl, reduceCtorEq, mv_ob, mr0 A, mw0 A, ms0 A, mr1 A, mw1 A, ms1 A, mr2 A, mw2 A, ms2 A, mr3 A, mw3 A, ms3 A, mr4 A, mw4 A, ms4 A, mr5 A, mw5 A, ms5 A, mr6 A, mw6 A, ms6 A, mr7 A, mw7 A, ms7 A, mr8 A, mw8 A, ms8 A, mr9 A, mw9 A, ms9 A, mr10 A, mw10 A, ms10 A, mr11 A, mw11 A, ms11 A, mr12 A, mw12 A, ms12 A, mr13 A, mw13 A, ms13 A, mr14 A, mw14 A, ms14 A, mf0, mf1, mf2, mf3, mf4, mf5, mf6, mg0, mg1, mg2, mg3, mg4, mg5, mg6, mg7, mg8, mg9, mg10, mg11, mg12, mg13, mg14, mg15, mg16, mg17, mg18, mg19, mg20, mg21, mgl, Nat.reduceLT, va_up_self, i00, i10, exists_eq']
    refine inv0 (c_fails ?_)
    simp only [eX5_holder_0, eX5_holder_1, eX5_holder_2, eX5_holder_3, eX5_holder_6, eX5_holder_9, eX5_holder_10, eX5_holder_11, eX5_holder_14, eX5_holder_15, eX5_holder_16, eX5_holder_17, eX5_holder_20, eX5_holder_21, isA_r, isA_n, isI_i, isF_f, isL_l, is1_i, is1_r, is1_n, is1_f, true_and, and_true, List.length_cons, List.length_nil, Nat.reduceAdd, Nat.reduceLeDiff, Nat.reduceSub, Option.some.injEq, exists_eq_left', aft_s, aft_n, ite_true, ite_false, if_true, if_false, Nat.zero_le, Nat.le_refl, reduceCtorEq]
    exact hk _ (R.t 1)
theorem c_holderByJobs (A : ADok mo ad) (R : RM σ th M) (O : Ok σ) {v : Int32} (hk : ∀ M', RM (q_holder σ v).2.2 (q_holder σ v).1 M' → K (.inl (some (.int (q_holder σ v).2.1))) (mv h mo ad M')) : CRd TTv E (d + 5) mX5_holderByJobs [.ref mo, .int v] (mv h mo ad M) c n K := by
  refine crd rfl ?_
  show Ev E (d + 4) mX5_holderByJobs K 0 [.ref mo, .int v] [] _ c n
  simp only [eX5_holderByJobs_0, eX5_holderByJobs_1, eX5_holderByJobs_2, eX5_holderByJobs_5, isA_r, isA_n, isI_i, isF_f, isL_l, is1_i, is1_r, is1_n, is1_f, true_and, and_true, List.length_cons, List.length_nil, Nat.reduceAdd, Nat.reduceLeDiff, Nat.reduceSub, Option.some.injEq, exists_eq_left', aft_s, aft_n, ite_true, ite_false, if_true, if_false, Nat.zero_le, Nat.le_refl, reduceCtorEq, mv_ob, mr0 A, mw0 A, ms0 A, mr1 A, mw1 A, ms1 A, mr2 A, mw2 A, ms2 A, mr3 A, mw3 A, ms3 A, mr4 A, mw4 A, ms4 A, mr5 A, mw5 A, ms5 A, mr6 A, mw6 A, ms6 A, mr7 A, mw7 A, ms7 A, mr8 A, mw8 A, ms8 A, mr9 A, mw9 A, ms9 A, mr10 A, mw10 A, ms10 A, mr11 A, mw11 A, ms11 A, mr12 A, mw12 A, ms12 A, mr13 A, mw13 A, ms13 A, mr14 A, mw14 A, ms14 A, mf0, mf1, mf2, mf3, mf4, mf5, mf6, mg0, mg1, mg2, mg3, mg4, mg5, mg6, mg7, mg8, mg9, mg10, mg11, mg12, mg13, mg14, mg15, mg16, mg17, mg18, mg19, mg20, mg21, mgl, Nat.reduceLT, va_up_self, exists_eq']
  refine inv0 (c_holder A R O (fun M1 R1 => ?_))
  simp only [eX5_holderByJobs_0, eX5_holderByJobs_1, eX5_holderByJobs_2, eX5_holderByJobs_5, isA_r, isA_n, isI_i, isF_f, isL_l, is1_i, is1_r, is1_n, is1_f, true_and, and_true, List.length_cons, List.length_nil, Nat.reduceAdd, Nat.reduceLeDiff, Nat.reduceSub, Option.some.injEq, exists_eq_left', aft_s, aft_n, ite_true, ite_false, if_true, if_false, Nat.zero_le, Nat.le_refl, reduceCtorEq, mv_ob, mr0 A, mw0 A, ms0 A, mr1 A, mw1 A, ms1 A, mr2 A, mw2 A, ms2 A, mr3 A, mw3 A, ms3 A, mr4 A, mw4 A, ms4 A, mr5 A, mw5 A, ms5 A, mr6 A, mw6 A, ms6 A, mr7 A, mw7 A, ms7 A, mr8 A, mw8 A, ms8 A, mr9 A, mw9 A, ms9 A, mr10 A, mw10 A, ms10 A, mr11 A, mw11 A, ms11 A, mr12 A, mw12 A, ms12 A, mr13 A, mw13 A, ms13 A, mr14 A, mw14 A, ms14 A, mf0, mf1, mf2, mf3, mf4, mf5, mf6, mg0, mg1, mg2, mg3, mg4, mg5, mg6, mg7, mg8, mg9, mg10, mg11, mg12, mg13, mg14, mg15, mg16, mg17, mg18, mg19, mg20, mg21, mgl, Nat.reduceLT, va_up_self]
  exact hk M1 R1
theorem l_blockers (A : ADok mo ad) (R : RM σ th M) (O : Ok σ) {s : Nat} (hs : s < s_nJ σ) (hk : K (.inl (some (.int (nI (cN (blk σ s) (s_nJ σ)))))) (mv h mo ad M)) : ∀ k j, k + j = s_nJ σ → Ev E d mX5_blockers K 31 [.ref mo, .int (nI s), .int (nI (cN (blk σ s) j)), .int (nI j)] [] (mv h mo ad M) c n := by
  have hJ := O.J
  intro k
  induction k with
  | zero =>
    intro j hj
    have hj : j = s_nJ σ := by omega
    rw [hX5_blockers_31]
    simp only [eX5_blockers_32, eX5_blockers_33, eX5_blockers_36, eX5_blockers_39, eX5_blockers_40, eX5_blockers_41, eX5_blockers_42, eX5_blockers_45, eX5_blockers_46, eX5_blockers_49, eX5_blockers_50, eX5_blockers_51, eX5_blockers_54, eX5_blockers_55, eX5_blockers_58, eX5_blockers_59, eX5_blockers_60, eX5_blockers_61, eX5_blockers_64, eX5_blockers_65, eX5_blockers_66, eX5_blockers_67, eX5_blockers_70, eX5_blockers_71, eX5_blockers_74, eX5_blockers_75, eX5_blockers_76, eX5_blockers_77, eX5_blockers_80, eX5_blockers_83, eX5_blockers_84, isA_r, isA_n, isI_i, isF_f, isL_l, is1_i, is1_r, is1_n, is1_f, true_and, and_true, List.length_cons, List.length_nil, Nat.reduceAdd, Nat.reduceLeDiff, Nat.reduceSub, Option.some.injEq, exists_eq_left', aft_s, aft_n, ite_true, ite_false, if_true, if_false, Nat.zero_le, Nat.le_refl, reduceCtorEq, mv_ob, mr0 A, mw0 A, ms0 A, mr1 A, mw1 A, ms1 A, mr2 A, mw2 A, ms2 A, mr3 A, mw3 A, ms3 A, mr4 A, mw4 A, ms4 A, mr5 A, mw5 A, ms5 A, mr6 A, mw6 A, ms6 A, mr7 A, mw7 A, ms7 A, mr8 A, mw8 A, ms8 A, mr9 A, mw9 A, ms9 A, mr10 A, mw10 A, ms10 A, mr11 A, mw11 A, ms11 A, mr12 A, mw12 A, ms12 A, mr13 A, mw13 A, ms13 A, mr14 A, mw14 A, ms14 A, mf0, mf1, mf2, mf3, mf4, mf5, mf6, mg0, mg1, mg2, mg3, mg4, mg5, mg6, mg7, mg8, mg9, mg10, mg11, mg12, mg13, mg14, mg15, mg16, mg17, mg18, mg19, mg20, mg21, mgl, Nat.reduceLT, va_up_self, R.1.2.2.1, if_neg (nI_nlt (show s_nJ σ ≤ j by omega) (by omega))]
    rw [hj]
    exact hk
  | succ k ih =>
    intro j hj
    have hlt : j < s_nJ σ := by omega
    have e1 : (nI j).toNatClampNeg = j := nI_clamp (by omega)
    have e2 : (nI s).toNatClampNeg = s := nI_clamp (by omega)
    have b12 := R.2.2.2.2.2.2.2.2.2.2.2.2.2.1 j (by omega)
    have b9 := R.2.2.2.2.2.2.2.2.2.2.1 j hlt
    have b9s := R.2.2.2.2.2.2.2.2.2.2.1 s hs
    have hx : s_nd σ j &&& s_nd σ s ≤ 63 := Nat.le_trans Nat.and_le_left (O.job hlt).2.1
    have hz : (nI (s_nd σ j &&& s_nd σ s) = 0) ↔ s_nd σ j &&& s_nd σ s = 0 := by rw [← nI_0]; exact nI_eq (by omega) (by decide)
    have hq : (nI j = nI s) ↔ j = s := nI_eq (by omega) (by omega)
    have := ih (j + 1) (by omega)
    rw [cN_s] at this
    rw [hX5_blockers_31]
    simp only [eX5_blockers_32, eX5_blockers_33, eX5_blockers_36, eX5_blockers_39, eX5_blockers_40, eX5_blockers_41, eX5_blockers_42, eX5_blockers_45, eX5_blockers_46, eX5_blockers_49, eX5_blockers_50, eX5_blockers_51, eX5_blockers_54, eX5_blockers_55, eX5_blockers_58, eX5_blockers_59, eX5_blockers_60, eX5_blockers_61, eX5_blockers_64, eX5_blockers_65, eX5_blockers_66, eX5_blockers_67, eX5_blockers_70, eX5_blockers_71, eX5_blockers_74, eX5_blockers_75, eX5_blockers_76, eX5_blockers_77, eX5_blockers_80, eX5_blockers_83, eX5_blockers_84, isA_r, isA_n, isI_i, isF_f, isL_l, is1_i, is1_r, is1_n, is1_f, true_and, and_true, List.length_cons, List.length_nil, Nat.reduceAdd, Nat.reduceLeDiff, Nat.reduceSub, Option.some.injEq, exists_eq_left', aft_s, aft_n, ite_true, ite_false, if_true, if_false, Nat.zero_le, Nat.le_refl, reduceCtorEq, mv_ob, mr0 A, mw0 A, ms0 A, mr1 A, mw1 A, ms1 A, mr2 A, mw2 A, ms2 A, mr3 A, mw3 A, ms3 A, mr4 A, mw4 A, ms4 A, mr5 A, mw5 A, ms5 A, mr6 A, mw6 A, ms6 A, mr7 A, mw7 A, ms7 A, mr8 A, mw8 A, ms8 A, mr9 A, mw9 A, ms9 A, mr10 A, mw10 A, ms10 A, mr11 A, mw11 A, ms11 A, mr12 A, mw12 A, ms12 A, mr13 A, mw13 A, ms13 A, mr14 A, mw14 A, ms14 A, mf0, mf1, mf2, mf3, mf4, mf5, mf6, mg0, mg1, mg2, mg3, mg4, mg5, mg6, mg7, mg8, mg9, mg10, mg11, mg12, mg13, mg14, mg15, mg16, mg17, mg18, mg19, mg20, mg21, mgl, Nat.reduceLT, va_up_self, R.1.2.2.1, if_pos (nI_lt hlt (by omega)), inB_nI (show j < 30 by omega) (by decide), inB_nI (show s < 30 by omega) (by decide), e1, e2, b12, b9, b9s, b2_0, hq, fa_and, hz, nI_1, Int32.add_zero]
    by_cases h1 : j = s
    · rw [if_pos h1]
      rw [if_neg (by unfold blk; simp [h1])] at this
      exact this
    · rw [if_neg h1]
      by_cases h2 : s_hl σ j = false
      · rw [if_pos h2]
        rw [if_neg (by unfold blk; simp [h2])] at this
        exact this
      · rw [if_neg h2]
        by_cases h3 : s_nd σ j &&& s_nd σ s = 0
        · rw [if_pos h3]
          rw [if_neg (by unfold blk; simp [h3])] at this
          exact this
        · rw [if_neg h3]
          rw [if_pos (by unfold blk; simp [h1, h2, h3])] at this
          exact this
theorem c_blockers (A : ADok mo ad) (R : RM σ th M) (O : Ok σ) {v : Int32} (hk : ∀ M', RM (q_blockers σ v).2.2 (q_blockers σ v).1 M' → K (.inl (some (.int (q_blockers σ v).2.1))) (mv h mo ad M')) : CRd TTv E (d + 4) mX5_blockers [.ref mo, .int v] (mv h mo ad M) c n K := by
  refine crd rfl ?_
  show Ev E (d + 3) mX5_blockers K 0 [.ref mo, .int v, .retAddr 0, .retAddr 0] [] _ c n
  have hJ := O.J
  simp only [eX5_blockers_0, eX5_blockers_1, eX5_blockers_2, eX5_blockers_5, eX5_blockers_8, eX5_blockers_9, eX5_blockers_10, eX5_blockers_11, eX5_blockers_14, eX5_blockers_15, eX5_blockers_16, eX5_blockers_18, eX5_blockers_21, eX5_blockers_22, eX5_blockers_23, eX5_blockers_26, eX5_blockers_27, eX5_blockers_28, eX5_blockers_29, eX5_blockers_30, isA_r, isA_n, isI_i, isF_f, isL_l, is1_i, is1_r, is1_n, is1_f, true_and, and_true, List.length_cons, List.length_nil, Nat.reduceAdd, Nat.reduceLeDiff, Nat.reduceSub, Option.some.injEq, exists_eq_left', aft_s, aft_n, ite_true, ite_false, if_true, if_false, Nat.zero_le, Nat.le_refl, reduceCtorEq, mv_ob, mr0 A, mw0 A, ms0 A, mr1 A, mw1 A, ms1 A, mr2 A, mw2 A, ms2 A, mr3 A, mw3 A, ms3 A, mr4 A, mw4 A, ms4 A, mr5 A, mw5 A, ms5 A, mr6 A, mw6 A, ms6 A, mr7 A, mw7 A, ms7 A, mr8 A, mw8 A, ms8 A, mr9 A, mw9 A, ms9 A, mr10 A, mw10 A, ms10 A, mr11 A, mw11 A, ms11 A, mr12 A, mw12 A, ms12 A, mr13 A, mw13 A, ms13 A, mr14 A, mw14 A, ms14 A, mf0, mf1, mf2, mf3, mf4, mf5, mf6, mg0, mg1, mg2, mg3, mg4, mg5, mg6, mg7, mg8, mg9, mg10, mg11, mg12, mg13, mg14, mg15, mg16, mg17, mg18, mg19, mg20, mg21, mgl, Nat.reduceLT, va_up_self, exists_eq']
  refine inv0 (c_isJob R hJ (fun j hs hv M1 R1 => ?_) (fun hne M1 R1 => ?_))
  · subst hv
    have e1 : (nI j).toNatClampNeg = j := nI_clamp (by omega)
    have b10 := R1.2.2.2.2.2.2.2.2.2.2.2.1 j hs
    simp only [q_blockers, ix_s hs (show s_nJ σ < 2 ^ 31 by omega)] at hk
    simp only [eX5_blockers_0, eX5_blockers_1, eX5_blockers_2, eX5_blockers_5, eX5_blockers_8, eX5_blockers_9, eX5_blockers_10, eX5_blockers_11, eX5_blockers_14, eX5_blockers_15, eX5_blockers_16, eX5_blockers_18, eX5_blockers_21, eX5_blockers_22, eX5_blockers_23, eX5_blockers_26, eX5_blockers_27, eX5_blockers_28, eX5_blockers_29, eX5_blockers_30, isA_r, isA_n, isI_i, isF_f, isL_l, is1_i, is1_r, is1_n, is1_f, true_and, and_true, List.length_cons, List.length_nil, Nat.reduceAdd, Nat.reduceLeDiff, Nat.reduceSub, Option.some.injEq, exists_eq_left', aft_s, aft_n, ite_true, ite_false, if_true, if_false, Nat.zero_le, Nat.le_refl, reduceCtorEq, mv_ob, mr0 A, mw0 A, ms0 A, mr1 A, mw1 A, ms1 A, mr2 A, mw2 A, ms2 A, mr3 A, mw3 A, ms3 A, mr4 A, mw4 A, ms4 A, mr5 A, mw5 A, ms5 A, mr6 A, mw6 A, ms6 A, mr7 A, mw7 A, ms7 A, mr8 A, mw8 A, ms8 A, mr9 A, mw9 A, ms9 A, mr10 A, mw10 A, ms10 A, mr11 A, mw11 A, ms11 A, mr12 A, mw12 A, ms12 A, mr13 A, mw13 A, ms13 A, mr14 A, mw14 A, ms14 A, mf0, mf1, mf2, mf3, mf4, mf5, mf6, mg0, mg1, mg2, mg3, mg4, mg5, mg6, mg7, mg8, mg9, mg10, mg11, mg12, mg13, mg14, mg15, mg16, mg17, mg18, mg19, mg20, mg21, mgl, Nat.reduceLT, va_up_self, i10, i00, exists_eq', inB_nI (show j < 30 by omega) (by decide), e1, b10, st_119 (O.job hs).2.2.1]
    by_cases hc : s_st σ j = 119
    · rw [if_pos hc]
      rw [if_pos hc] at hk
      exact l_blockers A R1 O hs (hk _ R1) (s_nJ σ) 0 (by omega)
    · rw [if_neg hc]
      rw [if_neg hc] at hk
      refine inv0 (c_fails ?_)
      simp only [eX5_blockers_0, eX5_blockers_1, eX5_blockers_2, eX5_blockers_5, eX5_blockers_8, eX5_blockers_9, eX5_blockers_10, eX5_blockers_11, eX5_blockers_14, eX5_blockers_15, eX5_blockers_16, eX5_blockers_18, eX5_blockers_21, eX5_blockers_22, eX5_blockers_23, eX5_blockers_26, eX5_blockers_27, eX5_blockers_28, eX5_blockers_29, eX5_blockers_30, isA_r, isA_n, isI_i, isF_f, isL_l, is1_i, is1_r, is1_n, is1_f, true_and, and_true, List.length_cons, List.length_nil, Nat.reduceAdd, Nat.reduceLeDiff, Nat.reduceSub, Option.some.injEq, exists_eq_left', aft_s, aft_n, ite_true, ite_false, if_true, if_false, Nat.zero_le, Nat.le_refl, reduceCtorEq]
      exact hk _ (R1.t 2)
  · simp only [q_blockers, ix_n hne] at hk
    simp only [eX5_blockers_0, eX5_blockers_1, eX5_blockers_2, eX5_blockers_5, eX5_blockers_8, eX5_blockers_9, eX5_blockers_10, eX5_blockers_11, eX5_blockers_14, eX5_blockers_15, eX5_blockers_16, eX5_blockers_18, eX5_blockers_21, eX5_blockers_22, eX5_blockers_23, eX5_blockers_26, eX5_blockers_27, eX5_blockers_28, eX5_blockers_29, eX5_blockers_30, isA_r, isA_n, isI_i, isF_f, isL_l, is1_i, is1_r, is1_n, is1_f, true_and, and_true, List.length_cons, List.length_nil, Nat.reduceAdd, Nat.reduceLeDiff, Nat.reduceSub, Option.some.injEq, exists_eq_left', aft_s, aft_n, ite_true, ite_false, if_true, if_false, Nat.zero_le, Nat.le_refl, reduceCtorEq, mv_ob, mr0 A, mw0 A, ms0 A, mr1 A, mw1 A, ms1 A, mr2 A, mw2 A, ms2 A, mr3 A, mw3 A, ms3 A, mr4 A, mw4 A, ms4 A, mr5 A, mw5 A, ms5 A, mr6 A, mw6 A, ms6 A, mr7 A, mw7 A, ms7 A, mr8 A, mw8 A, ms8 A, mr9 A, mw9 A, ms9 A, mr10 A, mw10 A, ms10 A, mr11 A, mw11 A, ms11 A, mr12 A, mw12 A, ms12 A, mr13 A, mw13 A, ms13 A, mr14 A, mw14 A, ms14 A, mf0, mf1, mf2, mf3, mf4, mf5, mf6, mg0, mg1, mg2, mg3, mg4, mg5, mg6, mg7, mg8, mg9, mg10, mg11, mg12, mg13, mg14, mg15, mg16, mg17, mg18, mg19, mg20, mg21, mgl, Nat.reduceLT, va_up_self, i00, i10]
    exact hk M1 R1
end MD10
