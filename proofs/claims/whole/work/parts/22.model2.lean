/-! the dynamics, as functions of the state -/
theorem fa_and (a b : Nat) : nI a &&& nI b = nI (a &&& b) := by
  apply Int32.toBitVec_inj.1
  show BitVec.ofNat 32 a &&& BitVec.ofNat 32 b = BitVec.ofNat 32 (a &&& b)
  apply BitVec.eq_of_getLsbD_eq
  intro i hi
  simp [hi]
def blk (σ : Sg) (j o : Nat) : Bool := o != j && s_hl σ o && (s_nd σ o &&& s_nd σ j) != 0
def freeJ (σ : Sg) (j : Nat) : Bool := (List.range (s_nJ σ)).all (fun o => !blk σ j o)
def comesF (σ : Sg) (j ch : Nat) : Sg := w_jn (w_st σ (upN (s_st σ) j ch)) (s_jn σ ++ [(j, ch)])
def leavesF (σ : Sg) (j : Nat) : Sg := w_od σ ((s_od σ).filter (fun i => i != j))
def grant (σ : Sg) (j : Nat) (l : List Nat) : Sg := comesF (w_hl (w_od σ l) (upN (s_hl σ) j true)) j 114
def looksL : List Nat → List Nat → Sg → Sg
  | [], _, σ => σ
  | j :: r, pre, σ => match freeJ σ j with
    | true => looksL r pre (grant σ j (pre ++ r))
    | false => looksL r (pre ++ [j]) σ
def looksF (σ : Sg) : Sg := looksL (s_od σ) [] σ
def over (σ : Sg) (j : Nat) : Bool := s_st σ j == 100 || s_st σ j == 107
def stOK (c : Nat) : Prop := c = 114 ∨ c = 119 ∨ c = 115 ∨ c = 100 ∨ c = 107
/-- what holds between the calls -/
def Bas (σ : Sg) : Prop := s_nS σ ≤ 4 ∧ s_nJ σ ≤ 30 ∧ (∀ j, j < s_nJ σ → s_se σ j < s_nS σ ∧ s_nd σ j ≤ 63 ∧ stOK (s_st σ j) ∧ s_lf σ j ≤ 50) ∧ (s_od σ).Nodup ∧ (∀ j ∈ s_od σ, j < s_nJ σ) ∧ (s_od σ).length ≤ 30
theorem nodup_len {l : List Nat} {n : Nat} (h : l.Nodup) (hb : ∀ j ∈ l, j < n) : l.length ≤ n := by
  have h1 := List.Nodup.length_le_of_subset h (l₂ := List.range n) (fun x hx => List.mem_range.mpr (hb x hx))
  simpa using h1
section MD2
variable {E : EN} {d : Nat} {h : AH} {c n : Nat} {K : Out → AH → Prop} {mo : Nat} {ad : Nat → Nat} {M : MS} {σ : Sg} {th : Nat}
theorem RM.comes (R : RM σ th M) {j ch : Nat} (hj : j < s_nJ σ) : RM (comesF σ j ch) th (va_up M.1 5 (nI (s_jn σ).length + 1), M.2.1, va_up (va_up (va_up M.2.2 10 (upd (M.2.2 10) j (nI ch))) 13 (upd (M.2.2 13) (s_jn σ).length (nI j))) 14 (upd (M.2.2 14) (s_jn σ).length (nI ch))) := by
  obtain ⟨⟨a0, a1, a2, a3, a4, a5, a6⟩, b0, b1, b2', b3, b4, b5, b6, b7, b8, b9, b10, b11, b12, b13, b14⟩ := R
  have hlen : (s_jn σ ++ [(j, ch)]).length = (s_jn σ).length + 1 := by simp
  refine ⟨⟨a0, a1, a2, a3, a4, ?_, a6⟩, b0, b1, b2', b3, b4, b5, b6, b7, b8, b9, ?_, b11, b12, ?_, ?_⟩
  · show va_up M.1 5 (nI (s_jn σ).length + 1) 5 = nI (s_jn σ ++ [(j, ch)]).length
    rw [hlen, ← nI_1]
    exact va_up_self _ _ _
  · intro i hi
    show va_up (va_up (va_up M.2.2 10 (upd (M.2.2 10) j (nI ch))) 13 (upd (M.2.2 13) (s_jn σ).length (nI j))) 14 (upd (M.2.2 14) (s_jn σ).length (nI ch)) 10 i = nI (upN (s_st σ) j ch i)
    simp only [va_up, Nat.reduceEqDiff, if_true, if_false, reduceIte, upd, upN]
    by_cases h1 : i = j
    · simp [h1]
    · simp only [h1, if_false]; exact b10 i hi
  · intro k hk
    have hk : k < (s_jn σ ++ [(j, ch)]).length := hk
    rw [hlen] at hk
    show va_up (va_up (va_up M.2.2 10 (upd (M.2.2 10) j (nI ch))) 13 (upd (M.2.2 13) (s_jn σ).length (nI j))) 14 (upd (M.2.2 14) (s_jn σ).length (nI ch)) 13 k = nI ((s_jn σ ++ [(j, ch)]).getD k (0, 0)).1
    simp only [va_up, Nat.reduceEqDiff, if_true, if_false, reduceIte, upd]
    by_cases h1 : k = (s_jn σ).length
    · subst h1; simp
    · simp only [h1, if_false]
      rw [b13 k (by omega), List.getD_eq_getElem?_getD, List.getD_eq_getElem?_getD, List.getElem?_append_left (by omega)]
  · intro k hk
    have hk : k < (s_jn σ ++ [(j, ch)]).length := hk
    rw [hlen] at hk
    show va_up (va_up (va_up M.2.2 10 (upd (M.2.2 10) j (nI ch))) 13 (upd (M.2.2 13) (s_jn σ).length (nI j))) 14 (upd (M.2.2 14) (s_jn σ).length (nI ch)) 14 k = nI ((s_jn σ ++ [(j, ch)]).getD k (0, 0)).2
    simp only [va_up, Nat.reduceEqDiff, if_true, if_false, reduceIte, upd]
    by_cases h1 : k = (s_jn σ).length
    · subst h1; simp
    · simp only [h1, if_false]
      rw [b14 k (by omega), List.getD_eq_getElem?_getD, List.getD_eq_getElem?_getD, List.getElem?_append_left (by omega)]
theorem c_comes (A : ADok mo ad) (R : RM σ th M) {j ch : Nat} (hj : j < s_nJ σ) (hJ : s_nJ σ ≤ 30) (hn : (s_jn σ).length < 32000) (hk : ∀ M', RM (comesF σ j ch) th M' → K (.inl none) (mv h mo ad M')) : CRd TTv E (d + 1) mX5_comes [.ref mo, .int (nI j), .int (nI ch)] (mv h mo ad M) c n K := by
  refine crd rfl ?_
  show Ev E d mX5_comes K 0 [.ref mo, .int (nI j), .int (nI ch)] [] _ c n
  have e1 : (nI j).toNatClampNeg = j := nI_clamp (by omega)
  have e2 : (nI (s_jn σ).length).toNatClampNeg = (s_jn σ).length := nI_clamp (by omega)
  have a5 := R.1.2.2.2.2.2.1
  simp only [eX5_comes_0, eX5_comes_1, eX5_comes_4, eX5_comes_5, eX5_comes_6, eX5_comes_7, eX5_comes_8, eX5_comes_11, eX5_comes_12, eX5_comes_15, eX5_comes_16, eX5_comes_17, eX5_comes_18, eX5_comes_21, eX5_comes_22, eX5_comes_25, eX5_comes_26, eX5_comes_27, eX5_comes_28, eX5_comes_29, eX5_comes_32, eX5_comes_33, eX5_comes_34, eX5_comes_37, isA_r, isA_n, isI_i, isF_f, isL_l, is1_i, is1_r, is1_n, is1_f, true_and, and_true, List.length_cons, List.length_nil, Nat.reduceAdd, Nat.reduceLeDiff, Nat.reduceSub, Option.some.injEq, exists_eq_left', aft_s, aft_n, ite_true, ite_false, if_true, if_false, Nat.zero_le, Nat.le_refl, reduceCtorEq, mv_ob, mr0 A, mw0 A, ms0 A, mr1 A, mw1 A, ms1 A, mr2 A, mw2 A, ms2 A, mr3 A, mw3 A, ms3 A, mr4 A, mw4 A, ms4 A, mr5 A, mw5 A, ms5 A, mr6 A, mw6 A, ms6 A, mr7 A, mw7 A, ms7 A, mr8 A, mw8 A, ms8 A, mr9 A, mw9 A, ms9 A, mr10 A, mw10 A, ms10 A, mr11 A, mw11 A, ms11 A, mr12 A, mw12 A, ms12 A, mr13 A, mw13 A, ms13 A, mr14 A, mw14 A, ms14 A, mf0, mf1, mf2, mf3, mf4, mf5, mf6, mg0, mg1, mg2, mg3, mg4, mg5, mg6, mg7, mg8, mg9, mg10, mg11, mg12, mg13, mg14, mg15, mg16, mg17, mg18, mg19, mg20, mg21, mgl, Nat.reduceLT, va_up_self, inB_nI (show j < 30 by omega) (by decide), inB_nI hn (by decide), e1, e2, a5, va_up, Nat.reduceEqDiff, reduceIte]
  exact hk _ (by have := R.comes (ch := ch) hj; simpa only [va_up, Nat.reduceEqDiff, reduceIte] using this)
theorem l_isFree (A : ADok mo ad) (R : RM σ th M) (hJ : s_nJ σ ≤ 30) (hnd : ∀ i, i < s_nJ σ → s_nd σ i ≤ 63) {j : Nat} (hj : j < s_nJ σ) (hk : K (.inl (some (.int (b2 (freeJ σ j))))) (mv h mo ad M)) : ∀ k o, k + o = s_nJ σ → (∀ i, i < o → blk σ j i = false) → Ev E d mX5_isFree K 2 [.ref mo, .int (nI j), .int (nI o)] [] (mv h mo ad M) c n := by
  intro k
  induction k with
  | zero =>
    intro o ho hb
    have hf : freeJ σ j = true := by
      unfold freeJ
      rw [List.all_eq_true]
      intro x hx
      rw [hb x (by have := List.mem_range.mp hx; omega)]; rfl
    rw [hX5_isFree_2]
    simp only [eX5_isFree_3, eX5_isFree_4, eX5_isFree_7, eX5_isFree_48, eX5_isFree_49, isA_r, isA_n, isI_i, isF_f, isL_l, is1_i, is1_r, is1_n, is1_f, true_and, and_true, List.length_cons, List.length_nil, Nat.reduceAdd, Nat.reduceLeDiff, Nat.reduceSub, Option.some.injEq, exists_eq_left', aft_s, aft_n, ite_true, ite_false, if_true, if_false, Nat.zero_le, Nat.le_refl, reduceCtorEq, mv_ob, mr0 A, mw0 A, ms0 A, mr1 A, mw1 A, ms1 A, mr2 A, mw2 A, ms2 A, mr3 A, mw3 A, ms3 A, mr4 A, mw4 A, ms4 A, mr5 A, mw5 A, ms5 A, mr6 A, mw6 A, ms6 A, mr7 A, mw7 A, ms7 A, mr8 A, mw8 A, ms8 A, mr9 A, mw9 A, ms9 A, mr10 A, mw10 A, ms10 A, mr11 A, mw11 A, ms11 A, mr12 A, mw12 A, ms12 A, mr13 A, mw13 A, ms13 A, mr14 A, mw14 A, ms14 A, mf0, mf1, mf2, mf3, mf4, mf5, mf6, mg0, mg1, mg2, mg3, mg4, mg5, mg6, mg7, mg8, mg9, mg10, mg11, mg12, mg13, mg14, mg15, mg16, mg17, mg18, mg19, mg20, mg21, mgl, Nat.reduceLT, va_up_self, R.1.2.2.1, if_neg (nI_nlt (show s_nJ σ ≤ o by omega) (by omega)), ok01_1]
    rw [hf] at hk
    exact hk
  | succ k ih =>
    intro o ho hb
    have e1 : (nI o).toNatClampNeg = o := nI_clamp (by omega)
    have e2 : (nI j).toNatClampNeg = j := nI_clamp (by omega)
    have f1 := R.2.2.2.2.2.2.2.2.2.2.1 o (by omega)
    have f2 := R.2.2.2.2.2.2.2.2.2.2.1 j hj
    have f3 := R.2.2.2.2.2.2.2.2.2.2.2.2.2.1 o (by omega)
    have hx : s_nd σ o &&& s_nd σ j ≤ 63 := Nat.le_trans Nat.and_le_left (hnd o (by omega))
    have hz : (nI (s_nd σ o &&& s_nd σ j) = 0) ↔ s_nd σ o &&& s_nd σ j = 0 := by rw [← nI_0]; exact nI_eq (by omega) (by decide)
    have ho2 : (nI o = nI j) ↔ o = j := nI_eq (by omega) (by omega)
    rw [hX5_isFree_2]
    simp only [eX5_isFree_3, eX5_isFree_4, eX5_isFree_7, eX5_isFree_10, eX5_isFree_11, eX5_isFree_12, eX5_isFree_15, eX5_isFree_16, eX5_isFree_19, eX5_isFree_20, eX5_isFree_21, eX5_isFree_24, eX5_isFree_25, eX5_isFree_28, eX5_isFree_29, eX5_isFree_30, eX5_isFree_31, eX5_isFree_34, eX5_isFree_35, eX5_isFree_36, eX5_isFree_37, eX5_isFree_40, eX5_isFree_41, eX5_isFree_42, eX5_isFree_45, isA_r, isA_n, isI_i, isF_f, isL_l, is1_i, is1_r, is1_n, is1_f, true_and, and_true, List.length_cons, List.length_nil, Nat.reduceAdd, Nat.reduceLeDiff, Nat.reduceSub, Option.some.injEq, exists_eq_left', aft_s, aft_n, ite_true, ite_false, if_true, if_false, Nat.zero_le, Nat.le_refl, reduceCtorEq, mv_ob, mr0 A, mw0 A, ms0 A, mr1 A, mw1 A, ms1 A, mr2 A, mw2 A, ms2 A, mr3 A, mw3 A, ms3 A, mr4 A, mw4 A, ms4 A, mr5 A, mw5 A, ms5 A, mr6 A, mw6 A, ms6 A, mr7 A, mw7 A, ms7 A, mr8 A, mw8 A, ms8 A, mr9 A, mw9 A, ms9 A, mr10 A, mw10 A, ms10 A, mr11 A, mw11 A, ms11 A, mr12 A, mw12 A, ms12 A, mr13 A, mw13 A, ms13 A, mr14 A, mw14 A, ms14 A, mf0, mf1, mf2, mf3, mf4, mf5, mf6, mg0, mg1, mg2, mg3, mg4, mg5, mg6, mg7, mg8, mg9, mg10, mg11, mg12, mg13, mg14, mg15, mg16, mg17, mg18, mg19, mg20, mg21, mgl, Nat.reduceLT, va_up_self, R.1.2.2.1, if_pos (nI_lt (show o < s_nJ σ by omega) (by omega)), inB_nI (show o < 30 by omega) (by decide), inB_nI (show j < 30 by omega) (by decide), e1, e2, f1, f2, f3, fa_and, hz, ho2, b2_0, ok01_0, nI_1]
    have step : blk σ j o = false → Ev E d mX5_isFree K 2 [.ref mo, .int (nI j), .int (nI (o + 1))] [] (mv h mo ad M) c n := fun hbo => ih (o + 1) (by omega) (fun i hi => by
      by_cases hio : i = o
      · rw [hio]; exact hbo
      · exact hb i (by omega))
    by_cases h1 : o = j
    · rw [if_pos h1]; exact step (by unfold blk; simp [h1])
    · rw [if_neg h1]
      by_cases h2 : s_hl σ o = false
      · rw [if_pos h2]; exact step (by unfold blk; simp [h2])
      · rw [if_neg h2]
        by_cases h3 : s_nd σ o &&& s_nd σ j = 0
        · rw [if_pos h3]; exact step (by unfold blk; simp [h3])
        · rw [if_neg h3]
          have hf : freeJ σ j = false := by
            unfold freeJ
            rw [List.all_eq_false]
            refine ⟨o, List.mem_range.mpr (by omega), ?_⟩
            have : blk σ j o = true := by unfold blk; simp [h1, h2, h3]
            simp [this]
          rw [hf] at hk
          exact hk
theorem c_isFree (A : ADok mo ad) (R : RM σ th M) (hJ : s_nJ σ ≤ 30) (hnd : ∀ i, i < s_nJ σ → s_nd σ i ≤ 63) {j : Nat} (hj : j < s_nJ σ) (hk : K (.inl (some (.int (b2 (freeJ σ j))))) (mv h mo ad M)) : CRd TTv E (d + 1) mX5_isFree [.ref mo, .int (nI j)] (mv h mo ad M) c n K := by
  refine crd rfl ?_
  show Ev E d mX5_isFree K 0 [.ref mo, .int (nI j), .retAddr 0] [] _ c n
  simp only [eX5_isFree_0, eX5_isFree_1, isA_r, isA_n, isI_i, isF_f, isL_l, is1_i, is1_r, is1_n, is1_f, true_and, and_true, List.length_cons, List.length_nil, Nat.reduceAdd, Nat.reduceLeDiff, Nat.reduceSub, Option.some.injEq, exists_eq_left', aft_s, aft_n, ite_true, ite_false, if_true, if_false, Nat.zero_le, Nat.le_refl, reduceCtorEq]
  exact l_isFree A R hJ hnd hj hk (s_nJ σ) 0 (by omega) (fun i hi => absurd hi (by omega))
end MD2
