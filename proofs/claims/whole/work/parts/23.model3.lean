/- RMS -/
section RMS
variable {M : MS} {σ : Sg} {th : Nat}
theorem RM.hl (R : RM σ th M) {j : Nat} {b : Bool} : RM (w_hl σ (upN (s_hl σ) j b)) th (M.1, M.2.1, va_up M.2.2 12 (upd (M.2.2 12) j (b2 b))) := by
  obtain ⟨⟨a0, a1, a2, a3, a4, a5, a6⟩, b0, b1, b2q, b3, b4, b5, b6, b7, b8, b9, b10, b11, b12, b13, b14⟩ := R
  exact ⟨⟨a0, a1, a2, a3, a4, a5, a6⟩, b0, b1, b2q, b3, b4, b5, b6, b7, b8, b9, b10, b11, (fun i hi => by
    show va_up M.2.2 12 (upd (M.2.2 12) j (b2 b)) 12 i = b2 (upN (s_hl σ) j b i)
    rw [va_up_self]
    unfold upd upN
    by_cases h1 : i = j
    · rw [if_pos h1, if_pos h1]
    · rw [if_neg h1, if_neg h1]; exact b12 i hi), b13, b14⟩
theorem RM.pv (R : RM σ th M) {j : Nat} {b : Bool} : RM (w_pv σ (upN (s_pv σ) j b)) th (M.1, M.2.1, va_up M.2.2 0 (upd (M.2.2 0) j (b2 b))) := by
  obtain ⟨⟨a0, a1, a2, a3, a4, a5, a6⟩, b0, b1, b2q, b3, b4, b5, b6, b7, b8, b9, b10, b11, b12, b13, b14⟩ := R
  exact ⟨⟨a0, a1, a2, a3, a4, a5, a6⟩, (fun i hi => by
    show va_up M.2.2 0 (upd (M.2.2 0) j (b2 b)) 0 i = b2 (upN (s_pv σ) j b i)
    rw [va_up_self]
    unfold upd upN
    by_cases h1 : i = j
    · rw [if_pos h1, if_pos h1]
    · rw [if_neg h1, if_neg h1]; exact b0 i hi), b1, b2q, b3, b4, b5, b6, b7, b8, b9, b10, b11, b12, b13, b14⟩
theorem RM.dr (R : RM σ th M) {j : Nat} {b : Bool} : RM (w_dr σ (upN (s_dr σ) j b)) th (M.1, M.2.1, va_up M.2.2 1 (upd (M.2.2 1) j (b2 b))) := by
  obtain ⟨⟨a0, a1, a2, a3, a4, a5, a6⟩, b0, b1, b2q, b3, b4, b5, b6, b7, b8, b9, b10, b11, b12, b13, b14⟩ := R
  exact ⟨⟨a0, a1, a2, a3, a4, a5, a6⟩, b0, (fun i hi => by
    show va_up M.2.2 1 (upd (M.2.2 1) j (b2 b)) 1 i = b2 (upN (s_dr σ) j b i)
    rw [va_up_self]
    unfold upd upN
    by_cases h1 : i = j
    · rw [if_pos h1, if_pos h1]
    · rw [if_neg h1, if_neg h1]; exact b1 i hi), b2q, b3, b4, b5, b6, b7, b8, b9, b10, b11, b12, b13, b14⟩
theorem RM.fr (R : RM σ th M) {j : Nat} {b : Option Nat} : RM (w_fr σ (upN (s_fr σ) j b)) th (M.1, M.2.1, va_up M.2.2 2 (upd (M.2.2 2) j (o2 b))) := by
  obtain ⟨⟨a0, a1, a2, a3, a4, a5, a6⟩, b0, b1, b2q, b3, b4, b5, b6, b7, b8, b9, b10, b11, b12, b13, b14⟩ := R
  exact ⟨⟨a0, a1, a2, a3, a4, a5, a6⟩, b0, b1, (fun i hi => by
    show va_up M.2.2 2 (upd (M.2.2 2) j (o2 b)) 2 i = o2 (upN (s_fr σ) j b i)
    rw [va_up_self]
    unfold upd upN
    by_cases h1 : i = j
    · rw [if_pos h1, if_pos h1]
    · rw [if_neg h1, if_neg h1]; exact b2q i hi), b3, b4, b5, b6, b7, b8, b9, b10, b11, b12, b13, b14⟩
theorem RM.pk (R : RM σ th M) {j : Nat} {b : Option Nat} : RM (w_pk σ (upN (s_pk σ) j b)) th (M.1, M.2.1, va_up M.2.2 3 (upd (M.2.2 3) j (o2 b))) := by
  obtain ⟨⟨a0, a1, a2, a3, a4, a5, a6⟩, b0, b1, b2q, b3, b4, b5, b6, b7, b8, b9, b10, b11, b12, b13, b14⟩ := R
  exact ⟨⟨a0, a1, a2, a3, a4, a5, a6⟩, b0, b1, b2q, (fun i hi => by
    show va_up M.2.2 3 (upd (M.2.2 3) j (o2 b)) 3 i = o2 (upN (s_pk σ) j b i)
    rw [va_up_self]
    unfold upd upN
    by_cases h1 : i = j
    · rw [if_pos h1, if_pos h1]
    · rw [if_neg h1, if_neg h1]; exact b3 i hi), b4, b5, b6, b7, b8, b9, b10, b11, b12, b13, b14⟩
theorem RM.lf (R : RM σ th M) {j v : Nat} : RM (w_lf σ (upN (s_lf σ) j v)) th (M.1, M.2.1, va_up M.2.2 8 (upd (M.2.2 8) j (nI v))) := by
  obtain ⟨⟨a0, a1, a2, a3, a4, a5, a6⟩, b0, b1, b2q, b3, b4, b5, b6, b7, b8, b9, b10, b11, b12, b13, b14⟩ := R
  exact ⟨⟨a0, a1, a2, a3, a4, a5, a6⟩, b0, b1, b2q, b3, b4, b5, b6, b7, (fun i hi => by
    show va_up M.2.2 8 (upd (M.2.2 8) j (nI v)) 8 i = nI (upN (s_lf σ) j v i)
    rw [va_up_self]
    unfold upd upN
    by_cases h1 : i = j
    · rw [if_pos h1, if_pos h1]
    · rw [if_neg h1, if_neg h1]; exact b8 i hi), b9, b10, b11, b12, b13, b14⟩
theorem RM.wk (R : RM σ th M) {v : Int64} : RM (w_wk σ v) th (M.1, v, M.2.2) := by
  obtain ⟨⟨a0, a1, a2, a3, a4, a5, a6⟩, b0, b1, b2q, b3, b4, b5, b6, b7, b8, b9, b10, b11, b12, b13, b14⟩ := R
  exact ⟨⟨a0, a1, a2, a3, a4, a5, rfl⟩, b0, b1, b2q, b3, b4, b5, b6, b7, b8, b9, b10, b11, b12, b13, b14⟩
theorem RM.push (R : RM σ th M) {j : Nat} : RM (w_od σ (s_od σ ++ [j])) th (va_up M.1 3 (nI (s_od σ).length + 1), M.2.1, va_up M.2.2 11 (upd (M.2.2 11) (s_od σ).length (nI j))) := by
  obtain ⟨⟨a0, a1, a2, a3, a4, a5, a6⟩, b0, b1, b2q, b3, b4, b5, b6, b7, b8, b9, b10, b11, b12, b13, b14⟩ := R
  exact ⟨⟨a0, a1, a2, (by
    show va_up M.1 3 (nI (s_od σ).length + 1) 3 = nI (s_od σ ++ [j]).length
    rw [va_up_self, List.length_append]; exact nI_1 _), a4, a5, a6⟩, b0, b1, b2q, b3, b4, b5, b6, b7, b8, b9, b10, (fun k hk => by
    have hk : k < (s_od σ ++ [j]).length := hk
    rw [List.length_append] at hk
    have hk : k < (s_od σ).length + 1 := hk
    show va_up M.2.2 11 (upd (M.2.2 11) (s_od σ).length (nI j)) 11 k = nI ((s_od σ ++ [j]).getD k 0)
    rw [va_up_self]
    unfold upd
    by_cases h1 : k = (s_od σ).length
    · rw [if_pos h1, h1, List.getD_eq_getElem?_getD]; simp
    · rw [if_neg h1, b11 k (by omega), List.getD_eq_getElem?_getD, List.getD_eq_getElem?_getD, List.getElem?_append_left (by omega)]), b12, b13, b14⟩
end RMS
section MD3
variable {E : EN} {d : Nat} {h : AH} {c n : Nat} {K : Out → AH → Prop} {mo : Nat} {ad : Nat → Nat} {M : MS} {σ : Sg} {th : Nat}
/-- a new order, in the cells -/
theorem RM.order (R : RM σ th M) {l : List Nat} {f : Nat → Int32} (hf : ∀ k, k < l.length → f k = nI (l.getD k 0)) : RM (w_od σ l) th (va_up M.1 3 (nI l.length), M.2.1, va_up M.2.2 11 f) := by
  obtain ⟨⟨a0, a1, a2, a3, a4, a5, a6⟩, b0, b1, b2', b3, b4, b5, b6, b7, b8, b9, b10, b11, b12, b13, b14⟩ := R
  exact ⟨⟨a0, a1, a2, (by show va_up M.1 3 (nI l.length) 3 = _; exact va_up_self _ _ _), a4, a5, a6⟩, b0, b1, b2', b3, b4, b5, b6, b7, b8, b9, b10, (fun k hk => by show va_up M.2.2 11 f 11 k = _; rw [va_up_self]; exact hf k hk), b12, b13, b14⟩
theorem l_leaves (A : ADok mo ad) (R : RM σ th M) (hJ : ∀ i ∈ s_od σ, i < 30) (hL : (s_od σ).length ≤ 30) {j : Nat} (hj : j < 30) (hk : ∀ M', RM (leavesF σ j) th M' → K (.inl none) (mv h mo ad M')) : ∀ k i (f : Nat → Int32), k + i = (s_od σ).length → (∀ x, x < (((s_od σ).take i).filter (fun y => y != j)).length → f x = nI ((((s_od σ).take i).filter (fun y => y != j)).getD x 0)) → (∀ x, i ≤ x → x < (s_od σ).length → f x = nI ((s_od σ).getD x 0)) →
    Ev E d mX5_leaves K 4 [.ref mo, .int (nI j), .int (nI (((s_od σ).take i).filter (fun y => y != j)).length), .int (nI i)] [] (mv h mo ad (M.1, M.2.1, va_up M.2.2 11 f)) c n := by
  intro k
  induction k with
  | zero =>
    intro i f hi h1 h2
    have ht : (s_od σ).take i = s_od σ := List.take_of_length_le (by omega)
    rw [ht] at h1 ⊢
    have hlen : ((s_od σ).filter (fun y => y != j)).length ≤ 30 := Nat.le_trans (List.length_filter_le _ _) hL
    rw [hX5_leaves_4]
    simp only [eX5_leaves_5, eX5_leaves_6, eX5_leaves_9, eX5_leaves_12, eX5_leaves_13, eX5_leaves_16, eX5_leaves_17, eX5_leaves_18, eX5_leaves_21, eX5_leaves_22, eX5_leaves_23, eX5_leaves_24, eX5_leaves_25, eX5_leaves_26, eX5_leaves_29, eX5_leaves_30, eX5_leaves_31, eX5_leaves_32, eX5_leaves_35, eX5_leaves_36, eX5_leaves_39, eX5_leaves_40, eX5_leaves_41, eX5_leaves_42, eX5_leaves_45, eX5_leaves_48, eX5_leaves_49, eX5_leaves_50, eX5_leaves_53, isA_r, isA_n, isI_i, isF_f, isL_l, is1_i, is1_r, is1_n, is1_f, true_and, and_true, List.length_cons, List.length_nil, Nat.reduceAdd, Nat.reduceLeDiff, Nat.reduceSub, Option.some.injEq, exists_eq_left', aft_s, aft_n, ite_true, ite_false, if_true, if_false, Nat.zero_le, Nat.le_refl, reduceCtorEq, mv_ob, mr0 A, mw0 A, ms0 A, mr1 A, mw1 A, ms1 A, mr2 A, mw2 A, ms2 A, mr3 A, mw3 A, ms3 A, mr4 A, mw4 A, ms4 A, mr5 A, mw5 A, ms5 A, mr6 A, mw6 A, ms6 A, mr7 A, mw7 A, ms7 A, mr8 A, mw8 A, ms8 A, mr9 A, mw9 A, ms9 A, mr10 A, mw10 A, ms10 A, mr11 A, mw11 A, ms11 A, mr12 A, mw12 A, ms12 A, mr13 A, mw13 A, ms13 A, mr14 A, mw14 A, ms14 A, mf0, mf1, mf2, mf3, mf4, mf5, mf6, mg0, mg1, mg2, mg3, mg4, mg5, mg6, mg7, mg8, mg9, mg10, mg11, mg12, mg13, mg14, mg15, mg16, mg17, mg18, mg19, mg20, mg21, mgl, Nat.reduceLT, va_up_self, R.1.2.2.2.1, if_neg (nI_nlt (show (s_od σ).length ≤ i by omega) (by omega))]
    exact hk _ (R.order (l := (s_od σ).filter (fun y => y != j)) h1)
  | succ k ih =>
    intro i f hi h1 h2
    have hil : i < (s_od σ).length := by omega
    have hnle : (((s_od σ).take i).filter (fun y => y != j)).length ≤ i := Nat.le_trans (List.length_filter_le _ _) (by rw [List.length_take]; omega)
    have e1 : (nI i).toNatClampNeg = i := nI_clamp (by omega)
    have e2 : (nI (((s_od σ).take i).filter (fun y => y != j)).length).toNatClampNeg = (((s_od σ).take i).filter (fun y => y != j)).length := nI_clamp (by omega)
    have hfi := h2 i (Nat.le_refl i) hil
    have hread : upd f (((s_od σ).take i).filter (fun y => y != j)).length (f i) i = nI ((s_od σ).getD i 0) := by
      unfold upd
      by_cases hz : i = (((s_od σ).take i).filter (fun y => y != j)).length
      · rw [if_pos hz]; exact hfi
      · rw [if_neg hz]; exact hfi
    have hmem : (s_od σ).getD i 0 ∈ s_od σ := by rw [List.getD_eq_getElem?_getD, List.getElem?_eq_getElem hil]; exact List.getElem_mem hil
    have hlt30 := hJ _ hmem
    have heq : (nI ((s_od σ).getD i 0) = nI j) ↔ (s_od σ).getD i 0 = j := nI_eq (by omega) (by omega)
    have htk : (s_od σ).take (i + 1) = (s_od σ).take i ++ [(s_od σ).getD i 0] := by
      rw [List.take_succ, List.getElem?_eq_getElem hil, List.getD_eq_getElem?_getD, List.getElem?_eq_getElem hil]
      rfl
    rw [hX5_leaves_4]
    simp only [eX5_leaves_5, eX5_leaves_6, eX5_leaves_9, eX5_leaves_12, eX5_leaves_13, eX5_leaves_16, eX5_leaves_17, eX5_leaves_18, eX5_leaves_21, eX5_leaves_22, eX5_leaves_23, eX5_leaves_24, eX5_leaves_25, eX5_leaves_26, eX5_leaves_29, eX5_leaves_30, eX5_leaves_31, eX5_leaves_32, eX5_leaves_35, eX5_leaves_36, eX5_leaves_39, eX5_leaves_40, eX5_leaves_41, eX5_leaves_42, eX5_leaves_45, eX5_leaves_48, eX5_leaves_49, eX5_leaves_50, eX5_leaves_53, isA_r, isA_n, isI_i, isF_f, isL_l, is1_i, is1_r, is1_n, is1_f, true_and, and_true, List.length_cons, List.length_nil, Nat.reduceAdd, Nat.reduceLeDiff, Nat.reduceSub, Option.some.injEq, exists_eq_left', aft_s, aft_n, ite_true, ite_false, if_true, if_false, Nat.zero_le, Nat.le_refl, reduceCtorEq, mv_ob, mr0 A, mw0 A, ms0 A, mr1 A, mw1 A, ms1 A, mr2 A, mw2 A, ms2 A, mr3 A, mw3 A, ms3 A, mr4 A, mw4 A, ms4 A, mr5 A, mw5 A, ms5 A, mr6 A, mw6 A, ms6 A, mr7 A, mw7 A, ms7 A, mr8 A, mw8 A, ms8 A, mr9 A, mw9 A, ms9 A, mr10 A, mw10 A, ms10 A, mr11 A, mw11 A, ms11 A, mr12 A, mw12 A, ms12 A, mr13 A, mw13 A, ms13 A, mr14 A, mw14 A, ms14 A, mf0, mf1, mf2, mf3, mf4, mf5, mf6, mg0, mg1, mg2, mg3, mg4, mg5, mg6, mg7, mg8, mg9, mg10, mg11, mg12, mg13, mg14, mg15, mg16, mg17, mg18, mg19, mg20, mg21, mgl, Nat.reduceLT, va_up_self, R.1.2.2.2.1, if_pos (nI_lt hil (by omega)), inB_nI (show i < 30 by omega) (by decide), inB_nI (show (((s_od σ).take i).filter (fun y => y != j)).length < 30 by omega) (by decide), e1, e2, bx_uu, hread, heq, nI_1]
    have h2' : ∀ x, i + 1 ≤ x → x < (s_od σ).length → upd f (((s_od σ).take i).filter (fun y => y != j)).length (f i) x = nI ((s_od σ).getD x 0) := by
      intro x hx hx2
      unfold upd
      rw [if_neg (by omega)]
      exact h2 x (by omega) hx2
    by_cases hj2 : (s_od σ).getD i 0 = j
    · rw [if_pos hj2]
      have hfl : ((s_od σ).take (i + 1)).filter (fun y => y != j) = ((s_od σ).take i).filter (fun y => y != j) := by
        rw [htk, List.filter_append, List.filter_cons]
        have hj3 := hj2
        rw [List.getD_eq_getElem?_getD] at hj3
        simp [hj3]
      have := ih (i + 1) (upd f (((s_od σ).take i).filter (fun y => y != j)).length (f i)) (by omega) (by
        rw [hfl]
        intro x hx
        unfold upd
        rw [if_neg (by omega)]
        exact h1 x hx) h2'
      rw [hfl] at this
      simpa only [Int32.add_zero] using this
    · rw [if_neg hj2]
      have hfl : ((s_od σ).take (i + 1)).filter (fun y => y != j) = ((s_od σ).take i).filter (fun y => y != j) ++ [(s_od σ).getD i 0] := by
        rw [htk, List.filter_append, List.filter_cons]
        have hj3 := hj2
        rw [List.getD_eq_getElem?_getD] at hj3
        simp [hj3]
      have := ih (i + 1) (upd f (((s_od σ).take i).filter (fun y => y != j)).length (f i)) (by omega) (by
        rw [hfl]
        intro x hx
        rw [List.length_append] at hx
        unfold upd
        by_cases hz : x = (((s_od σ).take i).filter (fun y => y != j)).length
        · rw [if_pos hz, hfi, hz, List.getD_eq_getElem?_getD, List.getD_eq_getElem?_getD]
          simp
        · have hx : x < (((s_od σ).take i).filter (fun y => y != j)).length + 1 := hx
          rw [if_neg hz, h1 x (by omega), List.getD_eq_getElem?_getD, List.getD_eq_getElem?_getD, List.getElem?_append_left (by omega)]) h2'
      rw [hfl, List.length_append] at this
      exact this
theorem c_leaves (A : ADok mo ad) (R : RM σ th M) (hJ : ∀ i ∈ s_od σ, i < 30) (hL : (s_od σ).length ≤ 30) {j : Nat} (hj : j < 30) (hk : ∀ M', RM (leavesF σ j) th M' → K (.inl none) (mv h mo ad M')) : CRd TTv E (d + 1) mX5_leaves [.ref mo, .int (nI j)] (mv h mo ad M) c n K := by
  refine crd rfl ?_
  show Ev E d mX5_leaves K 0 [.ref mo, .int (nI j), .retAddr 0, .retAddr 0] [] _ c n
  simp only [eX5_leaves_0, eX5_leaves_1, eX5_leaves_2, eX5_leaves_3, isA_r, isA_n, isI_i, isF_f, isL_l, is1_i, is1_r, is1_n, is1_f, true_and, and_true, List.length_cons, List.length_nil, Nat.reduceAdd, Nat.reduceLeDiff, Nat.reduceSub, Option.some.injEq, exists_eq_left', aft_s, aft_n, ite_true, ite_false, if_true, if_false, Nat.zero_le, Nat.le_refl, reduceCtorEq]
  have := l_leaves (E := E) (d := d) (c := c) (n := n) A R hJ hL hj hk (s_od σ).length 0 (M.2.2 11) (by omega) (fun x hx => absurd hx (by simp)) (fun x _ hx => R.2.2.2.2.2.2.2.2.2.2.2.2.1 x hx)
  have hself : va_up M.2.2 11 (M.2.2 11) = M.2.2 := by
    funext k
    unfold va_up
    split
    · next hz => rw [hz]
    · rfl
  rw [hself] at this
  exact this
end MD3
