/-! histories, over any heap -/
def HL (H : AH) (ha ar N : Nat) (l : List Nat) : Prop := H ha = some (.inr (1, hfs ar l.length)) ∧ l.length ≤ N ∧ N ≤ 100 ∧ ∃ g, H ar = some (arI N g) ∧ ∀ i, i < l.length → g i = nI (l.getD i 0)
section HIS
variable {E : EN} {d c n : Nat} {K : Out → AH → Prop} {ha ar N : Nat}
theorem HL.ne {H : AH} {l : List Nat} (h : HL H ha ar N l) : ar ≠ ha := by
  obtain ⟨h1, -, -, g, h2, -⟩ := h
  rintro rfl
  rw [h1] at h2; cases h2
theorem l_tout {k p : Nat} {g0 : Nat → Int32} {H0 : AH} (hne : ar ≠ ha) (hN : N ≤ 100) (hk : k ≤ N) (hK : ∀ H' g', H' ha = some (.inr (1, hfs ar (k - 1))) → H' ar = some (arI N g') → (∀ x, x < k - 1 → g' x = if x < p then g0 x else g0 (x + 1)) → (∀ q, q ≠ ha → q ≠ ar → H' q = H0 q) → K (.inl none) H') {a1 : Value} : ∀ (m i : Nat) (g : Nat → Int32) (H : AH), m + i + 1 = k → p ≤ i → H ha = some (.inr (1, hfs ar k)) → H ar = some (arI N g) → (∀ q, q ≠ ha → q ≠ ar → H q = H0 q) → (∀ x, x < i → g x = if x < p then g0 x else g0 (x + 1)) → (∀ x, i ≤ x → x < k → g x = g0 x) →
    Ev E d mX0_takeOut K 2 [.ref ha, a1, .int (nI i)] [] H c n := by
  intro m
  induction m with
  | zero =>
    intro i g H hm hp h1 h2 h3 h4 h5
    rw [hX0_takeOut_2]
    have e1 : (nI (i + 1) < nI k) = False := eq_false (nI_nlt (by omega) (by omega))
    simp only [eX0_takeOut_3, eX0_takeOut_4, isA_r, isA_n, isI_i, isF_f, isL_l, is1_i, is1_r, is1_n, is1_f, true_and, and_true, List.length_cons, List.length_nil, Nat.reduceAdd, Nat.reduceLeDiff, Nat.reduceSub, Option.some.injEq, exists_eq_left', aft_s, aft_n, ite_true, ite_false, if_true, if_false, Nat.zero_le, Nat.le_refl, reduceCtorEq, nI_1]
    simp only [eX0_takeOut_5, eX0_takeOut_6, eX0_takeOut_9, eX0_takeOut_12, eX0_takeOut_13, eX0_takeOut_16, eX0_takeOut_17, eX0_takeOut_18, eX0_takeOut_21, eX0_takeOut_22, eX0_takeOut_23, eX0_takeOut_24, eX0_takeOut_25, eX0_takeOut_26, eX0_takeOut_29, eX0_takeOut_32, eX0_takeOut_33, eX0_takeOut_34, eX0_takeOut_37, eX0_takeOut_38, isA_r, isA_n, isI_i, isF_f, isL_l, is1_i, is1_r, is1_n, is1_f, true_and, and_true, List.length_cons, List.length_nil, Nat.reduceAdd, Nat.reduceLeDiff, Nat.reduceSub, Option.some.injEq, exists_eq_left', aft_s, aft_n, ite_true, ite_false, if_true, if_false, Nat.zero_le, Nat.le_refl, reduceCtorEq, ob_of h1, hg1, e1]
    have e2 : nI k - 1 = nI (k - 1) := by
      have : k = (k - 1) + 1 := by omega
      rw [this, nI_pred]; rfl
    rw [e2]
    simp only [eX0_takeOut_39, eX0_takeOut_42, isA_r, isA_n, isI_i, isF_f, isL_l, is1_i, is1_r, is1_n, is1_f, true_and, and_true, List.length_cons, List.length_nil, Nat.reduceAdd, Nat.reduceLeDiff, Nat.reduceSub, Option.some.injEq, exists_eq_left', aft_s, aft_n, ite_true, ite_false, if_true, if_false, Nat.zero_le, Nat.le_refl, reduceCtorEq, ob_of h1, hf_s, hgl, Nat.reduceLT, okF, tyC]
    exact hK _ g hs_e (by rw [hs_n hne]; exact h2) (fun x hx => h4 x (by omega)) (fun q q1 q2 => by rw [hs_n q1]; exact h3 q q1 q2)
  | succ m ih =>
    intro i g H hm hp h1 h2 h3 h4 h5
    rw [hX0_takeOut_2]
    have e1 : (nI (i + 1) < nI k) = True := eq_true (nI_lt (by omega) (by omega))
    simp only [eX0_takeOut_3, eX0_takeOut_4, isA_r, isA_n, isI_i, isF_f, isL_l, is1_i, is1_r, is1_n, is1_f, true_and, and_true, List.length_cons, List.length_nil, Nat.reduceAdd, Nat.reduceLeDiff, Nat.reduceSub, Option.some.injEq, exists_eq_left', aft_s, aft_n, ite_true, ite_false, if_true, if_false, Nat.zero_le, Nat.le_refl, reduceCtorEq, nI_1]
    simp only [eX0_takeOut_5, eX0_takeOut_6, eX0_takeOut_9, eX0_takeOut_12, eX0_takeOut_13, eX0_takeOut_16, eX0_takeOut_17, eX0_takeOut_18, eX0_takeOut_21, eX0_takeOut_22, isA_r, isA_n, isI_i, isF_f, isL_l, is1_i, is1_r, is1_n, is1_f, true_and, and_true, List.length_cons, List.length_nil, Nat.reduceAdd, Nat.reduceLeDiff, Nat.reduceSub, Option.some.injEq, exists_eq_left', aft_s, aft_n, ite_true, ite_false, if_true, if_false, Nat.zero_le, Nat.le_refl, reduceCtorEq, ob_of h1, hg1, hg0, e1]
    simp only [eX0_takeOut_23, isA_r, isA_n, isI_i, isF_f, isL_l, is1_i, is1_r, is1_n, is1_f, true_and, and_true, List.length_cons, List.length_nil, Nat.reduceAdd, Nat.reduceLeDiff, Nat.reduceSub, Option.some.injEq, exists_eq_left', aft_s, aft_n, ite_true, ite_false, if_true, if_false, Nat.zero_le, Nat.le_refl, reduceCtorEq, nI_1]
    simp only [eX0_takeOut_24, eX0_takeOut_25, eX0_takeOut_26, eX0_takeOut_29, isA_r, isA_n, isI_i, isF_f, isL_l, is1_i, is1_r, is1_n, is1_f, true_and, and_true, List.length_cons, List.length_nil, Nat.reduceAdd, Nat.reduceLeDiff, Nat.reduceSub, Option.some.injEq, exists_eq_left', aft_s, aft_n, ite_true, ite_false, if_true, if_false, Nat.zero_le, Nat.le_refl, reduceCtorEq, rdI_of h2, rwI_of h2, inB_nI (show i + 1 < N by omega) (by omega), inB_nI (show i < N by omega) (by omega), nI_clamp (show i + 1 < 2 ^ 31 by omega), nI_clamp (show i < 2 ^ 31 by omega), nI_1]
    refine ih (i + 1) _ _ (by omega) (by omega) (by rw [hs_n hne.symm]; exact h1) hs_e (fun q q1 q2 => by rw [hs_n q2]; exact h3 q q1 q2) (fun x hx => ?_) (fun x hx hx2 => ?_)
    · by_cases hxi : x = i
      · subst hxi
        show (if x = x then g (x + 1) else g x) = _
        rw [if_pos rfl, if_neg (by omega)]
        exact h5 (x + 1) (by omega) (by omega)
      · show (if x = i then g (i + 1) else g x) = _
        rw [if_neg hxi]
        exact h4 x (by omega)
    · show (if x = i then g (i + 1) else g x) = _
      rw [if_neg (by omega)]
      exact h5 x (by omega) hx2
theorem k_tout {H : AH} {l : List Nat} {p : Nat} (h : HL H ha ar N l) (hp : p < l.length) (hK : ∀ H', HL H' ha ar N (l.eraseIdx p) → (∀ q, q ≠ ha → q ≠ ar → H' q = H q) → K (.inl none) H') : CRd TTv E (d + 1) mX0_takeOut [.ref ha, .int (nI p)] H c n K := by
  refine crd rfl ?_
  show Ev E d mX0_takeOut K 0 [.ref ha, .int (nI p), .retAddr 0] [] H c n
  have hne := h.ne
  obtain ⟨h1, h2, h3, g, h4, h5⟩ := h
  simp only [eX0_takeOut_0, eX0_takeOut_1, isA_r, isA_n, isI_i, isF_f, isL_l, is1_i, is1_r, is1_n, is1_f, true_and, and_true, List.length_cons, List.length_nil, Nat.reduceAdd, Nat.reduceLeDiff, Nat.reduceSub, Option.some.injEq, exists_eq_left', aft_s, aft_n, ite_true, ite_false, if_true, if_false, Nat.zero_le, Nat.le_refl, reduceCtorEq]
  have hl : (l.eraseIdx p).length = l.length - 1 := by rw [List.length_eraseIdx_of_lt hp]
  refine l_tout (k := l.length) (p := p) (g0 := g) (H0 := H) hne h3 h2 (fun H' g' q1 q2 q3 q4 => hK H' ⟨by rw [hl]; exact q1, by omega, h3, g', q2, fun i hi => ?_⟩ q4) (l.length - 1 - p) p g H (by omega) (Nat.le_refl _) h1 h4 (fun q _ _ => rfl) (fun x hx => (if_pos hx).symm) (fun x _ _ => rfl)
  rw [hl] at hi
  rw [q3 i hi, gD_e]
  split
  · exact h5 i (by omega)
  · exact h5 (i + 1) (by omega)
theorem k_append {H : AH} {l : List Nat} {x : Nat} (h : HL H ha ar N l) (hN : 0 < N) (hK : ∀ H', HL H' ha ar N ((if l.length = N then l.tail else l) ++ [x]) → (∀ q, q ≠ ha → q ≠ ar → H' q = H q) → K (.inl none) H') : CRd TTv E (d + 2) mX0_append [.ref ha, .int (nI x)] H c n K := by
  refine crd rfl ?_
  show Ev E (d + 1) mX0_append K 0 [.ref ha, .int (nI x)] [] H c n
  have fin : ∀ (l2 : List Nat) (H2 : AH), HL H2 ha ar N l2 → l2.length < N → (∀ q, q ≠ ha → q ≠ ar → H2 q = H q) → (∀ H', HL H' ha ar N (l2 ++ [x]) → (∀ q, q ≠ ha → q ≠ ar → H' q = H q) → K (.inl none) H') → Ev E (d + 1) mX0_append K 17 [.ref ha, .int (nI x)] [] H2 c n := by
    intro l2 H2 hh hlt hF hK2
    have hne := hh.ne
    obtain ⟨h1, h2, h3, g, h4, h5⟩ := hh
    simp only [eX0_append_17, eX0_append_18, eX0_append_21, eX0_append_22, eX0_append_25, eX0_append_26, eX0_append_27, eX0_append_28, eX0_append_29, eX0_append_32, isA_r, isA_n, isI_i, isF_f, isL_l, is1_i, is1_r, is1_n, is1_f, true_and, and_true, List.length_cons, List.length_nil, Nat.reduceAdd, Nat.reduceLeDiff, Nat.reduceSub, Option.some.injEq, exists_eq_left', aft_s, aft_n, ite_true, ite_false, if_true, if_false, Nat.zero_le, Nat.le_refl, reduceCtorEq, ob_of h1, hg0, hg1, rwI_of h4, inB_nI hlt (by omega), nI_clamp (show l2.length < 2 ^ 31 by omega), ob_n hne.symm]
    simp only [eX0_append_33, isA_r, isA_n, isI_i, isF_f, isL_l, is1_i, is1_r, is1_n, is1_f, true_and, and_true, List.length_cons, List.length_nil, Nat.reduceAdd, Nat.reduceLeDiff, Nat.reduceSub, Option.some.injEq, exists_eq_left', aft_s, aft_n, ite_true, ite_false, if_true, if_false, Nat.zero_le, Nat.le_refl, reduceCtorEq, nI_1]
    simp only [eX0_append_34, eX0_append_37, isA_r, isA_n, isI_i, isF_f, isL_l, is1_i, is1_r, is1_n, is1_f, true_and, and_true, List.length_cons, List.length_nil, Nat.reduceAdd, Nat.reduceLeDiff, Nat.reduceSub, Option.some.injEq, exists_eq_left', aft_s, aft_n, ite_true, ite_false, if_true, if_false, Nat.zero_le, Nat.le_refl, reduceCtorEq, ob_of h1, hf_s, hgl, Nat.reduceLT, ob_n hne.symm, okF, tyC]
    have hl : (l2 ++ [x]).length = l2.length + 1 := by rw [List.length_append]; rfl
    refine hK2 _ ⟨by rw [hs_e, hl], by omega, h3, _, by rw [hs_n hne]; exact hs_e, fun i hi => ?_⟩ (fun q q1 q2 => by rw [hs_n q1, hs_n q2]; exact hF q q1 q2)
    rw [hl] at hi
    by_cases hil : i = l2.length
    · subst hil
      rw [gD_r]; exact if_pos rfl
    · rw [gD_l (by omega)]
      show (if i = l2.length then nI x else g i) = _
      rw [if_neg hil]; exact h5 i (by omega)
  have h' := h
  obtain ⟨h1, h2, h3, g, h4, h5⟩ := h'
  by_cases hfull : l.length = N
  · have e1 : (nI l.length < Int32.ofNat N) = False := eq_false (nI_nlt (b := N) (by omega) (by omega))
    rw [if_pos hfull] at hK
    simp only [eX0_append_0, eX0_append_1, eX0_append_4, eX0_append_5, eX0_append_8, eX0_append_9, eX0_append_12, eX0_append_13, isA_r, isA_n, isI_i, isF_f, isL_l, is1_i, is1_r, is1_n, is1_f, true_and, and_true, List.length_cons, List.length_nil, Nat.reduceAdd, Nat.reduceLeDiff, Nat.reduceSub, Option.some.injEq, exists_eq_left', aft_s, aft_n, ite_true, ite_false, if_true, if_false, Nat.zero_le, Nat.le_refl, reduceCtorEq, ob_of h1, hg0, hg1, rdN_of h4, e1]
    have e0 : (.int (0 : Int32) : Value) = .int (nI 0) := rfl
    rw [e0]
    simp only [eX0_append_14, isA_r, isA_n, isI_i, isF_f, isL_l, is1_i, is1_r, is1_n, is1_f, true_and, and_true, List.length_cons, List.length_nil, Nat.reduceAdd, Nat.reduceLeDiff, Nat.reduceSub, Option.some.injEq, exists_eq_left', aft_s, aft_n, ite_true, ite_false, if_true, if_false, Nat.zero_le, Nat.le_refl, reduceCtorEq]
    refine ⟨⟨_, ob_of h1⟩, inv0 (k_tout h (p := 0) (by omega) (fun H2 h6 h7 => ?_))⟩
    have et : l.eraseIdx 0 = l.tail := by cases l <;> rfl
    rw [et] at h6
    simp only [isA_r, isA_n, isI_i, isF_f, isL_l, is1_i, is1_r, is1_n, is1_f, true_and, and_true, List.length_cons, List.length_nil, Nat.reduceAdd, Nat.reduceLeDiff, Nat.reduceSub, Option.some.injEq, exists_eq_left', aft_s, aft_n, ite_true, ite_false, if_true, if_false, Nat.zero_le, Nat.le_refl, reduceCtorEq]
    exact fin l.tail H2 h6 (by rw [List.length_tail]; omega) h7 hK
  · have e1 : (nI l.length < Int32.ofNat N) = True := eq_true (nI_lt (b := N) (by omega) (by omega))
    rw [if_neg hfull] at hK
    simp only [eX0_append_0, eX0_append_1, eX0_append_4, eX0_append_5, eX0_append_8, eX0_append_9, isA_r, isA_n, isI_i, isF_f, isL_l, is1_i, is1_r, is1_n, is1_f, true_and, and_true, List.length_cons, List.length_nil, Nat.reduceAdd, Nat.reduceLeDiff, Nat.reduceSub, Option.some.injEq, exists_eq_left', aft_s, aft_n, ite_true, ite_false, if_true, if_false, Nat.zero_le, Nat.le_refl, reduceCtorEq, ob_of h1, hg0, hg1, rdN_of h4, e1]
    exact fin l H h (by omega) (fun q _ _ => rfl) hK
theorem k_forget {H : AH} {l : List Nat} {x : Nat} (h : HL H ha ar N l) (hnd : l.Nodup) (hb : ∀ y ∈ l, y < 100) (hx : x < 100) (hK : ∀ H', HL H' ha ar N (l.filter (fun y => y != x)) → (∀ q, q ≠ ha → q ≠ ar → H' q = H q) → K (.inl none) H') : CRd TTv E (d + 2) mX0_forget [.ref ha, .int (nI x)] H c n K := by
  refine crd rfl ?_
  show Ev E (d + 1) mX0_forget K 0 [.ref ha, .int (nI x), .retAddr 0] [] H c n
  have h' := h
  obtain ⟨h1, h2, h3, g, h4, h5⟩ := h'
  have loop : ∀ m i, m + i = l.length → (∀ j, j < i → l.getD j 0 ≠ x) → Ev E (d + 1) mX0_forget K 2 [.ref ha, .int (nI x), .int (nI i)] [] H c n := by
    intro m
    induction m with
    | zero =>
      intro i hm h0
      rw [hX0_forget_2]
      have e1 : (nI i < nI l.length) = False := eq_false (nI_nlt (by omega) (by omega))
      simp only [eX0_forget_3, eX0_forget_4, eX0_forget_7, eX0_forget_10, eX0_forget_11, eX0_forget_14, eX0_forget_15, eX0_forget_16, eX0_forget_17, eX0_forget_20, eX0_forget_21, eX0_forget_22, eX0_forget_25, eX0_forget_26, eX0_forget_29, eX0_forget_32, isA_r, isA_n, isI_i, isF_f, isL_l, is1_i, is1_r, is1_n, is1_f, true_and, and_true, List.length_cons, List.length_nil, Nat.reduceAdd, Nat.reduceLeDiff, Nat.reduceSub, Option.some.injEq, exists_eq_left', aft_s, aft_n, ite_true, ite_false, if_true, if_false, Nat.zero_le, Nat.le_refl, reduceCtorEq, ob_of h1, hg1, e1]
      refine hK H ?_ (fun q _ _ => rfl)
      rw [List.filter_eq_self.mpr (fun y hy => ?_)]
      · exact h
      · obtain ⟨j, hj, rfl⟩ := List.getElem_of_mem hy
        have := h0 j (by omega)
        rw [List.getD_eq_getElem?_getD, List.getElem?_eq_getElem hj] at this
        simpa using this
    | succ m ih =>
      intro i hm h0
      have hi : i < l.length := by omega
      have hm2 : l.getD i 0 ∈ l := by
        rw [List.getD_eq_getElem?_getD, List.getElem?_eq_getElem hi]
        exact List.getElem_mem hi
      have h100 := hb _ hm2
      rw [hX0_forget_2]
      have e1 : (nI i < nI l.length) = True := eq_true (nI_lt (by omega) (by omega))
      have e2 : (g i = nI x) = (l.getD i 0 = x) := by
        rw [h5 i hi]
        exact propext (nI_eq (by omega) (by omega))
      by_cases he : l.getD i 0 = x
      · have e3 : (g i = nI x) = True := by rw [e2]; exact eq_true he
        simp only [eX0_forget_3, eX0_forget_4, eX0_forget_7, eX0_forget_10, eX0_forget_11, eX0_forget_14, eX0_forget_15, eX0_forget_16, eX0_forget_17, eX0_forget_20, eX0_forget_21, eX0_forget_22, isA_r, isA_n, isI_i, isF_f, isL_l, is1_i, is1_r, is1_n, is1_f, true_and, and_true, List.length_cons, List.length_nil, Nat.reduceAdd, Nat.reduceLeDiff, Nat.reduceSub, Option.some.injEq, exists_eq_left', aft_s, aft_n, ite_true, ite_false, if_true, if_false, Nat.zero_le, Nat.le_refl, reduceCtorEq, ob_of h1, hg1, hg0, e1, rdI_of h4, inB_nI (show i < N by omega) (by omega), nI_clamp (show i < 2 ^ 31 by omega), e3]
        refine ⟨⟨_, rfl⟩, inv0 (k_tout h hi (fun H2 h6 h7 => ?_))⟩
        simp only [eX0_forget_25, isA_r, isA_n, isI_i, isF_f, isL_l, is1_i, is1_r, is1_n, is1_f, true_and, and_true, List.length_cons, List.length_nil, Nat.reduceAdd, Nat.reduceLeDiff, Nat.reduceSub, Option.some.injEq, exists_eq_left', aft_s, aft_n, ite_true, ite_false, if_true, if_false, Nat.zero_le, Nat.le_refl, reduceCtorEq]
        rw [erase_f l i hnd hi, he] at h6
        exact hK H2 h6 h7
      · have e3 : (g i = nI x) = False := by rw [e2]; exact eq_false he
        simp only [eX0_forget_3, eX0_forget_4, eX0_forget_7, eX0_forget_10, eX0_forget_11, eX0_forget_14, eX0_forget_15, eX0_forget_16, eX0_forget_17, eX0_forget_20, eX0_forget_21, eX0_forget_22, eX0_forget_25, eX0_forget_26, eX0_forget_29, isA_r, isA_n, isI_i, isF_f, isL_l, is1_i, is1_r, is1_n, is1_f, true_and, and_true, List.length_cons, List.length_nil, Nat.reduceAdd, Nat.reduceLeDiff, Nat.reduceSub, Option.some.injEq, exists_eq_left', aft_s, aft_n, ite_true, ite_false, if_true, if_false, Nat.zero_le, Nat.le_refl, reduceCtorEq, ob_of h1, hg1, hg0, e1, rdI_of h4, inB_nI (show i < N by omega) (by omega), nI_clamp (show i < 2 ^ 31 by omega), e3, nI_1]
        refine ih (i + 1) (by omega) (fun j hj => ?_)
        by_cases hji : j = i
        · subst hji; exact he
        · exact h0 j (by omega)
  simp only [eX0_forget_0, eX0_forget_1, isA_r, isA_n, isI_i, isF_f, isL_l, is1_i, is1_r, is1_n, is1_f, true_and, and_true, List.length_cons, List.length_nil, Nat.reduceAdd, Nat.reduceLeDiff, Nat.reduceSub, Option.some.injEq, exists_eq_left', aft_s, aft_n, ite_true, ite_false, if_true, if_false, Nat.zero_le, Nat.le_refl, reduceCtorEq]
  exact loop l.length 0 rfl (fun j hj => absurd hj (by omega))
theorem k_last {H : AH} {l : List Nat} {a b : Int32} (h : HL H ha ar N l) (hK : K (.inl (some (.int (o2 (lastIn a b l))))) H) : CRd TTv E (d + 1) mX0_lastBetween [.ref ha, .int a, .int b] H c n K := by
  refine crd rfl ?_
  show Ev E d mX0_lastBetween K 0 [.ref ha, .int a, .int b, .retAddr 0] [] H c n
  obtain ⟨h1, h2, h3, g, h4, h5⟩ := h
  have loop : ∀ i, i ≤ l.length → K (.inl (some (.int (o2 (lastIn a b (l.take i)))))) H → Ev E d mX0_lastBetween K 7 [.ref ha, .int a, .int b, .int (nI i - 1)] [] H c n := by
    intro i
    induction i with
    | zero =>
      intro hi hk
      rw [hX0_lastBetween_7]
      have e1 : (nI 0 - 1 < 0) = True := eq_true m1_z
      simp only [eX0_lastBetween_8, eX0_lastBetween_11, eX0_lastBetween_12, eX0_lastBetween_15, eX0_lastBetween_16, eX0_lastBetween_17, eX0_lastBetween_18, eX0_lastBetween_21, eX0_lastBetween_22, eX0_lastBetween_25, eX0_lastBetween_26, eX0_lastBetween_27, eX0_lastBetween_28, eX0_lastBetween_31, eX0_lastBetween_32, eX0_lastBetween_35, eX0_lastBetween_36, eX0_lastBetween_37, eX0_lastBetween_38, eX0_lastBetween_41, eX0_lastBetween_44, eX0_lastBetween_45, isA_r, isA_n, isI_i, isF_f, isL_l, is1_i, is1_r, is1_n, is1_f, true_and, and_true, List.length_cons, List.length_nil, Nat.reduceAdd, Nat.reduceLeDiff, Nat.reduceSub, Option.some.injEq, exists_eq_left', aft_s, aft_n, ite_true, ite_false, if_true, if_false, Nat.zero_le, Nat.le_refl, reduceCtorEq, e1]
      exact hk
    | succ i ih =>
      intro hi hk
      rw [hX0_lastBetween_7]
      have e1 : (nI i < 0) = False := eq_false (nI_pos (by omega))
      rw [lastIn_s (by omega)] at hk
      simp only [nI_pred]
      by_cases ha1 : nI (l.getD i 0) < a
      · have e2 : (g i < a) = True := by rw [h5 i (by omega)]; exact eq_true ha1
        have e3 : inR a b (l.getD i 0) = false := by unfold inR; rw [decide_eq_false (not_not_intro ha1)]; rfl
        rw [e3] at hk
        simp only [eX0_lastBetween_8, eX0_lastBetween_11, eX0_lastBetween_12, eX0_lastBetween_15, eX0_lastBetween_16, eX0_lastBetween_17, eX0_lastBetween_18, eX0_lastBetween_21, eX0_lastBetween_22, eX0_lastBetween_25, eX0_lastBetween_26, eX0_lastBetween_27, eX0_lastBetween_28, eX0_lastBetween_31, eX0_lastBetween_32, eX0_lastBetween_35, eX0_lastBetween_36, eX0_lastBetween_37, eX0_lastBetween_38, eX0_lastBetween_41, isA_r, isA_n, isI_i, isF_f, isL_l, is1_i, is1_r, is1_n, is1_f, true_and, and_true, List.length_cons, List.length_nil, Nat.reduceAdd, Nat.reduceLeDiff, Nat.reduceSub, Option.some.injEq, exists_eq_left', aft_s, aft_n, ite_true, ite_false, if_true, if_false, Nat.zero_le, Nat.le_refl, reduceCtorEq, e1, ob_of h1, hg0, rdI_of h4, inB_nI (show i < N by omega) (by omega), nI_clamp (show i < 2 ^ 31 by omega), e2, m1_s]
        exact ih (by omega) hk
      · have e2 : (g i < a) = False := by rw [h5 i (by omega)]; exact eq_false ha1
        by_cases hb1 : b < nI (l.getD i 0)
        · have e4 : (b < g i) = True := by rw [h5 i (by omega)]; exact eq_true hb1
          have e3 : inR a b (l.getD i 0) = false := by unfold inR; rw [decide_eq_false (not_not_intro hb1), Bool.and_false]
          rw [e3] at hk
          simp only [eX0_lastBetween_8, eX0_lastBetween_11, eX0_lastBetween_12, eX0_lastBetween_15, eX0_lastBetween_16, eX0_lastBetween_17, eX0_lastBetween_18, eX0_lastBetween_21, eX0_lastBetween_22, eX0_lastBetween_25, eX0_lastBetween_26, eX0_lastBetween_27, eX0_lastBetween_28, eX0_lastBetween_31, eX0_lastBetween_32, eX0_lastBetween_35, eX0_lastBetween_36, eX0_lastBetween_37, eX0_lastBetween_38, eX0_lastBetween_41, isA_r, isA_n, isI_i, isF_f, isL_l, is1_i, is1_r, is1_n, is1_f, true_and, and_true, List.length_cons, List.length_nil, Nat.reduceAdd, Nat.reduceLeDiff, Nat.reduceSub, Option.some.injEq, exists_eq_left', aft_s, aft_n, ite_true, ite_false, if_true, if_false, Nat.zero_le, Nat.le_refl, reduceCtorEq, e1, ob_of h1, hg0, rdI_of h4, inB_nI (show i < N by omega) (by omega), nI_clamp (show i < 2 ^ 31 by omega), e2, e4, m1_s]
          exact ih (by omega) hk
        · have e4 : (b < g i) = False := by rw [h5 i (by omega)]; exact eq_false hb1
          have e3 : inR a b (l.getD i 0) = true := by unfold inR; rw [decide_eq_true ha1, decide_eq_true hb1]; rfl
          rw [e3] at hk
          have e5 : (.int (g i) : Value) = .int (o2 (some (l.getD i 0))) := by rw [h5 i (by omega)]; rfl
          simp only [eX0_lastBetween_8, eX0_lastBetween_11, eX0_lastBetween_12, eX0_lastBetween_15, eX0_lastBetween_16, eX0_lastBetween_17, eX0_lastBetween_18, eX0_lastBetween_21, eX0_lastBetween_22, eX0_lastBetween_25, eX0_lastBetween_26, eX0_lastBetween_27, eX0_lastBetween_28, eX0_lastBetween_31, eX0_lastBetween_32, eX0_lastBetween_35, eX0_lastBetween_36, eX0_lastBetween_37, eX0_lastBetween_38, eX0_lastBetween_41, isA_r, isA_n, isI_i, isF_f, isL_l, is1_i, is1_r, is1_n, is1_f, true_and, and_true, List.length_cons, List.length_nil, Nat.reduceAdd, Nat.reduceLeDiff, Nat.reduceSub, Option.some.injEq, exists_eq_left', aft_s, aft_n, ite_true, ite_false, if_true, if_false, Nat.zero_le, Nat.le_refl, reduceCtorEq, e1, ob_of h1, hg0, rdI_of h4, inB_nI (show i < N by omega) (by omega), nI_clamp (show i < 2 ^ 31 by omega), e2, e4]
          rw [e5]
          exact hk
  simp only [eX0_lastBetween_0, eX0_lastBetween_1, eX0_lastBetween_4, eX0_lastBetween_5, eX0_lastBetween_6, isA_r, isA_n, isI_i, isF_f, isL_l, is1_i, is1_r, is1_n, is1_f, true_and, and_true, List.length_cons, List.length_nil, Nat.reduceAdd, Nat.reduceLeDiff, Nat.reduceSub, Option.some.injEq, exists_eq_left', aft_s, aft_n, ite_true, ite_false, if_true, if_false, Nat.zero_le, Nat.le_refl, reduceCtorEq, ob_of h1, hg1]
  refine loop l.length (Nat.le_refl _) ?_
  rw [List.take_of_length_le (Nat.le_refl _)]
  exact hK
end HIS
