section LST3
variable {E : EN} {d : Nat} {c n : Nat} {K : Out → AH → Prop} {H : AH} {a z k cap : Nat} {m : Int32} {f : Nat → Option Nat}
theorem c_fastR (L : LLs E H a m z k cap f) {i : Nat} (hi : i < k) (hK : ∀ H' m' f', LLs E H' a m' z (k - 1) cap f' → (∀ x, x < k - 1 → f' x = if x < i then f x else f (x + 1)) → (∀ q, q ≠ a → q ≠ z → H' q = H q) → K (.inl none) H') : CRd TTv E (d + 3) mJx4a65c_fastRemove_b59b0 [.ref a, .ref z, .int (nI i)] H c n K := by
  refine crd rfl ?_
  show Ev E (d + 2) mJx4a65c_fastRemove_b59b0 K 0 [.ref a, .ref z, .int (nI i), .retAddr 0] [] H c n
  have L' := L
  obtain ⟨h1, h2, h3, h4, h5⟩ := L'
  have hz := L.arr (by omega)
  have hza := L.ne
  obtain ⟨j, rfl⟩ : ∃ j, k = j + 1 := ⟨k - 1, by omega⟩
  rw [Nat.add_sub_cancel] at hK
  have hj : inB (nI j) cap = true := inB_nI (by omega) (by omega)
  have hjc := nI_clamp (show j < 2 ^ 31 by omega)
  simp only [eJx4a65c_fastRemove_b59b0_0, eJx4a65c_fastRemove_b59b0_1, eJx4a65c_fastRemove_b59b0_2, eJx4a65c_fastRemove_b59b0_5, eJx4a65c_fastRemove_b59b0_6, eJx4a65c_fastRemove_b59b0_7, eJx4a65c_fastRemove_b59b0_10, eJx4a65c_fastRemove_b59b0_11, eJx4a65c_fastRemove_b59b0_14, eJx4a65c_fastRemove_b59b0_15, eJx4a65c_fastRemove_b59b0_16, eJx4a65c_fastRemove_b59b0_17, eJx4a65c_fastRemove_b59b0_18, isA_r, isA_n, isI_i, isF_f, isL_l, is1_i, is1_r, is1_n, is1_f, true_and, and_true, List.length_cons, List.length_nil, Nat.reduceAdd, Nat.reduceLeDiff, Nat.reduceSub, Option.some.injEq, exists_eq_left', aft_s, aft_n, ite_true, ite_false, if_true, if_false, Nat.zero_le, Nat.le_refl, reduceCtorEq, ob_of h1, lf_g0, lf_s0, lf_l, lf_g1, lf_g2, ob_e, Nat.reduceLT, okF, tyC, nI_pred]
  have fin : ∀ (f1 : Nat → Option Nat) (m1 : Int32) (H1 : AH), H1 a = some (.inr (0, lfs m1 z (j + 1))) → H1 z = some (arR cap f1) → (∀ q, q ≠ a → q ≠ z → H1 q = H q) → (∀ x, x < j → f1 x = if x < i then f x else f (x + 1)) → Ev E (d + 2) mJx4a65c_fastRemove_b59b0 K 34 [.ref a, .ref z, .int (nI i), .int (nI j)] [] H1 c n := by
    intro f1 m1 H1 g1 g2 g3 g4
    simp only [eJx4a65c_fastRemove_b59b0_34, eJx4a65c_fastRemove_b59b0_35, eJx4a65c_fastRemove_b59b0_36, eJx4a65c_fastRemove_b59b0_37, eJx4a65c_fastRemove_b59b0_38, eJx4a65c_fastRemove_b59b0_41, eJx4a65c_fastRemove_b59b0_42, eJx4a65c_fastRemove_b59b0_43, isA_r, isA_n, isI_i, isF_f, isL_l, is1_i, is1_r, is1_n, is1_f, true_and, and_true, List.length_cons, List.length_nil, Nat.reduceAdd, Nat.reduceLeDiff, Nat.reduceSub, Option.some.injEq, exists_eq_left', aft_s, aft_n, ite_true, ite_false, if_true, if_false, Nat.zero_le, Nat.le_refl, reduceCtorEq, ob_of g1, lf_s2, lf_l, Nat.reduceLT, okF, tyC, rdA_n hza, rdA_of g2, hj, hjc]
    refine hK _ m1 (va_up f1 j none) ⟨by rw [hs_n hza.symm, hs_e], by omega, h3, Or.inr ⟨by omega, by rw [hs_e]⟩, fun x hx => ?_⟩ (fun x hx => by rw [va_up_ne _ _ (by omega)]; exact g4 x hx) (fun q q1 q2 => by rw [hs_n q2, hs_n q1]; exact g3 q q1 q2)
    have e1 : ∃ y, f1 x = some y ∧ isO H y = true := by
      rw [g4 x hx]
      split
      · exact h5 x (by omega)
      · exact h5 (x + 1) (by omega)
    obtain ⟨y, hy1, hy2⟩ := e1
    refine ⟨y, by rw [va_up_ne _ _ (by omega)]; exact hy1, ?_⟩
    rw [isO_n (isO_ne hy2 hz)]
    refine isO_up ?_
    by_cases hya : y = a
    · subst hya; exact isO_of g1
    · unfold isO; rw [g3 y hya (isO_ne hy2 hz)]; exact hy2
  by_cases hlt : i < j
  · have e1 : (nI i < nI j) = True := eq_true (nI_lt hlt (by omega))
    have e2 : nI j - nI i = nI (j - i) := by
      have : nI (j - i) + nI i = nI j := by rw [nI_add, Nat.sub_add_cancel (by omega)]
      rw [← this]
      rw [Int32.add_sub_cancel]
    simp only [eJx4a65c_fastRemove_b59b0_19, eJx4a65c_fastRemove_b59b0_22, eJx4a65c_fastRemove_b59b0_23, eJx4a65c_fastRemove_b59b0_24, eJx4a65c_fastRemove_b59b0_25, eJx4a65c_fastRemove_b59b0_26, eJx4a65c_fastRemove_b59b0_27, eJx4a65c_fastRemove_b59b0_28, eJx4a65c_fastRemove_b59b0_29, eJx4a65c_fastRemove_b59b0_30, eJx4a65c_fastRemove_b59b0_31, isA_r, isA_n, isI_i, isF_f, isL_l, is1_i, is1_r, is1_n, is1_f, true_and, and_true, List.length_cons, List.length_nil, Nat.reduceAdd, Nat.reduceLeDiff, Nat.reduceSub, Option.some.injEq, exists_eq_left', aft_s, aft_n, ite_true, ite_false, if_true, if_false, Nat.zero_le, Nat.le_refl, reduceCtorEq, e1, e2, nI_1, rdA_n hza, rdA_of hz, Nat.le_add_left, nI_clamp (show i < 2 ^ 31 by omega), nI_clamp (show i + 1 < 2 ^ 31 by omega), nI_clamp (show j - i < 2 ^ 31 by omega), nI_pos (show i < 2 ^ 31 by omega), nI_pos (show i + 1 < 2 ^ 31 by omega), nI_pos (show j - i < 2 ^ 31 by omega), not_false_eq_true]
    refine ⟨⟨⟨by omega, by omega⟩, fun x hx => ?_⟩, ?_⟩
    · obtain ⟨y, hy1, hy2⟩ := h5 (i + 1 + x) (by omega)
      rw [hy1]
      exact isO_up hy2
    · refine fin _ (m + 1) _ (by rw [hs_n hza.symm, hs_e]) hs_e (fun q q1 q2 => by rw [hs_n q2, hs_n q1]) (fun x hx => ?_)
      by_cases hxi : x < i
      · rw [if_pos hxi, pk_cpy_out (Or.inl hxi)]
      · rw [if_neg hxi, pk_cpy_in (by omega) (by omega)]
        congr 1
        omega
  · have e1 : (nI i < nI j) = False := eq_false (nI_nlt (by omega) (by omega))
    simp only [eJx4a65c_fastRemove_b59b0_19, isA_r, isA_n, isI_i, isF_f, isL_l, is1_i, is1_r, is1_n, is1_f, true_and, and_true, List.length_cons, List.length_nil, Nat.reduceAdd, Nat.reduceLeDiff, Nat.reduceSub, Option.some.injEq, exists_eq_left', aft_s, aft_n, ite_true, ite_false, if_true, if_false, Nat.zero_le, Nat.le_refl, reduceCtorEq, e1]
    exact fin f (m + 1) _ hs_e (by rw [hs_n hza]; exact hz) (fun q q1 q2 => by rw [hs_n q1]) (fun x hx => (if_pos (by omega)).symm)
theorem L_remove (L : LLs E H a m z k cap f) {i : Nat} (hi : i < k) (hK : ∀ H' m' f', LLs E H' a m' z (k - 1) cap f' → (∀ x, x < k - 1 → f' x = if x < i then f x else f (x + 1)) → (∀ q, q ≠ a → q ≠ z → H' q = H q) → K (.inl (some (va_rf (f i)))) H') : CRd TTv E (d + 4) mJx4a65c_remove_915e3 [.ref a, .int (nI i)] H c n K := by
  refine crd rfl ?_
  show Ev E (d + 3) mJx4a65c_remove_915e3 K 0 [.ref a, .int (nI i), .retAddr 0, .retAddr 0] [] H c n
  have h1 := L.2.1
  have h2 := L.2.2.1
  have hz := L.arr (by omega)
  simp only [eJx4a65c_remove_915e3_0, eJx4a65c_remove_915e3_1, eJx4a65c_remove_915e3_2, eJx4a65c_remove_915e3_5, eJx4a65c_remove_915e3_8, eJx4a65c_remove_915e3_9, eJx4a65c_remove_915e3_10, eJx4a65c_remove_915e3_13, eJx4a65c_remove_915e3_14, eJx4a65c_remove_915e3_15, eJx4a65c_remove_915e3_16, eJx4a65c_remove_915e3_17, eJx4a65c_remove_915e3_18, eJx4a65c_remove_915e3_19, eJx4a65c_remove_915e3_20, eJx4a65c_remove_915e3_21, eJx4a65c_remove_915e3_24, eJx4a65c_remove_915e3_25, isA_r, isA_n, isI_i, isF_f, isL_l, is1_i, is1_r, is1_n, is1_f, true_and, and_true, List.length_cons, List.length_nil, Nat.reduceAdd, Nat.reduceLeDiff, Nat.reduceSub, Option.some.injEq, exists_eq_left', aft_s, aft_n, ite_true, ite_false, if_true, if_false, Nat.zero_le, Nat.le_refl, reduceCtorEq, ob_of L.1, lf_g2]
  refine inv0 (c_chk hi (by omega) ?_)
  simp only [eJx4a65c_remove_915e3_0, eJx4a65c_remove_915e3_1, eJx4a65c_remove_915e3_2, eJx4a65c_remove_915e3_5, eJx4a65c_remove_915e3_8, eJx4a65c_remove_915e3_9, eJx4a65c_remove_915e3_10, eJx4a65c_remove_915e3_13, eJx4a65c_remove_915e3_14, eJx4a65c_remove_915e3_15, eJx4a65c_remove_915e3_16, eJx4a65c_remove_915e3_17, eJx4a65c_remove_915e3_18, eJx4a65c_remove_915e3_19, eJx4a65c_remove_915e3_20, eJx4a65c_remove_915e3_21, eJx4a65c_remove_915e3_24, eJx4a65c_remove_915e3_25, isA_r, isA_n, isI_i, isF_f, isL_l, is1_i, is1_r, is1_n, is1_f, true_and, and_true, List.length_cons, List.length_nil, Nat.reduceAdd, Nat.reduceLeDiff, Nat.reduceSub, Option.some.injEq, exists_eq_left', aft_s, aft_n, ite_true, ite_false, if_true, if_false, Nat.zero_le, Nat.le_refl, reduceCtorEq, ob_of L.1, lf_g1, rdA_of hz, inB_nI (show i < cap by omega) (by omega), nI_clamp (show i < 2 ^ 31 by omega), isA_rf2]
  refine ⟨⟨_, rfl⟩, invk c n (Nat.le_refl _) (Nat.le_refl _) (c_fastR L hi (fun H' m' f' l1 l2 l3 => ?_))⟩
  simp only [eJx4a65c_remove_915e3_0, eJx4a65c_remove_915e3_1, eJx4a65c_remove_915e3_2, eJx4a65c_remove_915e3_5, eJx4a65c_remove_915e3_8, eJx4a65c_remove_915e3_9, eJx4a65c_remove_915e3_10, eJx4a65c_remove_915e3_13, eJx4a65c_remove_915e3_14, eJx4a65c_remove_915e3_15, eJx4a65c_remove_915e3_16, eJx4a65c_remove_915e3_17, eJx4a65c_remove_915e3_18, eJx4a65c_remove_915e3_19, eJx4a65c_remove_915e3_20, eJx4a65c_remove_915e3_21, eJx4a65c_remove_915e3_24, eJx4a65c_remove_915e3_25, isA_r, isA_n, isI_i, isF_f, isL_l, is1_i, is1_r, is1_n, is1_f, true_and, and_true, List.length_cons, List.length_nil, Nat.reduceAdd, Nat.reduceLeDiff, Nat.reduceSub, Option.some.injEq, exists_eq_left', aft_s, aft_n, ite_true, ite_false, if_true, if_false, Nat.zero_le, Nat.le_refl, reduceCtorEq, isA_rf2]
  exact hK H' m' f' l1 l2 l3
theorem L_init (h1 : H a = some (.inr (0, [.int 0, .null, .int 0]))) (hE0 : H E.2.1 = none) (hK : ∀ H', LLs E H' a 0 E.2.1 0 0 (fun _ => none) → (∀ q, q ≠ a → H' q = H q) → K (.inl none) H') : CRd TTv E (d + 4) mJx4a65c_init_da8c8 [.ref a] H c n K := by
  refine crd rfl ?_
  show Ev E (d + 3) mJx4a65c_init_da8c8 K 0 [.ref a] [] H c n
  simp only [eJx4a65c_init_da8c8_0, eJx4a65c_init_da8c8_1, eJx4a65c_init_da8c8_4, eJx4a65c_init_da8c8_5, eJx4a65c_init_da8c8_8, eJx4a65c_init_da8c8_11, isA_r, isA_n, isI_i, isF_f, isL_l, is1_i, is1_r, is1_n, is1_f, true_and, and_true, List.length_cons, List.length_nil, Nat.reduceAdd, Nat.reduceLeDiff, Nat.reduceSub, Option.some.injEq, exists_eq_left', aft_s, aft_n, ite_true, ite_false, if_true, if_false, Nat.zero_le, Nat.le_refl, reduceCtorEq]
  refine inv0 (crd rfl ?_)
  show Ev E (d + 2) mJxc12de_init_da8c8 _ 0 [.ref a] [] H _ _
  simp only [eJxc12de_init_da8c8_0, eJxc12de_init_da8c8_1, eJxc12de_init_da8c8_4, eJxc12de_init_da8c8_5, eJxc12de_init_da8c8_6, eJxc12de_init_da8c8_9, isA_r, isA_n, isI_i, isF_f, isL_l, is1_i, is1_r, is1_n, is1_f, true_and, and_true, List.length_cons, List.length_nil, Nat.reduceAdd, Nat.reduceLeDiff, Nat.reduceSub, Option.some.injEq, exists_eq_left', aft_s, aft_n, ite_true, ite_false, if_true, if_false, Nat.zero_le, Nat.le_refl, reduceCtorEq]
  refine inv0 (crd rfl ?_)
  show Ev E (d + 1) mJxa1e45_init_da8c8 _ 0 [.ref a] [] H _ _
  simp only [eJxa1e45_init_da8c8_0, eJxa1e45_init_da8c8_1, eJxa1e45_init_da8c8_4, eJxc12de_init_da8c8_0, eJxc12de_init_da8c8_1, eJxc12de_init_da8c8_4, eJxc12de_init_da8c8_5, eJxc12de_init_da8c8_6, eJxc12de_init_da8c8_9, eJx4a65c_init_da8c8_0, eJx4a65c_init_da8c8_1, eJx4a65c_init_da8c8_4, eJx4a65c_init_da8c8_5, eJx4a65c_init_da8c8_8, eJx4a65c_init_da8c8_11, isA_r, isA_n, isI_i, isF_f, isL_l, is1_i, is1_r, is1_n, is1_f, true_and, and_true, List.length_cons, List.length_nil, Nat.reduceAdd, Nat.reduceLeDiff, Nat.reduceSub, Option.some.injEq, exists_eq_left', aft_s, aft_n, ite_true, ite_false, if_true, if_false, Nat.zero_le, Nat.le_refl, reduceCtorEq, ob_of h1, ob_e, hs_hs, List.set, Nat.reduceLT, okF, tyC, Nat.le_add_left]
  have hne : E.2.1 ≠ a := by rintro e; rw [e, h1] at hE0; cases hE0
  exact hK _ ⟨hs_e, Nat.le_refl _, by omega, Or.inl ⟨rfl, rfl, by rw [hs_n hne]; exact hE0⟩, fun i hi => absurd hi (by omega)⟩ (fun q hq => hs_n hq)
theorem l_fill {N : Nat} {x : Int32} (hN : N < 2 ^ 30) : ∀ (k i : Nat) (f : Nat → Int32) (H : AH), k + i = N → H a = some (arI N f) → (∀ j, j < i → f j = x) → (∀ H' g, H' a = some (arI N g) → (∀ j, j < N → g j = x) → (∀ q, q ≠ a → H' q = H q) → K (.inl none) H') → Ev E d mJ7_fill_53178 K 5 [.ref a, .int x, .int (nI i), .int (nI N)] [] H c n := by
  intro k
  induction k with
  | zero =>
    intro i f H hk h1 h2 hK
    have e1 : (nI i < nI N) = False := eq_false (nI_nlt (by omega) (by omega))
    rw [hJ7_fill_53178_5]
    simp only [eJ7_fill_53178_6, eJ7_fill_53178_7, eJ7_fill_53178_10, eJ7_fill_53178_11, eJ7_fill_53178_12, eJ7_fill_53178_13, eJ7_fill_53178_14, eJ7_fill_53178_17, eJ7_fill_53178_20, isA_r, isA_n, isI_i, isF_f, isL_l, is1_i, is1_r, is1_n, is1_f, true_and, and_true, List.length_cons, List.length_nil, Nat.reduceAdd, Nat.reduceLeDiff, Nat.reduceSub, Option.some.injEq, exists_eq_left', aft_s, aft_n, ite_true, ite_false, if_true, if_false, Nat.zero_le, Nat.le_refl, reduceCtorEq, e1]
    exact hK H f h1 (fun j hj => h2 j (by omega)) (fun q _ => rfl)
  | succ k ih =>
    intro i f H hk h1 h2 hK
    have e1 : (nI i < nI N) = True := eq_true (nI_lt (by omega) (by omega))
    rw [hJ7_fill_53178_5]
    simp only [eJ7_fill_53178_6, eJ7_fill_53178_7, eJ7_fill_53178_10, eJ7_fill_53178_11, eJ7_fill_53178_12, eJ7_fill_53178_13, eJ7_fill_53178_14, eJ7_fill_53178_17, isA_r, isA_n, isI_i, isF_f, isL_l, is1_i, is1_r, is1_n, is1_f, true_and, and_true, List.length_cons, List.length_nil, Nat.reduceAdd, Nat.reduceLeDiff, Nat.reduceSub, Option.some.injEq, exists_eq_left', aft_s, aft_n, ite_true, ite_false, if_true, if_false, Nat.zero_le, Nat.le_refl, reduceCtorEq, e1, rwI_of h1, inB_nI (show i < N by omega) (by omega), nI_clamp (show i < 2 ^ 31 by omega)]
    have e2 : (.int (nI i + 1) : Value) = .int (nI (i + 1)) := by rw [nI_1]
    have e3 : nI i + Int32.ofInt 1 = nI (i + 1) := by rw [← nI_1]; rfl
    try rw [e2]
    try rw [e3]
    refine ih (i + 1) (upd f i x) _ (by omega) hs_e (fun j hj => ?_) (fun H' g g1 g2 g3 => hK H' g g1 g2 (fun q hq => by rw [g3 q hq, hs_n hq]))
    by_cases hji : j = i
    · subst hji; exact if_pos rfl
    · unfold upd; rw [if_neg hji]; exact h2 j (by omega)
theorem c_fill {N : Nat} {x : Int32} {f : Nat → Int32} (hN : N < 2 ^ 30) (h1 : H a = some (arI N f)) (hK : ∀ H' g, H' a = some (arI N g) → (∀ j, j < N → g j = x) → (∀ q, q ≠ a → H' q = H q) → K (.inl none) H') : CRd TTv E (d + 1) mJ7_fill_53178 [.ref a, .int x] H c n K := by
  refine crd rfl ?_
  show Ev E d mJ7_fill_53178 K 0 [.ref a, .int x, .retAddr 0, .retAddr 0] [] H c n
  simp only [eJ7_fill_53178_0, eJ7_fill_53178_1, eJ7_fill_53178_2, eJ7_fill_53178_3, eJ7_fill_53178_4, isA_r, isA_n, isI_i, isF_f, isL_l, is1_i, is1_r, is1_n, is1_f, true_and, and_true, List.length_cons, List.length_nil, Nat.reduceAdd, Nat.reduceLeDiff, Nat.reduceSub, Option.some.injEq, exists_eq_left', aft_s, aft_n, ite_true, ite_false, if_true, if_false, Nat.zero_le, Nat.le_refl, reduceCtorEq, rdN_of h1]
  exact l_fill hN N 0 f H (by omega) h1 (fun j hj => absurd hj (by omega)) hK
theorem c_copyI {N L : Nat} {f : Nat → Int32} (h1 : H a = some (arI N f)) (hL : N < L) (hL2 : L ≤ 100000) (hc : 1 ≤ c) (hn : L ≤ n) (hK : ∀ q g, H q = none → E.1 q = none → (∀ i, i < N → g i = f i) → K (.inl (some (.ref q))) (hset H q (arI L g))) : CRd TTv E (d + 3) mJ7_copyOf_59c91 [.ref a, .int (nI L)] H c n K := by
  refine crd rfl ?_
  show Ev E (d + 2) mJ7_copyOf_59c91 K 0 [.ref a, .int (nI L), .retAddr 0] [] H c n
  have e0 : (nI L = Int32.ofNat N) = False := eq_false (fun h => absurd ((nI_eq (a := L) (b := N) (by omega) (by omega)).mp h) (by omega))
  simp only [eJ7_copyOf_59c91_0, eJ7_copyOf_59c91_1, eJ7_copyOf_59c91_2, eJ7_copyOf_59c91_3, eJ7_copyOf_59c91_6, eJ7_copyOf_59c91_13, eJ7_copyOf_59c91_14, eJ7_copyOf_59c91_15, eJ7_copyOf_59c91_17, eJ7_copyOf_59c91_18, eJ7_copyOf_59c91_19, eJ7_copyOf_59c91_20, eJ7_copyOf_59c91_21, eJ7_copyOf_59c91_22, eJ7_copyOf_59c91_23, eJ7_copyOf_59c91_24, eJ7_copyOf_59c91_25, eJ7_copyOf_59c91_28, eJ7_copyOf_59c91_31, eJ7_copyOf_59c91_32, isA_r, isA_n, isI_i, isF_f, isL_l, is1_i, is1_r, is1_n, is1_f, true_and, and_true, List.length_cons, List.length_nil, Nat.reduceAdd, Nat.reduceLeDiff, Nat.reduceSub, Option.some.injEq, exists_eq_left', aft_s, aft_n, ite_true, ite_false, if_true, if_false, Nat.zero_le, Nat.le_refl, reduceCtorEq, rdN_of h1, e0, nI_pos (show L < 2 ^ 31 by omega), nI_clamp (show L < 2 ^ 31 by omega), not_false_eq_true]
  refine ⟨by omega, hc, hn, fun q hq hq2 => ?_⟩
  have hqa : a ≠ q := by rintro rfl; rw [h1] at hq; cases hq
  have e1 : (if nI L < Int32.ofNat N then nI L else Int32.ofNat N) = nI N := if_neg (nI_nlt (b := N) (by omega) (by omega))
  simp only [eJ7_copyOf_59c91_0, eJ7_copyOf_59c91_1, eJ7_copyOf_59c91_2, eJ7_copyOf_59c91_3, eJ7_copyOf_59c91_6, eJ7_copyOf_59c91_13, eJ7_copyOf_59c91_14, eJ7_copyOf_59c91_15, eJ7_copyOf_59c91_17, eJ7_copyOf_59c91_18, eJ7_copyOf_59c91_19, eJ7_copyOf_59c91_20, eJ7_copyOf_59c91_21, eJ7_copyOf_59c91_22, eJ7_copyOf_59c91_23, eJ7_copyOf_59c91_24, eJ7_copyOf_59c91_25, eJ7_copyOf_59c91_28, eJ7_copyOf_59c91_31, eJ7_copyOf_59c91_32, isA_r, isA_n, isI_i, isF_f, isL_l, is1_i, is1_r, is1_n, is1_f, true_and, and_true, List.length_cons, List.length_nil, Nat.reduceAdd, Nat.reduceLeDiff, Nat.reduceSub, Option.some.injEq, exists_eq_left', aft_s, aft_n, ite_true, ite_false, if_true, if_false, Nat.zero_le, Nat.le_refl, reduceCtorEq, rdN_n hqa, rdN_of h1, Nat.le_add_left]
  rw [e1]
  have ec := nI_clamp (show N < 2 ^ 31 by omega)
  have e2 : (0 : Int32).toNatClampNeg = 0 := rfl
  simp only [eJ7_copyOf_59c91_0, eJ7_copyOf_59c91_1, eJ7_copyOf_59c91_2, eJ7_copyOf_59c91_3, eJ7_copyOf_59c91_6, eJ7_copyOf_59c91_13, eJ7_copyOf_59c91_14, eJ7_copyOf_59c91_15, eJ7_copyOf_59c91_17, eJ7_copyOf_59c91_18, eJ7_copyOf_59c91_19, eJ7_copyOf_59c91_20, eJ7_copyOf_59c91_21, eJ7_copyOf_59c91_22, eJ7_copyOf_59c91_23, eJ7_copyOf_59c91_24, eJ7_copyOf_59c91_25, eJ7_copyOf_59c91_28, eJ7_copyOf_59c91_31, eJ7_copyOf_59c91_32, isA_r, isA_n, isI_i, isF_f, isL_l, is1_i, is1_r, is1_n, is1_f, true_and, and_true, List.length_cons, List.length_nil, Nat.reduceAdd, Nat.reduceLeDiff, Nat.reduceSub, Option.some.injEq, exists_eq_left', aft_s, aft_n, ite_true, ite_false, if_true, if_false, Nat.zero_le, Nat.le_refl, reduceCtorEq, rwI_n hqa, rwI_of h1, rwI_e, ec, e2, Nat.le_add_left, Nat.zero_add, hs_hs]
  refine ⟨⟨by decide, by decide, nI_pos (by omega), by omega⟩, hK q _ hq hq2 (fun i hi => ?_)⟩
  rw [pk_cpy_in (Nat.zero_le _) (by omega)]
  simp
end LST3
