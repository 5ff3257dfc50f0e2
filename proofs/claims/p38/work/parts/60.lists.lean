/-! lists and arrays of the JDK, over any heap -/
abbrev arR (N : Nat) (f : Nat → Option Nat) : AC := .inl (4, N, .inr (.inr (.inr (.inr f))))
abbrev arI (N : Nat) (f : Nat → Int32) : AC := .inl (0, N, .inl f)
def lfs (m : Int32) (z k : Nat) : List Value := [.int m, .ref z, .int (nI k)]
theorem lf_s0 {m x : Int32} {z k : Nat} : (lfs m z k).set 0 (.int x) = lfs x z k := rfl
theorem lf_s1 {m : Int32} {z k y : Nat} : (lfs m z k).set 1 (.ref y) = lfs m y k := rfl
theorem lf_s2 {m : Int32} {z k x : Nat} : (lfs m z k).set 2 (.int (nI x)) = lfs m z x := rfl
theorem lf_g0 {m : Int32} {z k : Nat} : (lfs m z k)[0]? = some (.int m) := rfl
theorem lf_g1 {m : Int32} {z k : Nat} : (lfs m z k)[1]? = some (.ref z) := rfl
theorem lf_g2 {m : Int32} {z k : Nat} : (lfs m z k)[2]? = some (.int (nI k)) := rfl
theorem lf_l {m : Int32} {z k : Nat} : (lfs m z k).length = 3 := rfl
theorem hs_e {h : AH} {a : Nat} {x : AC} : hset h a x a = some x := if_pos rfl
theorem hs_n {h : AH} {a b : Nat} {x : AC} (hne : b ≠ a) : hset h a x b = h b := if_neg hne
theorem hs_hs {h : AH} {a : Nat} {x y : AC} : hset (hset h a x) a y = hset h a y := by
  funext q
  by_cases hq : q = a
  · subst hq; rw [hs_e, hs_e]
  · rw [hs_n hq, hs_n hq, hs_n hq]
theorem ob_e {h : AH} {a ci : Nat} {fs : List Value} : ob (hset h a (.inr (ci, fs))) a ci = some fs := by unfold ob; rw [hs_e]; exact if_pos rfl
theorem ob_n {h : AH} {a b ci : Nat} {x : AC} (hne : b ≠ a) : ob (hset h a x) b ci = ob h b ci := by unfold ob; rw [hs_n hne]
theorem rdA_e {h : AH} {a N : Nat} {f : Nat → Option Nat} : rdA (hset h a (arR N f)) a = some (N, f) := by unfold rdA; rw [hs_e]; rfl
theorem rdA_n {h : AH} {a b : Nat} {x : AC} (hne : b ≠ a) : rdA (hset h a x) b = rdA h b := by unfold rdA; rw [hs_n hne]
theorem rd_e {E : EN} {h : AH} {a : Nat} {x : AC} : rd E (hset h a x) a = some x := by unfold rd; rw [hs_e]
theorem rd_n {E : EN} {h : AH} {a b : Nat} {x : AC} (hne : b ≠ a) : rd E (hset h a x) b = rd E h b := by unfold rd; rw [hs_n hne]
theorem rdN_e {E : EN} {h : AH} {a k : Nat} {A : vp_A} : rdN E (hset h a (.inl (k, A))) a = some A.1 := by unfold rdN; rw [rd_e]
theorem rdN_n {E : EN} {h : AH} {a b : Nat} {x : AC} (hne : b ≠ a) : rdN E (hset h a x) b = rdN E h b := by unfold rdN; rw [rd_n hne]
theorem rdI_e {E : EN} {h : AH} {a N : Nat} {f : Nat → Int32} : rdI E (hset h a (arI N f)) a 0 = some (N, f) := by unfold rdI; rw [rd_e]; exact if_pos rfl
theorem rdI_n {E : EN} {h : AH} {a b k : Nat} {x : AC} (hne : b ≠ a) : rdI E (hset h a x) b k = rdI E h b k := by unfold rdI; rw [rd_n hne]
theorem rwI_e {h : AH} {a N : Nat} {f : Nat → Int32} : rwI (hset h a (arI N f)) a 0 = some (N, f) := by unfold rwI; rw [hs_e]; exact if_pos rfl
theorem rwI_n {h : AH} {a b k : Nat} {x : AC} (hne : b ≠ a) : rwI (hset h a x) b k = rwI h b k := by unfold rwI; rw [hs_n hne]
theorem isO_e {h : AH} {a : Nat} {y : Nat × List Value} : isO (hset h a (.inr y)) a = true := by unfold isO; rw [hs_e]
theorem isO_n {h : AH} {a b : Nat} {x : AC} (hne : b ≠ a) : isO (hset h a x) b = isO h b := by unfold isO; rw [hs_n hne]
theorem ob_of {h : AH} {a ci : Nat} {fs : List Value} (e : h a = some (.inr (ci, fs))) : ob h a ci = some fs := by unfold ob; rw [e]; exact if_pos rfl
theorem rdA_of {h : AH} {a N : Nat} {f : Nat → Option Nat} (e : h a = some (arR N f)) : rdA h a = some (N, f) := by unfold rdA; rw [e]; rfl
theorem rd_of {E : EN} {h : AH} {a : Nat} {x : AC} (e : h a = some x) : rd E h a = some x := by unfold rd; rw [e]
theorem rdN_of {E : EN} {h : AH} {a k : Nat} {A : vp_A} (e : h a = some (.inl (k, A))) : rdN E h a = some A.1 := by unfold rdN; rw [rd_of e]
theorem rdN_E {E : EN} {h : AH} {a k : Nat} {A : vp_A} (e : h a = none) (e2 : E.1 a = some (.inl (k, A))) : rdN E h a = some A.1 := by unfold rdN rd; rw [e]; dsimp only; rw [e2]
theorem rdI_of {E : EN} {h : AH} {a N : Nat} {f : Nat → Int32} (e : h a = some (arI N f)) : rdI E h a 0 = some (N, f) := by unfold rdI; rw [rd_of e]; exact if_pos rfl
theorem rwI_of {h : AH} {a N : Nat} {f : Nat → Int32} (e : h a = some (arI N f)) : rwI h a 0 = some (N, f) := by unfold rwI; rw [e]; exact if_pos rfl
theorem isO_of {h : AH} {a : Nat} {y : Nat × List Value} (e : h a = some (.inr y)) : isO h a = true := by unfold isO; rw [e]
theorem isO_up {h : AH} {a b : Nat} {y : Nat × List Value} (e : isO h b = true) : isO (hset h a (.inr y)) b = true := by
  by_cases hb : b = a
  · subst hb; exact isO_e
  · rw [isO_n hb]; exact e
theorem isO_ne {h : AH} {a b : Nat} {x : Nat × vp_A} (e : isO h b = true) (e2 : h a = some (.inl x)) : b ≠ a := by
  rintro rfl
  unfold isO at e
  rw [e2] at e
  cases e
theorem isO_no {h : AH} {a b : Nat} (e : isO h b = true) (e2 : h a = none) : b ≠ a := by
  rintro rfl
  unfold isO at e
  rw [e2] at e
  cases e
def LLs (E : EN) (H : AH) (a : Nat) (m : Int32) (z k cap : Nat) (f : Nat → Option Nat) : Prop :=
  H a = some (.inr (0, lfs m z k)) ∧ k ≤ cap ∧ cap ≤ 1000 ∧ ((cap = 0 ∧ z = E.2.1 ∧ H z = none) ∨ (0 < cap ∧ H z = some (arR cap f))) ∧ (∀ i, i < k → ∃ x, f i = some x ∧ isO H x = true)
def EA (E : EN) : Prop := E.1 E.2.1 = some (.inl (4, emA))
section LST
variable {E : EN} {d : Nat} {c n : Nat} {K : Out → AH → Prop} {H : AH} {a z k cap : Nat} {m : Int32} {f : Nat → Option Nat}
theorem LLs.ne (L : LLs E H a m z k cap f) : z ≠ a := by
  rintro rfl
  obtain ⟨h1, -, -, h2 | h2, -⟩ := L
  · rw [h2.2.2] at h1; cases h1
  · rw [h2.2] at h1; cases h1
theorem LLs.arr (L : LLs E H a m z k cap f) (h : 0 < cap) : H z = some (arR cap f) := by
  obtain ⟨h1, -, -, h2 | h2, -⟩ := L
  · omega
  · exact h2.2
theorem c_chk3 {i : Nat} (hi : i < k) (hk : k < 2 ^ 31) (hK : K (.inl (some (.int (nI i)))) H) : CRd TTv E (d + 1) mJ3_checkIndex_8e157 [.int (nI i), .int (nI k), .null] H c n K := by
  refine crd rfl ?_
  show Ev E d mJ3_checkIndex_8e157 K 0 [.int (nI i), .int (nI k), .null] [] H c n
  have h0 := nI_pos (n := i) (by omega)
  have h1 := nI_lt hi hk
  simp only [eJ3_checkIndex_8e157_0, eJ3_checkIndex_8e157_1, eJ3_checkIndex_8e157_4, eJ3_checkIndex_8e157_5, eJ3_checkIndex_8e157_6, eJ3_checkIndex_8e157_9, eJ3_checkIndex_8e157_10, eJ3_checkIndex_8e157_11, eJ3_checkIndex_8e157_16, eJ3_checkIndex_8e157_17, isA_r, isA_n, isI_i, isF_f, isL_l, is1_i, is1_r, is1_n, is1_f, true_and, and_true, List.length_cons, List.length_nil, Nat.reduceAdd, Nat.reduceLeDiff, Nat.reduceSub, Option.some.injEq, exists_eq_left', aft_s, aft_n, ite_true, ite_false, if_true, if_false, Nat.zero_le, Nat.le_refl, reduceCtorEq, h0, h1, okR]
  exact hK
theorem c_chk {i : Nat} (hi : i < k) (hk : k < 2 ^ 31) (hK : K (.inl (some (.int (nI i)))) H) : CRd TTv E (d + 2) mJ15_checkIndex_7cf53 [.int (nI i), .int (nI k)] H c n K := by
  refine crd rfl ?_
  show Ev E (d + 1) mJ15_checkIndex_7cf53 K 0 [.int (nI i), .int (nI k)] [] H c n
  simp only [eJ15_checkIndex_7cf53_0, eJ15_checkIndex_7cf53_1, eJ15_checkIndex_7cf53_2, eJ15_checkIndex_7cf53_3, eJ15_checkIndex_7cf53_6, isA_r, isA_n, isI_i, isF_f, isL_l, is1_i, is1_r, is1_n, is1_f, true_and, and_true, List.length_cons, List.length_nil, Nat.reduceAdd, Nat.reduceLeDiff, Nat.reduceSub, Option.some.injEq, exists_eq_left', aft_s, aft_n, ite_true, ite_false, if_true, if_false, Nat.zero_le, Nat.le_refl, reduceCtorEq]
  refine inv0 (c_chk3 hi hk ?_)
  simp only [eJ15_checkIndex_7cf53_0, eJ15_checkIndex_7cf53_1, eJ15_checkIndex_7cf53_2, eJ15_checkIndex_7cf53_3, eJ15_checkIndex_7cf53_6, isA_r, isA_n, isI_i, isF_f, isL_l, is1_i, is1_r, is1_n, is1_f, true_and, and_true, List.length_cons, List.length_nil, Nat.reduceAdd, Nat.reduceLeDiff, Nat.reduceSub, Option.some.injEq, exists_eq_left', aft_s, aft_n, ite_true, ite_false, if_true, if_false, Nat.zero_le, Nat.le_refl, reduceCtorEq, okR]
  exact hK
theorem L_size (L : LLs E H a m z k cap f) (hK : K (.inl (some (.int (nI k)))) H) : CRd TTv E (d + 1) mJx4a65c_size_8abf5 [.ref a] H c n K := by
  refine crd rfl ?_
  show Ev E d mJx4a65c_size_8abf5 K 0 [.ref a] [] H c n
  simp only [eJx4a65c_size_8abf5_0, eJx4a65c_size_8abf5_1, eJx4a65c_size_8abf5_4, isA_r, isA_n, isI_i, isF_f, isL_l, is1_i, is1_r, is1_n, is1_f, true_and, and_true, List.length_cons, List.length_nil, Nat.reduceAdd, Nat.reduceLeDiff, Nat.reduceSub, Option.some.injEq, exists_eq_left', aft_s, aft_n, ite_true, ite_false, if_true, if_false, Nat.zero_le, Nat.le_refl, reduceCtorEq, ob_of L.1, lf_g2, okR]
  exact hK
theorem L_elem (L : LLs E H a m z k cap f) {i : Nat} (hi : i < k) (hK : K (.inl (some (va_rf (f i)))) H) : CRd TTv E (d + 1) mJx4a65c_elementData_915e3 [.ref a, .int (nI i)] H c n K := by
  refine crd rfl ?_
  show Ev E d mJx4a65c_elementData_915e3 K 0 [.ref a, .int (nI i)] [] H c n
  have h1 := L.2.1
  have h2 := L.2.2.1
  simp only [eJx4a65c_elementData_915e3_0, eJx4a65c_elementData_915e3_1, eJx4a65c_elementData_915e3_4, eJx4a65c_elementData_915e3_5, eJx4a65c_elementData_915e3_6, isA_r, isA_n, isI_i, isF_f, isL_l, is1_i, is1_r, is1_n, is1_f, true_and, and_true, List.length_cons, List.length_nil, Nat.reduceAdd, Nat.reduceLeDiff, Nat.reduceSub, Option.some.injEq, exists_eq_left', aft_s, aft_n, ite_true, ite_false, if_true, if_false, Nat.zero_le, Nat.le_refl, reduceCtorEq, ob_of L.1, lf_g1, rdA_of (L.arr (by omega)), inB_nI (show i < cap by omega) (by omega), nI_clamp (show i < 2 ^ 31 by omega), isA_rf2]
  exact hK
theorem L_get (L : LLs E H a m z k cap f) {i : Nat} (hi : i < k) (hK : K (.inl (some (va_rf (f i)))) H) : CRd TTv E (d + 3) mJx4a65c_get_915e3 [.ref a, .int (nI i)] H c n K := by
  refine crd rfl ?_
  show Ev E (d + 2) mJx4a65c_get_915e3 K 0 [.ref a, .int (nI i)] [] H c n
  have h1 := L.2.1
  have h2 := L.2.2.1
  simp only [eJx4a65c_get_915e3_0, eJx4a65c_get_915e3_1, eJx4a65c_get_915e3_2, eJx4a65c_get_915e3_5, eJx4a65c_get_915e3_8, eJx4a65c_get_915e3_9, eJx4a65c_get_915e3_10, eJx4a65c_get_915e3_11, eJx4a65c_get_915e3_14, isA_r, isA_n, isI_i, isF_f, isL_l, is1_i, is1_r, is1_n, is1_f, true_and, and_true, List.length_cons, List.length_nil, Nat.reduceAdd, Nat.reduceLeDiff, Nat.reduceSub, Option.some.injEq, exists_eq_left', aft_s, aft_n, ite_true, ite_false, if_true, if_false, Nat.zero_le, Nat.le_refl, reduceCtorEq, ob_of L.1, lf_g2]
  refine inv0 (c_chk hi (by omega) ?_)
  simp only [eJx4a65c_get_915e3_0, eJx4a65c_get_915e3_1, eJx4a65c_get_915e3_2, eJx4a65c_get_915e3_5, eJx4a65c_get_915e3_8, eJx4a65c_get_915e3_9, eJx4a65c_get_915e3_10, eJx4a65c_get_915e3_11, eJx4a65c_get_915e3_14, isA_r, isA_n, isI_i, isF_f, isL_l, is1_i, is1_r, is1_n, is1_f, true_and, and_true, List.length_cons, List.length_nil, Nat.reduceAdd, Nat.reduceLeDiff, Nat.reduceSub, Option.some.injEq, exists_eq_left', aft_s, aft_n, ite_true, ite_false, if_true, if_false, Nat.zero_le, Nat.le_refl, reduceCtorEq, ob_of L.1]
  refine ⟨⟨_, rfl⟩, inv0 (L_elem L hi ?_)⟩
  simp only [eJx4a65c_get_915e3_0, eJx4a65c_get_915e3_1, eJx4a65c_get_915e3_2, eJx4a65c_get_915e3_5, eJx4a65c_get_915e3_8, eJx4a65c_get_915e3_9, eJx4a65c_get_915e3_10, eJx4a65c_get_915e3_11, eJx4a65c_get_915e3_14, isA_r, isA_n, isI_i, isF_f, isL_l, is1_i, is1_r, is1_n, is1_f, true_and, and_true, List.length_cons, List.length_nil, Nat.reduceAdd, Nat.reduceLeDiff, Nat.reduceSub, Option.some.injEq, exists_eq_left', aft_s, aft_n, ite_true, ite_false, if_true, if_false, Nat.zero_le, Nat.le_refl, reduceCtorEq, isA_rf2]
  exact hK
end LST
