/-! constructors: an object x of class ci with fields fs, and what it made -/
def AX (E : EN) (H : AH) (x ci k : Nat) (ad : Nat → Nat) (ct : Nat → AC) (fs : List Value) (H' : AH) : Prop := H' x = some (.inr (ci, fs)) ∧ (∀ i, i < k → ad i ≠ x) ∧ (∀ i, i < k → H' (ad i) = some (ct i)) ∧ (∀ i, i < k → H (ad i) = none ∧ E.1 (ad i) = none) ∧ (∀ i j, i < k → j < k → ad i = ad j → i = j) ∧ (∀ y, y ≠ x → (∀ i, i < k → y ≠ ad i) → H' y = H y)
section AXS
variable {E : EN} {H H' : AH} {x ci k : Nat} {ad : Nat → Nat} {ct : Nat → AC} {fs : List Value}
theorem AX.nil (h : H x = some (.inr (ci, fs))) {ad : Nat → Nat} {ct : Nat → AC} : AX E H x ci 0 ad ct fs H := ⟨h, fun i h => absurd h (by omega), fun i h => absurd h (by omega), fun i h => absurd h (by omega), fun i j h => absurd h (by omega), fun y _ _ => rfl⟩
theorem AX.new (L : AX E H x ci k ad ct fs H') {q : Nat} {c : AC} (hq : H' q = none) (hqE : E.1 q = none) : AX E H x ci (k + 1) (upN ad k q) (upN ct k c) fs (hset H' q c) := by
  obtain ⟨l0, lx, l1, l2, l3, l4⟩ := L
  have hx : x ≠ q := by rintro rfl; rw [l0] at hq; cases hq
  have hne : ∀ i, i < k → ad i ≠ q := fun i hi e => by rw [← e, l1 i hi] at hq; cases hq
  refine ⟨by rw [hs_n hx]; exact l0, fun i hi => ?_, fun i hi => ?_, fun i hi => ?_, fun i j hi hj he => ?_, fun y hyx hy => ?_⟩
  · by_cases hk : i = k
    · subst hk; rw [upN_s]; exact hx.symm
    · rw [upN_n hk]; exact lx i (by omega)
  · by_cases hk : i = k
    · subst hk; rw [upN_s, upN_s, hs_e]
    · rw [upN_n hk, upN_n hk, hs_n (hne i (by omega))]; exact l1 i (by omega)
  · by_cases hk : i = k
    · subst hk; rw [upN_s]
      refine ⟨?_, hqE⟩
      rw [← l4 q hx.symm (fun j hj => (hne j hj).symm)]; exact hq
    · rw [upN_n hk]; exact l2 i (by omega)
  · by_cases hik : i = k
    · by_cases hjk : j = k
      · omega
      · subst hik
        rw [upN_s, upN_n hjk] at he
        exact absurd he.symm (hne j (by omega))
    · by_cases hjk : j = k
      · subst hjk
        rw [upN_s, upN_n hik] at he
        exact absurd he (hne i (by omega))
      · rw [upN_n hik, upN_n hjk] at he
        exact l3 i j (by omega) (by omega) he
  · have h1 := hy k (Nat.lt_succ_self k)
    rw [upN_s] at h1
    rw [hs_n h1]
    refine l4 y hyx (fun i hi => ?_)
    have := hy i (by omega)
    rw [upN_n (by omega)] at this
    exact this
theorem AX.put (L : AX E H x ci k ad ct fs H') {H2 : AH} {i : Nat} {c : AC} (hi : i < k) (h1 : H2 (ad i) = some c) (h2 : ∀ y, y ≠ ad i → H2 y = H' y) : AX E H x ci k ad (upN ct i c) fs H2 := by
  obtain ⟨l0, lx, l1, l2, l3, l4⟩ := L
  refine ⟨by rw [h2 x (lx i hi).symm]; exact l0, lx, fun j hj => ?_, l2, l3, fun y hyx hy => ?_⟩
  · by_cases hji : j = i
    · subst hji; rw [upN_s]; exact h1
    · rw [upN_n hji, h2 _ (fun e => hji (l3 j i hj hi e))]; exact l1 j hj
  · rw [h2 y (hy i hi)]; exact l4 y hyx hy
theorem AX.setx (L : AX E H x ci k ad ct fs H') {fs' : List Value} : AX E H x ci k ad ct fs' (hset H' x (.inr (ci, fs'))) := by
  obtain ⟨l0, lx, l1, l2, l3, l4⟩ := L
  exact ⟨hs_e, lx, fun i hi => by rw [hs_n (lx i hi)]; exact l1 i hi, l2, l3, fun y hyx hy => by rw [hs_n hyx]; exact l4 y hyx hy⟩
theorem AX.fE (L : AX E H x ci k ad ct fs H') (hx : E.1 x = none) (h : ∀ q, E.1 q ≠ none → H q = none) : ∀ q, E.1 q ≠ none → H' q = none := by
  intro q hq
  rw [L.2.2.2.2.2 q (fun e => hq (by rw [e]; exact hx)) (fun i hi e => hq (by rw [e]; exact (L.2.2.2.1 i hi).2))]
  exact h q hq
theorem AX.no (L : AX E H x ci k ad ct fs H') {q : Nat} (hq : H' q = none) : H q = none := by
  by_cases hx : q = x
  · subst hx; rw [L.1] at hq; cases hq
  · rw [← L.2.2.2.2.2 q hx (fun i hi e => by rw [e, L.2.2.1 i hi] at hq; cases hq)]; exact hq
end AXS
section INI
variable {E : EN} {H : AH} {d c n : Nat} {K : Out → AH → Prop}
theorem k_nInit {q : Nat} (h : H q = some (.inr (3, dfl 3))) (hc : 2 ≤ c) (hn : 128 ≤ n) (hK : ∀ q1 q2 H', H q1 = none → E.1 q1 = none → H q2 = none → E.1 q2 = none → q1 ≠ q2 → H' q = some (.inr (3, nfs q1 q2 0)) → H' q1 = some (arI 64 (fun _ => 0)) → H' q2 = some (arI 64 (fun _ => 0)) → (∀ y, y ≠ q → y ≠ q1 → y ≠ q2 → H' y = H y) → K (.inl none) H') : CRd TTv E (d + 2) mX2_init [.ref q] H c n K := by
  refine crd rfl ?_
  show Ev E (d + 1) mX2_init K 0 [.ref q] [] H c n
  have hd : dfl 3 = [.null, .null, .int 0] := rfl
  rw [hd] at h
  have e64 : (64 : Int32).toNatClampNeg = 64 := rfl
  have e0 : ¬ (64 : Int32) < 0 := by decide
  simp only [eX2_init_0, eX2_init_1, eX2_init_4, eX2_init_5, eX2_init_7, eX2_init_9, eX2_init_12, eX2_init_13, eX2_init_15, eX2_init_17, eX2_init_20, eX2_init_21, eX2_init_22, eX2_init_25, isA_r, isA_n, isI_i, isF_f, isL_l, is1_i, is1_r, is1_n, is1_f, true_and, and_true, List.length_cons, List.length_nil, Nat.reduceAdd, Nat.reduceLeDiff, Nat.reduceSub, Option.some.injEq, exists_eq_left', aft_s, aft_n, ite_true, ite_false, if_true, if_false, Nat.zero_le, Nat.le_refl, reduceCtorEq, Nat.le_add_left, e64, e0, not_false_eq_true, Nat.reduceLeDiff]
  refine ⟨by omega, by omega, fun q1 hq1 hq1E => ?_⟩
  have n1 : q ≠ q1 := by rintro rfl; rw [h] at hq1; cases hq1
  simp only [eX2_init_0, eX2_init_1, eX2_init_4, eX2_init_5, eX2_init_7, eX2_init_9, eX2_init_12, eX2_init_13, eX2_init_15, eX2_init_17, eX2_init_20, eX2_init_21, eX2_init_22, eX2_init_25, isA_r, isA_n, isI_i, isF_f, isL_l, is1_i, is1_r, is1_n, is1_f, true_and, and_true, List.length_cons, List.length_nil, Nat.reduceAdd, Nat.reduceLeDiff, Nat.reduceSub, Option.some.injEq, exists_eq_left', aft_s, aft_n, ite_true, ite_false, if_true, if_false, Nat.zero_le, Nat.le_refl, reduceCtorEq, ob_n n1, ob_of h, List.set, Nat.reduceLT, okF, tyC, e64, e0, not_false_eq_true, Nat.reduceLeDiff]
  refine ⟨by omega, by omega, fun q2 hq2 hq2E => ?_⟩
  have n2 : q ≠ q2 := by rintro rfl; rw [hs_e] at hq2; cases hq2
  rw [hs_n n2.symm] at hq2
  have n3 : q2 ≠ q1 := by rintro rfl; rw [hs_e] at hq2; cases hq2
  rw [hs_n n3] at hq2
  simp only [eX2_init_0, eX2_init_1, eX2_init_4, eX2_init_5, eX2_init_7, eX2_init_9, eX2_init_12, eX2_init_13, eX2_init_15, eX2_init_17, eX2_init_20, eX2_init_21, eX2_init_22, eX2_init_25, isA_r, isA_n, isI_i, isF_f, isL_l, is1_i, is1_r, is1_n, is1_f, true_and, and_true, List.length_cons, List.length_nil, Nat.reduceAdd, Nat.reduceLeDiff, Nat.reduceSub, Option.some.injEq, exists_eq_left', aft_s, aft_n, ite_true, ite_false, if_true, if_false, Nat.zero_le, Nat.le_refl, reduceCtorEq, ob_n n2, ob_e, hs_hs, List.set, Nat.reduceLT, okF, tyC]
  refine hK q1 q2 _ hq1 hq1E hq2 hq2E n3.symm hs_e ?_ ?_ (fun y y1 y2 y3 => ?_)
  · rw [hs_n n1.symm, hs_n n3.symm, hs_n n1.symm, hs_e]
  · rw [hs_n n2.symm, hs_e]
  · rw [hs_n y1, hs_n y3, hs_n y1, hs_n y2]
/-- the state of a new shell -/
def sgZ : Sg := (0, 0, 0, fun _ => false, fun _ => false, fun _ => none, fun _ => none, fun _ => [], [], fun _ => 0, fun _ => 0, fun _ => 0, fun _ => 0, fun _ => false, [], [])
theorem p_init {x : Nat} {P : Nat → Prop} (hE : EA E) (hxE : E.1 x = none) (h : H x = some (.inr (5, dfl 5))) (hfr : ∀ q, E.1 q ≠ none → H q = none) (hc : 20 ≤ c) (hn : 400 ≤ n) (hK : ∀ H' A wr, A 0 0 = x → CV E (fun _ => False) H A sgZ (hdF sgZ) wr H' → (∀ y, y ≠ x → H y ≠ none → H' y = H y) → K (.inl none) H') : CRd TTv E (d + 6) mX4_init [.ref x] H c n K := by
  refine crd rfl ?_
  show Ev E (d + 5) mX4_init K 0 [.ref x] [] H c n
  have hd : dfl 5 = [.null, .null, .null, .null, .null, .null, .long 0] := rfl
  rw [hd] at h
  have L0 : AX E H x 5 0 (fun _ => 0) (fun _ => arI 0 (fun _ => 0)) _ H := AX.nil h
  simp only [eX4_init_0, eX4_init_1, eX4_init_4, eX4_init_5, isA_r, isA_n, isI_i, isF_f, isL_l, is1_i, is1_r, is1_n, is1_f, true_and, and_true, List.length_cons, List.length_nil, Nat.reduceAdd, Nat.reduceLeDiff, Nat.reduceSub, Option.some.injEq, exists_eq_left', aft_s, aft_n, ite_true, ite_false, if_true, if_false, Nat.zero_le, Nat.le_refl, reduceCtorEq, Nat.le_add_left]
  refine ⟨by omega, by omega, fun q0 hq0 hq0E => ?_⟩
  have M0 := L0.new (c := .inr (0, [.int 0, .null, .int 0])) hq0 hq0E
  simp only [eX4_init_8, eX4_init_9, isA_r, isA_n, isI_i, isF_f, isL_l, is1_i, is1_r, is1_n, is1_f, true_and, and_true, List.length_cons, List.length_nil, Nat.reduceAdd, Nat.reduceLeDiff, Nat.reduceSub, Option.some.injEq, exists_eq_left', aft_s, aft_n, ite_true, ite_false, if_true, if_false, Nat.zero_le, Nat.le_refl, reduceCtorEq]
  refine inv0 (L_init hs_e (M0.fE hxE hfr _ (by rw [hE]; simp)) (fun I0 l0 m0 => ?_))
  have N0 := M0.put (i := 0) (H2 := I0) (by omega) (by rw [upN_s]; exact l0.1) (fun y hy => m0 y (by rw [upN_s] at hy; exact hy))
  rw [upN_upN] at N0
  have hx0 := ob_of N0.1
  simp only [eX4_init_12, isA_r, isA_n, isI_i, isF_f, isL_l, is1_i, is1_r, is1_n, is1_f, true_and, and_true, List.length_cons, List.length_nil, Nat.reduceAdd, Nat.reduceLeDiff, Nat.reduceSub, Option.some.injEq, exists_eq_left', aft_s, aft_n, ite_true, ite_false, if_true, if_false, Nat.zero_le, Nat.le_refl, reduceCtorEq, hx0, List.set, Nat.reduceLT, okF, tyC]
  have O0 := N0.setx (fs' := [.ref q0, .null, .null, .null, .null, .null, .long 0])
  generalize hset I0 x _ = J0 at O0 ⊢
  simp only [eX4_init_15, eX4_init_16, isA_r, isA_n, isI_i, isF_f, isL_l, is1_i, is1_r, is1_n, is1_f, true_and, and_true, List.length_cons, List.length_nil, Nat.reduceAdd, Nat.reduceLeDiff, Nat.reduceSub, Option.some.injEq, exists_eq_left', aft_s, aft_n, ite_true, ite_false, if_true, if_false, Nat.zero_le, Nat.le_refl, reduceCtorEq, Nat.le_add_left]
  refine ⟨by omega, by omega, fun q1 hq1 hq1E => ?_⟩
  have M1 := O0.new (c := .inr (0, [.int 0, .null, .int 0])) hq1 hq1E
  simp only [eX4_init_19, eX4_init_20, isA_r, isA_n, isI_i, isF_f, isL_l, is1_i, is1_r, is1_n, is1_f, true_and, and_true, List.length_cons, List.length_nil, Nat.reduceAdd, Nat.reduceLeDiff, Nat.reduceSub, Option.some.injEq, exists_eq_left', aft_s, aft_n, ite_true, ite_false, if_true, if_false, Nat.zero_le, Nat.le_refl, reduceCtorEq]
  refine inv0 (L_init hs_e (M1.fE hxE hfr _ (by rw [hE]; simp)) (fun I1 l1 m1 => ?_))
  have N1 := M1.put (i := 1) (H2 := I1) (by omega) (by rw [upN_s]; exact l1.1) (fun y hy => m1 y (by rw [upN_s] at hy; exact hy))
  rw [upN_upN] at N1
  have hx1 := ob_of N1.1
  simp only [eX4_init_23, isA_r, isA_n, isI_i, isF_f, isL_l, is1_i, is1_r, is1_n, is1_f, true_and, and_true, List.length_cons, List.length_nil, Nat.reduceAdd, Nat.reduceLeDiff, Nat.reduceSub, Option.some.injEq, exists_eq_left', aft_s, aft_n, ite_true, ite_false, if_true, if_false, Nat.zero_le, Nat.le_refl, reduceCtorEq, hx1, List.set, Nat.reduceLT, okF, tyC]
  have O1 := N1.setx (fs' := [.ref q0, .ref q1, .null, .null, .null, .null, .long 0])
  generalize hset I1 x _ = J1 at O1 ⊢
  simp only [eX4_init_26, eX4_init_27, isA_r, isA_n, isI_i, isF_f, isL_l, is1_i, is1_r, is1_n, is1_f, true_and, and_true, List.length_cons, List.length_nil, Nat.reduceAdd, Nat.reduceLeDiff, Nat.reduceSub, Option.some.injEq, exists_eq_left', aft_s, aft_n, ite_true, ite_false, if_true, if_false, Nat.zero_le, Nat.le_refl, reduceCtorEq, Nat.le_add_left]
  refine ⟨by omega, by omega, fun q2 hq2 hq2E => ?_⟩
  have M2 := O1.new (c := .inr (0, [.int 0, .null, .int 0])) hq2 hq2E
  simp only [eX4_init_30, eX4_init_31, isA_r, isA_n, isI_i, isF_f, isL_l, is1_i, is1_r, is1_n, is1_f, true_and, and_true, List.length_cons, List.length_nil, Nat.reduceAdd, Nat.reduceLeDiff, Nat.reduceSub, Option.some.injEq, exists_eq_left', aft_s, aft_n, ite_true, ite_false, if_true, if_false, Nat.zero_le, Nat.le_refl, reduceCtorEq]
  refine inv0 (L_init hs_e (M2.fE hxE hfr _ (by rw [hE]; simp)) (fun I2 l2 m2 => ?_))
  have N2 := M2.put (i := 2) (H2 := I2) (by omega) (by rw [upN_s]; exact l2.1) (fun y hy => m2 y (by rw [upN_s] at hy; exact hy))
  rw [upN_upN] at N2
  have hx2 := ob_of N2.1
  simp only [eX4_init_34, isA_r, isA_n, isI_i, isF_f, isL_l, is1_i, is1_r, is1_n, is1_f, true_and, and_true, List.length_cons, List.length_nil, Nat.reduceAdd, Nat.reduceLeDiff, Nat.reduceSub, Option.some.injEq, exists_eq_left', aft_s, aft_n, ite_true, ite_false, if_true, if_false, Nat.zero_le, Nat.le_refl, reduceCtorEq, hx2, List.set, Nat.reduceLT, okF, tyC]
  have O2 := N2.setx (fs' := [.ref q0, .ref q1, .ref q2, .null, .null, .null, .long 0])
  generalize hset I2 x _ = J2 at O2 ⊢
  have e6 : (6 : Int32).toNatClampNeg = 6 := rfl
  have e60 : ¬ (6 : Int32) < 0 := by decide
  simp only [eX4_init_37, eX4_init_38, eX4_init_40, isA_r, isA_n, isI_i, isF_f, isL_l, is1_i, is1_r, is1_n, is1_f, true_and, and_true, List.length_cons, List.length_nil, Nat.reduceAdd, Nat.reduceLeDiff, Nat.reduceSub, Option.some.injEq, exists_eq_left', aft_s, aft_n, ite_true, ite_false, if_true, if_false, Nat.zero_le, Nat.le_refl, reduceCtorEq, e6, e60, not_false_eq_true, Nat.reduceLeDiff]
  refine ⟨by omega, by omega, fun q3 hq3 hq3E => ?_⟩
  have M3 := O2.new (c := arI 6 (fun _ => 0)) hq3 hq3E
  have hx3 := ob_of M3.1
  simp only [eX4_init_42, isA_r, isA_n, isI_i, isF_f, isL_l, is1_i, is1_r, is1_n, is1_f, true_and, and_true, List.length_cons, List.length_nil, Nat.reduceAdd, Nat.reduceLeDiff, Nat.reduceSub, Option.some.injEq, exists_eq_left', aft_s, aft_n, ite_true, ite_false, if_true, if_false, Nat.zero_le, Nat.le_refl, reduceCtorEq, hx3, List.set, Nat.reduceLT, okF, tyC]
  have O3 := M3.setx (fs' := [.ref q0, .ref q1, .ref q2, .ref q3, .null, .null, .long 0])
  generalize hset (hset J2 q3 _) x _ = J3 at O3 ⊢
  have hx3' := ob_of O3.1
  have g3 : J3 q3 = some (arI 6 (fun _ => 0)) := by have := O3.2.2.1 3 (by omega); rw [upN_s, upN_s] at this; exact this
  simp only [eX4_init_45, eX4_init_46, eX4_init_49, eX4_init_50, isA_r, isA_n, isI_i, isF_f, isL_l, is1_i, is1_r, is1_n, is1_f, true_and, and_true, List.length_cons, List.length_nil, Nat.reduceAdd, Nat.reduceLeDiff, Nat.reduceSub, Option.some.injEq, exists_eq_left', aft_s, aft_n, ite_true, ite_false, if_true, if_false, Nat.zero_le, Nat.le_refl, reduceCtorEq, hx3', List.getElem?_cons_succ, List.getElem?_cons_zero]
  refine inv0 (c_fill (by omega) g3 (fun I4 g4 k1 k2 k3 => ?_))
  have N4 := O3.put (i := 3) (H2 := I4) (c := arI 6 g4) (by omega) (by rw [upN_s]; exact k1) (fun y hy => k3 y (by rw [upN_s] at hy; exact hy))
  rw [upN_upN] at N4
  have hnC1 : nC 1 = 2 := rfl
  simp only [eX4_init_53, eX4_init_54, isA_r, isA_n, isI_i, isF_f, isL_l, is1_i, is1_r, is1_n, is1_f, true_and, and_true, List.length_cons, List.length_nil, Nat.reduceAdd, Nat.reduceLeDiff, Nat.reduceSub, Option.some.injEq, exists_eq_left', aft_s, aft_n, ite_true, ite_false, if_true, if_false, Nat.zero_le, Nat.le_refl, reduceCtorEq, hnC1]
  refine ⟨by omega, by omega, fun q4 hq4 hq4E => ?_⟩
  have M4 := N4.new (c := .inr (1, [.null, .int 0])) hq4 hq4E
  have e12 : (.int (12 : Int32) : Value) = .int (nI 12) := rfl
  simp only [eX4_init_57, eX4_init_58, isA_r, isA_n, isI_i, isF_f, isL_l, is1_i, is1_r, is1_n, is1_f, true_and, and_true, List.length_cons, List.length_nil, Nat.reduceAdd, Nat.reduceLeDiff, Nat.reduceSub, Option.some.injEq, exists_eq_left', aft_s, aft_n, ite_true, ite_false, if_true, if_false, Nat.zero_le, Nat.le_refl, reduceCtorEq]
  rw [e12]
  simp only [eX4_init_60, isA_r, isA_n, isI_i, isF_f, isL_l, is1_i, is1_r, is1_n, is1_f, true_and, and_true, List.length_cons, List.length_nil, Nat.reduceAdd, Nat.reduceLeDiff, Nat.reduceSub, Option.some.injEq, exists_eq_left', aft_s, aft_n, ite_true, ite_false, if_true, if_false, Nat.zero_le, Nat.le_refl, reduceCtorEq]
  refine invk 1 12 (by omega) (by omega) (k_hInit (by omega) hs_e (Nat.le_refl _) (Nat.le_refl _) (fun q5 hq5 hq5E => ?_))
  have M5 := M4.new (c := arI 12 (fun _ => 0)) hq5 hq5E
  have n45 : q4 ≠ q5 := by rintro rfl; rw [hs_e] at hq5; cases hq5
  have N5 := M5.put (i := 4) (H2 := hset (hset (hset I4 q4 (.inr (1, [.null, .int 0]))) q5 (arI 12 (fun _ => 0))) q4 (.inr (1, hfs q5 0))) (c := .inr (1, hfs q5 0)) (by omega) (by rw [upN_n (show 4 ≠ 5 by omega), upN_s, hs_e]) (fun y hy => by rw [upN_n (show 4 ≠ 5 by omega), upN_s] at hy; rw [hs_n hy])
  have hx5 := ob_of N5.1
  simp only [eX4_init_63, isA_r, isA_n, isI_i, isF_f, isL_l, is1_i, is1_r, is1_n, is1_f, true_and, and_true, List.length_cons, List.length_nil, Nat.reduceAdd, Nat.reduceLeDiff, Nat.reduceSub, Option.some.injEq, exists_eq_left', aft_s, aft_n, ite_true, ite_false, if_true, if_false, Nat.zero_le, Nat.le_refl, reduceCtorEq, hx5, List.set, Nat.reduceLT, okF, tyC]
  have O5 := N5.setx (fs' := [.ref q0, .ref q1, .ref q2, .ref q3, .ref q4, .null, .long 0])
  generalize hset (hset (hset (hset I4 q4 _) q5 _) q4 _) x _ = J5 at O5 ⊢
  have hnC3 : nC 3 = 3 := rfl
  simp only [eX4_init_66, eX4_init_67, isA_r, isA_n, isI_i, isF_f, isL_l, is1_i, is1_r, is1_n, is1_f, true_and, and_true, List.length_cons, List.length_nil, Nat.reduceAdd, Nat.reduceLeDiff, Nat.reduceSub, Option.some.injEq, exists_eq_left', aft_s, aft_n, ite_true, ite_false, if_true, if_false, Nat.zero_le, Nat.le_refl, reduceCtorEq, hnC3]
  refine ⟨by omega, by omega, fun q6 hq6 hq6E => ?_⟩
  have M6 := O5.new (c := .inr (3, [.null, .null, .int 0])) hq6 hq6E
  simp only [eX4_init_70, eX4_init_71, isA_r, isA_n, isI_i, isF_f, isL_l, is1_i, is1_r, is1_n, is1_f, true_and, and_true, List.length_cons, List.length_nil, Nat.reduceAdd, Nat.reduceLeDiff, Nat.reduceSub, Option.some.injEq, exists_eq_left', aft_s, aft_n, ite_true, ite_false, if_true, if_false, Nat.zero_le, Nat.le_refl, reduceCtorEq]
  refine invk 2 128 (by omega) (by omega) (k_nInit hs_e (Nat.le_refl _) (Nat.le_refl _) (fun q7 q8 I8 hq7 hq7E hq8 hq8E n78 k4 k5 k6 k7 => ?_))
  have n76 : q7 ≠ q6 := by rintro rfl; rw [hs_e] at hq7; cases hq7
  have n86 : q8 ≠ q6 := by rintro rfl; rw [hs_e] at hq8; cases hq8
  have M7 := M6.new (c := arI 64 (fun _ => 0)) hq7 hq7E
  have M8 := M7.new (c := arI 64 (fun _ => 0)) (q := q8) (by rw [hs_n n78.symm]; exact hq8) hq8E
  have N8 := M8.put (i := 6) (H2 := I8) (c := .inr (3, nfs q7 q8 0)) (by omega) (by rw [upN_n (show 6 ≠ 8 by omega), upN_n (show 6 ≠ 7 by omega), upN_s]; exact k4) (fun y hy => by
    rw [upN_n (show 6 ≠ 8 by omega), upN_n (show 6 ≠ 7 by omega), upN_s] at hy
    by_cases y8 : y = q8
    · subst y8; rw [k6, hs_e]
    · rw [hs_n y8]
      by_cases y7 : y = q7
      · subst y7; rw [k5, hs_e]
      · rw [hs_n y7]; exact k7 y hy y7 y8)
  have hx8 := ob_of N8.1
  simp only [eX4_init_74, isA_r, isA_n, isI_i, isF_f, isL_l, is1_i, is1_r, is1_n, is1_f, true_and, and_true, List.length_cons, List.length_nil, Nat.reduceAdd, Nat.reduceLeDiff, Nat.reduceSub, Option.some.injEq, exists_eq_left', aft_s, aft_n, ite_true, ite_false, if_true, if_false, Nat.zero_le, Nat.le_refl, reduceCtorEq, hx8, List.set, Nat.reduceLT, okF, tyC]
  have O8 := N8.setx (fs' := [.ref q0, .ref q1, .ref q2, .ref q3, .ref q4, .ref q6, .long 0])
  generalize hset I8 x _ = J8 at O8 ⊢
  have hx9 := ob_of O8.1
  simp only [eX4_init_77, eX4_init_78, eX4_init_79, eX4_init_82, isA_r, isA_n, isI_i, isF_f, isL_l, is1_i, is1_r, is1_n, is1_f, true_and, and_true, List.length_cons, List.length_nil, Nat.reduceAdd, Nat.reduceLeDiff, Nat.reduceSub, Option.some.injEq, exists_eq_left', aft_s, aft_n, ite_true, ite_false, if_true, if_false, Nat.zero_le, Nat.le_refl, reduceCtorEq, hx9, List.set, Nat.reduceLT, okF, tyC, hs_hs]
  have O9 := O8.setx (fs' := [.ref q0, .ref q1, .ref q2, .ref q3, .ref q4, .ref q6, .long 0])
  have hl : (.long (Int64.ofNat 0) : Value) = .long 0 := rfl
  try rw [hl]
  generalize hset J8 x _ = J9 at O9 ⊢
  obtain ⟨z0, z1, z2, z3, z4, z5⟩ := O9
  have a0 := z2 0 (by omega)
  have a1 := z2 1 (by omega)
  have a2 := z2 2 (by omega)
  have a3 := z2 3 (by omega)
  have a4 := z2 4 (by omega)
  have a5 := z2 5 (by omega)
  have a6 := z2 6 (by omega)
  have a7 := z2 7 (by omega)
  have a8 := z2 8 (by omega)
  simp only [upN, Nat.reduceEqDiff, reduceIte] at a0 a1 a2 a3 a4 a5 a6 a7 a8
  obtain ⟨AD0, eAD⟩ : ∃ f : AD, f = fun k _ => match k with
    | 0 => x
    | 1 => q0
    | 2 => q1
    | 3 => q2
    | 4 => q3
    | 5 => q4
    | 6 => q5
    | _ => q6 := ⟨_, rfl⟩
  obtain ⟨Z0, eZ⟩ : ∃ f : Nat → Nat, f = fun k => if k = 11 then q7 else if k = 12 then q8 else E.2.1 := ⟨_, rfl⟩
  obtain ⟨X0, eX⟩ : ∃ f : XX, f = ((fun k => if k = 11 ∨ k = 12 then 64 else 0), (fun _ => 0), (fun k => if k = 4 then g4 else fun _ => 0), fun _ _ => none) := ⟨_, rfl⟩
  -- the key's place among what was made
  have pl : ∀ k i, lv (x_cap X0) (s_nS sgZ) (s_nJ sgZ) k i → i = 0 ∧ ((k = 0 ∧ adr AD0 Z0 k i = x) ∨ (k = 1 ∧ adr AD0 Z0 k i = q0) ∨ (k = 2 ∧ adr AD0 Z0 k i = q1) ∨ (k = 3 ∧ adr AD0 Z0 k i = q2) ∨ (k = 4 ∧ adr AD0 Z0 k i = q3) ∨ (k = 5 ∧ adr AD0 Z0 k i = q4) ∨ (k = 6 ∧ adr AD0 Z0 k i = q5) ∨ (k = 7 ∧ adr AD0 Z0 k i = q6) ∨ (k = 11 ∧ adr AD0 Z0 k i = q7) ∨ (k = 12 ∧ adr AD0 Z0 k i = q8)) := by
    intro k i hl
    rcases lv_cs hl with ⟨g1, g2, g3⟩ | ⟨g1, g2, g3⟩ | ⟨g1, g3⟩
    · have hk : k = 0 ∨ k = 1 ∨ k = 2 ∨ k = 3 ∨ k = 4 ∨ k = 5 ∨ k = 6 ∨ k = 7 ∨ k = 8 ∨ k = 9 ∨ k = 10 ∨ k = 11 ∨ k = 12 := by omega
      refine ⟨g2, ?_⟩
      subst g2 eAD eZ eX
      rcases hk with rfl | rfl | rfl | rfl | rfl | rfl | rfl | rfl | rfl | rfl | rfl | rfl | rfl
      · exact Or.inl ⟨rfl, rfl⟩
      · exact Or.inr (Or.inl ⟨rfl, rfl⟩)
      · exact Or.inr (Or.inr (Or.inl ⟨rfl, rfl⟩))
      · exact Or.inr (Or.inr (Or.inr (Or.inl ⟨rfl, rfl⟩)))
      · exact Or.inr (Or.inr (Or.inr (Or.inr (Or.inl ⟨rfl, rfl⟩))))
      · exact Or.inr (Or.inr (Or.inr (Or.inr (Or.inr (Or.inl ⟨rfl, rfl⟩)))))
      · exact Or.inr (Or.inr (Or.inr (Or.inr (Or.inr (Or.inr (Or.inl ⟨rfl, rfl⟩))))))
      · exact Or.inr (Or.inr (Or.inr (Or.inr (Or.inr (Or.inr (Or.inr (Or.inl ⟨rfl, rfl⟩)))))))
      · exact absurd rfl (g3 (by omega) (by omega))
      · exact absurd rfl (g3 (by omega) (by omega))
      · exact absurd rfl (g3 (by omega) (by omega))
      · exact Or.inr (Or.inr (Or.inr (Or.inr (Or.inr (Or.inr (Or.inr (Or.inr (Or.inl ⟨rfl, rfl⟩))))))))
      · exact Or.inr (Or.inr (Or.inr (Or.inr (Or.inr (Or.inr (Or.inr (Or.inr (Or.inr ⟨rfl, rfl⟩))))))))
    · exact absurd g3 (Nat.not_lt_zero _)
    · exact absurd g3 (Nat.not_lt_zero _)
  have ix : ∀ {q q' : Nat} (i j : Nat), i < 9 → j < 9 → upN (upN (upN (upN (upN (upN (upN (upN (upN (fun _ => 0) 0 q0) 1 q1) 2 q2) 3 q3) 4 q4) 5 q5) 6 q6) 7 q7) 8 q8 i = q → upN (upN (upN (upN (upN (upN (upN (upN (upN (fun _ => 0) 0 q0) 1 q1) 2 q2) 3 q3) 4 q4) 5 q5) 6 q6) 7 q7) 8 q8 j = q' → q = q' → i = j := fun i j hi hj e1 e2 e => z4 i j hi hj (by rw [e1, e2, e])
  have nx : ∀ {q : Nat} (i : Nat), i < 9 → upN (upN (upN (upN (upN (upN (upN (upN (upN (fun _ => 0) 0 q0) 1 q1) 2 q2) 3 q3) 4 q4) 5 q5) 6 q6) 7 q7) 8 q8 i = q → q ≠ x := fun i hi e => by rw [← e]; exact z1 i hi
  have r0 : upN (upN (upN (upN (upN (upN (upN (upN (upN (fun _ => 0) 0 q0) 1 q1) 2 q2) 3 q3) 4 q4) 5 q5) 6 q6) 7 q7) 8 q8 0 = q0 := rfl
  have r1 : upN (upN (upN (upN (upN (upN (upN (upN (upN (fun _ => 0) 0 q0) 1 q1) 2 q2) 3 q3) 4 q4) 5 q5) 6 q6) 7 q7) 8 q8 1 = q1 := rfl
  have r2 : upN (upN (upN (upN (upN (upN (upN (upN (upN (fun _ => 0) 0 q0) 1 q1) 2 q2) 3 q3) 4 q4) 5 q5) 6 q6) 7 q7) 8 q8 2 = q2 := rfl
  have r3 : upN (upN (upN (upN (upN (upN (upN (upN (upN (fun _ => 0) 0 q0) 1 q1) 2 q2) 3 q3) 4 q4) 5 q5) 6 q6) 7 q7) 8 q8 3 = q3 := rfl
  have r4 : upN (upN (upN (upN (upN (upN (upN (upN (upN (fun _ => 0) 0 q0) 1 q1) 2 q2) 3 q3) 4 q4) 5 q5) 6 q6) 7 q7) 8 q8 4 = q4 := rfl
  have r5 : upN (upN (upN (upN (upN (upN (upN (upN (upN (fun _ => 0) 0 q0) 1 q1) 2 q2) 3 q3) 4 q4) 5 q5) 6 q6) 7 q7) 8 q8 5 = q5 := rfl
  have r6 : upN (upN (upN (upN (upN (upN (upN (upN (upN (fun _ => 0) 0 q0) 1 q1) 2 q2) 3 q3) 4 q4) 5 q5) 6 q6) 7 q7) 8 q8 6 = q6 := rfl
  have r7 : upN (upN (upN (upN (upN (upN (upN (upN (upN (fun _ => 0) 0 q0) 1 q1) 2 q2) 3 q3) 4 q4) 5 q5) 6 q6) 7 q7) 8 q8 7 = q7 := rfl
  have r8 : upN (upN (upN (upN (upN (upN (upN (upN (upN (fun _ => 0) 0 q0) 1 q1) 2 q2) 3 q3) 4 q4) 5 q5) 6 q6) 7 q7) 8 q8 8 = q8 := rfl
  have hd0 : ∀ l, hdF sgZ l = none := fun l => rfl
  have CXX : CX E (fun _ => False) H AD0 Z0 X0 sgZ (hdF sgZ) (fun _ => false) J9 := by
    refine ⟨fun k i hl => ?_, fun k i k' i' h1 h2 he => ?_, fun _ _ _ h => h, ?_, ?_, fun q hq => hq.elim, fun q hq => ?_, hE⟩
    · obtain ⟨rfl, hp⟩ := pl k i hl
      rcases hp with ⟨rfl, e⟩ | ⟨rfl, e⟩ | ⟨rfl, e⟩ | ⟨rfl, e⟩ | ⟨rfl, e⟩ | ⟨rfl, e⟩ | ⟨rfl, e⟩ | ⟨rfl, e⟩ | ⟨rfl, e⟩ | ⟨rfl, e⟩
      · rw [e, z0]; subst eAD eZ eX; rfl
      · rw [e, a0]; subst eAD eZ eX; rfl
      · rw [e, a1]; subst eAD eZ eX; rfl
      · rw [e, a2]; subst eAD eZ eX; rfl
      · rw [e, a3]; subst eAD eZ eX; rfl
      · rw [e, a4]; subst eAD eZ eX; rfl
      · rw [e, a5]; subst eAD eZ eX; rfl
      · rw [e, a6]; subst eAD eZ eX; rfl
      · rw [e, a7]; subst eAD eZ eX; rfl
      · rw [e, a8]; subst eAD eZ eX; rfl
    · obtain ⟨rfl, hp⟩ := pl k i h1
      obtain ⟨rfl, hp'⟩ := pl k' i' h2
      refine ⟨?_, rfl⟩
      rcases hp with ⟨rfl, e⟩ | ⟨rfl, e⟩ | ⟨rfl, e⟩ | ⟨rfl, e⟩ | ⟨rfl, e⟩ | ⟨rfl, e⟩ | ⟨rfl, e⟩ | ⟨rfl, e⟩ | ⟨rfl, e⟩ | ⟨rfl, e⟩ <;> rcases hp' with ⟨rfl, e'⟩ | ⟨rfl, e'⟩ | ⟨rfl, e'⟩ | ⟨rfl, e'⟩ | ⟨rfl, e'⟩ | ⟨rfl, e'⟩ | ⟨rfl, e'⟩ | ⟨rfl, e'⟩ | ⟨rfl, e'⟩ | ⟨rfl, e'⟩ <;> have e9 := e.symm.trans (he.trans e')
      all_goals first | rfl | skip
      · exact absurd e9.symm (nx 0 (by omega) r0)
      · exact absurd e9.symm (nx 1 (by omega) r1)
      · exact absurd e9.symm (nx 2 (by omega) r2)
      · exact absurd e9.symm (nx 3 (by omega) r3)
      · exact absurd e9.symm (nx 4 (by omega) r4)
      · exact absurd e9.symm (nx 5 (by omega) r5)
      · exact absurd e9.symm (nx 6 (by omega) r6)
      · exact absurd e9.symm (nx 7 (by omega) r7)
      · exact absurd e9.symm (nx 8 (by omega) r8)
      · exact absurd e9 (nx 0 (by omega) r0)
      · exact absurd (ix 0 1 (by omega) (by omega) r0 r1 e9) (by omega)
      · exact absurd (ix 0 2 (by omega) (by omega) r0 r2 e9) (by omega)
      · exact absurd (ix 0 3 (by omega) (by omega) r0 r3 e9) (by omega)
      · exact absurd (ix 0 4 (by omega) (by omega) r0 r4 e9) (by omega)
      · exact absurd (ix 0 5 (by omega) (by omega) r0 r5 e9) (by omega)
      · exact absurd (ix 0 6 (by omega) (by omega) r0 r6 e9) (by omega)
      · exact absurd (ix 0 7 (by omega) (by omega) r0 r7 e9) (by omega)
      · exact absurd (ix 0 8 (by omega) (by omega) r0 r8 e9) (by omega)
      · exact absurd e9 (nx 1 (by omega) r1)
      · exact absurd (ix 1 0 (by omega) (by omega) r1 r0 e9) (by omega)
      · exact absurd (ix 1 2 (by omega) (by omega) r1 r2 e9) (by omega)
      · exact absurd (ix 1 3 (by omega) (by omega) r1 r3 e9) (by omega)
      · exact absurd (ix 1 4 (by omega) (by omega) r1 r4 e9) (by omega)
      · exact absurd (ix 1 5 (by omega) (by omega) r1 r5 e9) (by omega)
      · exact absurd (ix 1 6 (by omega) (by omega) r1 r6 e9) (by omega)
      · exact absurd (ix 1 7 (by omega) (by omega) r1 r7 e9) (by omega)
      · exact absurd (ix 1 8 (by omega) (by omega) r1 r8 e9) (by omega)
      · exact absurd e9 (nx 2 (by omega) r2)
      · exact absurd (ix 2 0 (by omega) (by omega) r2 r0 e9) (by omega)
      · exact absurd (ix 2 1 (by omega) (by omega) r2 r1 e9) (by omega)
      · exact absurd (ix 2 3 (by omega) (by omega) r2 r3 e9) (by omega)
      · exact absurd (ix 2 4 (by omega) (by omega) r2 r4 e9) (by omega)
      · exact absurd (ix 2 5 (by omega) (by omega) r2 r5 e9) (by omega)
      · exact absurd (ix 2 6 (by omega) (by omega) r2 r6 e9) (by omega)
      · exact absurd (ix 2 7 (by omega) (by omega) r2 r7 e9) (by omega)
      · exact absurd (ix 2 8 (by omega) (by omega) r2 r8 e9) (by omega)
      · exact absurd e9 (nx 3 (by omega) r3)
      · exact absurd (ix 3 0 (by omega) (by omega) r3 r0 e9) (by omega)
      · exact absurd (ix 3 1 (by omega) (by omega) r3 r1 e9) (by omega)
      · exact absurd (ix 3 2 (by omega) (by omega) r3 r2 e9) (by omega)
      · exact absurd (ix 3 4 (by omega) (by omega) r3 r4 e9) (by omega)
      · exact absurd (ix 3 5 (by omega) (by omega) r3 r5 e9) (by omega)
      · exact absurd (ix 3 6 (by omega) (by omega) r3 r6 e9) (by omega)
      · exact absurd (ix 3 7 (by omega) (by omega) r3 r7 e9) (by omega)
      · exact absurd (ix 3 8 (by omega) (by omega) r3 r8 e9) (by omega)
      · exact absurd e9 (nx 4 (by omega) r4)
      · exact absurd (ix 4 0 (by omega) (by omega) r4 r0 e9) (by omega)
      · exact absurd (ix 4 1 (by omega) (by omega) r4 r1 e9) (by omega)
      · exact absurd (ix 4 2 (by omega) (by omega) r4 r2 e9) (by omega)
      · exact absurd (ix 4 3 (by omega) (by omega) r4 r3 e9) (by omega)
      · exact absurd (ix 4 5 (by omega) (by omega) r4 r5 e9) (by omega)
      · exact absurd (ix 4 6 (by omega) (by omega) r4 r6 e9) (by omega)
      · exact absurd (ix 4 7 (by omega) (by omega) r4 r7 e9) (by omega)
      · exact absurd (ix 4 8 (by omega) (by omega) r4 r8 e9) (by omega)
      · exact absurd e9 (nx 5 (by omega) r5)
      · exact absurd (ix 5 0 (by omega) (by omega) r5 r0 e9) (by omega)
      · exact absurd (ix 5 1 (by omega) (by omega) r5 r1 e9) (by omega)
      · exact absurd (ix 5 2 (by omega) (by omega) r5 r2 e9) (by omega)
      · exact absurd (ix 5 3 (by omega) (by omega) r5 r3 e9) (by omega)
      · exact absurd (ix 5 4 (by omega) (by omega) r5 r4 e9) (by omega)
      · exact absurd (ix 5 6 (by omega) (by omega) r5 r6 e9) (by omega)
      · exact absurd (ix 5 7 (by omega) (by omega) r5 r7 e9) (by omega)
      · exact absurd (ix 5 8 (by omega) (by omega) r5 r8 e9) (by omega)
      · exact absurd e9 (nx 6 (by omega) r6)
      · exact absurd (ix 6 0 (by omega) (by omega) r6 r0 e9) (by omega)
      · exact absurd (ix 6 1 (by omega) (by omega) r6 r1 e9) (by omega)
      · exact absurd (ix 6 2 (by omega) (by omega) r6 r2 e9) (by omega)
      · exact absurd (ix 6 3 (by omega) (by omega) r6 r3 e9) (by omega)
      · exact absurd (ix 6 4 (by omega) (by omega) r6 r4 e9) (by omega)
      · exact absurd (ix 6 5 (by omega) (by omega) r6 r5 e9) (by omega)
      · exact absurd (ix 6 7 (by omega) (by omega) r6 r7 e9) (by omega)
      · exact absurd (ix 6 8 (by omega) (by omega) r6 r8 e9) (by omega)
      · exact absurd e9 (nx 7 (by omega) r7)
      · exact absurd (ix 7 0 (by omega) (by omega) r7 r0 e9) (by omega)
      · exact absurd (ix 7 1 (by omega) (by omega) r7 r1 e9) (by omega)
      · exact absurd (ix 7 2 (by omega) (by omega) r7 r2 e9) (by omega)
      · exact absurd (ix 7 3 (by omega) (by omega) r7 r3 e9) (by omega)
      · exact absurd (ix 7 4 (by omega) (by omega) r7 r4 e9) (by omega)
      · exact absurd (ix 7 5 (by omega) (by omega) r7 r5 e9) (by omega)
      · exact absurd (ix 7 6 (by omega) (by omega) r7 r6 e9) (by omega)
      · exact absurd (ix 7 8 (by omega) (by omega) r7 r8 e9) (by omega)
      · exact absurd e9 (nx 8 (by omega) r8)
      · exact absurd (ix 8 0 (by omega) (by omega) r8 r0 e9) (by omega)
      · exact absurd (ix 8 1 (by omega) (by omega) r8 r1 e9) (by omega)
      · exact absurd (ix 8 2 (by omega) (by omega) r8 r2 e9) (by omega)
      · exact absurd (ix 8 3 (by omega) (by omega) r8 r3 e9) (by omega)
      · exact absurd (ix 8 4 (by omega) (by omega) r8 r4 e9) (by omega)
      · exact absurd (ix 8 5 (by omega) (by omega) r8 r5 e9) (by omega)
      · exact absurd (ix 8 6 (by omega) (by omega) r8 r6 e9) (by omega)
      · exact absurd (ix 8 7 (by omega) (by omega) r8 r7 e9) (by omega)
    · subst eX eZ
      refine ⟨fun l hl => ?_, fun i hi => absurd hi (Nat.not_lt_zero _), fun i hi => absurd hi (Nat.not_lt_zero _), fun s hs => absurd hs (Nat.not_lt_zero _), ⟨fun i hi => absurd hi (Nat.not_lt_zero _), fun i hi => absurd hi (Nat.not_lt_zero _), fun i hi => absurd hi (Nat.not_lt_zero _)⟩, ⟨⟨Nat.zero_le _, Nat.zero_le 1000⟩, ⟨Nat.zero_le _, Nat.zero_le 1000⟩, ⟨Nat.zero_le _, Nat.zero_le 1000⟩⟩, fun k k1 k2 _ => ?_⟩
      · rw [hd0]
        exact k2 l hl
      · show (if k = 11 then q7 else if k = 12 then q8 else E.2.1) = E.2.1
        rw [if_neg (by omega), if_neg (by omega)]
    · exact ⟨by decide, by decide, fun j hj => absurd hj (Nat.not_lt_zero _), List.nodup_nil, fun j hj => absurd hj List.not_mem_nil⟩
    · rw [z5 q (fun e => hq (by rw [e]; exact hxE)) (fun i hi e => hq (by rw [e]; exact (z3 i hi).2))]
      exact hfr q hq
  refine hK J9 AD0 (fun _ => false) (by subst eAD; rfl) ⟨Z0, X0, CXX, by rw [eX]; rfl, by rw [eX]; rfl⟩ (fun y hy hyn => z5 y hy (fun i hi e => hyn (by rw [e]; exact (z3 i hi).1)))
end INI
