/-! the model's constructor and doneShare; a new shell is Good -/
def M00 : MS := (fun _ => 0, 0, fun _ _ => 0)
theorem mv_self {H : AH} {mo : Nat} {ad : Nat → Nat} {M : MS} (h1 : H mo = some (.inr (6, mfs M ad))) (h2 : ∀ k, k < 15 → H (ad k) = some (.inl (kd k, ln k, .inl (M.2.2 k)))) : mv H mo ad M = H := by
  funext q
  unfold mv
  by_cases hq : q = mo
  · subst hq; rw [if_pos rfl, h1]
  · rw [if_neg hq]
    cases hf : (List.range 15).find? (fun i => Nat.beq (ad i) q) with
    | none => rfl
    | some i =>
      have e1 := Nat.eq_of_beq_eq_true (List.find?_some (p := fun i => Nat.beq (ad i) q) hf)
      have e2 := List.mem_range.mp (List.mem_of_find?_eq_some hf)
      show some (Sum.inl (kd i, ln i, Sum.inl (M.2.2 i)) : AC) = H q
      rw [← e1, h2 i e2]
theorem rm_0 : RM sgZ 0 M00 := by
  refine ⟨⟨rfl, rfl, rfl, rfl, rfl, rfl, rfl⟩, fun i _ => rfl, fun i _ => rfl, fun i hi => absurd hi (Nat.not_lt_zero _), fun i hi => absurd hi (Nat.not_lt_zero _), fun i _ => rfl, fun i _ k hk => absurd hk (Nat.not_lt_zero _), fun k hk => absurd hk (Nat.not_lt_zero _), fun j hj => absurd hj (Nat.not_lt_zero _), fun j hj => absurd hj (Nat.not_lt_zero _), fun j hj => absurd hj (Nat.not_lt_zero _), fun j hj => absurd hj (Nat.not_lt_zero _), fun k hk => absurd hk (Nat.not_lt_zero _), fun j _ => rfl, fun k hk => absurd hk (Nat.not_lt_zero _), fun k hk => absurd hk (Nat.not_lt_zero _)⟩
theorem good_0 : Good sgZ 0 := by
  refine ⟨⟨⟨by decide, by decide⟩, fun j hj => absurd hj (Nat.not_lt_zero _), ⟨List.nodup_nil, fun j => ⟨fun h => absurd h List.not_mem_nil, fun h => absurd h.1 (Nat.not_lt_zero _)⟩⟩, fun j h => Bool.noConfusion h, fun j hj => absurd hj (Nat.not_lt_zero _), ⟨fun s j h => (nomatch h), fun s j h => (nomatch h)⟩, fun i j _ h => Bool.noConfusion h, ⟨fun s => ⟨Nat.zero_le _, fun x hx => absurd hx List.not_mem_nil⟩, Nat.zero_le _, List.nodup_nil, fun x hx => absurd hx List.not_mem_nil⟩, fun s _ => ⟨rfl, rfl⟩, ⟨fun j hj => absurd hj (Nat.not_lt_zero _), fun e he => absurd he List.not_mem_nil⟩⟩, Nat.zero_le _, fun j hj => absurd hj (Nat.not_lt_zero _)⟩
section INM
variable {E : EN} {H : AH} {d c n : Nat} {K : Out → AH → Prop}
theorem c_init5 {mo : Nat} (h : H mo = some (.inr (6, dfl 6))) (hc : 15 ≤ c) (hn : 64300 ≤ n) (hK : ∀ H' ad, ADok mo ad → H' mo = some (.inr (6, mfs M00 ad)) → (∀ k, k < 15 → H' (ad k) = some (.inl (kd k, ln k, .inl (M00.2.2 k)))) → (∀ k, k < 15 → H (ad k) = none ∧ E.1 (ad k) = none) → (∀ y, y ≠ mo → (∀ k, k < 15 → y ≠ ad k) → H' y = H y) → K (.inl none) H') : CRd TTv E (d + 2) mX5_init [.ref mo] H c n K := by
  refine crd rfl ?_
  show Ev E (d + 1) mX5_init K 0 [.ref mo] [] H c n
  have hd : dfl 6 = [.int 0, .int 0, .int 0, .int 0, .int 0, .int 0, .long 0, .null, .null, .null, .null, .null, .null, .null, .null, .null, .null, .null, .null, .null, .null, .null] := rfl
  rw [hd] at h
  have L0 : AX E H mo 6 0 (fun _ => 0) (fun _ => arI 0 (fun _ => 0)) _ H := AX.nil h
  have e4 : (4 : Int32).toNatClampNeg = 4 := rfl
  have e32 : (32 : Int32).toNatClampNeg = 32 := rfl
  have e13 : (13 : Int32).toNatClampNeg = 13 := rfl
  have e30 : (30 : Int32).toNatClampNeg = 30 := rfl
  have e32k : (32000 : Int32).toNatClampNeg = 32000 := rfl
  have f4 : ¬ (4 : Int32) < 0 := by decide
  have f32 : ¬ (32 : Int32) < 0 := by decide
  have f13 : ¬ (13 : Int32) < 0 := by decide
  have f30 : ¬ (30 : Int32) < 0 := by decide
  have f32k : ¬ (32000 : Int32) < 0 := by decide
  simp only [eX5_init_0, eX5_init_1, eX5_init_4, eX5_init_5, eX5_init_6, isA_r, isA_n, isI_i, isF_f, isL_l, is1_i, is1_r, is1_n, is1_f, true_and, and_true, List.length_cons, List.length_nil, Nat.reduceAdd, Nat.reduceLeDiff, Nat.reduceSub, Option.some.injEq, exists_eq_left', aft_s, aft_n, ite_true, ite_false, if_true, if_false, Nat.zero_le, Nat.le_refl, reduceCtorEq, Nat.le_add_left, e4, e32, e13, e30, e32k, f4, f32, f13, f30, f32k, not_false_eq_true, Nat.reduceLeDiff]
  refine ⟨by omega, by omega, fun q0 hq0 hq0E => ?_⟩
  have M0 := L0.new (c := .inl (1, 4, .inl (fun _ => 0))) hq0 hq0E
  have hx0 := ob_of M0.1
  simp only [eX5_init_8, isA_r, isA_n, isI_i, isF_f, isL_l, is1_i, is1_r, is1_n, is1_f, true_and, and_true, List.length_cons, List.length_nil, Nat.reduceAdd, Nat.reduceLeDiff, Nat.reduceSub, Option.some.injEq, exists_eq_left', aft_s, aft_n, ite_true, ite_false, if_true, if_false, Nat.zero_le, Nat.le_refl, reduceCtorEq, hx0, List.set, Nat.reduceLT, okF, tyC]
  have L1 := M0.setx (fs' := [.int 0, .int 0, .int 0, .int 0, .int 0, .int 0, .long 0, .ref q0, .null, .null, .null, .null, .null, .null, .null, .null, .null, .null, .null, .null, .null, .null])
  generalize hset (hset H q0 _) mo _ = H0 at L1 ⊢
  simp only [eX5_init_11, eX5_init_12, eX5_init_13, isA_r, isA_n, isI_i, isF_f, isL_l, is1_i, is1_r, is1_n, is1_f, true_and, and_true, List.length_cons, List.length_nil, Nat.reduceAdd, Nat.reduceLeDiff, Nat.reduceSub, Option.some.injEq, exists_eq_left', aft_s, aft_n, ite_true, ite_false, if_true, if_false, Nat.zero_le, Nat.le_refl, reduceCtorEq, Nat.le_add_left, e4, e32, e13, e30, e32k, f4, f32, f13, f30, f32k, not_false_eq_true, Nat.reduceLeDiff]
  refine ⟨by omega, by omega, fun q1 hq1 hq1E => ?_⟩
  have M1 := L1.new (c := .inl (1, 4, .inl (fun _ => 0))) hq1 hq1E
  have hx1 := ob_of M1.1
  simp only [eX5_init_15, isA_r, isA_n, isI_i, isF_f, isL_l, is1_i, is1_r, is1_n, is1_f, true_and, and_true, List.length_cons, List.length_nil, Nat.reduceAdd, Nat.reduceLeDiff, Nat.reduceSub, Option.some.injEq, exists_eq_left', aft_s, aft_n, ite_true, ite_false, if_true, if_false, Nat.zero_le, Nat.le_refl, reduceCtorEq, hx1, List.set, Nat.reduceLT, okF, tyC]
  have L2 := M1.setx (fs' := [.int 0, .int 0, .int 0, .int 0, .int 0, .int 0, .long 0, .ref q0, .ref q1, .null, .null, .null, .null, .null, .null, .null, .null, .null, .null, .null, .null, .null])
  generalize hset (hset H0 q1 _) mo _ = H1 at L2 ⊢
  simp only [eX5_init_18, eX5_init_19, eX5_init_20, isA_r, isA_n, isI_i, isF_f, isL_l, is1_i, is1_r, is1_n, is1_f, true_and, and_true, List.length_cons, List.length_nil, Nat.reduceAdd, Nat.reduceLeDiff, Nat.reduceSub, Option.some.injEq, exists_eq_left', aft_s, aft_n, ite_true, ite_false, if_true, if_false, Nat.zero_le, Nat.le_refl, reduceCtorEq, Nat.le_add_left, e4, e32, e13, e30, e32k, f4, f32, f13, f30, f32k, not_false_eq_true, Nat.reduceLeDiff]
  refine ⟨by omega, by omega, fun q2 hq2 hq2E => ?_⟩
  have M2 := L2.new (c := .inl (0, 4, .inl (fun _ => 0))) hq2 hq2E
  have hx2 := ob_of M2.1
  simp only [eX5_init_22, isA_r, isA_n, isI_i, isF_f, isL_l, is1_i, is1_r, is1_n, is1_f, true_and, and_true, List.length_cons, List.length_nil, Nat.reduceAdd, Nat.reduceLeDiff, Nat.reduceSub, Option.some.injEq, exists_eq_left', aft_s, aft_n, ite_true, ite_false, if_true, if_false, Nat.zero_le, Nat.le_refl, reduceCtorEq, hx2, List.set, Nat.reduceLT, okF, tyC]
  have L3 := M2.setx (fs' := [.int 0, .int 0, .int 0, .int 0, .int 0, .int 0, .long 0, .ref q0, .ref q1, .ref q2, .null, .null, .null, .null, .null, .null, .null, .null, .null, .null, .null, .null])
  generalize hset (hset H1 q2 _) mo _ = H2 at L3 ⊢
  simp only [eX5_init_25, eX5_init_26, eX5_init_27, isA_r, isA_n, isI_i, isF_f, isL_l, is1_i, is1_r, is1_n, is1_f, true_and, and_true, List.length_cons, List.length_nil, Nat.reduceAdd, Nat.reduceLeDiff, Nat.reduceSub, Option.some.injEq, exists_eq_left', aft_s, aft_n, ite_true, ite_false, if_true, if_false, Nat.zero_le, Nat.le_refl, reduceCtorEq, Nat.le_add_left, e4, e32, e13, e30, e32k, f4, f32, f13, f30, f32k, not_false_eq_true, Nat.reduceLeDiff]
  refine ⟨by omega, by omega, fun q3 hq3 hq3E => ?_⟩
  have M3 := L3.new (c := .inl (0, 4, .inl (fun _ => 0))) hq3 hq3E
  have hx3 := ob_of M3.1
  simp only [eX5_init_29, isA_r, isA_n, isI_i, isF_f, isL_l, is1_i, is1_r, is1_n, is1_f, true_and, and_true, List.length_cons, List.length_nil, Nat.reduceAdd, Nat.reduceLeDiff, Nat.reduceSub, Option.some.injEq, exists_eq_left', aft_s, aft_n, ite_true, ite_false, if_true, if_false, Nat.zero_le, Nat.le_refl, reduceCtorEq, hx3, List.set, Nat.reduceLT, okF, tyC]
  have L4 := M3.setx (fs' := [.int 0, .int 0, .int 0, .int 0, .int 0, .int 0, .long 0, .ref q0, .ref q1, .ref q2, .ref q3, .null, .null, .null, .null, .null, .null, .null, .null, .null, .null, .null])
  generalize hset (hset H2 q3 _) mo _ = H3 at L4 ⊢
  simp only [eX5_init_32, eX5_init_33, eX5_init_34, isA_r, isA_n, isI_i, isF_f, isL_l, is1_i, is1_r, is1_n, is1_f, true_and, and_true, List.length_cons, List.length_nil, Nat.reduceAdd, Nat.reduceLeDiff, Nat.reduceSub, Option.some.injEq, exists_eq_left', aft_s, aft_n, ite_true, ite_false, if_true, if_false, Nat.zero_le, Nat.le_refl, reduceCtorEq, Nat.le_add_left, e4, e32, e13, e30, e32k, f4, f32, f13, f30, f32k, not_false_eq_true, Nat.reduceLeDiff]
  refine ⟨by omega, by omega, fun q4 hq4 hq4E => ?_⟩
  have M4 := L4.new (c := .inl (0, 4, .inl (fun _ => 0))) hq4 hq4E
  have hx4 := ob_of M4.1
  simp only [eX5_init_36, isA_r, isA_n, isI_i, isF_f, isL_l, is1_i, is1_r, is1_n, is1_f, true_and, and_true, List.length_cons, List.length_nil, Nat.reduceAdd, Nat.reduceLeDiff, Nat.reduceSub, Option.some.injEq, exists_eq_left', aft_s, aft_n, ite_true, ite_false, if_true, if_false, Nat.zero_le, Nat.le_refl, reduceCtorEq, hx4, List.set, Nat.reduceLT, okF, tyC]
  have L5 := M4.setx (fs' := [.int 0, .int 0, .int 0, .int 0, .int 0, .int 0, .long 0, .ref q0, .ref q1, .ref q2, .ref q3, .ref q4, .null, .null, .null, .null, .null, .null, .null, .null, .null, .null])
  generalize hset (hset H3 q4 _) mo _ = H4 at L5 ⊢
  simp only [eX5_init_39, eX5_init_40, eX5_init_42, isA_r, isA_n, isI_i, isF_f, isL_l, is1_i, is1_r, is1_n, is1_f, true_and, and_true, List.length_cons, List.length_nil, Nat.reduceAdd, Nat.reduceLeDiff, Nat.reduceSub, Option.some.injEq, exists_eq_left', aft_s, aft_n, ite_true, ite_false, if_true, if_false, Nat.zero_le, Nat.le_refl, reduceCtorEq, Nat.le_add_left, e4, e32, e13, e30, e32k, f4, f32, f13, f30, f32k, not_false_eq_true, Nat.reduceLeDiff]
  refine ⟨by omega, by omega, fun q5 hq5 hq5E => ?_⟩
  have M5 := L5.new (c := .inl (0, 32, .inl (fun _ => 0))) hq5 hq5E
  have hx5 := ob_of M5.1
  simp only [eX5_init_44, isA_r, isA_n, isI_i, isF_f, isL_l, is1_i, is1_r, is1_n, is1_f, true_and, and_true, List.length_cons, List.length_nil, Nat.reduceAdd, Nat.reduceLeDiff, Nat.reduceSub, Option.some.injEq, exists_eq_left', aft_s, aft_n, ite_true, ite_false, if_true, if_false, Nat.zero_le, Nat.le_refl, reduceCtorEq, hx5, List.set, Nat.reduceLT, okF, tyC]
  have L6 := M5.setx (fs' := [.int 0, .int 0, .int 0, .int 0, .int 0, .int 0, .long 0, .ref q0, .ref q1, .ref q2, .ref q3, .ref q4, .ref q5, .null, .null, .null, .null, .null, .null, .null, .null, .null])
  generalize hset (hset H4 q5 _) mo _ = H5 at L6 ⊢
  simp only [eX5_init_47, eX5_init_48, eX5_init_50, isA_r, isA_n, isI_i, isF_f, isL_l, is1_i, is1_r, is1_n, is1_f, true_and, and_true, List.length_cons, List.length_nil, Nat.reduceAdd, Nat.reduceLeDiff, Nat.reduceSub, Option.some.injEq, exists_eq_left', aft_s, aft_n, ite_true, ite_false, if_true, if_false, Nat.zero_le, Nat.le_refl, reduceCtorEq, Nat.le_add_left, e4, e32, e13, e30, e32k, f4, f32, f13, f30, f32k, not_false_eq_true, Nat.reduceLeDiff]
  refine ⟨by omega, by omega, fun q6 hq6 hq6E => ?_⟩
  have M6 := L6.new (c := .inl (0, 13, .inl (fun _ => 0))) hq6 hq6E
  have hx6 := ob_of M6.1
  simp only [eX5_init_52, isA_r, isA_n, isI_i, isF_f, isL_l, is1_i, is1_r, is1_n, is1_f, true_and, and_true, List.length_cons, List.length_nil, Nat.reduceAdd, Nat.reduceLeDiff, Nat.reduceSub, Option.some.injEq, exists_eq_left', aft_s, aft_n, ite_true, ite_false, if_true, if_false, Nat.zero_le, Nat.le_refl, reduceCtorEq, hx6, List.set, Nat.reduceLT, okF, tyC]
  have L7 := M6.setx (fs' := [.int 0, .int 0, .int 0, .int 0, .int 0, .int 0, .long 0, .ref q0, .ref q1, .ref q2, .ref q3, .ref q4, .ref q5, .ref q6, .null, .null, .null, .null, .null, .null, .null, .null])
  generalize hset (hset H5 q6 _) mo _ = H6 at L7 ⊢
  simp only [eX5_init_55, eX5_init_56, eX5_init_58, isA_r, isA_n, isI_i, isF_f, isL_l, is1_i, is1_r, is1_n, is1_f, true_and, and_true, List.length_cons, List.length_nil, Nat.reduceAdd, Nat.reduceLeDiff, Nat.reduceSub, Option.some.injEq, exists_eq_left', aft_s, aft_n, ite_true, ite_false, if_true, if_false, Nat.zero_le, Nat.le_refl, reduceCtorEq, Nat.le_add_left, e4, e32, e13, e30, e32k, f4, f32, f13, f30, f32k, not_false_eq_true, Nat.reduceLeDiff]
  refine ⟨by omega, by omega, fun q7 hq7 hq7E => ?_⟩
  have M7 := L7.new (c := .inl (0, 30, .inl (fun _ => 0))) hq7 hq7E
  have hx7 := ob_of M7.1
  simp only [eX5_init_60, isA_r, isA_n, isI_i, isF_f, isL_l, is1_i, is1_r, is1_n, is1_f, true_and, and_true, List.length_cons, List.length_nil, Nat.reduceAdd, Nat.reduceLeDiff, Nat.reduceSub, Option.some.injEq, exists_eq_left', aft_s, aft_n, ite_true, ite_false, if_true, if_false, Nat.zero_le, Nat.le_refl, reduceCtorEq, hx7, List.set, Nat.reduceLT, okF, tyC]
  have L8 := M7.setx (fs' := [.int 0, .int 0, .int 0, .int 0, .int 0, .int 0, .long 0, .ref q0, .ref q1, .ref q2, .ref q3, .ref q4, .ref q5, .ref q6, .ref q7, .null, .null, .null, .null, .null, .null, .null])
  generalize hset (hset H6 q7 _) mo _ = H7 at L8 ⊢
  simp only [eX5_init_63, eX5_init_64, eX5_init_66, isA_r, isA_n, isI_i, isF_f, isL_l, is1_i, is1_r, is1_n, is1_f, true_and, and_true, List.length_cons, List.length_nil, Nat.reduceAdd, Nat.reduceLeDiff, Nat.reduceSub, Option.some.injEq, exists_eq_left', aft_s, aft_n, ite_true, ite_false, if_true, if_false, Nat.zero_le, Nat.le_refl, reduceCtorEq, Nat.le_add_left, e4, e32, e13, e30, e32k, f4, f32, f13, f30, f32k, not_false_eq_true, Nat.reduceLeDiff]
  refine ⟨by omega, by omega, fun q8 hq8 hq8E => ?_⟩
  have M8 := L8.new (c := .inl (0, 30, .inl (fun _ => 0))) hq8 hq8E
  have hx8 := ob_of M8.1
  simp only [eX5_init_68, isA_r, isA_n, isI_i, isF_f, isL_l, is1_i, is1_r, is1_n, is1_f, true_and, and_true, List.length_cons, List.length_nil, Nat.reduceAdd, Nat.reduceLeDiff, Nat.reduceSub, Option.some.injEq, exists_eq_left', aft_s, aft_n, ite_true, ite_false, if_true, if_false, Nat.zero_le, Nat.le_refl, reduceCtorEq, hx8, List.set, Nat.reduceLT, okF, tyC]
  have L9 := M8.setx (fs' := [.int 0, .int 0, .int 0, .int 0, .int 0, .int 0, .long 0, .ref q0, .ref q1, .ref q2, .ref q3, .ref q4, .ref q5, .ref q6, .ref q7, .ref q8, .null, .null, .null, .null, .null, .null])
  generalize hset (hset H7 q8 _) mo _ = H8 at L9 ⊢
  simp only [eX5_init_71, eX5_init_72, eX5_init_74, isA_r, isA_n, isI_i, isF_f, isL_l, is1_i, is1_r, is1_n, is1_f, true_and, and_true, List.length_cons, List.length_nil, Nat.reduceAdd, Nat.reduceLeDiff, Nat.reduceSub, Option.some.injEq, exists_eq_left', aft_s, aft_n, ite_true, ite_false, if_true, if_false, Nat.zero_le, Nat.le_refl, reduceCtorEq, Nat.le_add_left, e4, e32, e13, e30, e32k, f4, f32, f13, f30, f32k, not_false_eq_true, Nat.reduceLeDiff]
  refine ⟨by omega, by omega, fun q9 hq9 hq9E => ?_⟩
  have M9 := L9.new (c := .inl (0, 30, .inl (fun _ => 0))) hq9 hq9E
  have hx9 := ob_of M9.1
  simp only [eX5_init_76, isA_r, isA_n, isI_i, isF_f, isL_l, is1_i, is1_r, is1_n, is1_f, true_and, and_true, List.length_cons, List.length_nil, Nat.reduceAdd, Nat.reduceLeDiff, Nat.reduceSub, Option.some.injEq, exists_eq_left', aft_s, aft_n, ite_true, ite_false, if_true, if_false, Nat.zero_le, Nat.le_refl, reduceCtorEq, hx9, List.set, Nat.reduceLT, okF, tyC]
  have L10 := M9.setx (fs' := [.int 0, .int 0, .int 0, .int 0, .int 0, .int 0, .long 0, .ref q0, .ref q1, .ref q2, .ref q3, .ref q4, .ref q5, .ref q6, .ref q7, .ref q8, .ref q9, .null, .null, .null, .null, .null])
  generalize hset (hset H8 q9 _) mo _ = H9 at L10 ⊢
  simp only [eX5_init_79, eX5_init_80, eX5_init_82, isA_r, isA_n, isI_i, isF_f, isL_l, is1_i, is1_r, is1_n, is1_f, true_and, and_true, List.length_cons, List.length_nil, Nat.reduceAdd, Nat.reduceLeDiff, Nat.reduceSub, Option.some.injEq, exists_eq_left', aft_s, aft_n, ite_true, ite_false, if_true, if_false, Nat.zero_le, Nat.le_refl, reduceCtorEq, Nat.le_add_left, e4, e32, e13, e30, e32k, f4, f32, f13, f30, f32k, not_false_eq_true, Nat.reduceLeDiff]
  refine ⟨by omega, by omega, fun q10 hq10 hq10E => ?_⟩
  have M10 := L10.new (c := .inl (0, 30, .inl (fun _ => 0))) hq10 hq10E
  have hx10 := ob_of M10.1
  simp only [eX5_init_84, isA_r, isA_n, isI_i, isF_f, isL_l, is1_i, is1_r, is1_n, is1_f, true_and, and_true, List.length_cons, List.length_nil, Nat.reduceAdd, Nat.reduceLeDiff, Nat.reduceSub, Option.some.injEq, exists_eq_left', aft_s, aft_n, ite_true, ite_false, if_true, if_false, Nat.zero_le, Nat.le_refl, reduceCtorEq, hx10, List.set, Nat.reduceLT, okF, tyC]
  have L11 := M10.setx (fs' := [.int 0, .int 0, .int 0, .int 0, .int 0, .int 0, .long 0, .ref q0, .ref q1, .ref q2, .ref q3, .ref q4, .ref q5, .ref q6, .ref q7, .ref q8, .ref q9, .ref q10, .null, .null, .null, .null])
  generalize hset (hset H9 q10 _) mo _ = H10 at L11 ⊢
  simp only [eX5_init_87, eX5_init_88, eX5_init_90, isA_r, isA_n, isI_i, isF_f, isL_l, is1_i, is1_r, is1_n, is1_f, true_and, and_true, List.length_cons, List.length_nil, Nat.reduceAdd, Nat.reduceLeDiff, Nat.reduceSub, Option.some.injEq, exists_eq_left', aft_s, aft_n, ite_true, ite_false, if_true, if_false, Nat.zero_le, Nat.le_refl, reduceCtorEq, Nat.le_add_left, e4, e32, e13, e30, e32k, f4, f32, f13, f30, f32k, not_false_eq_true, Nat.reduceLeDiff]
  refine ⟨by omega, by omega, fun q11 hq11 hq11E => ?_⟩
  have M11 := L11.new (c := .inl (0, 30, .inl (fun _ => 0))) hq11 hq11E
  have hx11 := ob_of M11.1
  simp only [eX5_init_92, isA_r, isA_n, isI_i, isF_f, isL_l, is1_i, is1_r, is1_n, is1_f, true_and, and_true, List.length_cons, List.length_nil, Nat.reduceAdd, Nat.reduceLeDiff, Nat.reduceSub, Option.some.injEq, exists_eq_left', aft_s, aft_n, ite_true, ite_false, if_true, if_false, Nat.zero_le, Nat.le_refl, reduceCtorEq, hx11, List.set, Nat.reduceLT, okF, tyC]
  have L12 := M11.setx (fs' := [.int 0, .int 0, .int 0, .int 0, .int 0, .int 0, .long 0, .ref q0, .ref q1, .ref q2, .ref q3, .ref q4, .ref q5, .ref q6, .ref q7, .ref q8, .ref q9, .ref q10, .ref q11, .null, .null, .null])
  generalize hset (hset H10 q11 _) mo _ = H11 at L12 ⊢
  simp only [eX5_init_95, eX5_init_96, eX5_init_98, isA_r, isA_n, isI_i, isF_f, isL_l, is1_i, is1_r, is1_n, is1_f, true_and, and_true, List.length_cons, List.length_nil, Nat.reduceAdd, Nat.reduceLeDiff, Nat.reduceSub, Option.some.injEq, exists_eq_left', aft_s, aft_n, ite_true, ite_false, if_true, if_false, Nat.zero_le, Nat.le_refl, reduceCtorEq, Nat.le_add_left, e4, e32, e13, e30, e32k, f4, f32, f13, f30, f32k, not_false_eq_true, Nat.reduceLeDiff]
  refine ⟨by omega, by omega, fun q12 hq12 hq12E => ?_⟩
  have M12 := L12.new (c := .inl (1, 30, .inl (fun _ => 0))) hq12 hq12E
  have hx12 := ob_of M12.1
  simp only [eX5_init_100, isA_r, isA_n, isI_i, isF_f, isL_l, is1_i, is1_r, is1_n, is1_f, true_and, and_true, List.length_cons, List.length_nil, Nat.reduceAdd, Nat.reduceLeDiff, Nat.reduceSub, Option.some.injEq, exists_eq_left', aft_s, aft_n, ite_true, ite_false, if_true, if_false, Nat.zero_le, Nat.le_refl, reduceCtorEq, hx12, List.set, Nat.reduceLT, okF, tyC]
  have L13 := M12.setx (fs' := [.int 0, .int 0, .int 0, .int 0, .int 0, .int 0, .long 0, .ref q0, .ref q1, .ref q2, .ref q3, .ref q4, .ref q5, .ref q6, .ref q7, .ref q8, .ref q9, .ref q10, .ref q11, .ref q12, .null, .null])
  generalize hset (hset H11 q12 _) mo _ = H12 at L13 ⊢
  simp only [eX5_init_103, eX5_init_104, eX5_init_107, isA_r, isA_n, isI_i, isF_f, isL_l, is1_i, is1_r, is1_n, is1_f, true_and, and_true, List.length_cons, List.length_nil, Nat.reduceAdd, Nat.reduceLeDiff, Nat.reduceSub, Option.some.injEq, exists_eq_left', aft_s, aft_n, ite_true, ite_false, if_true, if_false, Nat.zero_le, Nat.le_refl, reduceCtorEq, Nat.le_add_left, e4, e32, e13, e30, e32k, f4, f32, f13, f30, f32k, not_false_eq_true, Nat.reduceLeDiff]
  refine ⟨by omega, by omega, fun q13 hq13 hq13E => ?_⟩
  have M13 := L13.new (c := .inl (0, 32000, .inl (fun _ => 0))) hq13 hq13E
  have hx13 := ob_of M13.1
  simp only [eX5_init_109, isA_r, isA_n, isI_i, isF_f, isL_l, is1_i, is1_r, is1_n, is1_f, true_and, and_true, List.length_cons, List.length_nil, Nat.reduceAdd, Nat.reduceLeDiff, Nat.reduceSub, Option.some.injEq, exists_eq_left', aft_s, aft_n, ite_true, ite_false, if_true, if_false, Nat.zero_le, Nat.le_refl, reduceCtorEq, hx13, List.set, Nat.reduceLT, okF, tyC]
  have L14 := M13.setx (fs' := [.int 0, .int 0, .int 0, .int 0, .int 0, .int 0, .long 0, .ref q0, .ref q1, .ref q2, .ref q3, .ref q4, .ref q5, .ref q6, .ref q7, .ref q8, .ref q9, .ref q10, .ref q11, .ref q12, .ref q13, .null])
  generalize hset (hset H12 q13 _) mo _ = H13 at L14 ⊢
  simp only [eX5_init_112, eX5_init_113, eX5_init_116, isA_r, isA_n, isI_i, isF_f, isL_l, is1_i, is1_r, is1_n, is1_f, true_and, and_true, List.length_cons, List.length_nil, Nat.reduceAdd, Nat.reduceLeDiff, Nat.reduceSub, Option.some.injEq, exists_eq_left', aft_s, aft_n, ite_true, ite_false, if_true, if_false, Nat.zero_le, Nat.le_refl, reduceCtorEq, Nat.le_add_left, e4, e32, e13, e30, e32k, f4, f32, f13, f30, f32k, not_false_eq_true, Nat.reduceLeDiff]
  refine ⟨by omega, by omega, fun q14 hq14 hq14E => ?_⟩
  have M14 := L14.new (c := .inl (0, 32000, .inl (fun _ => 0))) hq14 hq14E
  have hx14 := ob_of M14.1
  simp only [eX5_init_118, isA_r, isA_n, isI_i, isF_f, isL_l, is1_i, is1_r, is1_n, is1_f, true_and, and_true, List.length_cons, List.length_nil, Nat.reduceAdd, Nat.reduceLeDiff, Nat.reduceSub, Option.some.injEq, exists_eq_left', aft_s, aft_n, ite_true, ite_false, if_true, if_false, Nat.zero_le, Nat.le_refl, reduceCtorEq, hx14, List.set, Nat.reduceLT, okF, tyC]
  have L15 := M14.setx (fs' := [.int 0, .int 0, .int 0, .int 0, .int 0, .int 0, .long 0, .ref q0, .ref q1, .ref q2, .ref q3, .ref q4, .ref q5, .ref q6, .ref q7, .ref q8, .ref q9, .ref q10, .ref q11, .ref q12, .ref q13, .ref q14])
  generalize hset (hset H13 q14 _) mo _ = H14 at L15 ⊢
  simp only [eX5_init_121, isA_r, isA_n, isI_i, isF_f, isL_l, is1_i, is1_r, is1_n, is1_f, true_and, and_true, List.length_cons, List.length_nil, Nat.reduceAdd, Nat.reduceLeDiff, Nat.reduceSub, Option.some.injEq, exists_eq_left', aft_s, aft_n, ite_true, ite_false, if_true, if_false, Nat.zero_le, Nat.le_refl, reduceCtorEq]
  obtain ⟨z0, z1, z2, z3, z4, z5⟩ := L15
  refine hK _ _ ⟨fun i j hi hj he => z4 i j hi hj he, z1⟩ z0 (fun k hk => ?_) z3 z5
  have hk2 : k = 0 ∨ k = 1 ∨ k = 2 ∨ k = 3 ∨ k = 4 ∨ k = 5 ∨ k = 6 ∨ k = 7 ∨ k = 8 ∨ k = 9 ∨ k = 10 ∨ k = 11 ∨ k = 12 ∨ k = 13 ∨ k = 14 := by omega
  rw [z2 k hk]
  rcases hk2 with rfl | rfl | rfl | rfl | rfl | rfl | rfl | rfl | rfl | rfl | rfl | rfl | rfl | rfl | rfl <;> rfl
section SHR
variable {h : AH} {mo : Nat} {ad : Nat → Nat} {M : MS} {σ : Sg} {th : Nat}
theorem c_doneShare (A : ADok mo ad) (R : RM σ th M) (O : Ok σ) (hk : ∀ M', RM σ (if s_nJ σ = 0 then 1 else 0) M' → K (.inl (some (.float (if s_nJ σ = 0 then FP.fconst0 else shF σ)))) (mv h mo ad M')) : CRd TTv E (d + 1) mX5_doneShare [.ref mo] (mv h mo ad M) c n K := by
  refine crd rfl ?_
  show Ev E d mX5_doneShare K 0 [.ref mo, .retAddr 0, .retAddr 0] [] _ c n
  have hJ := O.J
  have loop : ∀ k j, k + j = s_nJ σ → Ev E d mX5_doneShare K 4 [.ref mo, .int (nI (cN (dnF σ) j)), .int (nI j)] [] (mv h mo ad M) c n := by
    intro k
    induction k with
    | zero =>
      intro j hj
      have hj : j = s_nJ σ := by omega
      subst hj
      have hle : cN (dnF σ) (s_nJ σ) ≤ s_nJ σ := cN_le
      rw [hX5_doneShare_4]
      have e1 : (nI (s_nJ σ) < nI (s_nJ σ)) = False := eq_false (nI_nlt (Nat.le_refl _) (by omega))
      by_cases hz : s_nJ σ = 0
      · rw [if_pos hz, if_pos hz] at hk
        have e2 : (nI (s_nJ σ) = 0) = True := by rw [hz]; exact eq_true rfl
        simp only [eX5_doneShare_5, eX5_doneShare_6, eX5_doneShare_9, eX5_doneShare_12, eX5_doneShare_13, eX5_doneShare_14, eX5_doneShare_17, eX5_doneShare_18, eX5_doneShare_19, eX5_doneShare_21, eX5_doneShare_24, eX5_doneShare_25, eX5_doneShare_28, eX5_doneShare_29, eX5_doneShare_30, eX5_doneShare_31, eX5_doneShare_34, eX5_doneShare_37, eX5_doneShare_38, eX5_doneShare_39, eX5_doneShare_42, eX5_doneShare_45, eX5_doneShare_46, eX5_doneShare_49, eX5_doneShare_50, eX5_doneShare_53, eX5_doneShare_54, eX5_doneShare_57, eX5_doneShare_60, eX5_doneShare_61, eX5_doneShare_64, eX5_doneShare_65, eX5_doneShare_66, eX5_doneShare_67, eX5_doneShare_70, eX5_doneShare_71, eX5_doneShare_72, isA_r, isA_n, isI_i, isF_f, isL_l, is1_i, is1_r, is1_n, is1_f, true_and, and_true, List.length_cons, List.length_nil, Nat.reduceAdd, Nat.reduceLeDiff, Nat.reduceSub, Option.some.injEq, exists_eq_left', aft_s, aft_n, ite_true, ite_false, if_true, if_false, Nat.zero_le, Nat.le_refl, reduceCtorEq, mv_ob, mf0, mg2, mgl, Nat.reduceLT, va_up, Nat.reduceEqDiff, reduceIte, R.1.2.2.1, e1, e2]
        exact hk _ (R.t 1)
      · rw [if_neg hz, if_neg hz] at hk
        have e2 : (nI (s_nJ σ) = 0) = False := eq_false (fun h => hz ((nI_eq (a := s_nJ σ) (b := 0) (by omega) (by omega)).mp h))
        simp only [eX5_doneShare_5, eX5_doneShare_6, eX5_doneShare_9, eX5_doneShare_12, eX5_doneShare_13, eX5_doneShare_14, eX5_doneShare_17, eX5_doneShare_18, eX5_doneShare_19, eX5_doneShare_21, eX5_doneShare_24, eX5_doneShare_25, eX5_doneShare_28, eX5_doneShare_29, eX5_doneShare_30, eX5_doneShare_31, eX5_doneShare_34, eX5_doneShare_37, eX5_doneShare_38, eX5_doneShare_39, eX5_doneShare_42, eX5_doneShare_45, eX5_doneShare_46, eX5_doneShare_49, eX5_doneShare_50, eX5_doneShare_53, eX5_doneShare_54, eX5_doneShare_57, eX5_doneShare_60, eX5_doneShare_61, eX5_doneShare_64, eX5_doneShare_65, eX5_doneShare_66, eX5_doneShare_67, eX5_doneShare_70, eX5_doneShare_71, eX5_doneShare_72, isA_r, isA_n, isI_i, isF_f, isL_l, is1_i, is1_r, is1_n, is1_f, true_and, and_true, List.length_cons, List.length_nil, Nat.reduceAdd, Nat.reduceLeDiff, Nat.reduceSub, Option.some.injEq, exists_eq_left', aft_s, aft_n, ite_true, ite_false, if_true, if_false, Nat.zero_le, Nat.le_refl, reduceCtorEq, mv_ob, mf0, mg2, mgl, Nat.reduceLT, va_up, Nat.reduceEqDiff, reduceIte, R.1.2.2.1, e1, e2]
        exact ⟨fdiv_ok (by omega) (by omega) hz, hk _ (R.t 0)⟩
    | succ k ih =>
      intro j hj
      have hlt : j < s_nJ σ := by omega
      have e0 : (nI j).toNatClampNeg = j := nI_clamp (by omega)
      have b10 := R.2.2.2.2.2.2.2.2.2.2.2.1 j hlt
      have e1 : (nI j < nI (s_nJ σ)) = True := eq_true (nI_lt hlt (by omega))
      have hst : (nI (s_st σ j) = 100) = (s_st σ j = 100) := propext (st_100 (O.job hlt).2.2.1)
      have hcs := cN_s (p := dnF σ) (n := j)
      rw [hX5_doneShare_4]
      by_cases g1 : s_st σ j = 100
      · have e2 : (nI (s_st σ j) = 100) = True := by rw [hst]; exact eq_true g1
        have hp : dnF σ j = true := by unfold dnF; rw [g1]; rfl
        rw [if_pos hp] at hcs
        simp only [eX5_doneShare_5, eX5_doneShare_6, eX5_doneShare_9, eX5_doneShare_12, eX5_doneShare_13, eX5_doneShare_14, eX5_doneShare_17, eX5_doneShare_18, eX5_doneShare_19, eX5_doneShare_21, eX5_doneShare_24, eX5_doneShare_25, eX5_doneShare_28, eX5_doneShare_29, eX5_doneShare_30, eX5_doneShare_31, eX5_doneShare_34, isA_r, isA_n, isI_i, isF_f, isL_l, is1_i, is1_r, is1_n, is1_f, true_and, and_true, List.length_cons, List.length_nil, Nat.reduceAdd, Nat.reduceLeDiff, Nat.reduceSub, Option.some.injEq, exists_eq_left', aft_s, aft_n, ite_true, ite_false, if_true, if_false, Nat.zero_le, Nat.le_refl, reduceCtorEq, mv_ob, mr0 A, mw0 A, ms0 A, mr1 A, mw1 A, ms1 A, mr2 A, mw2 A, ms2 A, mr3 A, mw3 A, ms3 A, mr4 A, mw4 A, ms4 A, mr5 A, mw5 A, ms5 A, mr6 A, mw6 A, ms6 A, mr7 A, mw7 A, ms7 A, mr8 A, mw8 A, ms8 A, mr9 A, mw9 A, ms9 A, mr10 A, mw10 A, ms10 A, mr11 A, mw11 A, ms11 A, mr12 A, mw12 A, ms12 A, mr13 A, mw13 A, ms13 A, mr14 A, mw14 A, ms14 A, mf0, mf1, mf2, mf3, mf4, mf5, mf6, mg0, mg1, mg2, mg3, mg4, mg5, mg6, mg7, mg8, mg9, mg10, mg11, mg12, mg13, mg14, mg15, mg16, mg17, mg18, mg19, mg20, mg21, mgl, Nat.reduceLT, va_up_self, R.1.2.2.1, e1, inB_nI (show j < 30 by omega) (by decide), e0, b10, e2, nI_1]
        rw [← hcs]
        exact ih (j + 1) (by omega)
      · have e2 : (nI (s_st σ j) = 100) = False := by rw [hst]; exact eq_false g1
        have hp : ¬ dnF σ j = true := by unfold dnF; simp [g1]
        have hcs : cN (dnF σ) (j + 1) = cN (dnF σ) j := by rw [if_neg hp] at hcs; omega
        simp only [eX5_doneShare_5, eX5_doneShare_6, eX5_doneShare_9, eX5_doneShare_12, eX5_doneShare_13, eX5_doneShare_14, eX5_doneShare_17, eX5_doneShare_18, eX5_doneShare_19, eX5_doneShare_21, eX5_doneShare_24, eX5_doneShare_25, eX5_doneShare_28, eX5_doneShare_29, eX5_doneShare_30, eX5_doneShare_31, eX5_doneShare_34, isA_r, isA_n, isI_i, isF_f, isL_l, is1_i, is1_r, is1_n, is1_f, true_and, and_true, List.length_cons, List.length_nil, Nat.reduceAdd, Nat.reduceLeDiff, Nat.reduceSub, Option.some.injEq, exists_eq_left', aft_s, aft_n, ite_true, ite_false, if_true, if_false, Nat.zero_le, Nat.le_refl, reduceCtorEq, mv_ob, mr0 A, mw0 A, ms0 A, mr1 A, mw1 A, ms1 A, mr2 A, mw2 A, ms2 A, mr3 A, mw3 A, ms3 A, mr4 A, mw4 A, ms4 A, mr5 A, mw5 A, ms5 A, mr6 A, mw6 A, ms6 A, mr7 A, mw7 A, ms7 A, mr8 A, mw8 A, ms8 A, mr9 A, mw9 A, ms9 A, mr10 A, mw10 A, ms10 A, mr11 A, mw11 A, ms11 A, mr12 A, mw12 A, ms12 A, mr13 A, mw13 A, ms13 A, mr14 A, mw14 A, ms14 A, mf0, mf1, mf2, mf3, mf4, mf5, mf6, mg0, mg1, mg2, mg3, mg4, mg5, mg6, mg7, mg8, mg9, mg10, mg11, mg12, mg13, mg14, mg15, mg16, mg17, mg18, mg19, mg20, mg21, mgl, Nat.reduceLT, va_up_self, R.1.2.2.1, e1, inB_nI (show j < 30 by omega) (by decide), e0, b10, e2, nI_1, Int32.add_zero]
        rw [← hcs]
        exact ih (j + 1) (by omega)
  simp only [eX5_doneShare_0, eX5_doneShare_1, eX5_doneShare_2, eX5_doneShare_3, isA_r, isA_n, isI_i, isF_f, isL_l, is1_i, is1_r, is1_n, is1_f, true_and, and_true, List.length_cons, List.length_nil, Nat.reduceAdd, Nat.reduceLeDiff, Nat.reduceSub, Option.some.injEq, exists_eq_left', aft_s, aft_n, ite_true, ite_false, if_true, if_false, Nat.zero_le, Nat.le_refl, reduceCtorEq]
  exact loop (s_nJ σ) 0 rfl
end SHR
end INM
