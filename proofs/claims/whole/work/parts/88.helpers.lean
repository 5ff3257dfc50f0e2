/-! the law's helpers -/
theorem b01_0 : inB 0 1 = true := by decide
theorem c0_0 : (0 : Int32).toNatClampNeg = 0 := rfl
section LAW2
variable {E : EN} {x mo : Nat} {ad : Nat → Nat} {ra rD : Nat} {σ σm : Sg} {th T : Nat} {v : Int64} {w : UInt64} {H : AH} {d c n : Nat} {K : Out → AH → Prop}
theorem h_open (D : LD mo ad ra rD) (J : LJ E x mo ad ra rD σ σm th v w H) (O : Ok σ)  {p1 : Bool} (hc : 10 ≤ c) (hn : 100 ≤ n) (hK : ∀ v' H', LJ E x mo ad ra rD (a_open σ p1).2.2 σm th v' w H' → ((a_open σ p1).1 = 0 → v' = (a_open σ p1).2.1.toInt64) → K (.inl (some (.int (nI (a_open σ p1).1)))) H') : CRd TTv E (d + 14) mL_open [.ref x, .int (b2 p1), .ref ra] H c n K := by
  refine crd rfl ?_
  show Ev E (d + 13) mL_open K 0 [.ref x, .int (b2 p1), .ref ra, .retAddr 0] [] H c n
  have hp : (a_open σ p1).1 = 0 ∨ (a_open σ p1).1 = 1 := by
    unfold a_open
    repeat' split
    all_goals simp
  simp only [eL_open_0, eL_open_1, eL_open_2, eL_open_3, eL_open_4, eL_open_7, eL_open_8, eL_open_9, eL_open_12, eL_open_13, eL_open_14, eL_open_15, eL_open_16, isA_r, isA_n, isI_i, isF_f, isL_l, is1_i, is1_r, is1_n, is1_f, true_and, and_true, List.length_cons, List.length_nil, Nat.reduceAdd, Nat.reduceLeDiff, Nat.reduceSub, Option.some.injEq, exists_eq_left', aft_s, aft_n, ite_true, ite_false, if_true, if_false, Nat.zero_le, Nat.le_refl, reduceCtorEq]
  refine ⟨J.1.xo, invk c n (Nat.le_refl _) (Nat.le_refl _) (p_open J.1 O hc hn (fun H' C' => ?_))⟩
  have J' := J.cls D C'
  obtain ⟨f', jf1, jf2⟩ := J'.2.2.1
  rcases hp with hp | hp
  · rw [hp] at hK
    rw [ou_0 hp]
    simp only [eL_open_0, eL_open_1, eL_open_2, eL_open_3, eL_open_4, eL_open_7, eL_open_8, eL_open_9, eL_open_12, eL_open_13, eL_open_14, eL_open_15, eL_open_16, isA_r, isA_n, isI_i, isF_f, isL_l, is1_i, is1_r, is1_n, is1_f, true_and, and_true, List.length_cons, List.length_nil, Nat.reduceAdd, Nat.reduceLeDiff, Nat.reduceSub, Option.some.injEq, exists_eq_left', aft_s, aft_n, ite_true, ite_false, if_true, if_false, Nat.zero_le, Nat.le_refl, reduceCtorEq, rwJ_of jf1, b01_0, c0_0]
    exact hK _ _ (J'.out D (if_pos rfl)) (fun _ => rfl)
  · rw [hp] at hK
    rw [ou_k (k := 0) hp]
    refine aft_h rfl rfl (fun q => ?_)
    simp only [eL_open_0, eL_open_1, eL_open_2, eL_open_3, eL_open_4, eL_open_7, eL_open_8, eL_open_9, eL_open_12, eL_open_13, eL_open_14, eL_open_15, eL_open_16, isA_r, isA_n, isI_i, isF_f, isL_l, is1_i, is1_r, is1_n, is1_f, true_and, and_true, List.length_cons, List.length_nil, Nat.reduceAdd, Nat.reduceLeDiff, Nat.reduceSub, Option.some.injEq, exists_eq_left', aft_s, aft_n, ite_true, ite_false, if_true, if_false, Nat.zero_le, Nat.le_refl, reduceCtorEq]
    exact hK v H' J' (fun h => absurd h (by decide))
theorem h_setPrivate (D : LD mo ad ra rD) (J : LJ E x mo ad ra rD σ σm th v w H) (O : Ok σ)  {v1 : Int32} {p2 : Bool} (hc : 2 ≤ c) (hn : 12 ≤ n) (hK : ∀ v' H', LJ E x mo ad ra rD (q_setPrivate σ v1 p2).2.2 σm th v' w H' → ((q_setPrivate σ v1 p2).1 = 0 → v' = (if (q_setPrivate σ v1 p2).2.1 = 0 then 0 else 1 : Int64)) → K (.inl (some (.int (nI (q_setPrivate σ v1 p2).1)))) H') : CRd TTv E (d + 14) mL_setPrivate [.ref x, .int v1, .int (b2 p2), .ref ra] H c n K := by
  refine crd rfl ?_
  show Ev E (d + 13) mL_setPrivate K 0 [.ref x, .int v1, .int (b2 p2), .ref ra, .retAddr 0] [] H c n
  have hp : (q_setPrivate σ v1 p2).1 = 0 ∨ (q_setPrivate σ v1 p2).1 = 1 := by
    unfold q_setPrivate
    repeat' split
    all_goals simp
  simp only [eL_setPrivate_0, eL_setPrivate_1, eL_setPrivate_2, eL_setPrivate_3, eL_setPrivate_4, eL_setPrivate_5, eL_setPrivate_8, eL_setPrivate_11, eL_setPrivate_12, eL_setPrivate_15, eL_setPrivate_16, eL_setPrivate_17, eL_setPrivate_20, eL_setPrivate_22, eL_setPrivate_23, eL_setPrivate_24, eL_setPrivate_25, isA_r, isA_n, isI_i, isF_f, isL_l, is1_i, is1_r, is1_n, is1_f, true_and, and_true, List.length_cons, List.length_nil, Nat.reduceAdd, Nat.reduceLeDiff, Nat.reduceSub, Option.some.injEq, exists_eq_left', aft_s, aft_n, ite_true, ite_false, if_true, if_false, Nat.zero_le, Nat.le_refl, reduceCtorEq]
  refine ⟨J.1.xo, invk c n (Nat.le_refl _) (Nat.le_refl _) (p_setPrivate J.1 O hc hn (fun H' C' => ?_))⟩
  have J' := J.cls D C'
  obtain ⟨f', jf1, jf2⟩ := J'.2.2.1
  rcases hp with hp | hp
  · rw [hp] at hK
    rw [ou_0 hp]
    by_cases hz : (q_setPrivate σ v1 p2).2.1 = 0
    · have e : ((q_setPrivate σ v1 p2).2.1 = 0) = True := eq_true hz
      rw [if_pos hz] at hK
      simp only [eL_setPrivate_0, eL_setPrivate_1, eL_setPrivate_2, eL_setPrivate_3, eL_setPrivate_4, eL_setPrivate_5, eL_setPrivate_8, eL_setPrivate_11, eL_setPrivate_12, eL_setPrivate_15, eL_setPrivate_16, eL_setPrivate_17, eL_setPrivate_20, eL_setPrivate_22, eL_setPrivate_23, eL_setPrivate_24, eL_setPrivate_25, isA_r, isA_n, isI_i, isF_f, isL_l, is1_i, is1_r, is1_n, is1_f, true_and, and_true, List.length_cons, List.length_nil, Nat.reduceAdd, Nat.reduceLeDiff, Nat.reduceSub, Option.some.injEq, exists_eq_left', aft_s, aft_n, ite_true, ite_false, if_true, if_false, Nat.zero_le, Nat.le_refl, reduceCtorEq, e, rwJ_of jf1, b01_0, c0_0]
      exact hK _ _ (J'.out D (if_pos rfl)) (fun _ => rfl)
    · have e : ((q_setPrivate σ v1 p2).2.1 = 0) = False := eq_false hz
      rw [if_neg hz] at hK
      simp only [eL_setPrivate_0, eL_setPrivate_1, eL_setPrivate_2, eL_setPrivate_3, eL_setPrivate_4, eL_setPrivate_5, eL_setPrivate_8, eL_setPrivate_11, eL_setPrivate_12, eL_setPrivate_15, eL_setPrivate_16, eL_setPrivate_17, eL_setPrivate_20, eL_setPrivate_22, eL_setPrivate_23, eL_setPrivate_24, eL_setPrivate_25, isA_r, isA_n, isI_i, isF_f, isL_l, is1_i, is1_r, is1_n, is1_f, true_and, and_true, List.length_cons, List.length_nil, Nat.reduceAdd, Nat.reduceLeDiff, Nat.reduceSub, Option.some.injEq, exists_eq_left', aft_s, aft_n, ite_true, ite_false, if_true, if_false, Nat.zero_le, Nat.le_refl, reduceCtorEq, e, rwJ_of jf1, b01_0, c0_0]
      exact hK _ _ (J'.out D (if_pos rfl)) (fun _ => rfl)
  · rw [hp] at hK
    rw [ou_k (k := 0) hp]
    refine aft_h rfl rfl (fun q => ?_)
    simp only [eL_setPrivate_0, eL_setPrivate_1, eL_setPrivate_2, eL_setPrivate_3, eL_setPrivate_4, eL_setPrivate_5, eL_setPrivate_8, eL_setPrivate_11, eL_setPrivate_12, eL_setPrivate_15, eL_setPrivate_16, eL_setPrivate_17, eL_setPrivate_20, eL_setPrivate_22, eL_setPrivate_23, eL_setPrivate_24, eL_setPrivate_25, isA_r, isA_n, isI_i, isF_f, isL_l, is1_i, is1_r, is1_n, is1_f, true_and, and_true, List.length_cons, List.length_nil, Nat.reduceAdd, Nat.reduceLeDiff, Nat.reduceSub, Option.some.injEq, exists_eq_left', aft_s, aft_n, ite_true, ite_false, if_true, if_false, Nat.zero_le, Nat.le_refl, reduceCtorEq]
    exact hK v H' J' (fun h => absurd h (by decide))
theorem h_drop (D : LD mo ad ra rD) (J : LJ E x mo ad ra rD σ σm th v w H) (G : Good σ T) (hT : T + 200 < 16384)  {v1 : Int32} (hc : JJ (a_drop σ v1).2.2 + 400 ≤ JJ σ + c) (hn : 4 * JJ (a_drop σ v1).2.2 + 1600 ≤ 4 * JJ σ + n) (hK : ∀ v' H', LJ E x mo ad ra rD (a_drop σ v1).2.2 σm th v' w H' → ((a_drop σ v1).1 = 0 → v' = (a_drop σ v1).2.1.toInt64) → K (.inl (some (.int (nI (a_drop σ v1).1)))) H') : CRd TTv E (d + 14) mL_drop [.ref x, .int v1, .ref ra] H c n K := by
  refine crd rfl ?_
  show Ev E (d + 13) mL_drop K 0 [.ref x, .int v1, .ref ra, .retAddr 0] [] H c n
  have hp : (a_drop σ v1).1 = 0 ∨ (a_drop σ v1).1 = 1 ∨ (a_drop σ v1).1 = 2 := by
    unfold a_drop
    repeat' split
    all_goals simp
  simp only [eL_drop_0, eL_drop_1, eL_drop_2, eL_drop_3, eL_drop_4, eL_drop_7, eL_drop_8, eL_drop_9, eL_drop_12, eL_drop_13, eL_drop_14, eL_drop_15, eL_drop_16, eL_drop_17, eL_drop_18, eL_drop_19, isA_r, isA_n, isI_i, isF_f, isL_l, is1_i, is1_r, is1_n, is1_f, true_and, and_true, List.length_cons, List.length_nil, Nat.reduceAdd, Nat.reduceLeDiff, Nat.reduceSub, Option.some.injEq, exists_eq_left', aft_s, aft_n, ite_true, ite_false, if_true, if_false, Nat.zero_le, Nat.le_refl, reduceCtorEq]
  refine ⟨J.1.xo, invk c n (Nat.le_refl _) (Nat.le_refl _) (p_drop J.1 G hT hc hn (fun H' C' => ?_))⟩
  have J' := J.cls D C'
  obtain ⟨f', jf1, jf2⟩ := J'.2.2.1
  rcases hp with hp | hp | hp
  · rw [hp] at hK
    rw [ou_0 hp]
    simp only [eL_drop_0, eL_drop_1, eL_drop_2, eL_drop_3, eL_drop_4, eL_drop_7, eL_drop_8, eL_drop_9, eL_drop_12, eL_drop_13, eL_drop_14, eL_drop_15, eL_drop_16, eL_drop_17, eL_drop_18, eL_drop_19, isA_r, isA_n, isI_i, isF_f, isL_l, is1_i, is1_r, is1_n, is1_f, true_and, and_true, List.length_cons, List.length_nil, Nat.reduceAdd, Nat.reduceLeDiff, Nat.reduceSub, Option.some.injEq, exists_eq_left', aft_s, aft_n, ite_true, ite_false, if_true, if_false, Nat.zero_le, Nat.le_refl, reduceCtorEq, rwJ_of jf1, b01_0, c0_0]
    exact hK _ _ (J'.out D (if_pos rfl)) (fun _ => rfl)
  · rw [hp] at hK
    rw [ou_k (k := 0) hp]
    refine aft_h rfl rfl (fun q => ?_)
    simp only [eL_drop_0, eL_drop_1, eL_drop_2, eL_drop_3, eL_drop_4, eL_drop_7, eL_drop_8, eL_drop_9, eL_drop_12, eL_drop_13, eL_drop_14, eL_drop_15, eL_drop_16, eL_drop_17, eL_drop_18, eL_drop_19, isA_r, isA_n, isI_i, isF_f, isL_l, is1_i, is1_r, is1_n, is1_f, true_and, and_true, List.length_cons, List.length_nil, Nat.reduceAdd, Nat.reduceLeDiff, Nat.reduceSub, Option.some.injEq, exists_eq_left', aft_s, aft_n, ite_true, ite_false, if_true, if_false, Nat.zero_le, Nat.le_refl, reduceCtorEq]
    exact hK v H' J' (fun h => absurd h (by decide))
  · rw [hp] at hK
    rw [ou_k (k := 1) hp]
    refine aft_h rfl rfl (fun q => ?_)
    simp only [eL_drop_0, eL_drop_1, eL_drop_2, eL_drop_3, eL_drop_4, eL_drop_7, eL_drop_8, eL_drop_9, eL_drop_12, eL_drop_13, eL_drop_14, eL_drop_15, eL_drop_16, eL_drop_17, eL_drop_18, eL_drop_19, isA_r, isA_n, isI_i, isF_f, isL_l, is1_i, is1_r, is1_n, is1_f, true_and, and_true, List.length_cons, List.length_nil, Nat.reduceAdd, Nat.reduceLeDiff, Nat.reduceSub, Option.some.injEq, exists_eq_left', aft_s, aft_n, ite_true, ite_false, if_true, if_false, Nat.zero_le, Nat.le_refl, reduceCtorEq]
    exact hK v H' J' (fun h => absurd h (by decide))
theorem h_takeUp (D : LD mo ad ra rD) (J : LJ E x mo ad ra rD σ σm th v w H) (G : Good σ T) (hT : T + 200 < 16384)  {v1 : Int32} (hc : JJ (a_takeUp σ v1).2.2 + 400 ≤ JJ σ + c) (hn : 4 * JJ (a_takeUp σ v1).2.2 + 1600 ≤ 4 * JJ σ + n) (hK : ∀ v' H', LJ E x mo ad ra rD (a_takeUp σ v1).2.2 σm th v' w H' → ((a_takeUp σ v1).1 = 0 → v' = (a_takeUp σ v1).2.1.toInt64) → K (.inl (some (.int (nI (a_takeUp σ v1).1)))) H') : CRd TTv E (d + 14) mL_takeUp [.ref x, .int v1, .ref ra] H c n K := by
  refine crd rfl ?_
  show Ev E (d + 13) mL_takeUp K 0 [.ref x, .int v1, .ref ra, .retAddr 0] [] H c n
  have hp : (a_takeUp σ v1).1 = 0 ∨ (a_takeUp σ v1).1 = 1 ∨ (a_takeUp σ v1).1 = 2 := by
    unfold a_takeUp
    repeat' split
    all_goals simp
  simp only [eL_takeUp_0, eL_takeUp_1, eL_takeUp_2, eL_takeUp_3, eL_takeUp_4, eL_takeUp_7, eL_takeUp_8, eL_takeUp_9, eL_takeUp_12, eL_takeUp_13, eL_takeUp_14, eL_takeUp_15, eL_takeUp_16, eL_takeUp_17, eL_takeUp_18, eL_takeUp_19, isA_r, isA_n, isI_i, isF_f, isL_l, is1_i, is1_r, is1_n, is1_f, true_and, and_true, List.length_cons, List.length_nil, Nat.reduceAdd, Nat.reduceLeDiff, Nat.reduceSub, Option.some.injEq, exists_eq_left', aft_s, aft_n, ite_true, ite_false, if_true, if_false, Nat.zero_le, Nat.le_refl, reduceCtorEq]
  refine ⟨J.1.xo, invk c n (Nat.le_refl _) (Nat.le_refl _) (p_takeUp J.1 G hT hc hn (fun H' C' => ?_))⟩
  have J' := J.cls D C'
  obtain ⟨f', jf1, jf2⟩ := J'.2.2.1
  rcases hp with hp | hp | hp
  · rw [hp] at hK
    rw [ou_0 hp]
    simp only [eL_takeUp_0, eL_takeUp_1, eL_takeUp_2, eL_takeUp_3, eL_takeUp_4, eL_takeUp_7, eL_takeUp_8, eL_takeUp_9, eL_takeUp_12, eL_takeUp_13, eL_takeUp_14, eL_takeUp_15, eL_takeUp_16, eL_takeUp_17, eL_takeUp_18, eL_takeUp_19, isA_r, isA_n, isI_i, isF_f, isL_l, is1_i, is1_r, is1_n, is1_f, true_and, and_true, List.length_cons, List.length_nil, Nat.reduceAdd, Nat.reduceLeDiff, Nat.reduceSub, Option.some.injEq, exists_eq_left', aft_s, aft_n, ite_true, ite_false, if_true, if_false, Nat.zero_le, Nat.le_refl, reduceCtorEq, rwJ_of jf1, b01_0, c0_0]
    exact hK _ _ (J'.out D (if_pos rfl)) (fun _ => rfl)
  · rw [hp] at hK
    rw [ou_k (k := 0) hp]
    refine aft_h rfl rfl (fun q => ?_)
    simp only [eL_takeUp_0, eL_takeUp_1, eL_takeUp_2, eL_takeUp_3, eL_takeUp_4, eL_takeUp_7, eL_takeUp_8, eL_takeUp_9, eL_takeUp_12, eL_takeUp_13, eL_takeUp_14, eL_takeUp_15, eL_takeUp_16, eL_takeUp_17, eL_takeUp_18, eL_takeUp_19, isA_r, isA_n, isI_i, isF_f, isL_l, is1_i, is1_r, is1_n, is1_f, true_and, and_true, List.length_cons, List.length_nil, Nat.reduceAdd, Nat.reduceLeDiff, Nat.reduceSub, Option.some.injEq, exists_eq_left', aft_s, aft_n, ite_true, ite_false, if_true, if_false, Nat.zero_le, Nat.le_refl, reduceCtorEq]
    exact hK v H' J' (fun h => absurd h (by decide))
  · rw [hp] at hK
    rw [ou_k (k := 1) hp]
    refine aft_h rfl rfl (fun q => ?_)
    simp only [eL_takeUp_0, eL_takeUp_1, eL_takeUp_2, eL_takeUp_3, eL_takeUp_4, eL_takeUp_7, eL_takeUp_8, eL_takeUp_9, eL_takeUp_12, eL_takeUp_13, eL_takeUp_14, eL_takeUp_15, eL_takeUp_16, eL_takeUp_17, eL_takeUp_18, eL_takeUp_19, isA_r, isA_n, isI_i, isF_f, isL_l, is1_i, is1_r, is1_n, is1_f, true_and, and_true, List.length_cons, List.length_nil, Nat.reduceAdd, Nat.reduceLeDiff, Nat.reduceSub, Option.some.injEq, exists_eq_left', aft_s, aft_n, ite_true, ite_false, if_true, if_false, Nat.zero_le, Nat.le_refl, reduceCtorEq]
    exact hK v H' J' (fun h => absurd h (by decide))
theorem h_isAttached (D : LD mo ad ra rD) (J : LJ E x mo ad ra rD σ σm th v w H) (O : Ok σ)  {v1 : Int32} (hc : 2 ≤ c) (hn : 12 ≤ n) (hK : ∀ v' H', LJ E x mo ad ra rD (q_isAttached σ v1).2.2 σm th v' w H' → ((q_isAttached σ v1).1 = 0 → v' = (if (q_isAttached σ v1).2.1 = 0 then 0 else 1 : Int64)) → K (.inl (some (.int (nI (q_isAttached σ v1).1)))) H') : CRd TTv E (d + 14) mL_isAttached [.ref x, .int v1, .ref ra] H c n K := by
  refine crd rfl ?_
  show Ev E (d + 13) mL_isAttached K 0 [.ref x, .int v1, .ref ra, .retAddr 0] [] H c n
  have hp : (q_isAttached σ v1).1 = 0 ∨ (q_isAttached σ v1).1 = 1 := by
    unfold q_isAttached
    repeat' split
    all_goals simp
  simp only [eL_isAttached_0, eL_isAttached_1, eL_isAttached_2, eL_isAttached_3, eL_isAttached_4, eL_isAttached_7, eL_isAttached_10, eL_isAttached_11, eL_isAttached_14, eL_isAttached_15, eL_isAttached_16, eL_isAttached_19, eL_isAttached_20, eL_isAttached_21, eL_isAttached_22, eL_isAttached_23, isA_r, isA_n, isI_i, isF_f, isL_l, is1_i, is1_r, is1_n, is1_f, true_and, and_true, List.length_cons, List.length_nil, Nat.reduceAdd, Nat.reduceLeDiff, Nat.reduceSub, Option.some.injEq, exists_eq_left', aft_s, aft_n, ite_true, ite_false, if_true, if_false, Nat.zero_le, Nat.le_refl, reduceCtorEq]
  refine ⟨J.1.xo, invk c n (Nat.le_refl _) (Nat.le_refl _) (p_isAttached J.1 O hc hn (fun H' C' => ?_))⟩
  have J' := J.cls D C'
  obtain ⟨f', jf1, jf2⟩ := J'.2.2.1
  rcases hp with hp | hp
  · rw [hp] at hK
    rw [ou_0 hp]
    by_cases hz : (q_isAttached σ v1).2.1 = 0
    · have e : ((q_isAttached σ v1).2.1 = 0) = True := eq_true hz
      rw [if_pos hz] at hK
      simp only [eL_isAttached_0, eL_isAttached_1, eL_isAttached_2, eL_isAttached_3, eL_isAttached_4, eL_isAttached_7, eL_isAttached_10, eL_isAttached_11, eL_isAttached_14, eL_isAttached_15, eL_isAttached_16, eL_isAttached_19, eL_isAttached_20, eL_isAttached_21, eL_isAttached_22, eL_isAttached_23, isA_r, isA_n, isI_i, isF_f, isL_l, is1_i, is1_r, is1_n, is1_f, true_and, and_true, List.length_cons, List.length_nil, Nat.reduceAdd, Nat.reduceLeDiff, Nat.reduceSub, Option.some.injEq, exists_eq_left', aft_s, aft_n, ite_true, ite_false, if_true, if_false, Nat.zero_le, Nat.le_refl, reduceCtorEq, e, rwJ_of jf1, b01_0, c0_0]
      exact hK _ _ (J'.out D (if_pos rfl)) (fun _ => rfl)
    · have e : ((q_isAttached σ v1).2.1 = 0) = False := eq_false hz
      rw [if_neg hz] at hK
      simp only [eL_isAttached_0, eL_isAttached_1, eL_isAttached_2, eL_isAttached_3, eL_isAttached_4, eL_isAttached_7, eL_isAttached_10, eL_isAttached_11, eL_isAttached_14, eL_isAttached_15, eL_isAttached_16, eL_isAttached_19, eL_isAttached_20, eL_isAttached_21, eL_isAttached_22, eL_isAttached_23, isA_r, isA_n, isI_i, isF_f, isL_l, is1_i, is1_r, is1_n, is1_f, true_and, and_true, List.length_cons, List.length_nil, Nat.reduceAdd, Nat.reduceLeDiff, Nat.reduceSub, Option.some.injEq, exists_eq_left', aft_s, aft_n, ite_true, ite_false, if_true, if_false, Nat.zero_le, Nat.le_refl, reduceCtorEq, e, rwJ_of jf1, b01_0, c0_0]
      exact hK _ _ (J'.out D (if_pos rfl)) (fun _ => rfl)
  · rw [hp] at hK
    rw [ou_k (k := 0) hp]
    refine aft_h rfl rfl (fun q => ?_)
    simp only [eL_isAttached_0, eL_isAttached_1, eL_isAttached_2, eL_isAttached_3, eL_isAttached_4, eL_isAttached_7, eL_isAttached_10, eL_isAttached_11, eL_isAttached_14, eL_isAttached_15, eL_isAttached_16, eL_isAttached_19, eL_isAttached_20, eL_isAttached_21, eL_isAttached_22, eL_isAttached_23, isA_r, isA_n, isI_i, isF_f, isL_l, is1_i, is1_r, is1_n, is1_f, true_and, and_true, List.length_cons, List.length_nil, Nat.reduceAdd, Nat.reduceLeDiff, Nat.reduceSub, Option.some.injEq, exists_eq_left', aft_s, aft_n, ite_true, ite_false, if_true, if_false, Nat.zero_le, Nat.le_refl, reduceCtorEq]
    exact hK v H' J' (fun h => absurd h (by decide))
theorem h_kept (D : LD mo ad ra rD) (J : LJ E x mo ad ra rD σ σm th v w H) (O : Ok σ)  {v1 : Int32} (hc : 2 ≤ c) (hn : 12 ≤ n) (hK : ∀ v' H', LJ E x mo ad ra rD (q_kept σ v1).2.2 σm th v' w H' → ((q_kept σ v1).1 = 0 → v' = (q_kept σ v1).2.1.toInt64) → K (.inl (some (.int (nI (q_kept σ v1).1)))) H') : CRd TTv E (d + 14) mL_kept [.ref x, .int v1, .ref ra] H c n K := by
  refine crd rfl ?_
  show Ev E (d + 13) mL_kept K 0 [.ref x, .int v1, .ref ra, .retAddr 0] [] H c n
  have hp : (q_kept σ v1).1 = 0 ∨ (q_kept σ v1).1 = 1 := by
    unfold q_kept
    repeat' split
    all_goals simp
  simp only [eL_kept_0, eL_kept_1, eL_kept_2, eL_kept_3, eL_kept_4, eL_kept_7, eL_kept_8, eL_kept_9, eL_kept_12, eL_kept_13, eL_kept_14, eL_kept_15, eL_kept_16, isA_r, isA_n, isI_i, isF_f, isL_l, is1_i, is1_r, is1_n, is1_f, true_and, and_true, List.length_cons, List.length_nil, Nat.reduceAdd, Nat.reduceLeDiff, Nat.reduceSub, Option.some.injEq, exists_eq_left', aft_s, aft_n, ite_true, ite_false, if_true, if_false, Nat.zero_le, Nat.le_refl, reduceCtorEq]
  refine ⟨J.1.xo, invk c n (Nat.le_refl _) (Nat.le_refl _) (p_kept J.1 O hc hn (fun H' C' => ?_))⟩
  have J' := J.cls D C'
  obtain ⟨f', jf1, jf2⟩ := J'.2.2.1
  rcases hp with hp | hp
  · rw [hp] at hK
    rw [ou_0 hp]
    simp only [eL_kept_0, eL_kept_1, eL_kept_2, eL_kept_3, eL_kept_4, eL_kept_7, eL_kept_8, eL_kept_9, eL_kept_12, eL_kept_13, eL_kept_14, eL_kept_15, eL_kept_16, isA_r, isA_n, isI_i, isF_f, isL_l, is1_i, is1_r, is1_n, is1_f, true_and, and_true, List.length_cons, List.length_nil, Nat.reduceAdd, Nat.reduceLeDiff, Nat.reduceSub, Option.some.injEq, exists_eq_left', aft_s, aft_n, ite_true, ite_false, if_true, if_false, Nat.zero_le, Nat.le_refl, reduceCtorEq, rwJ_of jf1, b01_0, c0_0]
    exact hK _ _ (J'.out D (if_pos rfl)) (fun _ => rfl)
  · rw [hp] at hK
    rw [ou_k (k := 0) hp]
    refine aft_h rfl rfl (fun q => ?_)
    simp only [eL_kept_0, eL_kept_1, eL_kept_2, eL_kept_3, eL_kept_4, eL_kept_7, eL_kept_8, eL_kept_9, eL_kept_12, eL_kept_13, eL_kept_14, eL_kept_15, eL_kept_16, isA_r, isA_n, isI_i, isF_f, isL_l, is1_i, is1_r, is1_n, is1_f, true_and, and_true, List.length_cons, List.length_nil, Nat.reduceAdd, Nat.reduceLeDiff, Nat.reduceSub, Option.some.injEq, exists_eq_left', aft_s, aft_n, ite_true, ite_false, if_true, if_false, Nat.zero_le, Nat.le_refl, reduceCtorEq]
    exact hK v H' J' (fun h => absurd h (by decide))
theorem h_commandAt (D : LD mo ad ra rD) (J : LJ E x mo ad ra rD σ σm th v w H) (O : Ok σ)  {v1 v2 : Int32} (hc : 2 ≤ c) (hn : 12 ≤ n) (hK : ∀ v' H', LJ E x mo ad ra rD (q_commandAt σ v1 v2).2.2 σm th v' w H' → ((q_commandAt σ v1 v2).1 = 0 → v' = (q_commandAt σ v1 v2).2.1.toInt64) → K (.inl (some (.int (nI (q_commandAt σ v1 v2).1)))) H') : CRd TTv E (d + 14) mL_commandAt [.ref x, .int v1, .int v2, .ref ra] H c n K := by
  refine crd rfl ?_
  show Ev E (d + 13) mL_commandAt K 0 [.ref x, .int v1, .int v2, .ref ra, .retAddr 0] [] H c n
  have hp : (q_commandAt σ v1 v2).1 = 0 ∨ (q_commandAt σ v1 v2).1 = 1 ∨ (q_commandAt σ v1 v2).1 = 2 := by
    unfold q_commandAt
    repeat' split
    all_goals simp
  simp only [eL_commandAt_0, eL_commandAt_1, eL_commandAt_2, eL_commandAt_3, eL_commandAt_4, eL_commandAt_5, eL_commandAt_8, eL_commandAt_9, eL_commandAt_10, eL_commandAt_13, eL_commandAt_15, eL_commandAt_16, eL_commandAt_17, eL_commandAt_19, eL_commandAt_20, eL_commandAt_21, eL_commandAt_22, isA_r, isA_n, isI_i, isF_f, isL_l, is1_i, is1_r, is1_n, is1_f, true_and, and_true, List.length_cons, List.length_nil, Nat.reduceAdd, Nat.reduceLeDiff, Nat.reduceSub, Option.some.injEq, exists_eq_left', aft_s, aft_n, ite_true, ite_false, if_true, if_false, Nat.zero_le, Nat.le_refl, reduceCtorEq]
  refine ⟨J.1.xo, invk c n (Nat.le_refl _) (Nat.le_refl _) (p_commandAt J.1 O hc hn (fun H' C' => ?_))⟩
  have J' := J.cls D C'
  obtain ⟨f', jf1, jf2⟩ := J'.2.2.1
  rcases hp with hp | hp | hp
  · rw [hp] at hK
    rw [ou_0 hp]
    simp only [eL_commandAt_0, eL_commandAt_1, eL_commandAt_2, eL_commandAt_3, eL_commandAt_4, eL_commandAt_5, eL_commandAt_8, eL_commandAt_9, eL_commandAt_10, eL_commandAt_13, eL_commandAt_15, eL_commandAt_16, eL_commandAt_17, eL_commandAt_19, eL_commandAt_20, eL_commandAt_21, eL_commandAt_22, isA_r, isA_n, isI_i, isF_f, isL_l, is1_i, is1_r, is1_n, is1_f, true_and, and_true, List.length_cons, List.length_nil, Nat.reduceAdd, Nat.reduceLeDiff, Nat.reduceSub, Option.some.injEq, exists_eq_left', aft_s, aft_n, ite_true, ite_false, if_true, if_false, Nat.zero_le, Nat.le_refl, reduceCtorEq, rwJ_of jf1, b01_0, c0_0]
    exact hK _ _ (J'.out D (if_pos rfl)) (fun _ => rfl)
  · rw [hp] at hK
    rw [ou_k (k := 0) hp]
    refine aft_h rfl rfl (fun q => ?_)
    simp only [eL_commandAt_0, eL_commandAt_1, eL_commandAt_2, eL_commandAt_3, eL_commandAt_4, eL_commandAt_5, eL_commandAt_8, eL_commandAt_9, eL_commandAt_10, eL_commandAt_13, eL_commandAt_15, eL_commandAt_16, eL_commandAt_17, eL_commandAt_19, eL_commandAt_20, eL_commandAt_21, eL_commandAt_22, isA_r, isA_n, isI_i, isF_f, isL_l, is1_i, is1_r, is1_n, is1_f, true_and, and_true, List.length_cons, List.length_nil, Nat.reduceAdd, Nat.reduceLeDiff, Nat.reduceSub, Option.some.injEq, exists_eq_left', aft_s, aft_n, ite_true, ite_false, if_true, if_false, Nat.zero_le, Nat.le_refl, reduceCtorEq]
    exact hK v H' J' (fun h => absurd h (by decide))
  · rw [hp] at hK
    rw [ou_k (k := 1) hp]
    refine aft_h rfl rfl (fun q => ?_)
    simp only [eL_commandAt_0, eL_commandAt_1, eL_commandAt_2, eL_commandAt_3, eL_commandAt_4, eL_commandAt_5, eL_commandAt_8, eL_commandAt_9, eL_commandAt_10, eL_commandAt_13, eL_commandAt_15, eL_commandAt_16, eL_commandAt_17, eL_commandAt_19, eL_commandAt_20, eL_commandAt_21, eL_commandAt_22, isA_r, isA_n, isI_i, isF_f, isL_l, is1_i, is1_r, is1_n, is1_f, true_and, and_true, List.length_cons, List.length_nil, Nat.reduceAdd, Nat.reduceLeDiff, Nat.reduceSub, Option.some.injEq, exists_eq_left', aft_s, aft_n, ite_true, ite_false, if_true, if_false, Nat.zero_le, Nat.le_refl, reduceCtorEq]
    exact hK v H' J' (fun h => absurd h (by decide))
theorem h_commonAt (D : LD mo ad ra rD) (J : LJ E x mo ad ra rD σ σm th v w H) (O : Ok σ)  {v1 : Int32} (hc : 2 ≤ c) (hn : 12 ≤ n) (hK : ∀ v' H', LJ E x mo ad ra rD (q_commonAt σ v1).2.2 σm th v' w H' → ((q_commonAt σ v1).1 = 0 → v' = (q_commonAt σ v1).2.1.toInt64) → K (.inl (some (.int (nI (q_commonAt σ v1).1)))) H') : CRd TTv E (d + 14) mL_commonAt [.ref x, .int v1, .ref ra] H c n K := by
  refine crd rfl ?_
  show Ev E (d + 13) mL_commonAt K 0 [.ref x, .int v1, .ref ra, .retAddr 0] [] H c n
  have hp : (q_commonAt σ v1).1 = 0 ∨ (q_commonAt σ v1).1 = 1 := by
    unfold q_commonAt
    repeat' split
    all_goals simp
  simp only [eL_commonAt_0, eL_commonAt_1, eL_commonAt_2, eL_commonAt_3, eL_commonAt_4, eL_commonAt_7, eL_commonAt_8, eL_commonAt_9, eL_commonAt_12, eL_commonAt_13, eL_commonAt_14, eL_commonAt_15, eL_commonAt_16, isA_r, isA_n, isI_i, isF_f, isL_l, is1_i, is1_r, is1_n, is1_f, true_and, and_true, List.length_cons, List.length_nil, Nat.reduceAdd, Nat.reduceLeDiff, Nat.reduceSub, Option.some.injEq, exists_eq_left', aft_s, aft_n, ite_true, ite_false, if_true, if_false, Nat.zero_le, Nat.le_refl, reduceCtorEq]
  refine ⟨J.1.xo, invk c n (Nat.le_refl _) (Nat.le_refl _) (p_commonAt J.1 O hc hn (fun H' C' => ?_))⟩
  have J' := J.cls D C'
  obtain ⟨f', jf1, jf2⟩ := J'.2.2.1
  rcases hp with hp | hp
  · rw [hp] at hK
    rw [ou_0 hp]
    simp only [eL_commonAt_0, eL_commonAt_1, eL_commonAt_2, eL_commonAt_3, eL_commonAt_4, eL_commonAt_7, eL_commonAt_8, eL_commonAt_9, eL_commonAt_12, eL_commonAt_13, eL_commonAt_14, eL_commonAt_15, eL_commonAt_16, isA_r, isA_n, isI_i, isF_f, isL_l, is1_i, is1_r, is1_n, is1_f, true_and, and_true, List.length_cons, List.length_nil, Nat.reduceAdd, Nat.reduceLeDiff, Nat.reduceSub, Option.some.injEq, exists_eq_left', aft_s, aft_n, ite_true, ite_false, if_true, if_false, Nat.zero_le, Nat.le_refl, reduceCtorEq, rwJ_of jf1, b01_0, c0_0]
    exact hK _ _ (J'.out D (if_pos rfl)) (fun _ => rfl)
  · rw [hp] at hK
    rw [ou_k (k := 0) hp]
    refine aft_h rfl rfl (fun q => ?_)
    simp only [eL_commonAt_0, eL_commonAt_1, eL_commonAt_2, eL_commonAt_3, eL_commonAt_4, eL_commonAt_7, eL_commonAt_8, eL_commonAt_9, eL_commonAt_12, eL_commonAt_13, eL_commonAt_14, eL_commonAt_15, eL_commonAt_16, isA_r, isA_n, isI_i, isF_f, isL_l, is1_i, is1_r, is1_n, is1_f, true_and, and_true, List.length_cons, List.length_nil, Nat.reduceAdd, Nat.reduceLeDiff, Nat.reduceSub, Option.some.injEq, exists_eq_left', aft_s, aft_n, ite_true, ite_false, if_true, if_false, Nat.zero_le, Nat.le_refl, reduceCtorEq]
    exact hK v H' J' (fun h => absurd h (by decide))
theorem h_search (D : LD mo ad ra rD) (J : LJ E x mo ad ra rD σ σm th v w H) (O : Ok σ)  {v1 v2 v3 : Int32} (hc : 2 ≤ c) (hn : 12 ≤ n) (hK : ∀ v' H', LJ E x mo ad ra rD (a_search σ v1 v2 v3).2.2 σm th v' w H' → ((a_search σ v1 v2 v3).1 = 0 → v' = (a_search σ v1 v2 v3).2.1.toInt64) → K (.inl (some (.int (nI (a_search σ v1 v2 v3).1)))) H') : CRd TTv E (d + 14) mL_search [.ref x, .int v1, .int v2, .int v3, .ref ra] H c n K := by
  refine crd rfl ?_
  show Ev E (d + 13) mL_search K 0 [.ref x, .int v1, .int v2, .int v3, .ref ra, .retAddr 0] [] H c n
  have hp : (a_search σ v1 v2 v3).1 = 0 ∨ (a_search σ v1 v2 v3).1 = 1 ∨ (a_search σ v1 v2 v3).1 = 2 ∨ (a_search σ v1 v2 v3).1 = 3 := by
    unfold a_search
    repeat' split
    all_goals first | simp | skip
    all_goals (unfold sres sres2; repeat' split)
    all_goals simp
  simp only [eL_search_0, eL_search_2, eL_search_3, eL_search_4, eL_search_5, eL_search_6, eL_search_7, eL_search_10, eL_search_11, eL_search_12, eL_search_15, eL_search_17, eL_search_18, eL_search_19, eL_search_21, eL_search_22, eL_search_23, eL_search_25, eL_search_26, eL_search_27, eL_search_28, isA_r, isA_n, isI_i, isF_f, isL_l, is1_i, is1_r, is1_n, is1_f, true_and, and_true, List.length_cons, List.length_nil, Nat.reduceAdd, Nat.reduceLeDiff, Nat.reduceSub, Option.some.injEq, exists_eq_left', aft_s, aft_n, ite_true, ite_false, if_true, if_false, Nat.zero_le, Nat.le_refl, reduceCtorEq]
  refine ⟨J.1.xo, invk c n (Nat.le_refl _) (Nat.le_refl _) (p_search J.1 O hc hn (fun H' C' => ?_))⟩
  have J' := J.cls D C'
  obtain ⟨f', jf1, jf2⟩ := J'.2.2.1
  rcases hp with hp | hp | hp | hp
  · rw [hp] at hK
    rw [ou_0 hp]
    simp only [eL_search_0, eL_search_2, eL_search_3, eL_search_4, eL_search_5, eL_search_6, eL_search_7, eL_search_10, eL_search_11, eL_search_12, eL_search_15, eL_search_17, eL_search_18, eL_search_19, eL_search_21, eL_search_22, eL_search_23, eL_search_25, eL_search_26, eL_search_27, eL_search_28, isA_r, isA_n, isI_i, isF_f, isL_l, is1_i, is1_r, is1_n, is1_f, true_and, and_true, List.length_cons, List.length_nil, Nat.reduceAdd, Nat.reduceLeDiff, Nat.reduceSub, Option.some.injEq, exists_eq_left', aft_s, aft_n, ite_true, ite_false, if_true, if_false, Nat.zero_le, Nat.le_refl, reduceCtorEq, rwJ_of jf1, b01_0, c0_0]
    exact hK _ _ (J'.out D (if_pos rfl)) (fun _ => rfl)
  · rw [hp] at hK
    rw [ou_k (k := 0) hp]
    refine aft_h rfl rfl (fun q => ?_)
    simp only [eL_search_0, eL_search_2, eL_search_3, eL_search_4, eL_search_5, eL_search_6, eL_search_7, eL_search_10, eL_search_11, eL_search_12, eL_search_15, eL_search_17, eL_search_18, eL_search_19, eL_search_21, eL_search_22, eL_search_23, eL_search_25, eL_search_26, eL_search_27, eL_search_28, isA_r, isA_n, isI_i, isF_f, isL_l, is1_i, is1_r, is1_n, is1_f, true_and, and_true, List.length_cons, List.length_nil, Nat.reduceAdd, Nat.reduceLeDiff, Nat.reduceSub, Option.some.injEq, exists_eq_left', aft_s, aft_n, ite_true, ite_false, if_true, if_false, Nat.zero_le, Nat.le_refl, reduceCtorEq]
    exact hK v H' J' (fun h => absurd h (by decide))
  · rw [hp] at hK
    rw [ou_k (k := 1) hp]
    refine aft_h rfl rfl (fun q => ?_)
    simp only [eL_search_0, eL_search_2, eL_search_3, eL_search_4, eL_search_5, eL_search_6, eL_search_7, eL_search_10, eL_search_11, eL_search_12, eL_search_15, eL_search_17, eL_search_18, eL_search_19, eL_search_21, eL_search_22, eL_search_23, eL_search_25, eL_search_26, eL_search_27, eL_search_28, isA_r, isA_n, isI_i, isF_f, isL_l, is1_i, is1_r, is1_n, is1_f, true_and, and_true, List.length_cons, List.length_nil, Nat.reduceAdd, Nat.reduceLeDiff, Nat.reduceSub, Option.some.injEq, exists_eq_left', aft_s, aft_n, ite_true, ite_false, if_true, if_false, Nat.zero_le, Nat.le_refl, reduceCtorEq]
    exact hK v H' J' (fun h => absurd h (by decide))
  · rw [hp] at hK
    rw [ou_k (k := 2) hp]
    refine aft_h rfl rfl (fun q => ?_)
    simp only [eL_search_0, eL_search_2, eL_search_3, eL_search_4, eL_search_5, eL_search_6, eL_search_7, eL_search_10, eL_search_11, eL_search_12, eL_search_15, eL_search_17, eL_search_18, eL_search_19, eL_search_21, eL_search_22, eL_search_23, eL_search_25, eL_search_26, eL_search_27, eL_search_28, isA_r, isA_n, isI_i, isF_f, isL_l, is1_i, is1_r, is1_n, is1_f, true_and, and_true, List.length_cons, List.length_nil, Nat.reduceAdd, Nat.reduceLeDiff, Nat.reduceSub, Option.some.injEq, exists_eq_left', aft_s, aft_n, ite_true, ite_false, if_true, if_false, Nat.zero_le, Nat.le_refl, reduceCtorEq]
    exact hK v H' J' (fun h => absurd h (by decide))
theorem h_start (D : LD mo ad ra rD) (J : LJ E x mo ad ra rD σ σm th v w H) (G : Good σ T) (hT : T + 200 < 16384)  {v1 v2 v3 v4 : Int32} {p5 : Bool} (hc : JJ (a_start σ v1 v2 v3 v4 p5).2.2 + 400 ≤ JJ σ + c) (hn : 4 * JJ (a_start σ v1 v2 v3 v4 p5).2.2 + 1600 ≤ 4 * JJ σ + n) (hK : ∀ v' H', LJ E x mo ad ra rD (a_start σ v1 v2 v3 v4 p5).2.2 σm th v' w H' → ((a_start σ v1 v2 v3 v4 p5).1 = 0 → v' = (a_start σ v1 v2 v3 v4 p5).2.1.toInt64) → K (.inl (some (.int (nI (a_start σ v1 v2 v3 v4 p5).1)))) H') : CRd TTv E (d + 14) mL_start [.ref x, .int v1, .int v2, .int v3, .int v4, .int (b2 p5), .ref ra] H c n K := by
  refine crd rfl ?_
  show Ev E (d + 13) mL_start K 0 [.ref x, .int v1, .int v2, .int v3, .int v4, .int (b2 p5), .ref ra, .retAddr 0] [] H c n
  have hp : (a_start σ v1 v2 v3 v4 p5).1 = 0 ∨ (a_start σ v1 v2 v3 v4 p5).1 = 1 ∨ (a_start σ v1 v2 v3 v4 p5).1 = 2 ∨ (a_start σ v1 v2 v3 v4 p5).1 = 3 ∨ (a_start σ v1 v2 v3 v4 p5).1 = 4 := by
    unfold a_start
    repeat' split
    all_goals simp
  simp only [eL_start_0, eL_start_2, eL_start_3, eL_start_4, eL_start_5, eL_start_6, eL_start_7, eL_start_9, eL_start_11, eL_start_14, eL_start_15, eL_start_16, eL_start_19, eL_start_21, eL_start_22, eL_start_23, eL_start_25, eL_start_26, eL_start_27, eL_start_29, eL_start_30, eL_start_31, eL_start_33, eL_start_34, eL_start_35, eL_start_36, isA_r, isA_n, isI_i, isF_f, isL_l, is1_i, is1_r, is1_n, is1_f, true_and, and_true, List.length_cons, List.length_nil, Nat.reduceAdd, Nat.reduceLeDiff, Nat.reduceSub, Option.some.injEq, exists_eq_left', aft_s, aft_n, ite_true, ite_false, if_true, if_false, Nat.zero_le, Nat.le_refl, reduceCtorEq]
  refine ⟨J.1.xo, invk c n (Nat.le_refl _) (Nat.le_refl _) (p_start J.1 G hT hc hn (fun H' C' => ?_))⟩
  have J' := J.cls D C'
  obtain ⟨f', jf1, jf2⟩ := J'.2.2.1
  rcases hp with hp | hp | hp | hp | hp
  · rw [hp] at hK
    rw [ou_0 hp]
    simp only [eL_start_0, eL_start_2, eL_start_3, eL_start_4, eL_start_5, eL_start_6, eL_start_7, eL_start_9, eL_start_11, eL_start_14, eL_start_15, eL_start_16, eL_start_19, eL_start_21, eL_start_22, eL_start_23, eL_start_25, eL_start_26, eL_start_27, eL_start_29, eL_start_30, eL_start_31, eL_start_33, eL_start_34, eL_start_35, eL_start_36, isA_r, isA_n, isI_i, isF_f, isL_l, is1_i, is1_r, is1_n, is1_f, true_and, and_true, List.length_cons, List.length_nil, Nat.reduceAdd, Nat.reduceLeDiff, Nat.reduceSub, Option.some.injEq, exists_eq_left', aft_s, aft_n, ite_true, ite_false, if_true, if_false, Nat.zero_le, Nat.le_refl, reduceCtorEq, rwJ_of jf1, b01_0, c0_0]
    exact hK _ _ (J'.out D (if_pos rfl)) (fun _ => rfl)
  · rw [hp] at hK
    rw [ou_k (k := 0) hp]
    refine aft_h rfl rfl (fun q => ?_)
    simp only [eL_start_0, eL_start_2, eL_start_3, eL_start_4, eL_start_5, eL_start_6, eL_start_7, eL_start_9, eL_start_11, eL_start_14, eL_start_15, eL_start_16, eL_start_19, eL_start_21, eL_start_22, eL_start_23, eL_start_25, eL_start_26, eL_start_27, eL_start_29, eL_start_30, eL_start_31, eL_start_33, eL_start_34, eL_start_35, eL_start_36, isA_r, isA_n, isI_i, isF_f, isL_l, is1_i, is1_r, is1_n, is1_f, true_and, and_true, List.length_cons, List.length_nil, Nat.reduceAdd, Nat.reduceLeDiff, Nat.reduceSub, Option.some.injEq, exists_eq_left', aft_s, aft_n, ite_true, ite_false, if_true, if_false, Nat.zero_le, Nat.le_refl, reduceCtorEq]
    exact hK v H' J' (fun h => absurd h (by decide))
  · rw [hp] at hK
    rw [ou_k (k := 1) hp]
    refine aft_h rfl rfl (fun q => ?_)
    simp only [eL_start_0, eL_start_2, eL_start_3, eL_start_4, eL_start_5, eL_start_6, eL_start_7, eL_start_9, eL_start_11, eL_start_14, eL_start_15, eL_start_16, eL_start_19, eL_start_21, eL_start_22, eL_start_23, eL_start_25, eL_start_26, eL_start_27, eL_start_29, eL_start_30, eL_start_31, eL_start_33, eL_start_34, eL_start_35, eL_start_36, isA_r, isA_n, isI_i, isF_f, isL_l, is1_i, is1_r, is1_n, is1_f, true_and, and_true, List.length_cons, List.length_nil, Nat.reduceAdd, Nat.reduceLeDiff, Nat.reduceSub, Option.some.injEq, exists_eq_left', aft_s, aft_n, ite_true, ite_false, if_true, if_false, Nat.zero_le, Nat.le_refl, reduceCtorEq]
    exact hK v H' J' (fun h => absurd h (by decide))
  · rw [hp] at hK
    rw [ou_k (k := 2) hp]
    refine aft_h rfl rfl (fun q => ?_)
    simp only [eL_start_0, eL_start_2, eL_start_3, eL_start_4, eL_start_5, eL_start_6, eL_start_7, eL_start_9, eL_start_11, eL_start_14, eL_start_15, eL_start_16, eL_start_19, eL_start_21, eL_start_22, eL_start_23, eL_start_25, eL_start_26, eL_start_27, eL_start_29, eL_start_30, eL_start_31, eL_start_33, eL_start_34, eL_start_35, eL_start_36, isA_r, isA_n, isI_i, isF_f, isL_l, is1_i, is1_r, is1_n, is1_f, true_and, and_true, List.length_cons, List.length_nil, Nat.reduceAdd, Nat.reduceLeDiff, Nat.reduceSub, Option.some.injEq, exists_eq_left', aft_s, aft_n, ite_true, ite_false, if_true, if_false, Nat.zero_le, Nat.le_refl, reduceCtorEq]
    exact hK v H' J' (fun h => absurd h (by decide))
  · rw [hp] at hK
    rw [ou_k (k := 3) hp]
    refine aft_h rfl rfl (fun q => ?_)
    simp only [eL_start_0, eL_start_2, eL_start_3, eL_start_4, eL_start_5, eL_start_6, eL_start_7, eL_start_9, eL_start_11, eL_start_14, eL_start_15, eL_start_16, eL_start_19, eL_start_21, eL_start_22, eL_start_23, eL_start_25, eL_start_26, eL_start_27, eL_start_29, eL_start_30, eL_start_31, eL_start_33, eL_start_34, eL_start_35, eL_start_36, isA_r, isA_n, isI_i, isF_f, isL_l, is1_i, is1_r, is1_n, is1_f, true_and, and_true, List.length_cons, List.length_nil, Nat.reduceAdd, Nat.reduceLeDiff, Nat.reduceSub, Option.some.injEq, exists_eq_left', aft_s, aft_n, ite_true, ite_false, if_true, if_false, Nat.zero_le, Nat.le_refl, reduceCtorEq]
    exact hK v H' J' (fun h => absurd h (by decide))
theorem h_state (D : LD mo ad ra rD) (J : LJ E x mo ad ra rD σ σm th v w H) (O : Ok σ)  {v1 : Int32} (hc : 2 ≤ c) (hn : 12 ≤ n) (hK : ∀ v' H', LJ E x mo ad ra rD (q_state σ v1).2.2 σm th v' w H' → ((q_state σ v1).1 = 0 → v' = (q_state σ v1).2.1.toInt64) → K (.inl (some (.int (nI (q_state σ v1).1)))) H') : CRd TTv E (d + 14) mL_state [.ref x, .int v1, .ref ra] H c n K := by
  refine crd rfl ?_
  show Ev E (d + 13) mL_state K 0 [.ref x, .int v1, .ref ra, .retAddr 0] [] H c n
  have hp : (q_state σ v1).1 = 0 ∨ (q_state σ v1).1 = 1 := by
    unfold q_state
    repeat' split
    all_goals simp
  simp only [eL_state_0, eL_state_1, eL_state_2, eL_state_3, eL_state_4, eL_state_7, eL_state_8, eL_state_9, eL_state_12, eL_state_13, eL_state_14, eL_state_15, eL_state_16, isA_r, isA_n, isI_i, isF_f, isL_l, is1_i, is1_r, is1_n, is1_f, true_and, and_true, List.length_cons, List.length_nil, Nat.reduceAdd, Nat.reduceLeDiff, Nat.reduceSub, Option.some.injEq, exists_eq_left', aft_s, aft_n, ite_true, ite_false, if_true, if_false, Nat.zero_le, Nat.le_refl, reduceCtorEq]
  refine ⟨J.1.xo, invk c n (Nat.le_refl _) (Nat.le_refl _) (p_state J.1 O hc hn (fun H' C' => ?_))⟩
  have J' := J.cls D C'
  obtain ⟨f', jf1, jf2⟩ := J'.2.2.1
  rcases hp with hp | hp
  · rw [hp] at hK
    rw [ou_0 hp]
    simp only [eL_state_0, eL_state_1, eL_state_2, eL_state_3, eL_state_4, eL_state_7, eL_state_8, eL_state_9, eL_state_12, eL_state_13, eL_state_14, eL_state_15, eL_state_16, isA_r, isA_n, isI_i, isF_f, isL_l, is1_i, is1_r, is1_n, is1_f, true_and, and_true, List.length_cons, List.length_nil, Nat.reduceAdd, Nat.reduceLeDiff, Nat.reduceSub, Option.some.injEq, exists_eq_left', aft_s, aft_n, ite_true, ite_false, if_true, if_false, Nat.zero_le, Nat.le_refl, reduceCtorEq, rwJ_of jf1, b01_0, c0_0]
    exact hK _ _ (J'.out D (if_pos rfl)) (fun _ => rfl)
  · rw [hp] at hK
    rw [ou_k (k := 0) hp]
    refine aft_h rfl rfl (fun q => ?_)
    simp only [eL_state_0, eL_state_1, eL_state_2, eL_state_3, eL_state_4, eL_state_7, eL_state_8, eL_state_9, eL_state_12, eL_state_13, eL_state_14, eL_state_15, eL_state_16, isA_r, isA_n, isI_i, isF_f, isL_l, is1_i, is1_r, is1_n, is1_f, true_and, and_true, List.length_cons, List.length_nil, Nat.reduceAdd, Nat.reduceLeDiff, Nat.reduceSub, Option.some.injEq, exists_eq_left', aft_s, aft_n, ite_true, ite_false, if_true, if_false, Nat.zero_le, Nat.le_refl, reduceCtorEq]
    exact hK v H' J' (fun h => absurd h (by decide))
theorem h_stateByJournal (D : LD mo ad ra rD) (J : LJ E x mo ad ra rD σ σm th v w H) (O : Ok σ) (hj : (s_jn σ).length ≤ 16384)  {v1 : Int32} (hc : 2 ≤ c) (hn : 12 ≤ n) (hK : ∀ v' H', LJ E x mo ad ra rD (q_state σ v1).2.2 σm th v' w H' → ((q_state σ v1).1 = 0 → v' = (q_state σ v1).2.1.toInt64) → K (.inl (some (.int (nI (q_state σ v1).1)))) H') : CRd TTv E (d + 14) mL_stateByJournal [.ref x, .int v1, .ref ra] H c n K := by
  refine crd rfl ?_
  show Ev E (d + 13) mL_stateByJournal K 0 [.ref x, .int v1, .ref ra, .retAddr 0] [] H c n
  have hp : (q_state σ v1).1 = 0 ∨ (q_state σ v1).1 = 1 := by
    unfold q_state
    repeat' split
    all_goals simp
  simp only [eL_stateByJournal_0, eL_stateByJournal_1, eL_stateByJournal_2, eL_stateByJournal_3, eL_stateByJournal_4, eL_stateByJournal_7, eL_stateByJournal_8, eL_stateByJournal_9, eL_stateByJournal_12, eL_stateByJournal_13, eL_stateByJournal_14, eL_stateByJournal_15, eL_stateByJournal_16, isA_r, isA_n, isI_i, isF_f, isL_l, is1_i, is1_r, is1_n, is1_f, true_and, and_true, List.length_cons, List.length_nil, Nat.reduceAdd, Nat.reduceLeDiff, Nat.reduceSub, Option.some.injEq, exists_eq_left', aft_s, aft_n, ite_true, ite_false, if_true, if_false, Nat.zero_le, Nat.le_refl, reduceCtorEq]
  refine ⟨J.1.xo, invk c n (Nat.le_refl _) (Nat.le_refl _) (p_stateByJournal J.1 O hj hc hn (fun H' C' => ?_))⟩
  have J' := J.cls D C'
  obtain ⟨f', jf1, jf2⟩ := J'.2.2.1
  rcases hp with hp | hp
  · rw [hp] at hK
    rw [ou_0 hp]
    simp only [eL_stateByJournal_0, eL_stateByJournal_1, eL_stateByJournal_2, eL_stateByJournal_3, eL_stateByJournal_4, eL_stateByJournal_7, eL_stateByJournal_8, eL_stateByJournal_9, eL_stateByJournal_12, eL_stateByJournal_13, eL_stateByJournal_14, eL_stateByJournal_15, eL_stateByJournal_16, isA_r, isA_n, isI_i, isF_f, isL_l, is1_i, is1_r, is1_n, is1_f, true_and, and_true, List.length_cons, List.length_nil, Nat.reduceAdd, Nat.reduceLeDiff, Nat.reduceSub, Option.some.injEq, exists_eq_left', aft_s, aft_n, ite_true, ite_false, if_true, if_false, Nat.zero_le, Nat.le_refl, reduceCtorEq, rwJ_of jf1, b01_0, c0_0]
    exact hK _ _ (J'.out D (if_pos rfl)) (fun _ => rfl)
  · rw [hp] at hK
    rw [ou_k (k := 0) hp]
    refine aft_h rfl rfl (fun q => ?_)
    simp only [eL_stateByJournal_0, eL_stateByJournal_1, eL_stateByJournal_2, eL_stateByJournal_3, eL_stateByJournal_4, eL_stateByJournal_7, eL_stateByJournal_8, eL_stateByJournal_9, eL_stateByJournal_12, eL_stateByJournal_13, eL_stateByJournal_14, eL_stateByJournal_15, eL_stateByJournal_16, isA_r, isA_n, isI_i, isF_f, isL_l, is1_i, is1_r, is1_n, is1_f, true_and, and_true, List.length_cons, List.length_nil, Nat.reduceAdd, Nat.reduceLeDiff, Nat.reduceSub, Option.some.injEq, exists_eq_left', aft_s, aft_n, ite_true, ite_false, if_true, if_false, Nat.zero_le, Nat.le_refl, reduceCtorEq]
    exact hK v H' J' (fun h => absurd h (by decide))
theorem h_toDo (D : LD mo ad ra rD) (J : LJ E x mo ad ra rD σ σm th v w H) (O : Ok σ)  {v1 : Int32} (hc : 2 ≤ c) (hn : 12 ≤ n) (hK : ∀ v' H', LJ E x mo ad ra rD (q_toDo σ v1).2.2 σm th v' w H' → ((q_toDo σ v1).1 = 0 → v' = (q_toDo σ v1).2.1.toInt64) → K (.inl (some (.int (nI (q_toDo σ v1).1)))) H') : CRd TTv E (d + 14) mL_toDo [.ref x, .int v1, .ref ra] H c n K := by
  refine crd rfl ?_
  show Ev E (d + 13) mL_toDo K 0 [.ref x, .int v1, .ref ra, .retAddr 0] [] H c n
  have hp : (q_toDo σ v1).1 = 0 ∨ (q_toDo σ v1).1 = 1 := by
    unfold q_toDo
    repeat' split
    all_goals simp
  simp only [eL_toDo_0, eL_toDo_1, eL_toDo_2, eL_toDo_3, eL_toDo_4, eL_toDo_7, eL_toDo_8, eL_toDo_9, eL_toDo_12, eL_toDo_13, eL_toDo_14, eL_toDo_15, eL_toDo_16, isA_r, isA_n, isI_i, isF_f, isL_l, is1_i, is1_r, is1_n, is1_f, true_and, and_true, List.length_cons, List.length_nil, Nat.reduceAdd, Nat.reduceLeDiff, Nat.reduceSub, Option.some.injEq, exists_eq_left', aft_s, aft_n, ite_true, ite_false, if_true, if_false, Nat.zero_le, Nat.le_refl, reduceCtorEq]
  refine ⟨J.1.xo, invk c n (Nat.le_refl _) (Nat.le_refl _) (p_toDo J.1 O hc hn (fun H' C' => ?_))⟩
  have J' := J.cls D C'
  obtain ⟨f', jf1, jf2⟩ := J'.2.2.1
  rcases hp with hp | hp
  · rw [hp] at hK
    rw [ou_0 hp]
    simp only [eL_toDo_0, eL_toDo_1, eL_toDo_2, eL_toDo_3, eL_toDo_4, eL_toDo_7, eL_toDo_8, eL_toDo_9, eL_toDo_12, eL_toDo_13, eL_toDo_14, eL_toDo_15, eL_toDo_16, isA_r, isA_n, isI_i, isF_f, isL_l, is1_i, is1_r, is1_n, is1_f, true_and, and_true, List.length_cons, List.length_nil, Nat.reduceAdd, Nat.reduceLeDiff, Nat.reduceSub, Option.some.injEq, exists_eq_left', aft_s, aft_n, ite_true, ite_false, if_true, if_false, Nat.zero_le, Nat.le_refl, reduceCtorEq, rwJ_of jf1, b01_0, c0_0]
    exact hK _ _ (J'.out D (if_pos rfl)) (fun _ => rfl)
  · rw [hp] at hK
    rw [ou_k (k := 0) hp]
    refine aft_h rfl rfl (fun q => ?_)
    simp only [eL_toDo_0, eL_toDo_1, eL_toDo_2, eL_toDo_3, eL_toDo_4, eL_toDo_7, eL_toDo_8, eL_toDo_9, eL_toDo_12, eL_toDo_13, eL_toDo_14, eL_toDo_15, eL_toDo_16, isA_r, isA_n, isI_i, isF_f, isL_l, is1_i, is1_r, is1_n, is1_f, true_and, and_true, List.length_cons, List.length_nil, Nat.reduceAdd, Nat.reduceLeDiff, Nat.reduceSub, Option.some.injEq, exists_eq_left', aft_s, aft_n, ite_true, ite_false, if_true, if_false, Nat.zero_le, Nat.le_refl, reduceCtorEq]
    exact hK v H' J' (fun h => absurd h (by decide))
theorem h_sessionOf (D : LD mo ad ra rD) (J : LJ E x mo ad ra rD σ σm th v w H) (O : Ok σ)  {v1 : Int32} (hc : 2 ≤ c) (hn : 12 ≤ n) (hK : ∀ v' H', LJ E x mo ad ra rD (q_sessionOf σ v1).2.2 σm th v' w H' → ((q_sessionOf σ v1).1 = 0 → v' = (q_sessionOf σ v1).2.1.toInt64) → K (.inl (some (.int (nI (q_sessionOf σ v1).1)))) H') : CRd TTv E (d + 14) mL_sessionOf [.ref x, .int v1, .ref ra] H c n K := by
  refine crd rfl ?_
  show Ev E (d + 13) mL_sessionOf K 0 [.ref x, .int v1, .ref ra, .retAddr 0] [] H c n
  have hp : (q_sessionOf σ v1).1 = 0 ∨ (q_sessionOf σ v1).1 = 1 := by
    unfold q_sessionOf
    repeat' split
    all_goals simp
  simp only [eL_sessionOf_0, eL_sessionOf_1, eL_sessionOf_2, eL_sessionOf_3, eL_sessionOf_4, eL_sessionOf_7, eL_sessionOf_8, eL_sessionOf_9, eL_sessionOf_12, eL_sessionOf_13, eL_sessionOf_14, eL_sessionOf_15, eL_sessionOf_16, isA_r, isA_n, isI_i, isF_f, isL_l, is1_i, is1_r, is1_n, is1_f, true_and, and_true, List.length_cons, List.length_nil, Nat.reduceAdd, Nat.reduceLeDiff, Nat.reduceSub, Option.some.injEq, exists_eq_left', aft_s, aft_n, ite_true, ite_false, if_true, if_false, Nat.zero_le, Nat.le_refl, reduceCtorEq]
  refine ⟨J.1.xo, invk c n (Nat.le_refl _) (Nat.le_refl _) (p_sessionOf J.1 O hc hn (fun H' C' => ?_))⟩
  have J' := J.cls D C'
  obtain ⟨f', jf1, jf2⟩ := J'.2.2.1
  rcases hp with hp | hp
  · rw [hp] at hK
    rw [ou_0 hp]
    simp only [eL_sessionOf_0, eL_sessionOf_1, eL_sessionOf_2, eL_sessionOf_3, eL_sessionOf_4, eL_sessionOf_7, eL_sessionOf_8, eL_sessionOf_9, eL_sessionOf_12, eL_sessionOf_13, eL_sessionOf_14, eL_sessionOf_15, eL_sessionOf_16, isA_r, isA_n, isI_i, isF_f, isL_l, is1_i, is1_r, is1_n, is1_f, true_and, and_true, List.length_cons, List.length_nil, Nat.reduceAdd, Nat.reduceLeDiff, Nat.reduceSub, Option.some.injEq, exists_eq_left', aft_s, aft_n, ite_true, ite_false, if_true, if_false, Nat.zero_le, Nat.le_refl, reduceCtorEq, rwJ_of jf1, b01_0, c0_0]
    exact hK _ _ (J'.out D (if_pos rfl)) (fun _ => rfl)
  · rw [hp] at hK
    rw [ou_k (k := 0) hp]
    refine aft_h rfl rfl (fun q => ?_)
    simp only [eL_sessionOf_0, eL_sessionOf_1, eL_sessionOf_2, eL_sessionOf_3, eL_sessionOf_4, eL_sessionOf_7, eL_sessionOf_8, eL_sessionOf_9, eL_sessionOf_12, eL_sessionOf_13, eL_sessionOf_14, eL_sessionOf_15, eL_sessionOf_16, isA_r, isA_n, isI_i, isF_f, isL_l, is1_i, is1_r, is1_n, is1_f, true_and, and_true, List.length_cons, List.length_nil, Nat.reduceAdd, Nat.reduceLeDiff, Nat.reduceSub, Option.some.injEq, exists_eq_left', aft_s, aft_n, ite_true, ite_false, if_true, if_false, Nat.zero_le, Nat.le_refl, reduceCtorEq]
    exact hK v H' J' (fun h => absurd h (by decide))
theorem h_front (D : LD mo ad ra rD) (J : LJ E x mo ad ra rD σ σm th v w H) (O : Ok σ)  {v1 : Int32} (hc : 2 ≤ c) (hn : 12 ≤ n) (hK : ∀ v' H', LJ E x mo ad ra rD (q_front σ v1).2.2 σm th v' w H' → ((q_front σ v1).1 = 0 → v' = (q_front σ v1).2.1.toInt64) → K (.inl (some (.int (nI (q_front σ v1).1)))) H') : CRd TTv E (d + 14) mL_front [.ref x, .int v1, .ref ra] H c n K := by
  refine crd rfl ?_
  show Ev E (d + 13) mL_front K 0 [.ref x, .int v1, .ref ra, .retAddr 0] [] H c n
  have hp : (q_front σ v1).1 = 0 ∨ (q_front σ v1).1 = 1 ∨ (q_front σ v1).1 = 2 := by
    unfold q_front
    repeat' split
    all_goals simp
  simp only [eL_front_0, eL_front_1, eL_front_2, eL_front_3, eL_front_4, eL_front_7, eL_front_8, eL_front_9, eL_front_12, eL_front_13, eL_front_14, eL_front_15, eL_front_16, eL_front_17, eL_front_18, eL_front_19, isA_r, isA_n, isI_i, isF_f, isL_l, is1_i, is1_r, is1_n, is1_f, true_and, and_true, List.length_cons, List.length_nil, Nat.reduceAdd, Nat.reduceLeDiff, Nat.reduceSub, Option.some.injEq, exists_eq_left', aft_s, aft_n, ite_true, ite_false, if_true, if_false, Nat.zero_le, Nat.le_refl, reduceCtorEq]
  refine ⟨J.1.xo, invk c n (Nat.le_refl _) (Nat.le_refl _) (p_front J.1 O hc hn (fun H' C' => ?_))⟩
  have J' := J.cls D C'
  obtain ⟨f', jf1, jf2⟩ := J'.2.2.1
  rcases hp with hp | hp | hp
  · rw [hp] at hK
    rw [ou_0 hp]
    simp only [eL_front_0, eL_front_1, eL_front_2, eL_front_3, eL_front_4, eL_front_7, eL_front_8, eL_front_9, eL_front_12, eL_front_13, eL_front_14, eL_front_15, eL_front_16, eL_front_17, eL_front_18, eL_front_19, isA_r, isA_n, isI_i, isF_f, isL_l, is1_i, is1_r, is1_n, is1_f, true_and, and_true, List.length_cons, List.length_nil, Nat.reduceAdd, Nat.reduceLeDiff, Nat.reduceSub, Option.some.injEq, exists_eq_left', aft_s, aft_n, ite_true, ite_false, if_true, if_false, Nat.zero_le, Nat.le_refl, reduceCtorEq, rwJ_of jf1, b01_0, c0_0]
    exact hK _ _ (J'.out D (if_pos rfl)) (fun _ => rfl)
  · rw [hp] at hK
    rw [ou_k (k := 0) hp]
    refine aft_h rfl rfl (fun q => ?_)
    simp only [eL_front_0, eL_front_1, eL_front_2, eL_front_3, eL_front_4, eL_front_7, eL_front_8, eL_front_9, eL_front_12, eL_front_13, eL_front_14, eL_front_15, eL_front_16, eL_front_17, eL_front_18, eL_front_19, isA_r, isA_n, isI_i, isF_f, isL_l, is1_i, is1_r, is1_n, is1_f, true_and, and_true, List.length_cons, List.length_nil, Nat.reduceAdd, Nat.reduceLeDiff, Nat.reduceSub, Option.some.injEq, exists_eq_left', aft_s, aft_n, ite_true, ite_false, if_true, if_false, Nat.zero_le, Nat.le_refl, reduceCtorEq]
    exact hK v H' J' (fun h => absurd h (by decide))
  · rw [hp] at hK
    rw [ou_k (k := 1) hp]
    refine aft_h rfl rfl (fun q => ?_)
    simp only [eL_front_0, eL_front_1, eL_front_2, eL_front_3, eL_front_4, eL_front_7, eL_front_8, eL_front_9, eL_front_12, eL_front_13, eL_front_14, eL_front_15, eL_front_16, eL_front_17, eL_front_18, eL_front_19, isA_r, isA_n, isI_i, isF_f, isL_l, is1_i, is1_r, is1_n, is1_f, true_and, and_true, List.length_cons, List.length_nil, Nat.reduceAdd, Nat.reduceLeDiff, Nat.reduceSub, Option.some.injEq, exists_eq_left', aft_s, aft_n, ite_true, ite_false, if_true, if_false, Nat.zero_le, Nat.le_refl, reduceCtorEq]
    exact hK v H' J' (fun h => absurd h (by decide))
theorem h_toFront (D : LD mo ad ra rD) (J : LJ E x mo ad ra rD σ σm th v w H) (O : Ok σ)  {v1 : Int32} (hc : 2 ≤ c) (hn : 12 ≤ n) (hK : ∀ v' H', LJ E x mo ad ra rD (a_toFront σ v1).2.2 σm th v' w H' → ((a_toFront σ v1).1 = 0 → v' = (if (a_toFront σ v1).2.1 = 0 then 0 else 1 : Int64)) → K (.inl (some (.int (nI (a_toFront σ v1).1)))) H') : CRd TTv E (d + 14) mL_toFront [.ref x, .int v1, .ref ra] H c n K := by
  refine crd rfl ?_
  show Ev E (d + 13) mL_toFront K 0 [.ref x, .int v1, .ref ra, .retAddr 0] [] H c n
  have hp : (a_toFront σ v1).1 = 0 ∨ (a_toFront σ v1).1 = 1 ∨ (a_toFront σ v1).1 = 2 ∨ (a_toFront σ v1).1 = 3 := by
    unfold a_toFront
    repeat' split
    all_goals simp
  simp only [eL_toFront_0, eL_toFront_1, eL_toFront_2, eL_toFront_3, eL_toFront_4, eL_toFront_7, eL_toFront_10, eL_toFront_11, eL_toFront_14, eL_toFront_15, eL_toFront_16, eL_toFront_19, eL_toFront_20, eL_toFront_21, eL_toFront_22, eL_toFront_23, eL_toFront_24, eL_toFront_25, eL_toFront_26, eL_toFront_27, eL_toFront_28, eL_toFront_29, isA_r, isA_n, isI_i, isF_f, isL_l, is1_i, is1_r, is1_n, is1_f, true_and, and_true, List.length_cons, List.length_nil, Nat.reduceAdd, Nat.reduceLeDiff, Nat.reduceSub, Option.some.injEq, exists_eq_left', aft_s, aft_n, ite_true, ite_false, if_true, if_false, Nat.zero_le, Nat.le_refl, reduceCtorEq]
  refine ⟨J.1.xo, invk c n (Nat.le_refl _) (Nat.le_refl _) (p_toFront J.1 O hc hn (fun H' C' => ?_))⟩
  have J' := J.cls D C'
  obtain ⟨f', jf1, jf2⟩ := J'.2.2.1
  rcases hp with hp | hp | hp | hp
  · rw [hp] at hK
    rw [ou_0 hp]
    by_cases hz : (a_toFront σ v1).2.1 = 0
    · have e : ((a_toFront σ v1).2.1 = 0) = True := eq_true hz
      rw [if_pos hz] at hK
      simp only [eL_toFront_0, eL_toFront_1, eL_toFront_2, eL_toFront_3, eL_toFront_4, eL_toFront_7, eL_toFront_10, eL_toFront_11, eL_toFront_14, eL_toFront_15, eL_toFront_16, eL_toFront_19, eL_toFront_20, eL_toFront_21, eL_toFront_22, eL_toFront_23, eL_toFront_24, eL_toFront_25, eL_toFront_26, eL_toFront_27, eL_toFront_28, eL_toFront_29, isA_r, isA_n, isI_i, isF_f, isL_l, is1_i, is1_r, is1_n, is1_f, true_and, and_true, List.length_cons, List.length_nil, Nat.reduceAdd, Nat.reduceLeDiff, Nat.reduceSub, Option.some.injEq, exists_eq_left', aft_s, aft_n, ite_true, ite_false, if_true, if_false, Nat.zero_le, Nat.le_refl, reduceCtorEq, e, rwJ_of jf1, b01_0, c0_0]
      exact hK _ _ (J'.out D (if_pos rfl)) (fun _ => rfl)
    · have e : ((a_toFront σ v1).2.1 = 0) = False := eq_false hz
      rw [if_neg hz] at hK
      simp only [eL_toFront_0, eL_toFront_1, eL_toFront_2, eL_toFront_3, eL_toFront_4, eL_toFront_7, eL_toFront_10, eL_toFront_11, eL_toFront_14, eL_toFront_15, eL_toFront_16, eL_toFront_19, eL_toFront_20, eL_toFront_21, eL_toFront_22, eL_toFront_23, eL_toFront_24, eL_toFront_25, eL_toFront_26, eL_toFront_27, eL_toFront_28, eL_toFront_29, isA_r, isA_n, isI_i, isF_f, isL_l, is1_i, is1_r, is1_n, is1_f, true_and, and_true, List.length_cons, List.length_nil, Nat.reduceAdd, Nat.reduceLeDiff, Nat.reduceSub, Option.some.injEq, exists_eq_left', aft_s, aft_n, ite_true, ite_false, if_true, if_false, Nat.zero_le, Nat.le_refl, reduceCtorEq, e, rwJ_of jf1, b01_0, c0_0]
      exact hK _ _ (J'.out D (if_pos rfl)) (fun _ => rfl)
  · rw [hp] at hK
    rw [ou_k (k := 0) hp]
    refine aft_h rfl rfl (fun q => ?_)
    simp only [eL_toFront_0, eL_toFront_1, eL_toFront_2, eL_toFront_3, eL_toFront_4, eL_toFront_7, eL_toFront_10, eL_toFront_11, eL_toFront_14, eL_toFront_15, eL_toFront_16, eL_toFront_19, eL_toFront_20, eL_toFront_21, eL_toFront_22, eL_toFront_23, eL_toFront_24, eL_toFront_25, eL_toFront_26, eL_toFront_27, eL_toFront_28, eL_toFront_29, isA_r, isA_n, isI_i, isF_f, isL_l, is1_i, is1_r, is1_n, is1_f, true_and, and_true, List.length_cons, List.length_nil, Nat.reduceAdd, Nat.reduceLeDiff, Nat.reduceSub, Option.some.injEq, exists_eq_left', aft_s, aft_n, ite_true, ite_false, if_true, if_false, Nat.zero_le, Nat.le_refl, reduceCtorEq]
    exact hK v H' J' (fun h => absurd h (by decide))
  · rw [hp] at hK
    rw [ou_k (k := 1) hp]
    refine aft_h rfl rfl (fun q => ?_)
    simp only [eL_toFront_0, eL_toFront_1, eL_toFront_2, eL_toFront_3, eL_toFront_4, eL_toFront_7, eL_toFront_10, eL_toFront_11, eL_toFront_14, eL_toFront_15, eL_toFront_16, eL_toFront_19, eL_toFront_20, eL_toFront_21, eL_toFront_22, eL_toFront_23, eL_toFront_24, eL_toFront_25, eL_toFront_26, eL_toFront_27, eL_toFront_28, eL_toFront_29, isA_r, isA_n, isI_i, isF_f, isL_l, is1_i, is1_r, is1_n, is1_f, true_and, and_true, List.length_cons, List.length_nil, Nat.reduceAdd, Nat.reduceLeDiff, Nat.reduceSub, Option.some.injEq, exists_eq_left', aft_s, aft_n, ite_true, ite_false, if_true, if_false, Nat.zero_le, Nat.le_refl, reduceCtorEq]
    exact hK v H' J' (fun h => absurd h (by decide))
  · rw [hp] at hK
    rw [ou_k (k := 2) hp]
    refine aft_h rfl rfl (fun q => ?_)
    simp only [eL_toFront_0, eL_toFront_1, eL_toFront_2, eL_toFront_3, eL_toFront_4, eL_toFront_7, eL_toFront_10, eL_toFront_11, eL_toFront_14, eL_toFront_15, eL_toFront_16, eL_toFront_19, eL_toFront_20, eL_toFront_21, eL_toFront_22, eL_toFront_23, eL_toFront_24, eL_toFront_25, eL_toFront_26, eL_toFront_27, eL_toFront_28, eL_toFront_29, isA_r, isA_n, isI_i, isF_f, isL_l, is1_i, is1_r, is1_n, is1_f, true_and, and_true, List.length_cons, List.length_nil, Nat.reduceAdd, Nat.reduceLeDiff, Nat.reduceSub, Option.some.injEq, exists_eq_left', aft_s, aft_n, ite_true, ite_false, if_true, if_false, Nat.zero_le, Nat.le_refl, reduceCtorEq]
    exact hK v H' J' (fun h => absurd h (by decide))
theorem h_toBack (D : LD mo ad ra rD) (J : LJ E x mo ad ra rD σ σm th v w H) (O : Ok σ)  {v1 : Int32} (hc : 2 ≤ c) (hn : 12 ≤ n) (hK : ∀ v' H', LJ E x mo ad ra rD (q_toBack σ v1).2.2 σm th v' w H' → ((q_toBack σ v1).1 = 0 → v' = (q_toBack σ v1).2.1.toInt64) → K (.inl (some (.int (nI (q_toBack σ v1).1)))) H') : CRd TTv E (d + 14) mL_toBack [.ref x, .int v1, .ref ra] H c n K := by
  refine crd rfl ?_
  show Ev E (d + 13) mL_toBack K 0 [.ref x, .int v1, .ref ra, .retAddr 0] [] H c n
  have hp : (q_toBack σ v1).1 = 0 ∨ (q_toBack σ v1).1 = 1 ∨ (q_toBack σ v1).1 = 2 := by
    unfold q_toBack
    repeat' split
    all_goals simp
  simp only [eL_toBack_0, eL_toBack_1, eL_toBack_2, eL_toBack_3, eL_toBack_4, eL_toBack_7, eL_toBack_8, eL_toBack_9, eL_toBack_12, eL_toBack_13, eL_toBack_14, eL_toBack_15, eL_toBack_16, eL_toBack_17, eL_toBack_18, eL_toBack_19, isA_r, isA_n, isI_i, isF_f, isL_l, is1_i, is1_r, is1_n, is1_f, true_and, and_true, List.length_cons, List.length_nil, Nat.reduceAdd, Nat.reduceLeDiff, Nat.reduceSub, Option.some.injEq, exists_eq_left', aft_s, aft_n, ite_true, ite_false, if_true, if_false, Nat.zero_le, Nat.le_refl, reduceCtorEq]
  refine ⟨J.1.xo, invk c n (Nat.le_refl _) (Nat.le_refl _) (p_toBack J.1 O hc hn (fun H' C' => ?_))⟩
  have J' := J.cls D C'
  obtain ⟨f', jf1, jf2⟩ := J'.2.2.1
  rcases hp with hp | hp | hp
  · rw [hp] at hK
    rw [ou_0 hp]
    simp only [eL_toBack_0, eL_toBack_1, eL_toBack_2, eL_toBack_3, eL_toBack_4, eL_toBack_7, eL_toBack_8, eL_toBack_9, eL_toBack_12, eL_toBack_13, eL_toBack_14, eL_toBack_15, eL_toBack_16, eL_toBack_17, eL_toBack_18, eL_toBack_19, isA_r, isA_n, isI_i, isF_f, isL_l, is1_i, is1_r, is1_n, is1_f, true_and, and_true, List.length_cons, List.length_nil, Nat.reduceAdd, Nat.reduceLeDiff, Nat.reduceSub, Option.some.injEq, exists_eq_left', aft_s, aft_n, ite_true, ite_false, if_true, if_false, Nat.zero_le, Nat.le_refl, reduceCtorEq, rwJ_of jf1, b01_0, c0_0]
    exact hK _ _ (J'.out D (if_pos rfl)) (fun _ => rfl)
  · rw [hp] at hK
    rw [ou_k (k := 0) hp]
    refine aft_h rfl rfl (fun q => ?_)
    simp only [eL_toBack_0, eL_toBack_1, eL_toBack_2, eL_toBack_3, eL_toBack_4, eL_toBack_7, eL_toBack_8, eL_toBack_9, eL_toBack_12, eL_toBack_13, eL_toBack_14, eL_toBack_15, eL_toBack_16, eL_toBack_17, eL_toBack_18, eL_toBack_19, isA_r, isA_n, isI_i, isF_f, isL_l, is1_i, is1_r, is1_n, is1_f, true_and, and_true, List.length_cons, List.length_nil, Nat.reduceAdd, Nat.reduceLeDiff, Nat.reduceSub, Option.some.injEq, exists_eq_left', aft_s, aft_n, ite_true, ite_false, if_true, if_false, Nat.zero_le, Nat.le_refl, reduceCtorEq]
    exact hK v H' J' (fun h => absurd h (by decide))
  · rw [hp] at hK
    rw [ou_k (k := 1) hp]
    refine aft_h rfl rfl (fun q => ?_)
    simp only [eL_toBack_0, eL_toBack_1, eL_toBack_2, eL_toBack_3, eL_toBack_4, eL_toBack_7, eL_toBack_8, eL_toBack_9, eL_toBack_12, eL_toBack_13, eL_toBack_14, eL_toBack_15, eL_toBack_16, eL_toBack_17, eL_toBack_18, eL_toBack_19, isA_r, isA_n, isI_i, isF_f, isL_l, is1_i, is1_r, is1_n, is1_f, true_and, and_true, List.length_cons, List.length_nil, Nat.reduceAdd, Nat.reduceLeDiff, Nat.reduceSub, Option.some.injEq, exists_eq_left', aft_s, aft_n, ite_true, ite_false, if_true, if_false, Nat.zero_le, Nat.le_refl, reduceCtorEq]
    exact hK v H' J' (fun h => absurd h (by decide))
theorem h_count (D : LD mo ad ra rD) (J : LJ E x mo ad ra rD σ σm th v w H) (O : Ok σ)  {v1 v2 : Int32} (hc : 2 ≤ c) (hn : 12 ≤ n) (hK : ∀ v' H', LJ E x mo ad ra rD (q_count σ v1 v2).2.2 σm th v' w H' → ((q_count σ v1 v2).1 = 0 → v' = (q_count σ v1 v2).2.1.toInt64) → K (.inl (some (.int (nI (q_count σ v1 v2).1)))) H') : CRd TTv E (d + 14) mL_count [.ref x, .int v1, .int v2, .ref ra] H c n K := by
  refine crd rfl ?_
  show Ev E (d + 13) mL_count K 0 [.ref x, .int v1, .int v2, .ref ra, .retAddr 0] [] H c n
  have hp : (q_count σ v1 v2).1 = 0 ∨ (q_count σ v1 v2).1 = 1 ∨ (q_count σ v1 v2).1 = 2 := by
    unfold q_count
    repeat' split
    all_goals simp
  simp only [eL_count_0, eL_count_1, eL_count_2, eL_count_3, eL_count_4, eL_count_5, eL_count_8, eL_count_9, eL_count_10, eL_count_13, eL_count_15, eL_count_16, eL_count_17, eL_count_19, eL_count_20, eL_count_21, eL_count_22, isA_r, isA_n, isI_i, isF_f, isL_l, is1_i, is1_r, is1_n, is1_f, true_and, and_true, List.length_cons, List.length_nil, Nat.reduceAdd, Nat.reduceLeDiff, Nat.reduceSub, Option.some.injEq, exists_eq_left', aft_s, aft_n, ite_true, ite_false, if_true, if_false, Nat.zero_le, Nat.le_refl, reduceCtorEq]
  refine ⟨J.1.xo, invk c n (Nat.le_refl _) (Nat.le_refl _) (p_count J.1 O hc hn (fun H' C' => ?_))⟩
  have J' := J.cls D C'
  obtain ⟨f', jf1, jf2⟩ := J'.2.2.1
  rcases hp with hp | hp | hp
  · rw [hp] at hK
    rw [ou_0 hp]
    simp only [eL_count_0, eL_count_1, eL_count_2, eL_count_3, eL_count_4, eL_count_5, eL_count_8, eL_count_9, eL_count_10, eL_count_13, eL_count_15, eL_count_16, eL_count_17, eL_count_19, eL_count_20, eL_count_21, eL_count_22, isA_r, isA_n, isI_i, isF_f, isL_l, is1_i, is1_r, is1_n, is1_f, true_and, and_true, List.length_cons, List.length_nil, Nat.reduceAdd, Nat.reduceLeDiff, Nat.reduceSub, Option.some.injEq, exists_eq_left', aft_s, aft_n, ite_true, ite_false, if_true, if_false, Nat.zero_le, Nat.le_refl, reduceCtorEq, rwJ_of jf1, b01_0, c0_0]
    exact hK _ _ (J'.out D (if_pos rfl)) (fun _ => rfl)
  · rw [hp] at hK
    rw [ou_k (k := 0) hp]
    refine aft_h rfl rfl (fun q => ?_)
    simp only [eL_count_0, eL_count_1, eL_count_2, eL_count_3, eL_count_4, eL_count_5, eL_count_8, eL_count_9, eL_count_10, eL_count_13, eL_count_15, eL_count_16, eL_count_17, eL_count_19, eL_count_20, eL_count_21, eL_count_22, isA_r, isA_n, isI_i, isF_f, isL_l, is1_i, is1_r, is1_n, is1_f, true_and, and_true, List.length_cons, List.length_nil, Nat.reduceAdd, Nat.reduceLeDiff, Nat.reduceSub, Option.some.injEq, exists_eq_left', aft_s, aft_n, ite_true, ite_false, if_true, if_false, Nat.zero_le, Nat.le_refl, reduceCtorEq]
    exact hK v H' J' (fun h => absurd h (by decide))
  · rw [hp] at hK
    rw [ou_k (k := 1) hp]
    refine aft_h rfl rfl (fun q => ?_)
    simp only [eL_count_0, eL_count_1, eL_count_2, eL_count_3, eL_count_4, eL_count_5, eL_count_8, eL_count_9, eL_count_10, eL_count_13, eL_count_15, eL_count_16, eL_count_17, eL_count_19, eL_count_20, eL_count_21, eL_count_22, isA_r, isA_n, isI_i, isF_f, isL_l, is1_i, is1_r, is1_n, is1_f, true_and, and_true, List.length_cons, List.length_nil, Nat.reduceAdd, Nat.reduceLeDiff, Nat.reduceSub, Option.some.injEq, exists_eq_left', aft_s, aft_n, ite_true, ite_false, if_true, if_false, Nat.zero_le, Nat.le_refl, reduceCtorEq]
    exact hK v H' J' (fun h => absurd h (by decide))
theorem h_holder (D : LD mo ad ra rD) (J : LJ E x mo ad ra rD σ σm th v w H) (O : Ok σ)  {v1 : Int32} (hc : 2 ≤ c) (hn : 12 ≤ n) (hK : ∀ v' H', LJ E x mo ad ra rD (q_holder σ v1).2.2 σm th v' w H' → ((q_holder σ v1).1 = 0 → v' = (q_holder σ v1).2.1.toInt64) → K (.inl (some (.int (nI (q_holder σ v1).1)))) H') : CRd TTv E (d + 14) mL_holder [.ref x, .int v1, .ref ra] H c n K := by
  refine crd rfl ?_
  show Ev E (d + 13) mL_holder K 0 [.ref x, .int v1, .ref ra, .retAddr 0] [] H c n
  have hp : (q_holder σ v1).1 = 0 ∨ (q_holder σ v1).1 = 1 := by
    unfold q_holder
    repeat' split
    all_goals simp
  simp only [eL_holder_0, eL_holder_1, eL_holder_2, eL_holder_3, eL_holder_4, eL_holder_7, eL_holder_8, eL_holder_9, eL_holder_12, eL_holder_13, eL_holder_14, eL_holder_15, eL_holder_16, isA_r, isA_n, isI_i, isF_f, isL_l, is1_i, is1_r, is1_n, is1_f, true_and, and_true, List.length_cons, List.length_nil, Nat.reduceAdd, Nat.reduceLeDiff, Nat.reduceSub, Option.some.injEq, exists_eq_left', aft_s, aft_n, ite_true, ite_false, if_true, if_false, Nat.zero_le, Nat.le_refl, reduceCtorEq]
  refine ⟨J.1.xo, invk c n (Nat.le_refl _) (Nat.le_refl _) (p_holder J.1 O hc hn (fun H' C' => ?_))⟩
  have J' := J.cls D C'
  obtain ⟨f', jf1, jf2⟩ := J'.2.2.1
  rcases hp with hp | hp
  · rw [hp] at hK
    rw [ou_0 hp]
    simp only [eL_holder_0, eL_holder_1, eL_holder_2, eL_holder_3, eL_holder_4, eL_holder_7, eL_holder_8, eL_holder_9, eL_holder_12, eL_holder_13, eL_holder_14, eL_holder_15, eL_holder_16, isA_r, isA_n, isI_i, isF_f, isL_l, is1_i, is1_r, is1_n, is1_f, true_and, and_true, List.length_cons, List.length_nil, Nat.reduceAdd, Nat.reduceLeDiff, Nat.reduceSub, Option.some.injEq, exists_eq_left', aft_s, aft_n, ite_true, ite_false, if_true, if_false, Nat.zero_le, Nat.le_refl, reduceCtorEq, rwJ_of jf1, b01_0, c0_0]
    exact hK _ _ (J'.out D (if_pos rfl)) (fun _ => rfl)
  · rw [hp] at hK
    rw [ou_k (k := 0) hp]
    refine aft_h rfl rfl (fun q => ?_)
    simp only [eL_holder_0, eL_holder_1, eL_holder_2, eL_holder_3, eL_holder_4, eL_holder_7, eL_holder_8, eL_holder_9, eL_holder_12, eL_holder_13, eL_holder_14, eL_holder_15, eL_holder_16, isA_r, isA_n, isI_i, isF_f, isL_l, is1_i, is1_r, is1_n, is1_f, true_and, and_true, List.length_cons, List.length_nil, Nat.reduceAdd, Nat.reduceLeDiff, Nat.reduceSub, Option.some.injEq, exists_eq_left', aft_s, aft_n, ite_true, ite_false, if_true, if_false, Nat.zero_le, Nat.le_refl, reduceCtorEq]
    exact hK v H' J' (fun h => absurd h (by decide))
theorem h_holderByJobs (D : LD mo ad ra rD) (J : LJ E x mo ad ra rD σ σm th v w H) (O : Ok σ)  {v1 : Int32} (hc : 2 ≤ c) (hn : 12 ≤ n) (hK : ∀ v' H', LJ E x mo ad ra rD (q_holder σ v1).2.2 σm th v' w H' → ((q_holder σ v1).1 = 0 → v' = (q_holder σ v1).2.1.toInt64) → K (.inl (some (.int (nI (q_holder σ v1).1)))) H') : CRd TTv E (d + 14) mL_holderByJobs [.ref x, .int v1, .ref ra] H c n K := by
  refine crd rfl ?_
  show Ev E (d + 13) mL_holderByJobs K 0 [.ref x, .int v1, .ref ra, .retAddr 0] [] H c n
  have hp : (q_holder σ v1).1 = 0 ∨ (q_holder σ v1).1 = 1 := by
    unfold q_holder
    repeat' split
    all_goals simp
  simp only [eL_holderByJobs_0, eL_holderByJobs_1, eL_holderByJobs_2, eL_holderByJobs_3, eL_holderByJobs_4, eL_holderByJobs_7, eL_holderByJobs_8, eL_holderByJobs_9, eL_holderByJobs_12, eL_holderByJobs_13, eL_holderByJobs_14, eL_holderByJobs_15, eL_holderByJobs_16, isA_r, isA_n, isI_i, isF_f, isL_l, is1_i, is1_r, is1_n, is1_f, true_and, and_true, List.length_cons, List.length_nil, Nat.reduceAdd, Nat.reduceLeDiff, Nat.reduceSub, Option.some.injEq, exists_eq_left', aft_s, aft_n, ite_true, ite_false, if_true, if_false, Nat.zero_le, Nat.le_refl, reduceCtorEq]
  refine ⟨J.1.xo, invk c n (Nat.le_refl _) (Nat.le_refl _) (p_holderByJobs J.1 O hc hn (fun H' C' => ?_))⟩
  have J' := J.cls D C'
  obtain ⟨f', jf1, jf2⟩ := J'.2.2.1
  rcases hp with hp | hp
  · rw [hp] at hK
    rw [ou_0 hp]
    simp only [eL_holderByJobs_0, eL_holderByJobs_1, eL_holderByJobs_2, eL_holderByJobs_3, eL_holderByJobs_4, eL_holderByJobs_7, eL_holderByJobs_8, eL_holderByJobs_9, eL_holderByJobs_12, eL_holderByJobs_13, eL_holderByJobs_14, eL_holderByJobs_15, eL_holderByJobs_16, isA_r, isA_n, isI_i, isF_f, isL_l, is1_i, is1_r, is1_n, is1_f, true_and, and_true, List.length_cons, List.length_nil, Nat.reduceAdd, Nat.reduceLeDiff, Nat.reduceSub, Option.some.injEq, exists_eq_left', aft_s, aft_n, ite_true, ite_false, if_true, if_false, Nat.zero_le, Nat.le_refl, reduceCtorEq, rwJ_of jf1, b01_0, c0_0]
    exact hK _ _ (J'.out D (if_pos rfl)) (fun _ => rfl)
  · rw [hp] at hK
    rw [ou_k (k := 0) hp]
    refine aft_h rfl rfl (fun q => ?_)
    simp only [eL_holderByJobs_0, eL_holderByJobs_1, eL_holderByJobs_2, eL_holderByJobs_3, eL_holderByJobs_4, eL_holderByJobs_7, eL_holderByJobs_8, eL_holderByJobs_9, eL_holderByJobs_12, eL_holderByJobs_13, eL_holderByJobs_14, eL_holderByJobs_15, eL_holderByJobs_16, isA_r, isA_n, isI_i, isF_f, isL_l, is1_i, is1_r, is1_n, is1_f, true_and, and_true, List.length_cons, List.length_nil, Nat.reduceAdd, Nat.reduceLeDiff, Nat.reduceSub, Option.some.injEq, exists_eq_left', aft_s, aft_n, ite_true, ite_false, if_true, if_false, Nat.zero_le, Nat.le_refl, reduceCtorEq]
    exact hK v H' J' (fun h => absurd h (by decide))
theorem h_holds (D : LD mo ad ra rD) (J : LJ E x mo ad ra rD σ σm th v w H) (O : Ok σ)  {v1 : Int32} (hc : 2 ≤ c) (hn : 12 ≤ n) (hK : ∀ v' H', LJ E x mo ad ra rD (q_holds σ v1).2.2 σm th v' w H' → ((q_holds σ v1).1 = 0 → v' = (if (q_holds σ v1).2.1 = 0 then 0 else 1 : Int64)) → K (.inl (some (.int (nI (q_holds σ v1).1)))) H') : CRd TTv E (d + 14) mL_holds [.ref x, .int v1, .ref ra] H c n K := by
  refine crd rfl ?_
  show Ev E (d + 13) mL_holds K 0 [.ref x, .int v1, .ref ra, .retAddr 0] [] H c n
  have hp : (q_holds σ v1).1 = 0 ∨ (q_holds σ v1).1 = 1 := by
    unfold q_holds
    repeat' split
    all_goals simp
  simp only [eL_holds_0, eL_holds_1, eL_holds_2, eL_holds_3, eL_holds_4, eL_holds_7, eL_holds_10, eL_holds_11, eL_holds_14, eL_holds_15, eL_holds_16, eL_holds_19, eL_holds_20, eL_holds_21, eL_holds_22, eL_holds_23, isA_r, isA_n, isI_i, isF_f, isL_l, is1_i, is1_r, is1_n, is1_f, true_and, and_true, List.length_cons, List.length_nil, Nat.reduceAdd, Nat.reduceLeDiff, Nat.reduceSub, Option.some.injEq, exists_eq_left', aft_s, aft_n, ite_true, ite_false, if_true, if_false, Nat.zero_le, Nat.le_refl, reduceCtorEq]
  refine ⟨J.1.xo, invk c n (Nat.le_refl _) (Nat.le_refl _) (p_holds J.1 O hc hn (fun H' C' => ?_))⟩
  have J' := J.cls D C'
  obtain ⟨f', jf1, jf2⟩ := J'.2.2.1
  rcases hp with hp | hp
  · rw [hp] at hK
    rw [ou_0 hp]
    by_cases hz : (q_holds σ v1).2.1 = 0
    · have e : ((q_holds σ v1).2.1 = 0) = True := eq_true hz
      rw [if_pos hz] at hK
      simp only [eL_holds_0, eL_holds_1, eL_holds_2, eL_holds_3, eL_holds_4, eL_holds_7, eL_holds_10, eL_holds_11, eL_holds_14, eL_holds_15, eL_holds_16, eL_holds_19, eL_holds_20, eL_holds_21, eL_holds_22, eL_holds_23, isA_r, isA_n, isI_i, isF_f, isL_l, is1_i, is1_r, is1_n, is1_f, true_and, and_true, List.length_cons, List.length_nil, Nat.reduceAdd, Nat.reduceLeDiff, Nat.reduceSub, Option.some.injEq, exists_eq_left', aft_s, aft_n, ite_true, ite_false, if_true, if_false, Nat.zero_le, Nat.le_refl, reduceCtorEq, e, rwJ_of jf1, b01_0, c0_0]
      exact hK _ _ (J'.out D (if_pos rfl)) (fun _ => rfl)
    · have e : ((q_holds σ v1).2.1 = 0) = False := eq_false hz
      rw [if_neg hz] at hK
      simp only [eL_holds_0, eL_holds_1, eL_holds_2, eL_holds_3, eL_holds_4, eL_holds_7, eL_holds_10, eL_holds_11, eL_holds_14, eL_holds_15, eL_holds_16, eL_holds_19, eL_holds_20, eL_holds_21, eL_holds_22, eL_holds_23, isA_r, isA_n, isI_i, isF_f, isL_l, is1_i, is1_r, is1_n, is1_f, true_and, and_true, List.length_cons, List.length_nil, Nat.reduceAdd, Nat.reduceLeDiff, Nat.reduceSub, Option.some.injEq, exists_eq_left', aft_s, aft_n, ite_true, ite_false, if_true, if_false, Nat.zero_le, Nat.le_refl, reduceCtorEq, e, rwJ_of jf1, b01_0, c0_0]
      exact hK _ _ (J'.out D (if_pos rfl)) (fun _ => rfl)
  · rw [hp] at hK
    rw [ou_k (k := 0) hp]
    refine aft_h rfl rfl (fun q => ?_)
    simp only [eL_holds_0, eL_holds_1, eL_holds_2, eL_holds_3, eL_holds_4, eL_holds_7, eL_holds_10, eL_holds_11, eL_holds_14, eL_holds_15, eL_holds_16, eL_holds_19, eL_holds_20, eL_holds_21, eL_holds_22, eL_holds_23, isA_r, isA_n, isI_i, isF_f, isL_l, is1_i, is1_r, is1_n, is1_f, true_and, and_true, List.length_cons, List.length_nil, Nat.reduceAdd, Nat.reduceLeDiff, Nat.reduceSub, Option.some.injEq, exists_eq_left', aft_s, aft_n, ite_true, ite_false, if_true, if_false, Nat.zero_le, Nat.le_refl, reduceCtorEq]
    exact hK v H' J' (fun h => absurd h (by decide))
theorem h_waitingAt (D : LD mo ad ra rD) (J : LJ E x mo ad ra rD σ σm th v w H) (O : Ok σ)  {v1 : Int32} (hc : 2 ≤ c) (hn : 12 ≤ n) (hK : ∀ v' H', LJ E x mo ad ra rD (q_waitingAt σ v1).2.2 σm th v' w H' → ((q_waitingAt σ v1).1 = 0 → v' = (q_waitingAt σ v1).2.1.toInt64) → K (.inl (some (.int (nI (q_waitingAt σ v1).1)))) H') : CRd TTv E (d + 14) mL_waitingAt [.ref x, .int v1, .ref ra] H c n K := by
  refine crd rfl ?_
  show Ev E (d + 13) mL_waitingAt K 0 [.ref x, .int v1, .ref ra, .retAddr 0] [] H c n
  have hp : (q_waitingAt σ v1).1 = 0 ∨ (q_waitingAt σ v1).1 = 1 := by
    unfold q_waitingAt
    repeat' split
    all_goals simp
  simp only [eL_waitingAt_0, eL_waitingAt_1, eL_waitingAt_2, eL_waitingAt_3, eL_waitingAt_4, eL_waitingAt_7, eL_waitingAt_8, eL_waitingAt_9, eL_waitingAt_12, eL_waitingAt_13, eL_waitingAt_14, eL_waitingAt_15, eL_waitingAt_16, isA_r, isA_n, isI_i, isF_f, isL_l, is1_i, is1_r, is1_n, is1_f, true_and, and_true, List.length_cons, List.length_nil, Nat.reduceAdd, Nat.reduceLeDiff, Nat.reduceSub, Option.some.injEq, exists_eq_left', aft_s, aft_n, ite_true, ite_false, if_true, if_false, Nat.zero_le, Nat.le_refl, reduceCtorEq]
  refine ⟨J.1.xo, invk c n (Nat.le_refl _) (Nat.le_refl _) (p_waitingAt J.1 O hc hn (fun H' C' => ?_))⟩
  have J' := J.cls D C'
  obtain ⟨f', jf1, jf2⟩ := J'.2.2.1
  rcases hp with hp | hp
  · rw [hp] at hK
    rw [ou_0 hp]
    simp only [eL_waitingAt_0, eL_waitingAt_1, eL_waitingAt_2, eL_waitingAt_3, eL_waitingAt_4, eL_waitingAt_7, eL_waitingAt_8, eL_waitingAt_9, eL_waitingAt_12, eL_waitingAt_13, eL_waitingAt_14, eL_waitingAt_15, eL_waitingAt_16, isA_r, isA_n, isI_i, isF_f, isL_l, is1_i, is1_r, is1_n, is1_f, true_and, and_true, List.length_cons, List.length_nil, Nat.reduceAdd, Nat.reduceLeDiff, Nat.reduceSub, Option.some.injEq, exists_eq_left', aft_s, aft_n, ite_true, ite_false, if_true, if_false, Nat.zero_le, Nat.le_refl, reduceCtorEq, rwJ_of jf1, b01_0, c0_0]
    exact hK _ _ (J'.out D (if_pos rfl)) (fun _ => rfl)
  · rw [hp] at hK
    rw [ou_k (k := 0) hp]
    refine aft_h rfl rfl (fun q => ?_)
    simp only [eL_waitingAt_0, eL_waitingAt_1, eL_waitingAt_2, eL_waitingAt_3, eL_waitingAt_4, eL_waitingAt_7, eL_waitingAt_8, eL_waitingAt_9, eL_waitingAt_12, eL_waitingAt_13, eL_waitingAt_14, eL_waitingAt_15, eL_waitingAt_16, isA_r, isA_n, isI_i, isF_f, isL_l, is1_i, is1_r, is1_n, is1_f, true_and, and_true, List.length_cons, List.length_nil, Nat.reduceAdd, Nat.reduceLeDiff, Nat.reduceSub, Option.some.injEq, exists_eq_left', aft_s, aft_n, ite_true, ite_false, if_true, if_false, Nat.zero_le, Nat.le_refl, reduceCtorEq]
    exact hK v H' J' (fun h => absurd h (by decide))
theorem h_blockers (D : LD mo ad ra rD) (J : LJ E x mo ad ra rD σ σm th v w H) (O : Ok σ)  {v1 : Int32} (hc : 2 ≤ c) (hn : 12 ≤ n) (hK : ∀ v' H', LJ E x mo ad ra rD (q_blockers σ v1).2.2 σm th v' w H' → ((q_blockers σ v1).1 = 0 → v' = (q_blockers σ v1).2.1.toInt64) → K (.inl (some (.int (nI (q_blockers σ v1).1)))) H') : CRd TTv E (d + 14) mL_blockers [.ref x, .int v1, .ref ra] H c n K := by
  refine crd rfl ?_
  show Ev E (d + 13) mL_blockers K 0 [.ref x, .int v1, .ref ra, .retAddr 0] [] H c n
  have hp : (q_blockers σ v1).1 = 0 ∨ (q_blockers σ v1).1 = 1 ∨ (q_blockers σ v1).1 = 2 := by
    unfold q_blockers
    repeat' split
    all_goals simp
  simp only [eL_blockers_0, eL_blockers_1, eL_blockers_2, eL_blockers_3, eL_blockers_4, eL_blockers_7, eL_blockers_8, eL_blockers_9, eL_blockers_12, eL_blockers_13, eL_blockers_14, eL_blockers_15, eL_blockers_16, eL_blockers_17, eL_blockers_18, eL_blockers_19, isA_r, isA_n, isI_i, isF_f, isL_l, is1_i, is1_r, is1_n, is1_f, true_and, and_true, List.length_cons, List.length_nil, Nat.reduceAdd, Nat.reduceLeDiff, Nat.reduceSub, Option.some.injEq, exists_eq_left', aft_s, aft_n, ite_true, ite_false, if_true, if_false, Nat.zero_le, Nat.le_refl, reduceCtorEq]
  refine ⟨J.1.xo, invk c n (Nat.le_refl _) (Nat.le_refl _) (p_blockers J.1 O hc hn (fun H' C' => ?_))⟩
  have J' := J.cls D C'
  obtain ⟨f', jf1, jf2⟩ := J'.2.2.1
  rcases hp with hp | hp | hp
  · rw [hp] at hK
    rw [ou_0 hp]
    simp only [eL_blockers_0, eL_blockers_1, eL_blockers_2, eL_blockers_3, eL_blockers_4, eL_blockers_7, eL_blockers_8, eL_blockers_9, eL_blockers_12, eL_blockers_13, eL_blockers_14, eL_blockers_15, eL_blockers_16, eL_blockers_17, eL_blockers_18, eL_blockers_19, isA_r, isA_n, isI_i, isF_f, isL_l, is1_i, is1_r, is1_n, is1_f, true_and, and_true, List.length_cons, List.length_nil, Nat.reduceAdd, Nat.reduceLeDiff, Nat.reduceSub, Option.some.injEq, exists_eq_left', aft_s, aft_n, ite_true, ite_false, if_true, if_false, Nat.zero_le, Nat.le_refl, reduceCtorEq, rwJ_of jf1, b01_0, c0_0]
    exact hK _ _ (J'.out D (if_pos rfl)) (fun _ => rfl)
  · rw [hp] at hK
    rw [ou_k (k := 0) hp]
    refine aft_h rfl rfl (fun q => ?_)
    simp only [eL_blockers_0, eL_blockers_1, eL_blockers_2, eL_blockers_3, eL_blockers_4, eL_blockers_7, eL_blockers_8, eL_blockers_9, eL_blockers_12, eL_blockers_13, eL_blockers_14, eL_blockers_15, eL_blockers_16, eL_blockers_17, eL_blockers_18, eL_blockers_19, isA_r, isA_n, isI_i, isF_f, isL_l, is1_i, is1_r, is1_n, is1_f, true_and, and_true, List.length_cons, List.length_nil, Nat.reduceAdd, Nat.reduceLeDiff, Nat.reduceSub, Option.some.injEq, exists_eq_left', aft_s, aft_n, ite_true, ite_false, if_true, if_false, Nat.zero_le, Nat.le_refl, reduceCtorEq]
    exact hK v H' J' (fun h => absurd h (by decide))
  · rw [hp] at hK
    rw [ou_k (k := 1) hp]
    refine aft_h rfl rfl (fun q => ?_)
    simp only [eL_blockers_0, eL_blockers_1, eL_blockers_2, eL_blockers_3, eL_blockers_4, eL_blockers_7, eL_blockers_8, eL_blockers_9, eL_blockers_12, eL_blockers_13, eL_blockers_14, eL_blockers_15, eL_blockers_16, eL_blockers_17, eL_blockers_18, eL_blockers_19, isA_r, isA_n, isI_i, isF_f, isL_l, is1_i, is1_r, is1_n, is1_f, true_and, and_true, List.length_cons, List.length_nil, Nat.reduceAdd, Nat.reduceLeDiff, Nat.reduceSub, Option.some.injEq, exists_eq_left', aft_s, aft_n, ite_true, ite_false, if_true, if_false, Nat.zero_le, Nat.le_refl, reduceCtorEq]
    exact hK v H' J' (fun h => absurd h (by decide))
theorem h_stop (D : LD mo ad ra rD) (J : LJ E x mo ad ra rD σ σm th v w H) (G : Good σ T) (hT : T + 200 < 16384)  {v1 : Int32} (hc : JJ (a_stop σ v1).2.2 + 400 ≤ JJ σ + c) (hn : 4 * JJ (a_stop σ v1).2.2 + 1600 ≤ 4 * JJ σ + n) (hK : ∀ v' H', LJ E x mo ad ra rD (a_stop σ v1).2.2 σm th v' w H' → ((a_stop σ v1).1 = 0 → v' = (a_stop σ v1).2.1.toInt64) → K (.inl (some (.int (nI (a_stop σ v1).1)))) H') : CRd TTv E (d + 14) mL_stop [.ref x, .int v1, .ref ra] H c n K := by
  refine crd rfl ?_
  show Ev E (d + 13) mL_stop K 0 [.ref x, .int v1, .ref ra, .retAddr 0] [] H c n
  have hp : (a_stop σ v1).1 = 0 ∨ (a_stop σ v1).1 = 1 ∨ (a_stop σ v1).1 = 2 := by
    unfold a_stop
    repeat' split
    all_goals simp
  simp only [eL_stop_0, eL_stop_1, eL_stop_2, eL_stop_3, eL_stop_4, eL_stop_7, eL_stop_8, eL_stop_9, eL_stop_12, eL_stop_13, eL_stop_14, eL_stop_15, eL_stop_16, eL_stop_17, eL_stop_18, eL_stop_19, isA_r, isA_n, isI_i, isF_f, isL_l, is1_i, is1_r, is1_n, is1_f, true_and, and_true, List.length_cons, List.length_nil, Nat.reduceAdd, Nat.reduceLeDiff, Nat.reduceSub, Option.some.injEq, exists_eq_left', aft_s, aft_n, ite_true, ite_false, if_true, if_false, Nat.zero_le, Nat.le_refl, reduceCtorEq]
  refine ⟨J.1.xo, invk c n (Nat.le_refl _) (Nat.le_refl _) (p_stop J.1 G hT hc hn (fun H' C' => ?_))⟩
  have J' := J.cls D C'
  obtain ⟨f', jf1, jf2⟩ := J'.2.2.1
  rcases hp with hp | hp | hp
  · rw [hp] at hK
    rw [ou_0 hp]
    simp only [eL_stop_0, eL_stop_1, eL_stop_2, eL_stop_3, eL_stop_4, eL_stop_7, eL_stop_8, eL_stop_9, eL_stop_12, eL_stop_13, eL_stop_14, eL_stop_15, eL_stop_16, eL_stop_17, eL_stop_18, eL_stop_19, isA_r, isA_n, isI_i, isF_f, isL_l, is1_i, is1_r, is1_n, is1_f, true_and, and_true, List.length_cons, List.length_nil, Nat.reduceAdd, Nat.reduceLeDiff, Nat.reduceSub, Option.some.injEq, exists_eq_left', aft_s, aft_n, ite_true, ite_false, if_true, if_false, Nat.zero_le, Nat.le_refl, reduceCtorEq, rwJ_of jf1, b01_0, c0_0]
    exact hK _ _ (J'.out D (if_pos rfl)) (fun _ => rfl)
  · rw [hp] at hK
    rw [ou_k (k := 0) hp]
    refine aft_h rfl rfl (fun q => ?_)
    simp only [eL_stop_0, eL_stop_1, eL_stop_2, eL_stop_3, eL_stop_4, eL_stop_7, eL_stop_8, eL_stop_9, eL_stop_12, eL_stop_13, eL_stop_14, eL_stop_15, eL_stop_16, eL_stop_17, eL_stop_18, eL_stop_19, isA_r, isA_n, isI_i, isF_f, isL_l, is1_i, is1_r, is1_n, is1_f, true_and, and_true, List.length_cons, List.length_nil, Nat.reduceAdd, Nat.reduceLeDiff, Nat.reduceSub, Option.some.injEq, exists_eq_left', aft_s, aft_n, ite_true, ite_false, if_true, if_false, Nat.zero_le, Nat.le_refl, reduceCtorEq]
    exact hK v H' J' (fun h => absurd h (by decide))
  · rw [hp] at hK
    rw [ou_k (k := 1) hp]
    refine aft_h rfl rfl (fun q => ?_)
    simp only [eL_stop_0, eL_stop_1, eL_stop_2, eL_stop_3, eL_stop_4, eL_stop_7, eL_stop_8, eL_stop_9, eL_stop_12, eL_stop_13, eL_stop_14, eL_stop_15, eL_stop_16, eL_stop_17, eL_stop_18, eL_stop_19, isA_r, isA_n, isI_i, isF_f, isL_l, is1_i, is1_r, is1_n, is1_f, true_and, and_true, List.length_cons, List.length_nil, Nat.reduceAdd, Nat.reduceLeDiff, Nat.reduceSub, Option.some.injEq, exists_eq_left', aft_s, aft_n, ite_true, ite_false, if_true, if_false, Nat.zero_le, Nat.le_refl, reduceCtorEq]
    exact hK v H' J' (fun h => absurd h (by decide))
theorem h_goOn (D : LD mo ad ra rD) (J : LJ E x mo ad ra rD σ σm th v w H) (G : Good σ T) (hT : T + 200 < 16384)  {v1 : Int32} (hc : JJ (a_goOn σ v1).2.2 + 400 ≤ JJ σ + c) (hn : 4 * JJ (a_goOn σ v1).2.2 + 1600 ≤ 4 * JJ σ + n) (hK : ∀ v' H', LJ E x mo ad ra rD (a_goOn σ v1).2.2 σm th v' w H' → ((a_goOn σ v1).1 = 0 → v' = (a_goOn σ v1).2.1.toInt64) → K (.inl (some (.int (nI (a_goOn σ v1).1)))) H') : CRd TTv E (d + 14) mL_goOn [.ref x, .int v1, .ref ra] H c n K := by
  refine crd rfl ?_
  show Ev E (d + 13) mL_goOn K 0 [.ref x, .int v1, .ref ra, .retAddr 0] [] H c n
  have hp : (a_goOn σ v1).1 = 0 ∨ (a_goOn σ v1).1 = 1 ∨ (a_goOn σ v1).1 = 2 := by
    unfold a_goOn
    repeat' split
    all_goals simp
  simp only [eL_goOn_0, eL_goOn_1, eL_goOn_2, eL_goOn_3, eL_goOn_4, eL_goOn_7, eL_goOn_8, eL_goOn_9, eL_goOn_12, eL_goOn_13, eL_goOn_14, eL_goOn_15, eL_goOn_16, eL_goOn_17, eL_goOn_18, eL_goOn_19, isA_r, isA_n, isI_i, isF_f, isL_l, is1_i, is1_r, is1_n, is1_f, true_and, and_true, List.length_cons, List.length_nil, Nat.reduceAdd, Nat.reduceLeDiff, Nat.reduceSub, Option.some.injEq, exists_eq_left', aft_s, aft_n, ite_true, ite_false, if_true, if_false, Nat.zero_le, Nat.le_refl, reduceCtorEq]
  refine ⟨J.1.xo, invk c n (Nat.le_refl _) (Nat.le_refl _) (p_goOn J.1 G hT hc hn (fun H' C' => ?_))⟩
  have J' := J.cls D C'
  obtain ⟨f', jf1, jf2⟩ := J'.2.2.1
  rcases hp with hp | hp | hp
  · rw [hp] at hK
    rw [ou_0 hp]
    simp only [eL_goOn_0, eL_goOn_1, eL_goOn_2, eL_goOn_3, eL_goOn_4, eL_goOn_7, eL_goOn_8, eL_goOn_9, eL_goOn_12, eL_goOn_13, eL_goOn_14, eL_goOn_15, eL_goOn_16, eL_goOn_17, eL_goOn_18, eL_goOn_19, isA_r, isA_n, isI_i, isF_f, isL_l, is1_i, is1_r, is1_n, is1_f, true_and, and_true, List.length_cons, List.length_nil, Nat.reduceAdd, Nat.reduceLeDiff, Nat.reduceSub, Option.some.injEq, exists_eq_left', aft_s, aft_n, ite_true, ite_false, if_true, if_false, Nat.zero_le, Nat.le_refl, reduceCtorEq, rwJ_of jf1, b01_0, c0_0]
    exact hK _ _ (J'.out D (if_pos rfl)) (fun _ => rfl)
  · rw [hp] at hK
    rw [ou_k (k := 0) hp]
    refine aft_h rfl rfl (fun q => ?_)
    simp only [eL_goOn_0, eL_goOn_1, eL_goOn_2, eL_goOn_3, eL_goOn_4, eL_goOn_7, eL_goOn_8, eL_goOn_9, eL_goOn_12, eL_goOn_13, eL_goOn_14, eL_goOn_15, eL_goOn_16, eL_goOn_17, eL_goOn_18, eL_goOn_19, isA_r, isA_n, isI_i, isF_f, isL_l, is1_i, is1_r, is1_n, is1_f, true_and, and_true, List.length_cons, List.length_nil, Nat.reduceAdd, Nat.reduceLeDiff, Nat.reduceSub, Option.some.injEq, exists_eq_left', aft_s, aft_n, ite_true, ite_false, if_true, if_false, Nat.zero_le, Nat.le_refl, reduceCtorEq]
    exact hK v H' J' (fun h => absurd h (by decide))
  · rw [hp] at hK
    rw [ou_k (k := 1) hp]
    refine aft_h rfl rfl (fun q => ?_)
    simp only [eL_goOn_0, eL_goOn_1, eL_goOn_2, eL_goOn_3, eL_goOn_4, eL_goOn_7, eL_goOn_8, eL_goOn_9, eL_goOn_12, eL_goOn_13, eL_goOn_14, eL_goOn_15, eL_goOn_16, eL_goOn_17, eL_goOn_18, eL_goOn_19, isA_r, isA_n, isI_i, isF_f, isL_l, is1_i, is1_r, is1_n, is1_f, true_and, and_true, List.length_cons, List.length_nil, Nat.reduceAdd, Nat.reduceLeDiff, Nat.reduceSub, Option.some.injEq, exists_eq_left', aft_s, aft_n, ite_true, ite_false, if_true, if_false, Nat.zero_le, Nat.le_refl, reduceCtorEq]
    exact hK v H' J' (fun h => absurd h (by decide))
theorem h_end (D : LD mo ad ra rD) (J : LJ E x mo ad ra rD σ σm th v w H) (G : Good σ T) (hT : T + 200 < 16384)  {v1 : Int32} (hc : JJ (a_end σ v1).2.2 + 400 ≤ JJ σ + c) (hn : 4 * JJ (a_end σ v1).2.2 + 1600 ≤ 4 * JJ σ + n) (hK : ∀ v' H', LJ E x mo ad ra rD (a_end σ v1).2.2 σm th v' w H' → ((a_end σ v1).1 = 0 → v' = (a_end σ v1).2.1.toInt64) → K (.inl (some (.int (nI (a_end σ v1).1)))) H') : CRd TTv E (d + 14) mL_end [.ref x, .int v1, .ref ra] H c n K := by
  refine crd rfl ?_
  show Ev E (d + 13) mL_end K 0 [.ref x, .int v1, .ref ra, .retAddr 0] [] H c n
  have hp : (a_end σ v1).1 = 0 ∨ (a_end σ v1).1 = 1 ∨ (a_end σ v1).1 = 2 := by
    unfold a_end
    repeat' split
    all_goals simp
  simp only [eL_end_0, eL_end_1, eL_end_2, eL_end_3, eL_end_4, eL_end_7, eL_end_8, eL_end_9, eL_end_12, eL_end_13, eL_end_14, eL_end_15, eL_end_16, eL_end_17, eL_end_18, eL_end_19, isA_r, isA_n, isI_i, isF_f, isL_l, is1_i, is1_r, is1_n, is1_f, true_and, and_true, List.length_cons, List.length_nil, Nat.reduceAdd, Nat.reduceLeDiff, Nat.reduceSub, Option.some.injEq, exists_eq_left', aft_s, aft_n, ite_true, ite_false, if_true, if_false, Nat.zero_le, Nat.le_refl, reduceCtorEq]
  refine ⟨J.1.xo, invk c n (Nat.le_refl _) (Nat.le_refl _) (p_end J.1 G hT hc hn (fun H' C' => ?_))⟩
  have J' := J.cls D C'
  obtain ⟨f', jf1, jf2⟩ := J'.2.2.1
  rcases hp with hp | hp | hp
  · rw [hp] at hK
    rw [ou_0 hp]
    simp only [eL_end_0, eL_end_1, eL_end_2, eL_end_3, eL_end_4, eL_end_7, eL_end_8, eL_end_9, eL_end_12, eL_end_13, eL_end_14, eL_end_15, eL_end_16, eL_end_17, eL_end_18, eL_end_19, isA_r, isA_n, isI_i, isF_f, isL_l, is1_i, is1_r, is1_n, is1_f, true_and, and_true, List.length_cons, List.length_nil, Nat.reduceAdd, Nat.reduceLeDiff, Nat.reduceSub, Option.some.injEq, exists_eq_left', aft_s, aft_n, ite_true, ite_false, if_true, if_false, Nat.zero_le, Nat.le_refl, reduceCtorEq, rwJ_of jf1, b01_0, c0_0]
    exact hK _ _ (J'.out D (if_pos rfl)) (fun _ => rfl)
  · rw [hp] at hK
    rw [ou_k (k := 0) hp]
    refine aft_h rfl rfl (fun q => ?_)
    simp only [eL_end_0, eL_end_1, eL_end_2, eL_end_3, eL_end_4, eL_end_7, eL_end_8, eL_end_9, eL_end_12, eL_end_13, eL_end_14, eL_end_15, eL_end_16, eL_end_17, eL_end_18, eL_end_19, isA_r, isA_n, isI_i, isF_f, isL_l, is1_i, is1_r, is1_n, is1_f, true_and, and_true, List.length_cons, List.length_nil, Nat.reduceAdd, Nat.reduceLeDiff, Nat.reduceSub, Option.some.injEq, exists_eq_left', aft_s, aft_n, ite_true, ite_false, if_true, if_false, Nat.zero_le, Nat.le_refl, reduceCtorEq]
    exact hK v H' J' (fun h => absurd h (by decide))
  · rw [hp] at hK
    rw [ou_k (k := 1) hp]
    refine aft_h rfl rfl (fun q => ?_)
    simp only [eL_end_0, eL_end_1, eL_end_2, eL_end_3, eL_end_4, eL_end_7, eL_end_8, eL_end_9, eL_end_12, eL_end_13, eL_end_14, eL_end_15, eL_end_16, eL_end_17, eL_end_18, eL_end_19, isA_r, isA_n, isI_i, isF_f, isL_l, is1_i, is1_r, is1_n, is1_f, true_and, and_true, List.length_cons, List.length_nil, Nat.reduceAdd, Nat.reduceLeDiff, Nat.reduceSub, Option.some.injEq, exists_eq_left', aft_s, aft_n, ite_true, ite_false, if_true, if_false, Nat.zero_le, Nat.le_refl, reduceCtorEq]
    exact hK v H' J' (fun h => absurd h (by decide))
theorem h_signal (D : LD mo ad ra rD) (J : LJ E x mo ad ra rD σ σm th v w H) (G : Good σ T) (hT : T + 200 < 16384)  {v1 v2 : Int32} (hc : JJ (a_signal σ v1 v2).2.2 + 400 ≤ JJ σ + c) (hn : 4 * JJ (a_signal σ v1 v2).2.2 + 1600 ≤ 4 * JJ σ + n) (hK : ∀ v' H', LJ E x mo ad ra rD (a_signal σ v1 v2).2.2 σm th v' w H' → ((a_signal σ v1 v2).1 = 0 → v' = (a_signal σ v1 v2).2.1.toInt64) → K (.inl (some (.int (nI (a_signal σ v1 v2).1)))) H') : CRd TTv E (d + 14) mL_signal [.ref x, .int v1, .int v2, .ref ra] H c n K := by
  refine crd rfl ?_
  show Ev E (d + 13) mL_signal K 0 [.ref x, .int v1, .int v2, .ref ra, .retAddr 0] [] H c n
  have hp : (a_signal σ v1 v2).1 = 0 ∨ (a_signal σ v1 v2).1 = 1 ∨ (a_signal σ v1 v2).1 = 2 := by
    unfold a_signal
    repeat' split
    all_goals simp
  simp only [eL_signal_0, eL_signal_1, eL_signal_2, eL_signal_3, eL_signal_4, eL_signal_5, eL_signal_8, eL_signal_9, eL_signal_10, eL_signal_13, eL_signal_15, eL_signal_16, eL_signal_17, eL_signal_19, eL_signal_20, eL_signal_21, eL_signal_22, isA_r, isA_n, isI_i, isF_f, isL_l, is1_i, is1_r, is1_n, is1_f, true_and, and_true, List.length_cons, List.length_nil, Nat.reduceAdd, Nat.reduceLeDiff, Nat.reduceSub, Option.some.injEq, exists_eq_left', aft_s, aft_n, ite_true, ite_false, if_true, if_false, Nat.zero_le, Nat.le_refl, reduceCtorEq]
  refine ⟨J.1.xo, invk c n (Nat.le_refl _) (Nat.le_refl _) (p_signal J.1 G hT hc hn (fun H' C' => ?_))⟩
  have J' := J.cls D C'
  obtain ⟨f', jf1, jf2⟩ := J'.2.2.1
  rcases hp with hp | hp | hp
  · rw [hp] at hK
    rw [ou_0 hp]
    simp only [eL_signal_0, eL_signal_1, eL_signal_2, eL_signal_3, eL_signal_4, eL_signal_5, eL_signal_8, eL_signal_9, eL_signal_10, eL_signal_13, eL_signal_15, eL_signal_16, eL_signal_17, eL_signal_19, eL_signal_20, eL_signal_21, eL_signal_22, isA_r, isA_n, isI_i, isF_f, isL_l, is1_i, is1_r, is1_n, is1_f, true_and, and_true, List.length_cons, List.length_nil, Nat.reduceAdd, Nat.reduceLeDiff, Nat.reduceSub, Option.some.injEq, exists_eq_left', aft_s, aft_n, ite_true, ite_false, if_true, if_false, Nat.zero_le, Nat.le_refl, reduceCtorEq, rwJ_of jf1, b01_0, c0_0]
    exact hK _ _ (J'.out D (if_pos rfl)) (fun _ => rfl)
  · rw [hp] at hK
    rw [ou_k (k := 0) hp]
    refine aft_h rfl rfl (fun q => ?_)
    simp only [eL_signal_0, eL_signal_1, eL_signal_2, eL_signal_3, eL_signal_4, eL_signal_5, eL_signal_8, eL_signal_9, eL_signal_10, eL_signal_13, eL_signal_15, eL_signal_16, eL_signal_17, eL_signal_19, eL_signal_20, eL_signal_21, eL_signal_22, isA_r, isA_n, isI_i, isF_f, isL_l, is1_i, is1_r, is1_n, is1_f, true_and, and_true, List.length_cons, List.length_nil, Nat.reduceAdd, Nat.reduceLeDiff, Nat.reduceSub, Option.some.injEq, exists_eq_left', aft_s, aft_n, ite_true, ite_false, if_true, if_false, Nat.zero_le, Nat.le_refl, reduceCtorEq]
    exact hK v H' J' (fun h => absurd h (by decide))
  · rw [hp] at hK
    rw [ou_k (k := 1) hp]
    refine aft_h rfl rfl (fun q => ?_)
    simp only [eL_signal_0, eL_signal_1, eL_signal_2, eL_signal_3, eL_signal_4, eL_signal_5, eL_signal_8, eL_signal_9, eL_signal_10, eL_signal_13, eL_signal_15, eL_signal_16, eL_signal_17, eL_signal_19, eL_signal_20, eL_signal_21, eL_signal_22, isA_r, isA_n, isI_i, isF_f, isL_l, is1_i, is1_r, is1_n, is1_f, true_and, and_true, List.length_cons, List.length_nil, Nat.reduceAdd, Nat.reduceLeDiff, Nat.reduceSub, Option.some.injEq, exists_eq_left', aft_s, aft_n, ite_true, ite_false, if_true, if_false, Nat.zero_le, Nat.le_refl, reduceCtorEq]
    exact hK v H' J' (fun h => absurd h (by decide))
theorem h_tick (D : LD mo ad ra rD) (J : LJ E x mo ad ra rD σ σm th v w H) (G : Good σ T) (hT : T + 200 < 16384)  {v1 : Int32} (hc : JJ (a_tick σ v1).2.2 + 400 ≤ JJ σ + c) (hn : 4 * JJ (a_tick σ v1).2.2 + 1600 ≤ 4 * JJ σ + n) (hK : ∀ v' H', LJ E x mo ad ra rD (a_tick σ v1).2.2 σm th v' w H' → ((a_tick σ v1).1 = 0 → v' = (a_tick σ v1).2.1.toInt64) → K (.inl (some (.int (nI (a_tick σ v1).1)))) H') : CRd TTv E (d + 14) mL_tick [.ref x, .int v1, .ref ra] H c n K := by
  refine crd rfl ?_
  show Ev E (d + 13) mL_tick K 0 [.ref x, .int v1, .ref ra, .retAddr 0] [] H c n
  have hp : (a_tick σ v1).1 = 0 ∨ (a_tick σ v1).1 = 1 := by
    unfold a_tick
    repeat' split
    all_goals simp
  simp only [eL_tick_0, eL_tick_1, eL_tick_2, eL_tick_3, eL_tick_4, eL_tick_7, eL_tick_8, eL_tick_9, eL_tick_12, eL_tick_13, eL_tick_14, eL_tick_15, eL_tick_16, isA_r, isA_n, isI_i, isF_f, isL_l, is1_i, is1_r, is1_n, is1_f, true_and, and_true, List.length_cons, List.length_nil, Nat.reduceAdd, Nat.reduceLeDiff, Nat.reduceSub, Option.some.injEq, exists_eq_left', aft_s, aft_n, ite_true, ite_false, if_true, if_false, Nat.zero_le, Nat.le_refl, reduceCtorEq]
  refine ⟨J.1.xo, invk c n (Nat.le_refl _) (Nat.le_refl _) (p_tick J.1 G hT hc hn (fun H' C' => ?_))⟩
  have J' := J.cls D C'
  obtain ⟨f', jf1, jf2⟩ := J'.2.2.1
  rcases hp with hp | hp
  · rw [hp] at hK
    rw [ou_0 hp]
    simp only [eL_tick_0, eL_tick_1, eL_tick_2, eL_tick_3, eL_tick_4, eL_tick_7, eL_tick_8, eL_tick_9, eL_tick_12, eL_tick_13, eL_tick_14, eL_tick_15, eL_tick_16, isA_r, isA_n, isI_i, isF_f, isL_l, is1_i, is1_r, is1_n, is1_f, true_and, and_true, List.length_cons, List.length_nil, Nat.reduceAdd, Nat.reduceLeDiff, Nat.reduceSub, Option.some.injEq, exists_eq_left', aft_s, aft_n, ite_true, ite_false, if_true, if_false, Nat.zero_le, Nat.le_refl, reduceCtorEq, rwJ_of jf1, b01_0, c0_0]
    exact hK _ _ (J'.out D (if_pos rfl)) (fun _ => rfl)
  · rw [hp] at hK
    rw [ou_k (k := 0) hp]
    refine aft_h rfl rfl (fun q => ?_)
    simp only [eL_tick_0, eL_tick_1, eL_tick_2, eL_tick_3, eL_tick_4, eL_tick_7, eL_tick_8, eL_tick_9, eL_tick_12, eL_tick_13, eL_tick_14, eL_tick_15, eL_tick_16, isA_r, isA_n, isI_i, isF_f, isL_l, is1_i, is1_r, is1_n, is1_f, true_and, and_true, List.length_cons, List.length_nil, Nat.reduceAdd, Nat.reduceLeDiff, Nat.reduceSub, Option.some.injEq, exists_eq_left', aft_s, aft_n, ite_true, ite_false, if_true, if_false, Nat.zero_le, Nat.le_refl, reduceCtorEq]
    exact hK v H' J' (fun h => absurd h (by decide))
theorem h_entryJob (D : LD mo ad ra rD) (J : LJ E x mo ad ra rD σ σm th v w H) (O : Ok σ) (hj : (s_jn σ).length ≤ 16384)  {v1 : Int32} (hc : 2 ≤ c) (hn : 12 ≤ n) (hK : ∀ v' H', LJ E x mo ad ra rD (q_entryJob σ v1).2.2 σm th v' w H' → ((q_entryJob σ v1).1 = 0 → v' = (q_entryJob σ v1).2.1.toInt64) → K (.inl (some (.int (nI (q_entryJob σ v1).1)))) H') : CRd TTv E (d + 14) mL_entryJob [.ref x, .int v1, .ref ra] H c n K := by
  refine crd rfl ?_
  show Ev E (d + 13) mL_entryJob K 0 [.ref x, .int v1, .ref ra, .retAddr 0] [] H c n
  have hp : (q_entryJob σ v1).1 = 0 ∨ (q_entryJob σ v1).1 = 1 := by
    unfold q_entryJob
    repeat' split
    all_goals simp
  simp only [eL_entryJob_0, eL_entryJob_1, eL_entryJob_2, eL_entryJob_3, eL_entryJob_4, eL_entryJob_7, eL_entryJob_8, eL_entryJob_9, eL_entryJob_12, eL_entryJob_13, eL_entryJob_14, eL_entryJob_15, eL_entryJob_16, isA_r, isA_n, isI_i, isF_f, isL_l, is1_i, is1_r, is1_n, is1_f, true_and, and_true, List.length_cons, List.length_nil, Nat.reduceAdd, Nat.reduceLeDiff, Nat.reduceSub, Option.some.injEq, exists_eq_left', aft_s, aft_n, ite_true, ite_false, if_true, if_false, Nat.zero_le, Nat.le_refl, reduceCtorEq]
  refine ⟨J.1.xo, invk c n (Nat.le_refl _) (Nat.le_refl _) (p_entryJob J.1 O hj hc hn (fun H' C' => ?_))⟩
  have J' := J.cls D C'
  obtain ⟨f', jf1, jf2⟩ := J'.2.2.1
  rcases hp with hp | hp
  · rw [hp] at hK
    rw [ou_0 hp]
    simp only [eL_entryJob_0, eL_entryJob_1, eL_entryJob_2, eL_entryJob_3, eL_entryJob_4, eL_entryJob_7, eL_entryJob_8, eL_entryJob_9, eL_entryJob_12, eL_entryJob_13, eL_entryJob_14, eL_entryJob_15, eL_entryJob_16, isA_r, isA_n, isI_i, isF_f, isL_l, is1_i, is1_r, is1_n, is1_f, true_and, and_true, List.length_cons, List.length_nil, Nat.reduceAdd, Nat.reduceLeDiff, Nat.reduceSub, Option.some.injEq, exists_eq_left', aft_s, aft_n, ite_true, ite_false, if_true, if_false, Nat.zero_le, Nat.le_refl, reduceCtorEq, rwJ_of jf1, b01_0, c0_0]
    exact hK _ _ (J'.out D (if_pos rfl)) (fun _ => rfl)
  · rw [hp] at hK
    rw [ou_k (k := 0) hp]
    refine aft_h rfl rfl (fun q => ?_)
    simp only [eL_entryJob_0, eL_entryJob_1, eL_entryJob_2, eL_entryJob_3, eL_entryJob_4, eL_entryJob_7, eL_entryJob_8, eL_entryJob_9, eL_entryJob_12, eL_entryJob_13, eL_entryJob_14, eL_entryJob_15, eL_entryJob_16, isA_r, isA_n, isI_i, isF_f, isL_l, is1_i, is1_r, is1_n, is1_f, true_and, and_true, List.length_cons, List.length_nil, Nat.reduceAdd, Nat.reduceLeDiff, Nat.reduceSub, Option.some.injEq, exists_eq_left', aft_s, aft_n, ite_true, ite_false, if_true, if_false, Nat.zero_le, Nat.le_refl, reduceCtorEq]
    exact hK v H' J' (fun h => absurd h (by decide))
theorem h_entryState (D : LD mo ad ra rD) (J : LJ E x mo ad ra rD σ σm th v w H) (O : Ok σ) (hj : (s_jn σ).length ≤ 16384)  {v1 : Int32} (hc : 2 ≤ c) (hn : 12 ≤ n) (hK : ∀ v' H', LJ E x mo ad ra rD (q_entryState σ v1).2.2 σm th v' w H' → ((q_entryState σ v1).1 = 0 → v' = (q_entryState σ v1).2.1.toInt64) → K (.inl (some (.int (nI (q_entryState σ v1).1)))) H') : CRd TTv E (d + 14) mL_entryState [.ref x, .int v1, .ref ra] H c n K := by
  refine crd rfl ?_
  show Ev E (d + 13) mL_entryState K 0 [.ref x, .int v1, .ref ra, .retAddr 0] [] H c n
  have hp : (q_entryState σ v1).1 = 0 ∨ (q_entryState σ v1).1 = 1 := by
    unfold q_entryState
    repeat' split
    all_goals simp
  simp only [eL_entryState_0, eL_entryState_1, eL_entryState_2, eL_entryState_3, eL_entryState_4, eL_entryState_7, eL_entryState_8, eL_entryState_9, eL_entryState_12, eL_entryState_13, eL_entryState_14, eL_entryState_15, eL_entryState_16, isA_r, isA_n, isI_i, isF_f, isL_l, is1_i, is1_r, is1_n, is1_f, true_and, and_true, List.length_cons, List.length_nil, Nat.reduceAdd, Nat.reduceLeDiff, Nat.reduceSub, Option.some.injEq, exists_eq_left', aft_s, aft_n, ite_true, ite_false, if_true, if_false, Nat.zero_le, Nat.le_refl, reduceCtorEq]
  refine ⟨J.1.xo, invk c n (Nat.le_refl _) (Nat.le_refl _) (p_entryState J.1 O hj hc hn (fun H' C' => ?_))⟩
  have J' := J.cls D C'
  obtain ⟨f', jf1, jf2⟩ := J'.2.2.1
  rcases hp with hp | hp
  · rw [hp] at hK
    rw [ou_0 hp]
    simp only [eL_entryState_0, eL_entryState_1, eL_entryState_2, eL_entryState_3, eL_entryState_4, eL_entryState_7, eL_entryState_8, eL_entryState_9, eL_entryState_12, eL_entryState_13, eL_entryState_14, eL_entryState_15, eL_entryState_16, isA_r, isA_n, isI_i, isF_f, isL_l, is1_i, is1_r, is1_n, is1_f, true_and, and_true, List.length_cons, List.length_nil, Nat.reduceAdd, Nat.reduceLeDiff, Nat.reduceSub, Option.some.injEq, exists_eq_left', aft_s, aft_n, ite_true, ite_false, if_true, if_false, Nat.zero_le, Nat.le_refl, reduceCtorEq, rwJ_of jf1, b01_0, c0_0]
    exact hK _ _ (J'.out D (if_pos rfl)) (fun _ => rfl)
  · rw [hp] at hK
    rw [ou_k (k := 0) hp]
    refine aft_h rfl rfl (fun q => ?_)
    simp only [eL_entryState_0, eL_entryState_1, eL_entryState_2, eL_entryState_3, eL_entryState_4, eL_entryState_7, eL_entryState_8, eL_entryState_9, eL_entryState_12, eL_entryState_13, eL_entryState_14, eL_entryState_15, eL_entryState_16, isA_r, isA_n, isI_i, isF_f, isL_l, is1_i, is1_r, is1_n, is1_f, true_and, and_true, List.length_cons, List.length_nil, Nat.reduceAdd, Nat.reduceLeDiff, Nat.reduceSub, Option.some.injEq, exists_eq_left', aft_s, aft_n, ite_true, ite_false, if_true, if_false, Nat.zero_le, Nat.le_refl, reduceCtorEq]
    exact hK v H' J' (fun h => absurd h (by decide))
end LAW2
