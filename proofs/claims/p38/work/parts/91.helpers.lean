/-! the law's helpers -/
section LAW2
variable {E : EN} {P : Nat → Prop} {H0 : AH} {x : Nat} {σ : Sg} {T : Nat} {H : AH} {d c n : Nat} {K : Out → AH → Prop}
theorem h_open (C : CW E P H0 x σ H) (O : Ok σ)  {p1 : Bool} (hc : 10 ≤ c) (hn : 100 ≤ n) (hK : ∀ H', CW E P H0 x (a_open σ p1).2.2 H' → K (.inl (some (.int (hx [-79] (a_open σ p1))))) H') : CRd TTv E (d + 14) mL_open [.ref x, .int (b2 p1)] H c n K := by
  refine crd rfl ?_
  show Ev E (d + 13) mL_open K 0 [.ref x, .int (b2 p1), .retAddr 0] [] H c n
  have hp : (a_open σ p1).1 = 0 ∨ (a_open σ p1).1 = 1 := by
    unfold a_open
    repeat' split
    all_goals simp
  simp only [eL_open_0, eL_open_1, eL_open_2, eL_open_5, eL_open_6, eL_open_7, eL_open_9, isA_r, isA_n, isI_i, isF_f, isL_l, is1_i, is1_r, is1_n, is1_f, true_and, and_true, List.length_cons, List.length_nil, Nat.reduceAdd, Nat.reduceLeDiff, Nat.reduceSub, Option.some.injEq, exists_eq_left', aft_s, aft_n, ite_true, ite_false, if_true, if_false, Nat.zero_le, Nat.le_refl, reduceCtorEq]
  refine ⟨C.xo, invk c n (Nat.le_refl _) (Nat.le_refl _) (p_open C O hc hn (fun H' C' => ?_))⟩
  have hK' := hK H' C'
  rcases hp with hp | hp
  · rw [hx_0 hp] at hK'
    rw [ou_0 hp]
    simp only [eL_open_0, eL_open_1, eL_open_2, eL_open_5, eL_open_6, eL_open_7, eL_open_9, isA_r, isA_n, isI_i, isF_f, isL_l, is1_i, is1_r, is1_n, is1_f, true_and, and_true, List.length_cons, List.length_nil, Nat.reduceAdd, Nat.reduceLeDiff, Nat.reduceSub, Option.some.injEq, exists_eq_left', aft_s, aft_n, ite_true, ite_false, if_true, if_false, Nat.zero_le, Nat.le_refl, reduceCtorEq]
    exact hK'
  · rw [hx_k (k := 0) hp] at hK'
    rw [ou_k (k := 0) hp]
    refine aft_h rfl rfl (fun q => ?_)
    simp only [eL_open_0, eL_open_1, eL_open_2, eL_open_5, eL_open_6, eL_open_7, eL_open_9, isA_r, isA_n, isI_i, isF_f, isL_l, is1_i, is1_r, is1_n, is1_f, true_and, and_true, List.length_cons, List.length_nil, Nat.reduceAdd, Nat.reduceLeDiff, Nat.reduceSub, Option.some.injEq, exists_eq_left', aft_s, aft_n, ite_true, ite_false, if_true, if_false, Nat.zero_le, Nat.le_refl, reduceCtorEq]
    exact hK'
theorem h_drop (C : CW E P H0 x σ H) (G : Good σ T) (hT : T + 200 < 16384)  {v1 : Int32} (hc : JJ (a_drop σ v1).2.2 + 400 ≤ JJ σ + c) (hn : 4 * JJ (a_drop σ v1).2.2 + 1600 ≤ 4 * JJ σ + n) (hK : ∀ H', CW E P H0 x (a_drop σ v1).2.2 H' → K (.inl (some (.int (hx [-77, -79] (a_drop σ v1))))) H') : CRd TTv E (d + 14) mL_drop [.ref x, .int v1] H c n K := by
  refine crd rfl ?_
  show Ev E (d + 13) mL_drop K 0 [.ref x, .int v1, .retAddr 0] [] H c n
  have hp : (a_drop σ v1).1 = 0 ∨ (a_drop σ v1).1 = 1 ∨ (a_drop σ v1).1 = 2 := by
    unfold a_drop
    repeat' split
    all_goals simp
  simp only [eL_drop_0, eL_drop_1, eL_drop_2, eL_drop_5, eL_drop_6, eL_drop_7, eL_drop_9, eL_drop_10, eL_drop_11, eL_drop_13, isA_r, isA_n, isI_i, isF_f, isL_l, is1_i, is1_r, is1_n, is1_f, true_and, and_true, List.length_cons, List.length_nil, Nat.reduceAdd, Nat.reduceLeDiff, Nat.reduceSub, Option.some.injEq, exists_eq_left', aft_s, aft_n, ite_true, ite_false, if_true, if_false, Nat.zero_le, Nat.le_refl, reduceCtorEq]
  refine ⟨C.xo, invk c n (Nat.le_refl _) (Nat.le_refl _) (p_drop C G hT hc hn (fun H' C' => ?_))⟩
  have hK' := hK H' C'
  rcases hp with hp | hp | hp
  · rw [hx_0 hp] at hK'
    rw [ou_0 hp]
    simp only [eL_drop_0, eL_drop_1, eL_drop_2, eL_drop_5, eL_drop_6, eL_drop_7, eL_drop_9, eL_drop_10, eL_drop_11, eL_drop_13, isA_r, isA_n, isI_i, isF_f, isL_l, is1_i, is1_r, is1_n, is1_f, true_and, and_true, List.length_cons, List.length_nil, Nat.reduceAdd, Nat.reduceLeDiff, Nat.reduceSub, Option.some.injEq, exists_eq_left', aft_s, aft_n, ite_true, ite_false, if_true, if_false, Nat.zero_le, Nat.le_refl, reduceCtorEq]
    exact hK'
  · rw [hx_k (k := 0) hp] at hK'
    rw [ou_k (k := 0) hp]
    refine aft_h rfl rfl (fun q => ?_)
    simp only [eL_drop_0, eL_drop_1, eL_drop_2, eL_drop_5, eL_drop_6, eL_drop_7, eL_drop_9, eL_drop_10, eL_drop_11, eL_drop_13, isA_r, isA_n, isI_i, isF_f, isL_l, is1_i, is1_r, is1_n, is1_f, true_and, and_true, List.length_cons, List.length_nil, Nat.reduceAdd, Nat.reduceLeDiff, Nat.reduceSub, Option.some.injEq, exists_eq_left', aft_s, aft_n, ite_true, ite_false, if_true, if_false, Nat.zero_le, Nat.le_refl, reduceCtorEq]
    exact hK'
  · rw [hx_k (k := 1) hp] at hK'
    rw [ou_k (k := 1) hp]
    refine aft_h rfl rfl (fun q => ?_)
    simp only [eL_drop_0, eL_drop_1, eL_drop_2, eL_drop_5, eL_drop_6, eL_drop_7, eL_drop_9, eL_drop_10, eL_drop_11, eL_drop_13, isA_r, isA_n, isI_i, isF_f, isL_l, is1_i, is1_r, is1_n, is1_f, true_and, and_true, List.length_cons, List.length_nil, Nat.reduceAdd, Nat.reduceLeDiff, Nat.reduceSub, Option.some.injEq, exists_eq_left', aft_s, aft_n, ite_true, ite_false, if_true, if_false, Nat.zero_le, Nat.le_refl, reduceCtorEq]
    exact hK'
theorem h_takeUp (C : CW E P H0 x σ H) (G : Good σ T) (hT : T + 200 < 16384)  {v1 : Int32} (hc : JJ (a_takeUp σ v1).2.2 + 400 ≤ JJ σ + c) (hn : 4 * JJ (a_takeUp σ v1).2.2 + 1600 ≤ 4 * JJ σ + n) (hK : ∀ H', CW E P H0 x (a_takeUp σ v1).2.2 H' → K (.inl (some (.int (hx [-77, -79] (a_takeUp σ v1))))) H') : CRd TTv E (d + 14) mL_takeUp [.ref x, .int v1] H c n K := by
  refine crd rfl ?_
  show Ev E (d + 13) mL_takeUp K 0 [.ref x, .int v1, .retAddr 0] [] H c n
  have hp : (a_takeUp σ v1).1 = 0 ∨ (a_takeUp σ v1).1 = 1 ∨ (a_takeUp σ v1).1 = 2 := by
    unfold a_takeUp
    repeat' split
    all_goals simp
  simp only [eL_takeUp_0, eL_takeUp_1, eL_takeUp_2, eL_takeUp_5, eL_takeUp_6, eL_takeUp_7, eL_takeUp_9, eL_takeUp_10, eL_takeUp_11, eL_takeUp_13, isA_r, isA_n, isI_i, isF_f, isL_l, is1_i, is1_r, is1_n, is1_f, true_and, and_true, List.length_cons, List.length_nil, Nat.reduceAdd, Nat.reduceLeDiff, Nat.reduceSub, Option.some.injEq, exists_eq_left', aft_s, aft_n, ite_true, ite_false, if_true, if_false, Nat.zero_le, Nat.le_refl, reduceCtorEq]
  refine ⟨C.xo, invk c n (Nat.le_refl _) (Nat.le_refl _) (p_takeUp C G hT hc hn (fun H' C' => ?_))⟩
  have hK' := hK H' C'
  rcases hp with hp | hp | hp
  · rw [hx_0 hp] at hK'
    rw [ou_0 hp]
    simp only [eL_takeUp_0, eL_takeUp_1, eL_takeUp_2, eL_takeUp_5, eL_takeUp_6, eL_takeUp_7, eL_takeUp_9, eL_takeUp_10, eL_takeUp_11, eL_takeUp_13, isA_r, isA_n, isI_i, isF_f, isL_l, is1_i, is1_r, is1_n, is1_f, true_and, and_true, List.length_cons, List.length_nil, Nat.reduceAdd, Nat.reduceLeDiff, Nat.reduceSub, Option.some.injEq, exists_eq_left', aft_s, aft_n, ite_true, ite_false, if_true, if_false, Nat.zero_le, Nat.le_refl, reduceCtorEq]
    exact hK'
  · rw [hx_k (k := 0) hp] at hK'
    rw [ou_k (k := 0) hp]
    refine aft_h rfl rfl (fun q => ?_)
    simp only [eL_takeUp_0, eL_takeUp_1, eL_takeUp_2, eL_takeUp_5, eL_takeUp_6, eL_takeUp_7, eL_takeUp_9, eL_takeUp_10, eL_takeUp_11, eL_takeUp_13, isA_r, isA_n, isI_i, isF_f, isL_l, is1_i, is1_r, is1_n, is1_f, true_and, and_true, List.length_cons, List.length_nil, Nat.reduceAdd, Nat.reduceLeDiff, Nat.reduceSub, Option.some.injEq, exists_eq_left', aft_s, aft_n, ite_true, ite_false, if_true, if_false, Nat.zero_le, Nat.le_refl, reduceCtorEq]
    exact hK'
  · rw [hx_k (k := 1) hp] at hK'
    rw [ou_k (k := 1) hp]
    refine aft_h rfl rfl (fun q => ?_)
    simp only [eL_takeUp_0, eL_takeUp_1, eL_takeUp_2, eL_takeUp_5, eL_takeUp_6, eL_takeUp_7, eL_takeUp_9, eL_takeUp_10, eL_takeUp_11, eL_takeUp_13, isA_r, isA_n, isI_i, isF_f, isL_l, is1_i, is1_r, is1_n, is1_f, true_and, and_true, List.length_cons, List.length_nil, Nat.reduceAdd, Nat.reduceLeDiff, Nat.reduceSub, Option.some.injEq, exists_eq_left', aft_s, aft_n, ite_true, ite_false, if_true, if_false, Nat.zero_le, Nat.le_refl, reduceCtorEq]
    exact hK'
theorem h_isAttached (C : CW E P H0 x σ H) (O : Ok σ)  {v1 : Int32} (hc : 2 ≤ c) (hn : 12 ≤ n) (hK : ∀ H', CW E P H0 x σ H' → K (.inl (some (.int (hx [-77] (q_isAttached σ v1))))) H') : CRd TTv E (d + 13) mL_isAttached [.ref x, .int v1] H c n K := by
  refine crd rfl ?_
  show Ev E (d + 12) mL_isAttached K 0 [.ref x, .int v1, .retAddr 0] [] H c n
  have hp : (q_isAttached σ v1).1 = 0 ∨ (q_isAttached σ v1).1 = 1 := by
    unfold q_isAttached
    repeat' split
    all_goals simp
  simp only [eL_isAttached_0, eL_isAttached_1, eL_isAttached_2, eL_isAttached_5, eL_isAttached_8, eL_isAttached_9, eL_isAttached_12, eL_isAttached_13, eL_isAttached_14, eL_isAttached_15, eL_isAttached_17, isA_r, isA_n, isI_i, isF_f, isL_l, is1_i, is1_r, is1_n, is1_f, true_and, and_true, List.length_cons, List.length_nil, Nat.reduceAdd, Nat.reduceLeDiff, Nat.reduceSub, Option.some.injEq, exists_eq_left', aft_s, aft_n, ite_true, ite_false, if_true, if_false, Nat.zero_le, Nat.le_refl, reduceCtorEq]
  refine ⟨C.xo, invk c n (Nat.le_refl _) (Nat.le_refl _) (p_isAttached C O hc hn (fun H' C' => ?_))⟩
  rw [u_isAttached] at C'
  have hK' := hK H' C'
  rcases hp with hp | hp
  · rw [hx_0 hp] at hK'
    rw [ou_0 hp]
    have hb : (q_isAttached σ v1).2.1 = 0 ∨ (q_isAttached σ v1).2.1 = 1 := by
      unfold q_isAttached
      repeat' split
      all_goals first | exact Or.inl rfl | (exact b2_01)
    rcases hb with hb | hb
    · rw [hb] at hK'
      have e : ((q_isAttached σ v1).2.1 = 0) = True := eq_true hb
      simp only [eL_isAttached_0, eL_isAttached_1, eL_isAttached_2, eL_isAttached_5, eL_isAttached_8, eL_isAttached_9, eL_isAttached_12, eL_isAttached_13, eL_isAttached_14, eL_isAttached_15, eL_isAttached_17, isA_r, isA_n, isI_i, isF_f, isL_l, is1_i, is1_r, is1_n, is1_f, true_and, and_true, List.length_cons, List.length_nil, Nat.reduceAdd, Nat.reduceLeDiff, Nat.reduceSub, Option.some.injEq, exists_eq_left', aft_s, aft_n, ite_true, ite_false, if_true, if_false, Nat.zero_le, Nat.le_refl, reduceCtorEq, e]
      exact hK'
    · rw [hb] at hK'
      have e : ((q_isAttached σ v1).2.1 = 0) = False := eq_false (by rw [hb]; decide)
      simp only [eL_isAttached_0, eL_isAttached_1, eL_isAttached_2, eL_isAttached_5, eL_isAttached_8, eL_isAttached_9, eL_isAttached_12, eL_isAttached_13, eL_isAttached_14, eL_isAttached_15, eL_isAttached_17, isA_r, isA_n, isI_i, isF_f, isL_l, is1_i, is1_r, is1_n, is1_f, true_and, and_true, List.length_cons, List.length_nil, Nat.reduceAdd, Nat.reduceLeDiff, Nat.reduceSub, Option.some.injEq, exists_eq_left', aft_s, aft_n, ite_true, ite_false, if_true, if_false, Nat.zero_le, Nat.le_refl, reduceCtorEq, e]
      exact hK'
  · rw [hx_k (k := 0) hp] at hK'
    rw [ou_k (k := 0) hp]
    refine aft_h rfl rfl (fun q => ?_)
    simp only [eL_isAttached_0, eL_isAttached_1, eL_isAttached_2, eL_isAttached_5, eL_isAttached_8, eL_isAttached_9, eL_isAttached_12, eL_isAttached_13, eL_isAttached_14, eL_isAttached_15, eL_isAttached_17, isA_r, isA_n, isI_i, isF_f, isL_l, is1_i, is1_r, is1_n, is1_f, true_and, and_true, List.length_cons, List.length_nil, Nat.reduceAdd, Nat.reduceLeDiff, Nat.reduceSub, Option.some.injEq, exists_eq_left', aft_s, aft_n, ite_true, ite_false, if_true, if_false, Nat.zero_le, Nat.le_refl, reduceCtorEq]
    exact hK'
theorem h_kept (C : CW E P H0 x σ H) (O : Ok σ)  {v1 : Int32} (hc : 2 ≤ c) (hn : 12 ≤ n) (hK : ∀ H', CW E P H0 x σ H' → K (.inl (some (.int (hx [-77] (q_kept σ v1))))) H') : CRd TTv E (d + 13) mL_kept [.ref x, .int v1] H c n K := by
  refine crd rfl ?_
  show Ev E (d + 12) mL_kept K 0 [.ref x, .int v1, .retAddr 0] [] H c n
  have hp : (q_kept σ v1).1 = 0 ∨ (q_kept σ v1).1 = 1 := by
    unfold q_kept
    repeat' split
    all_goals simp
  simp only [eL_kept_0, eL_kept_1, eL_kept_2, eL_kept_5, eL_kept_6, eL_kept_7, eL_kept_9, isA_r, isA_n, isI_i, isF_f, isL_l, is1_i, is1_r, is1_n, is1_f, true_and, and_true, List.length_cons, List.length_nil, Nat.reduceAdd, Nat.reduceLeDiff, Nat.reduceSub, Option.some.injEq, exists_eq_left', aft_s, aft_n, ite_true, ite_false, if_true, if_false, Nat.zero_le, Nat.le_refl, reduceCtorEq]
  refine ⟨C.xo, invk c n (Nat.le_refl _) (Nat.le_refl _) (p_kept C O hc hn (fun H' C' => ?_))⟩
  rw [u_kept] at C'
  have hK' := hK H' C'
  rcases hp with hp | hp
  · rw [hx_0 hp] at hK'
    rw [ou_0 hp]
    simp only [eL_kept_0, eL_kept_1, eL_kept_2, eL_kept_5, eL_kept_6, eL_kept_7, eL_kept_9, isA_r, isA_n, isI_i, isF_f, isL_l, is1_i, is1_r, is1_n, is1_f, true_and, and_true, List.length_cons, List.length_nil, Nat.reduceAdd, Nat.reduceLeDiff, Nat.reduceSub, Option.some.injEq, exists_eq_left', aft_s, aft_n, ite_true, ite_false, if_true, if_false, Nat.zero_le, Nat.le_refl, reduceCtorEq]
    exact hK'
  · rw [hx_k (k := 0) hp] at hK'
    rw [ou_k (k := 0) hp]
    refine aft_h rfl rfl (fun q => ?_)
    simp only [eL_kept_0, eL_kept_1, eL_kept_2, eL_kept_5, eL_kept_6, eL_kept_7, eL_kept_9, isA_r, isA_n, isI_i, isF_f, isL_l, is1_i, is1_r, is1_n, is1_f, true_and, and_true, List.length_cons, List.length_nil, Nat.reduceAdd, Nat.reduceLeDiff, Nat.reduceSub, Option.some.injEq, exists_eq_left', aft_s, aft_n, ite_true, ite_false, if_true, if_false, Nat.zero_le, Nat.le_refl, reduceCtorEq]
    exact hK'
theorem h_commandAt (C : CW E P H0 x σ H) (O : Ok σ)  {v1 v2 : Int32} (hc : 2 ≤ c) (hn : 12 ≤ n) (hK : ∀ H', CW E P H0 x σ H' → K (.inl (some (.int (hx [-77, -75] (q_commandAt σ v1 v2))))) H') : CRd TTv E (d + 13) mL_commandAt [.ref x, .int v1, .int v2] H c n K := by
  refine crd rfl ?_
  show Ev E (d + 12) mL_commandAt K 0 [.ref x, .int v1, .int v2, .retAddr 0] [] H c n
  have hp : (q_commandAt σ v1 v2).1 = 0 ∨ (q_commandAt σ v1 v2).1 = 1 ∨ (q_commandAt σ v1 v2).1 = 2 := by
    unfold q_commandAt
    repeat' split
    all_goals simp
  simp only [eL_commandAt_0, eL_commandAt_1, eL_commandAt_2, eL_commandAt_3, eL_commandAt_6, eL_commandAt_7, eL_commandAt_8, eL_commandAt_10, eL_commandAt_11, eL_commandAt_12, eL_commandAt_14, isA_r, isA_n, isI_i, isF_f, isL_l, is1_i, is1_r, is1_n, is1_f, true_and, and_true, List.length_cons, List.length_nil, Nat.reduceAdd, Nat.reduceLeDiff, Nat.reduceSub, Option.some.injEq, exists_eq_left', aft_s, aft_n, ite_true, ite_false, if_true, if_false, Nat.zero_le, Nat.le_refl, reduceCtorEq]
  refine ⟨C.xo, invk c n (Nat.le_refl _) (Nat.le_refl _) (p_commandAt C O hc hn (fun H' C' => ?_))⟩
  rw [u_commandAt] at C'
  have hK' := hK H' C'
  rcases hp with hp | hp | hp
  · rw [hx_0 hp] at hK'
    rw [ou_0 hp]
    simp only [eL_commandAt_0, eL_commandAt_1, eL_commandAt_2, eL_commandAt_3, eL_commandAt_6, eL_commandAt_7, eL_commandAt_8, eL_commandAt_10, eL_commandAt_11, eL_commandAt_12, eL_commandAt_14, isA_r, isA_n, isI_i, isF_f, isL_l, is1_i, is1_r, is1_n, is1_f, true_and, and_true, List.length_cons, List.length_nil, Nat.reduceAdd, Nat.reduceLeDiff, Nat.reduceSub, Option.some.injEq, exists_eq_left', aft_s, aft_n, ite_true, ite_false, if_true, if_false, Nat.zero_le, Nat.le_refl, reduceCtorEq]
    exact hK'
  · rw [hx_k (k := 0) hp] at hK'
    rw [ou_k (k := 0) hp]
    refine aft_h rfl rfl (fun q => ?_)
    simp only [eL_commandAt_0, eL_commandAt_1, eL_commandAt_2, eL_commandAt_3, eL_commandAt_6, eL_commandAt_7, eL_commandAt_8, eL_commandAt_10, eL_commandAt_11, eL_commandAt_12, eL_commandAt_14, isA_r, isA_n, isI_i, isF_f, isL_l, is1_i, is1_r, is1_n, is1_f, true_and, and_true, List.length_cons, List.length_nil, Nat.reduceAdd, Nat.reduceLeDiff, Nat.reduceSub, Option.some.injEq, exists_eq_left', aft_s, aft_n, ite_true, ite_false, if_true, if_false, Nat.zero_le, Nat.le_refl, reduceCtorEq]
    exact hK'
  · rw [hx_k (k := 1) hp] at hK'
    rw [ou_k (k := 1) hp]
    refine aft_h rfl rfl (fun q => ?_)
    simp only [eL_commandAt_0, eL_commandAt_1, eL_commandAt_2, eL_commandAt_3, eL_commandAt_6, eL_commandAt_7, eL_commandAt_8, eL_commandAt_10, eL_commandAt_11, eL_commandAt_12, eL_commandAt_14, isA_r, isA_n, isI_i, isF_f, isL_l, is1_i, is1_r, is1_n, is1_f, true_and, and_true, List.length_cons, List.length_nil, Nat.reduceAdd, Nat.reduceLeDiff, Nat.reduceSub, Option.some.injEq, exists_eq_left', aft_s, aft_n, ite_true, ite_false, if_true, if_false, Nat.zero_le, Nat.le_refl, reduceCtorEq]
    exact hK'
theorem h_commonAt (C : CW E P H0 x σ H) (O : Ok σ)  {v1 : Int32} (hc : 2 ≤ c) (hn : 12 ≤ n) (hK : ∀ H', CW E P H0 x σ H' → K (.inl (some (.int (hx [-75] (q_commonAt σ v1))))) H') : CRd TTv E (d + 13) mL_commonAt [.ref x, .int v1] H c n K := by
  refine crd rfl ?_
  show Ev E (d + 12) mL_commonAt K 0 [.ref x, .int v1, .retAddr 0] [] H c n
  have hp : (q_commonAt σ v1).1 = 0 ∨ (q_commonAt σ v1).1 = 1 := by
    unfold q_commonAt
    repeat' split
    all_goals simp
  simp only [eL_commonAt_0, eL_commonAt_1, eL_commonAt_2, eL_commonAt_5, eL_commonAt_6, eL_commonAt_7, eL_commonAt_9, isA_r, isA_n, isI_i, isF_f, isL_l, is1_i, is1_r, is1_n, is1_f, true_and, and_true, List.length_cons, List.length_nil, Nat.reduceAdd, Nat.reduceLeDiff, Nat.reduceSub, Option.some.injEq, exists_eq_left', aft_s, aft_n, ite_true, ite_false, if_true, if_false, Nat.zero_le, Nat.le_refl, reduceCtorEq]
  refine ⟨C.xo, invk c n (Nat.le_refl _) (Nat.le_refl _) (p_commonAt C O hc hn (fun H' C' => ?_))⟩
  rw [u_commonAt] at C'
  have hK' := hK H' C'
  rcases hp with hp | hp
  · rw [hx_0 hp] at hK'
    rw [ou_0 hp]
    simp only [eL_commonAt_0, eL_commonAt_1, eL_commonAt_2, eL_commonAt_5, eL_commonAt_6, eL_commonAt_7, eL_commonAt_9, isA_r, isA_n, isI_i, isF_f, isL_l, is1_i, is1_r, is1_n, is1_f, true_and, and_true, List.length_cons, List.length_nil, Nat.reduceAdd, Nat.reduceLeDiff, Nat.reduceSub, Option.some.injEq, exists_eq_left', aft_s, aft_n, ite_true, ite_false, if_true, if_false, Nat.zero_le, Nat.le_refl, reduceCtorEq]
    exact hK'
  · rw [hx_k (k := 0) hp] at hK'
    rw [ou_k (k := 0) hp]
    refine aft_h rfl rfl (fun q => ?_)
    simp only [eL_commonAt_0, eL_commonAt_1, eL_commonAt_2, eL_commonAt_5, eL_commonAt_6, eL_commonAt_7, eL_commonAt_9, isA_r, isA_n, isI_i, isF_f, isL_l, is1_i, is1_r, is1_n, is1_f, true_and, and_true, List.length_cons, List.length_nil, Nat.reduceAdd, Nat.reduceLeDiff, Nat.reduceSub, Option.some.injEq, exists_eq_left', aft_s, aft_n, ite_true, ite_false, if_true, if_false, Nat.zero_le, Nat.le_refl, reduceCtorEq]
    exact hK'
theorem h_search (C : CW E P H0 x σ H) (O : Ok σ)  {v1 v2 v3 : Int32} (hc : 2 ≤ c) (hn : 12 ≤ n) (hK : ∀ H', CW E P H0 x σ H' → K (.inl (some (.int (hx [-77, -78, -75] (a_search σ v1 v2 v3))))) H') : CRd TTv E (d + 13) mL_search [.ref x, .int v1, .int v2, .int v3] H c n K := by
  refine crd rfl ?_
  show Ev E (d + 12) mL_search K 0 [.ref x, .int v1, .int v2, .int v3, .retAddr 0] [] H c n
  have hp : (a_search σ v1 v2 v3).1 = 0 ∨ (a_search σ v1 v2 v3).1 = 1 ∨ (a_search σ v1 v2 v3).1 = 2 ∨ (a_search σ v1 v2 v3).1 = 3 := by
    unfold a_search
    repeat' split
    all_goals first | simp | skip
    all_goals (unfold sres sres2; repeat' split)
    all_goals simp
  simp only [eL_search_0, eL_search_1, eL_search_2, eL_search_3, eL_search_4, eL_search_7, eL_search_8, eL_search_10, eL_search_12, eL_search_13, eL_search_15, eL_search_17, eL_search_18, eL_search_20, eL_search_22, isA_r, isA_n, isI_i, isF_f, isL_l, is1_i, is1_r, is1_n, is1_f, true_and, and_true, List.length_cons, List.length_nil, Nat.reduceAdd, Nat.reduceLeDiff, Nat.reduceSub, Option.some.injEq, exists_eq_left', aft_s, aft_n, ite_true, ite_false, if_true, if_false, Nat.zero_le, Nat.le_refl, reduceCtorEq]
  refine ⟨C.xo, invk c n (Nat.le_refl _) (Nat.le_refl _) (p_search C O hc hn (fun H' C' => ?_))⟩
  rw [u_search] at C'
  have hK' := hK H' C'
  rcases hp with hp | hp | hp | hp
  · rw [hx_0 hp] at hK'
    rw [ou_0 hp]
    simp only [eL_search_0, eL_search_1, eL_search_2, eL_search_3, eL_search_4, eL_search_7, eL_search_8, eL_search_10, eL_search_12, eL_search_13, eL_search_15, eL_search_17, eL_search_18, eL_search_20, eL_search_22, isA_r, isA_n, isI_i, isF_f, isL_l, is1_i, is1_r, is1_n, is1_f, true_and, and_true, List.length_cons, List.length_nil, Nat.reduceAdd, Nat.reduceLeDiff, Nat.reduceSub, Option.some.injEq, exists_eq_left', aft_s, aft_n, ite_true, ite_false, if_true, if_false, Nat.zero_le, Nat.le_refl, reduceCtorEq]
    exact hK'
  · rw [hx_k (k := 0) hp] at hK'
    rw [ou_k (k := 0) hp]
    refine aft_h rfl rfl (fun q => ?_)
    simp only [eL_search_0, eL_search_1, eL_search_2, eL_search_3, eL_search_4, eL_search_7, eL_search_8, eL_search_10, eL_search_12, eL_search_13, eL_search_15, eL_search_17, eL_search_18, eL_search_20, eL_search_22, isA_r, isA_n, isI_i, isF_f, isL_l, is1_i, is1_r, is1_n, is1_f, true_and, and_true, List.length_cons, List.length_nil, Nat.reduceAdd, Nat.reduceLeDiff, Nat.reduceSub, Option.some.injEq, exists_eq_left', aft_s, aft_n, ite_true, ite_false, if_true, if_false, Nat.zero_le, Nat.le_refl, reduceCtorEq]
    exact hK'
  · rw [hx_k (k := 1) hp] at hK'
    rw [ou_k (k := 1) hp]
    refine aft_h rfl rfl (fun q => ?_)
    simp only [eL_search_0, eL_search_1, eL_search_2, eL_search_3, eL_search_4, eL_search_7, eL_search_8, eL_search_10, eL_search_12, eL_search_13, eL_search_15, eL_search_17, eL_search_18, eL_search_20, eL_search_22, isA_r, isA_n, isI_i, isF_f, isL_l, is1_i, is1_r, is1_n, is1_f, true_and, and_true, List.length_cons, List.length_nil, Nat.reduceAdd, Nat.reduceLeDiff, Nat.reduceSub, Option.some.injEq, exists_eq_left', aft_s, aft_n, ite_true, ite_false, if_true, if_false, Nat.zero_le, Nat.le_refl, reduceCtorEq]
    exact hK'
  · rw [hx_k (k := 2) hp] at hK'
    rw [ou_k (k := 2) hp]
    refine aft_h rfl rfl (fun q => ?_)
    simp only [eL_search_0, eL_search_1, eL_search_2, eL_search_3, eL_search_4, eL_search_7, eL_search_8, eL_search_10, eL_search_12, eL_search_13, eL_search_15, eL_search_17, eL_search_18, eL_search_20, eL_search_22, isA_r, isA_n, isI_i, isF_f, isL_l, is1_i, is1_r, is1_n, is1_f, true_and, and_true, List.length_cons, List.length_nil, Nat.reduceAdd, Nat.reduceLeDiff, Nat.reduceSub, Option.some.injEq, exists_eq_left', aft_s, aft_n, ite_true, ite_false, if_true, if_false, Nat.zero_le, Nat.le_refl, reduceCtorEq]
    exact hK'
theorem h_start (C : CW E P H0 x σ H) (G : Good σ T) (hT : T + 200 < 16384)  {v1 v2 v3 v4 : Int32} {p5 : Bool} (hc : JJ (a_start σ v1 v2 v3 v4 p5).2.2 + 400 ≤ JJ σ + c) (hn : 4 * JJ (a_start σ v1 v2 v3 v4 p5).2.2 + 1600 ≤ 4 * JJ σ + n) (hK : ∀ H', CW E P H0 x (a_start σ v1 v2 v3 v4 p5).2.2 H' → K (.inl (some (.int (hx [-77, -78, -76, -79] (a_start σ v1 v2 v3 v4 p5))))) H') : CRd TTv E (d + 14) mL_start [.ref x, .int v1, .int v2, .int v3, .int v4, .int (b2 p5)] H c n K := by
  refine crd rfl ?_
  show Ev E (d + 13) mL_start K 0 [.ref x, .int v1, .int v2, .int v3, .int v4, .int (b2 p5), .retAddr 0] [] H c n
  have hp : (a_start σ v1 v2 v3 v4 p5).1 = 0 ∨ (a_start σ v1 v2 v3 v4 p5).1 = 1 ∨ (a_start σ v1 v2 v3 v4 p5).1 = 2 ∨ (a_start σ v1 v2 v3 v4 p5).1 = 3 ∨ (a_start σ v1 v2 v3 v4 p5).1 = 4 := by
    unfold a_start
    repeat' split
    all_goals simp
  simp only [eL_start_0, eL_start_1, eL_start_2, eL_start_3, eL_start_4, eL_start_6, eL_start_8, eL_start_11, eL_start_12, eL_start_14, eL_start_16, eL_start_17, eL_start_19, eL_start_21, eL_start_22, eL_start_24, eL_start_26, eL_start_27, eL_start_29, eL_start_31, isA_r, isA_n, isI_i, isF_f, isL_l, is1_i, is1_r, is1_n, is1_f, true_and, and_true, List.length_cons, List.length_nil, Nat.reduceAdd, Nat.reduceLeDiff, Nat.reduceSub, Option.some.injEq, exists_eq_left', aft_s, aft_n, ite_true, ite_false, if_true, if_false, Nat.zero_le, Nat.le_refl, reduceCtorEq]
  refine ⟨C.xo, invk c n (Nat.le_refl _) (Nat.le_refl _) (p_start C G hT hc hn (fun H' C' => ?_))⟩
  have hK' := hK H' C'
  rcases hp with hp | hp | hp | hp | hp
  · rw [hx_0 hp] at hK'
    rw [ou_0 hp]
    simp only [eL_start_0, eL_start_1, eL_start_2, eL_start_3, eL_start_4, eL_start_6, eL_start_8, eL_start_11, eL_start_12, eL_start_14, eL_start_16, eL_start_17, eL_start_19, eL_start_21, eL_start_22, eL_start_24, eL_start_26, eL_start_27, eL_start_29, eL_start_31, isA_r, isA_n, isI_i, isF_f, isL_l, is1_i, is1_r, is1_n, is1_f, true_and, and_true, List.length_cons, List.length_nil, Nat.reduceAdd, Nat.reduceLeDiff, Nat.reduceSub, Option.some.injEq, exists_eq_left', aft_s, aft_n, ite_true, ite_false, if_true, if_false, Nat.zero_le, Nat.le_refl, reduceCtorEq]
    exact hK'
  · rw [hx_k (k := 0) hp] at hK'
    rw [ou_k (k := 0) hp]
    refine aft_h rfl rfl (fun q => ?_)
    simp only [eL_start_0, eL_start_1, eL_start_2, eL_start_3, eL_start_4, eL_start_6, eL_start_8, eL_start_11, eL_start_12, eL_start_14, eL_start_16, eL_start_17, eL_start_19, eL_start_21, eL_start_22, eL_start_24, eL_start_26, eL_start_27, eL_start_29, eL_start_31, isA_r, isA_n, isI_i, isF_f, isL_l, is1_i, is1_r, is1_n, is1_f, true_and, and_true, List.length_cons, List.length_nil, Nat.reduceAdd, Nat.reduceLeDiff, Nat.reduceSub, Option.some.injEq, exists_eq_left', aft_s, aft_n, ite_true, ite_false, if_true, if_false, Nat.zero_le, Nat.le_refl, reduceCtorEq]
    exact hK'
  · rw [hx_k (k := 1) hp] at hK'
    rw [ou_k (k := 1) hp]
    refine aft_h rfl rfl (fun q => ?_)
    simp only [eL_start_0, eL_start_1, eL_start_2, eL_start_3, eL_start_4, eL_start_6, eL_start_8, eL_start_11, eL_start_12, eL_start_14, eL_start_16, eL_start_17, eL_start_19, eL_start_21, eL_start_22, eL_start_24, eL_start_26, eL_start_27, eL_start_29, eL_start_31, isA_r, isA_n, isI_i, isF_f, isL_l, is1_i, is1_r, is1_n, is1_f, true_and, and_true, List.length_cons, List.length_nil, Nat.reduceAdd, Nat.reduceLeDiff, Nat.reduceSub, Option.some.injEq, exists_eq_left', aft_s, aft_n, ite_true, ite_false, if_true, if_false, Nat.zero_le, Nat.le_refl, reduceCtorEq]
    exact hK'
  · rw [hx_k (k := 2) hp] at hK'
    rw [ou_k (k := 2) hp]
    refine aft_h rfl rfl (fun q => ?_)
    simp only [eL_start_0, eL_start_1, eL_start_2, eL_start_3, eL_start_4, eL_start_6, eL_start_8, eL_start_11, eL_start_12, eL_start_14, eL_start_16, eL_start_17, eL_start_19, eL_start_21, eL_start_22, eL_start_24, eL_start_26, eL_start_27, eL_start_29, eL_start_31, isA_r, isA_n, isI_i, isF_f, isL_l, is1_i, is1_r, is1_n, is1_f, true_and, and_true, List.length_cons, List.length_nil, Nat.reduceAdd, Nat.reduceLeDiff, Nat.reduceSub, Option.some.injEq, exists_eq_left', aft_s, aft_n, ite_true, ite_false, if_true, if_false, Nat.zero_le, Nat.le_refl, reduceCtorEq]
    exact hK'
  · rw [hx_k (k := 3) hp] at hK'
    rw [ou_k (k := 3) hp]
    refine aft_h rfl rfl (fun q => ?_)
    simp only [eL_start_0, eL_start_1, eL_start_2, eL_start_3, eL_start_4, eL_start_6, eL_start_8, eL_start_11, eL_start_12, eL_start_14, eL_start_16, eL_start_17, eL_start_19, eL_start_21, eL_start_22, eL_start_24, eL_start_26, eL_start_27, eL_start_29, eL_start_31, isA_r, isA_n, isI_i, isF_f, isL_l, is1_i, is1_r, is1_n, is1_f, true_and, and_true, List.length_cons, List.length_nil, Nat.reduceAdd, Nat.reduceLeDiff, Nat.reduceSub, Option.some.injEq, exists_eq_left', aft_s, aft_n, ite_true, ite_false, if_true, if_false, Nat.zero_le, Nat.le_refl, reduceCtorEq]
    exact hK'
theorem h_state (C : CW E P H0 x σ H) (O : Ok σ)  {v1 : Int32} (hc : 2 ≤ c) (hn : 12 ≤ n) (hK : ∀ H', CW E P H0 x σ H' → K (.inl (some (.int (hx [-77] (q_state σ v1))))) H') : CRd TTv E (d + 13) mL_state [.ref x, .int v1] H c n K := by
  refine crd rfl ?_
  show Ev E (d + 12) mL_state K 0 [.ref x, .int v1, .retAddr 0] [] H c n
  have hp : (q_state σ v1).1 = 0 ∨ (q_state σ v1).1 = 1 := by
    unfold q_state
    repeat' split
    all_goals simp
  simp only [eL_state_0, eL_state_1, eL_state_2, eL_state_5, eL_state_6, eL_state_7, eL_state_9, isA_r, isA_n, isI_i, isF_f, isL_l, is1_i, is1_r, is1_n, is1_f, true_and, and_true, List.length_cons, List.length_nil, Nat.reduceAdd, Nat.reduceLeDiff, Nat.reduceSub, Option.some.injEq, exists_eq_left', aft_s, aft_n, ite_true, ite_false, if_true, if_false, Nat.zero_le, Nat.le_refl, reduceCtorEq]
  refine ⟨C.xo, invk c n (Nat.le_refl _) (Nat.le_refl _) (p_state C O hc hn (fun H' C' => ?_))⟩
  rw [u_state] at C'
  have hK' := hK H' C'
  rcases hp with hp | hp
  · rw [hx_0 hp] at hK'
    rw [ou_0 hp]
    simp only [eL_state_0, eL_state_1, eL_state_2, eL_state_5, eL_state_6, eL_state_7, eL_state_9, isA_r, isA_n, isI_i, isF_f, isL_l, is1_i, is1_r, is1_n, is1_f, true_and, and_true, List.length_cons, List.length_nil, Nat.reduceAdd, Nat.reduceLeDiff, Nat.reduceSub, Option.some.injEq, exists_eq_left', aft_s, aft_n, ite_true, ite_false, if_true, if_false, Nat.zero_le, Nat.le_refl, reduceCtorEq]
    exact hK'
  · rw [hx_k (k := 0) hp] at hK'
    rw [ou_k (k := 0) hp]
    refine aft_h rfl rfl (fun q => ?_)
    simp only [eL_state_0, eL_state_1, eL_state_2, eL_state_5, eL_state_6, eL_state_7, eL_state_9, isA_r, isA_n, isI_i, isF_f, isL_l, is1_i, is1_r, is1_n, is1_f, true_and, and_true, List.length_cons, List.length_nil, Nat.reduceAdd, Nat.reduceLeDiff, Nat.reduceSub, Option.some.injEq, exists_eq_left', aft_s, aft_n, ite_true, ite_false, if_true, if_false, Nat.zero_le, Nat.le_refl, reduceCtorEq]
    exact hK'
theorem h_stateByJournal (C : CW E P H0 x σ H) (O : Ok σ) (hj : (s_jn σ).length ≤ 16384)  {v1 : Int32} (hc : 2 ≤ c) (hn : 12 ≤ n) (hK : ∀ H', CW E P H0 x σ H' → K (.inl (some (.int (hx [-77] (q_state σ v1))))) H') : CRd TTv E (d + 13) mL_stateByJournal [.ref x, .int v1] H c n K := by
  refine crd rfl ?_
  show Ev E (d + 12) mL_stateByJournal K 0 [.ref x, .int v1, .retAddr 0] [] H c n
  have hp : (q_state σ v1).1 = 0 ∨ (q_state σ v1).1 = 1 := by
    unfold q_state
    repeat' split
    all_goals simp
  simp only [eL_stateByJournal_0, eL_stateByJournal_1, eL_stateByJournal_2, eL_stateByJournal_5, eL_stateByJournal_6, eL_stateByJournal_7, eL_stateByJournal_9, isA_r, isA_n, isI_i, isF_f, isL_l, is1_i, is1_r, is1_n, is1_f, true_and, and_true, List.length_cons, List.length_nil, Nat.reduceAdd, Nat.reduceLeDiff, Nat.reduceSub, Option.some.injEq, exists_eq_left', aft_s, aft_n, ite_true, ite_false, if_true, if_false, Nat.zero_le, Nat.le_refl, reduceCtorEq]
  refine ⟨C.xo, invk c n (Nat.le_refl _) (Nat.le_refl _) (p_stateByJournal C O hj hc hn (fun H' C' => ?_))⟩
  rw [u_stateByJournal] at C'
  have hK' := hK H' C'
  rcases hp with hp | hp
  · rw [hx_0 hp] at hK'
    rw [ou_0 hp]
    simp only [eL_stateByJournal_0, eL_stateByJournal_1, eL_stateByJournal_2, eL_stateByJournal_5, eL_stateByJournal_6, eL_stateByJournal_7, eL_stateByJournal_9, isA_r, isA_n, isI_i, isF_f, isL_l, is1_i, is1_r, is1_n, is1_f, true_and, and_true, List.length_cons, List.length_nil, Nat.reduceAdd, Nat.reduceLeDiff, Nat.reduceSub, Option.some.injEq, exists_eq_left', aft_s, aft_n, ite_true, ite_false, if_true, if_false, Nat.zero_le, Nat.le_refl, reduceCtorEq]
    exact hK'
  · rw [hx_k (k := 0) hp] at hK'
    rw [ou_k (k := 0) hp]
    refine aft_h rfl rfl (fun q => ?_)
    simp only [eL_stateByJournal_0, eL_stateByJournal_1, eL_stateByJournal_2, eL_stateByJournal_5, eL_stateByJournal_6, eL_stateByJournal_7, eL_stateByJournal_9, isA_r, isA_n, isI_i, isF_f, isL_l, is1_i, is1_r, is1_n, is1_f, true_and, and_true, List.length_cons, List.length_nil, Nat.reduceAdd, Nat.reduceLeDiff, Nat.reduceSub, Option.some.injEq, exists_eq_left', aft_s, aft_n, ite_true, ite_false, if_true, if_false, Nat.zero_le, Nat.le_refl, reduceCtorEq]
    exact hK'
theorem h_toDo (C : CW E P H0 x σ H) (O : Ok σ)  {v1 : Int32} (hc : 2 ≤ c) (hn : 12 ≤ n) (hK : ∀ H', CW E P H0 x σ H' → K (.inl (some (.int (hx [-77] (q_toDo σ v1))))) H') : CRd TTv E (d + 13) mL_toDo [.ref x, .int v1] H c n K := by
  refine crd rfl ?_
  show Ev E (d + 12) mL_toDo K 0 [.ref x, .int v1, .retAddr 0] [] H c n
  have hp : (q_toDo σ v1).1 = 0 ∨ (q_toDo σ v1).1 = 1 := by
    unfold q_toDo
    repeat' split
    all_goals simp
  simp only [eL_toDo_0, eL_toDo_1, eL_toDo_2, eL_toDo_5, eL_toDo_6, eL_toDo_7, eL_toDo_9, isA_r, isA_n, isI_i, isF_f, isL_l, is1_i, is1_r, is1_n, is1_f, true_and, and_true, List.length_cons, List.length_nil, Nat.reduceAdd, Nat.reduceLeDiff, Nat.reduceSub, Option.some.injEq, exists_eq_left', aft_s, aft_n, ite_true, ite_false, if_true, if_false, Nat.zero_le, Nat.le_refl, reduceCtorEq]
  refine ⟨C.xo, invk c n (Nat.le_refl _) (Nat.le_refl _) (p_toDo C O hc hn (fun H' C' => ?_))⟩
  rw [u_toDo] at C'
  have hK' := hK H' C'
  rcases hp with hp | hp
  · rw [hx_0 hp] at hK'
    rw [ou_0 hp]
    simp only [eL_toDo_0, eL_toDo_1, eL_toDo_2, eL_toDo_5, eL_toDo_6, eL_toDo_7, eL_toDo_9, isA_r, isA_n, isI_i, isF_f, isL_l, is1_i, is1_r, is1_n, is1_f, true_and, and_true, List.length_cons, List.length_nil, Nat.reduceAdd, Nat.reduceLeDiff, Nat.reduceSub, Option.some.injEq, exists_eq_left', aft_s, aft_n, ite_true, ite_false, if_true, if_false, Nat.zero_le, Nat.le_refl, reduceCtorEq]
    exact hK'
  · rw [hx_k (k := 0) hp] at hK'
    rw [ou_k (k := 0) hp]
    refine aft_h rfl rfl (fun q => ?_)
    simp only [eL_toDo_0, eL_toDo_1, eL_toDo_2, eL_toDo_5, eL_toDo_6, eL_toDo_7, eL_toDo_9, isA_r, isA_n, isI_i, isF_f, isL_l, is1_i, is1_r, is1_n, is1_f, true_and, and_true, List.length_cons, List.length_nil, Nat.reduceAdd, Nat.reduceLeDiff, Nat.reduceSub, Option.some.injEq, exists_eq_left', aft_s, aft_n, ite_true, ite_false, if_true, if_false, Nat.zero_le, Nat.le_refl, reduceCtorEq]
    exact hK'
theorem h_sessionOf (C : CW E P H0 x σ H) (O : Ok σ)  {v1 : Int32} (hc : 2 ≤ c) (hn : 12 ≤ n) (hK : ∀ H', CW E P H0 x σ H' → K (.inl (some (.int (hx [-77] (q_sessionOf σ v1))))) H') : CRd TTv E (d + 13) mL_sessionOf [.ref x, .int v1] H c n K := by
  refine crd rfl ?_
  show Ev E (d + 12) mL_sessionOf K 0 [.ref x, .int v1, .retAddr 0] [] H c n
  have hp : (q_sessionOf σ v1).1 = 0 ∨ (q_sessionOf σ v1).1 = 1 := by
    unfold q_sessionOf
    repeat' split
    all_goals simp
  simp only [eL_sessionOf_0, eL_sessionOf_1, eL_sessionOf_2, eL_sessionOf_5, eL_sessionOf_6, eL_sessionOf_7, eL_sessionOf_9, isA_r, isA_n, isI_i, isF_f, isL_l, is1_i, is1_r, is1_n, is1_f, true_and, and_true, List.length_cons, List.length_nil, Nat.reduceAdd, Nat.reduceLeDiff, Nat.reduceSub, Option.some.injEq, exists_eq_left', aft_s, aft_n, ite_true, ite_false, if_true, if_false, Nat.zero_le, Nat.le_refl, reduceCtorEq]
  refine ⟨C.xo, invk c n (Nat.le_refl _) (Nat.le_refl _) (p_sessionOf C O hc hn (fun H' C' => ?_))⟩
  rw [u_sessionOf] at C'
  have hK' := hK H' C'
  rcases hp with hp | hp
  · rw [hx_0 hp] at hK'
    rw [ou_0 hp]
    simp only [eL_sessionOf_0, eL_sessionOf_1, eL_sessionOf_2, eL_sessionOf_5, eL_sessionOf_6, eL_sessionOf_7, eL_sessionOf_9, isA_r, isA_n, isI_i, isF_f, isL_l, is1_i, is1_r, is1_n, is1_f, true_and, and_true, List.length_cons, List.length_nil, Nat.reduceAdd, Nat.reduceLeDiff, Nat.reduceSub, Option.some.injEq, exists_eq_left', aft_s, aft_n, ite_true, ite_false, if_true, if_false, Nat.zero_le, Nat.le_refl, reduceCtorEq]
    exact hK'
  · rw [hx_k (k := 0) hp] at hK'
    rw [ou_k (k := 0) hp]
    refine aft_h rfl rfl (fun q => ?_)
    simp only [eL_sessionOf_0, eL_sessionOf_1, eL_sessionOf_2, eL_sessionOf_5, eL_sessionOf_6, eL_sessionOf_7, eL_sessionOf_9, isA_r, isA_n, isI_i, isF_f, isL_l, is1_i, is1_r, is1_n, is1_f, true_and, and_true, List.length_cons, List.length_nil, Nat.reduceAdd, Nat.reduceLeDiff, Nat.reduceSub, Option.some.injEq, exists_eq_left', aft_s, aft_n, ite_true, ite_false, if_true, if_false, Nat.zero_le, Nat.le_refl, reduceCtorEq]
    exact hK'
theorem h_front (C : CW E P H0 x σ H) (O : Ok σ)  {v1 : Int32} (hc : 2 ≤ c) (hn : 12 ≤ n) (hK : ∀ H', CW E P H0 x σ H' → K (.inl (some (.int (hx [-77, -75] (q_front σ v1))))) H') : CRd TTv E (d + 13) mL_front [.ref x, .int v1] H c n K := by
  refine crd rfl ?_
  show Ev E (d + 12) mL_front K 0 [.ref x, .int v1, .retAddr 0] [] H c n
  have hp : (q_front σ v1).1 = 0 ∨ (q_front σ v1).1 = 1 ∨ (q_front σ v1).1 = 2 := by
    unfold q_front
    repeat' split
    all_goals simp
  simp only [eL_front_0, eL_front_1, eL_front_2, eL_front_5, eL_front_6, eL_front_7, eL_front_9, eL_front_10, eL_front_11, eL_front_13, isA_r, isA_n, isI_i, isF_f, isL_l, is1_i, is1_r, is1_n, is1_f, true_and, and_true, List.length_cons, List.length_nil, Nat.reduceAdd, Nat.reduceLeDiff, Nat.reduceSub, Option.some.injEq, exists_eq_left', aft_s, aft_n, ite_true, ite_false, if_true, if_false, Nat.zero_le, Nat.le_refl, reduceCtorEq]
  refine ⟨C.xo, invk c n (Nat.le_refl _) (Nat.le_refl _) (p_front C O hc hn (fun H' C' => ?_))⟩
  rw [u_front] at C'
  have hK' := hK H' C'
  rcases hp with hp | hp | hp
  · rw [hx_0 hp] at hK'
    rw [ou_0 hp]
    simp only [eL_front_0, eL_front_1, eL_front_2, eL_front_5, eL_front_6, eL_front_7, eL_front_9, eL_front_10, eL_front_11, eL_front_13, isA_r, isA_n, isI_i, isF_f, isL_l, is1_i, is1_r, is1_n, is1_f, true_and, and_true, List.length_cons, List.length_nil, Nat.reduceAdd, Nat.reduceLeDiff, Nat.reduceSub, Option.some.injEq, exists_eq_left', aft_s, aft_n, ite_true, ite_false, if_true, if_false, Nat.zero_le, Nat.le_refl, reduceCtorEq]
    exact hK'
  · rw [hx_k (k := 0) hp] at hK'
    rw [ou_k (k := 0) hp]
    refine aft_h rfl rfl (fun q => ?_)
    simp only [eL_front_0, eL_front_1, eL_front_2, eL_front_5, eL_front_6, eL_front_7, eL_front_9, eL_front_10, eL_front_11, eL_front_13, isA_r, isA_n, isI_i, isF_f, isL_l, is1_i, is1_r, is1_n, is1_f, true_and, and_true, List.length_cons, List.length_nil, Nat.reduceAdd, Nat.reduceLeDiff, Nat.reduceSub, Option.some.injEq, exists_eq_left', aft_s, aft_n, ite_true, ite_false, if_true, if_false, Nat.zero_le, Nat.le_refl, reduceCtorEq]
    exact hK'
  · rw [hx_k (k := 1) hp] at hK'
    rw [ou_k (k := 1) hp]
    refine aft_h rfl rfl (fun q => ?_)
    simp only [eL_front_0, eL_front_1, eL_front_2, eL_front_5, eL_front_6, eL_front_7, eL_front_9, eL_front_10, eL_front_11, eL_front_13, isA_r, isA_n, isI_i, isF_f, isL_l, is1_i, is1_r, is1_n, is1_f, true_and, and_true, List.length_cons, List.length_nil, Nat.reduceAdd, Nat.reduceLeDiff, Nat.reduceSub, Option.some.injEq, exists_eq_left', aft_s, aft_n, ite_true, ite_false, if_true, if_false, Nat.zero_le, Nat.le_refl, reduceCtorEq]
    exact hK'
theorem h_toFront (C : CW E P H0 x σ H) (O : Ok σ)  {v1 : Int32} (hc : 2 ≤ c) (hn : 12 ≤ n) (hK : ∀ H', CW E P H0 x (a_toFront σ v1).2.2 H' → K (.inl (some (.int (hx [-77, -76, -79] (a_toFront σ v1))))) H') : CRd TTv E (d + 14) mL_toFront [.ref x, .int v1] H c n K := by
  refine crd rfl ?_
  show Ev E (d + 13) mL_toFront K 0 [.ref x, .int v1, .retAddr 0] [] H c n
  have hp : (a_toFront σ v1).1 = 0 ∨ (a_toFront σ v1).1 = 1 ∨ (a_toFront σ v1).1 = 2 ∨ (a_toFront σ v1).1 = 3 := by
    unfold a_toFront
    repeat' split
    all_goals simp
  simp only [eL_toFront_0, eL_toFront_1, eL_toFront_2, eL_toFront_5, eL_toFront_8, eL_toFront_9, eL_toFront_12, eL_toFront_13, eL_toFront_14, eL_toFront_15, eL_toFront_17, eL_toFront_18, eL_toFront_19, eL_toFront_21, eL_toFront_22, eL_toFront_23, eL_toFront_25, isA_r, isA_n, isI_i, isF_f, isL_l, is1_i, is1_r, is1_n, is1_f, true_and, and_true, List.length_cons, List.length_nil, Nat.reduceAdd, Nat.reduceLeDiff, Nat.reduceSub, Option.some.injEq, exists_eq_left', aft_s, aft_n, ite_true, ite_false, if_true, if_false, Nat.zero_le, Nat.le_refl, reduceCtorEq]
  refine ⟨C.xo, invk c n (Nat.le_refl _) (Nat.le_refl _) (p_toFront C O hc hn (fun H' C' => ?_))⟩
  have hK' := hK H' C'
  rcases hp with hp | hp | hp | hp
  · rw [hx_0 hp] at hK'
    rw [ou_0 hp]
    have hb : (a_toFront σ v1).2.1 = 0 ∨ (a_toFront σ v1).2.1 = 1 := by
      unfold a_toFront
      repeat' split
      all_goals first | exact Or.inl rfl | (exact b2_01)
    rcases hb with hb | hb
    · rw [hb] at hK'
      have e : ((a_toFront σ v1).2.1 = 0) = True := eq_true hb
      simp only [eL_toFront_0, eL_toFront_1, eL_toFront_2, eL_toFront_5, eL_toFront_8, eL_toFront_9, eL_toFront_12, eL_toFront_13, eL_toFront_14, eL_toFront_15, eL_toFront_17, eL_toFront_18, eL_toFront_19, eL_toFront_21, eL_toFront_22, eL_toFront_23, eL_toFront_25, isA_r, isA_n, isI_i, isF_f, isL_l, is1_i, is1_r, is1_n, is1_f, true_and, and_true, List.length_cons, List.length_nil, Nat.reduceAdd, Nat.reduceLeDiff, Nat.reduceSub, Option.some.injEq, exists_eq_left', aft_s, aft_n, ite_true, ite_false, if_true, if_false, Nat.zero_le, Nat.le_refl, reduceCtorEq, e]
      exact hK'
    · rw [hb] at hK'
      have e : ((a_toFront σ v1).2.1 = 0) = False := eq_false (by rw [hb]; decide)
      simp only [eL_toFront_0, eL_toFront_1, eL_toFront_2, eL_toFront_5, eL_toFront_8, eL_toFront_9, eL_toFront_12, eL_toFront_13, eL_toFront_14, eL_toFront_15, eL_toFront_17, eL_toFront_18, eL_toFront_19, eL_toFront_21, eL_toFront_22, eL_toFront_23, eL_toFront_25, isA_r, isA_n, isI_i, isF_f, isL_l, is1_i, is1_r, is1_n, is1_f, true_and, and_true, List.length_cons, List.length_nil, Nat.reduceAdd, Nat.reduceLeDiff, Nat.reduceSub, Option.some.injEq, exists_eq_left', aft_s, aft_n, ite_true, ite_false, if_true, if_false, Nat.zero_le, Nat.le_refl, reduceCtorEq, e]
      exact hK'
  · rw [hx_k (k := 0) hp] at hK'
    rw [ou_k (k := 0) hp]
    refine aft_h rfl rfl (fun q => ?_)
    simp only [eL_toFront_0, eL_toFront_1, eL_toFront_2, eL_toFront_5, eL_toFront_8, eL_toFront_9, eL_toFront_12, eL_toFront_13, eL_toFront_14, eL_toFront_15, eL_toFront_17, eL_toFront_18, eL_toFront_19, eL_toFront_21, eL_toFront_22, eL_toFront_23, eL_toFront_25, isA_r, isA_n, isI_i, isF_f, isL_l, is1_i, is1_r, is1_n, is1_f, true_and, and_true, List.length_cons, List.length_nil, Nat.reduceAdd, Nat.reduceLeDiff, Nat.reduceSub, Option.some.injEq, exists_eq_left', aft_s, aft_n, ite_true, ite_false, if_true, if_false, Nat.zero_le, Nat.le_refl, reduceCtorEq]
    exact hK'
  · rw [hx_k (k := 1) hp] at hK'
    rw [ou_k (k := 1) hp]
    refine aft_h rfl rfl (fun q => ?_)
    simp only [eL_toFront_0, eL_toFront_1, eL_toFront_2, eL_toFront_5, eL_toFront_8, eL_toFront_9, eL_toFront_12, eL_toFront_13, eL_toFront_14, eL_toFront_15, eL_toFront_17, eL_toFront_18, eL_toFront_19, eL_toFront_21, eL_toFront_22, eL_toFront_23, eL_toFront_25, isA_r, isA_n, isI_i, isF_f, isL_l, is1_i, is1_r, is1_n, is1_f, true_and, and_true, List.length_cons, List.length_nil, Nat.reduceAdd, Nat.reduceLeDiff, Nat.reduceSub, Option.some.injEq, exists_eq_left', aft_s, aft_n, ite_true, ite_false, if_true, if_false, Nat.zero_le, Nat.le_refl, reduceCtorEq]
    exact hK'
  · rw [hx_k (k := 2) hp] at hK'
    rw [ou_k (k := 2) hp]
    refine aft_h rfl rfl (fun q => ?_)
    simp only [eL_toFront_0, eL_toFront_1, eL_toFront_2, eL_toFront_5, eL_toFront_8, eL_toFront_9, eL_toFront_12, eL_toFront_13, eL_toFront_14, eL_toFront_15, eL_toFront_17, eL_toFront_18, eL_toFront_19, eL_toFront_21, eL_toFront_22, eL_toFront_23, eL_toFront_25, isA_r, isA_n, isI_i, isF_f, isL_l, is1_i, is1_r, is1_n, is1_f, true_and, and_true, List.length_cons, List.length_nil, Nat.reduceAdd, Nat.reduceLeDiff, Nat.reduceSub, Option.some.injEq, exists_eq_left', aft_s, aft_n, ite_true, ite_false, if_true, if_false, Nat.zero_le, Nat.le_refl, reduceCtorEq]
    exact hK'
theorem h_toBack (C : CW E P H0 x σ H) (O : Ok σ)  {v1 : Int32} (hc : 2 ≤ c) (hn : 12 ≤ n) (hK : ∀ H', CW E P H0 x (q_toBack σ v1).2.2 H' → K (.inl (some (.int (hx [-77, -75] (q_toBack σ v1))))) H') : CRd TTv E (d + 14) mL_toBack [.ref x, .int v1] H c n K := by
  refine crd rfl ?_
  show Ev E (d + 13) mL_toBack K 0 [.ref x, .int v1, .retAddr 0] [] H c n
  have hp : (q_toBack σ v1).1 = 0 ∨ (q_toBack σ v1).1 = 1 ∨ (q_toBack σ v1).1 = 2 := by
    unfold q_toBack
    repeat' split
    all_goals simp
  simp only [eL_toBack_0, eL_toBack_1, eL_toBack_2, eL_toBack_5, eL_toBack_6, eL_toBack_7, eL_toBack_9, eL_toBack_10, eL_toBack_11, eL_toBack_13, isA_r, isA_n, isI_i, isF_f, isL_l, is1_i, is1_r, is1_n, is1_f, true_and, and_true, List.length_cons, List.length_nil, Nat.reduceAdd, Nat.reduceLeDiff, Nat.reduceSub, Option.some.injEq, exists_eq_left', aft_s, aft_n, ite_true, ite_false, if_true, if_false, Nat.zero_le, Nat.le_refl, reduceCtorEq]
  refine ⟨C.xo, invk c n (Nat.le_refl _) (Nat.le_refl _) (p_toBack C O hc hn (fun H' C' => ?_))⟩
  have hK' := hK H' C'
  rcases hp with hp | hp | hp
  · rw [hx_0 hp] at hK'
    rw [ou_0 hp]
    simp only [eL_toBack_0, eL_toBack_1, eL_toBack_2, eL_toBack_5, eL_toBack_6, eL_toBack_7, eL_toBack_9, eL_toBack_10, eL_toBack_11, eL_toBack_13, isA_r, isA_n, isI_i, isF_f, isL_l, is1_i, is1_r, is1_n, is1_f, true_and, and_true, List.length_cons, List.length_nil, Nat.reduceAdd, Nat.reduceLeDiff, Nat.reduceSub, Option.some.injEq, exists_eq_left', aft_s, aft_n, ite_true, ite_false, if_true, if_false, Nat.zero_le, Nat.le_refl, reduceCtorEq]
    exact hK'
  · rw [hx_k (k := 0) hp] at hK'
    rw [ou_k (k := 0) hp]
    refine aft_h rfl rfl (fun q => ?_)
    simp only [eL_toBack_0, eL_toBack_1, eL_toBack_2, eL_toBack_5, eL_toBack_6, eL_toBack_7, eL_toBack_9, eL_toBack_10, eL_toBack_11, eL_toBack_13, isA_r, isA_n, isI_i, isF_f, isL_l, is1_i, is1_r, is1_n, is1_f, true_and, and_true, List.length_cons, List.length_nil, Nat.reduceAdd, Nat.reduceLeDiff, Nat.reduceSub, Option.some.injEq, exists_eq_left', aft_s, aft_n, ite_true, ite_false, if_true, if_false, Nat.zero_le, Nat.le_refl, reduceCtorEq]
    exact hK'
  · rw [hx_k (k := 1) hp] at hK'
    rw [ou_k (k := 1) hp]
    refine aft_h rfl rfl (fun q => ?_)
    simp only [eL_toBack_0, eL_toBack_1, eL_toBack_2, eL_toBack_5, eL_toBack_6, eL_toBack_7, eL_toBack_9, eL_toBack_10, eL_toBack_11, eL_toBack_13, isA_r, isA_n, isI_i, isF_f, isL_l, is1_i, is1_r, is1_n, is1_f, true_and, and_true, List.length_cons, List.length_nil, Nat.reduceAdd, Nat.reduceLeDiff, Nat.reduceSub, Option.some.injEq, exists_eq_left', aft_s, aft_n, ite_true, ite_false, if_true, if_false, Nat.zero_le, Nat.le_refl, reduceCtorEq]
    exact hK'
theorem h_count (C : CW E P H0 x σ H) (O : Ok σ)  {v1 v2 : Int32} (hc : 2 ≤ c) (hn : 12 ≤ n) (hK : ∀ H', CW E P H0 x σ H' → K (.inl (some (.int (hx [-77, -78] (q_count σ v1 v2))))) H') : CRd TTv E (d + 13) mL_count [.ref x, .int v1, .int v2] H c n K := by
  refine crd rfl ?_
  show Ev E (d + 12) mL_count K 0 [.ref x, .int v1, .int v2, .retAddr 0] [] H c n
  have hp : (q_count σ v1 v2).1 = 0 ∨ (q_count σ v1 v2).1 = 1 ∨ (q_count σ v1 v2).1 = 2 := by
    unfold q_count
    repeat' split
    all_goals simp
  simp only [eL_count_0, eL_count_1, eL_count_2, eL_count_3, eL_count_6, eL_count_7, eL_count_8, eL_count_10, eL_count_11, eL_count_12, eL_count_14, isA_r, isA_n, isI_i, isF_f, isL_l, is1_i, is1_r, is1_n, is1_f, true_and, and_true, List.length_cons, List.length_nil, Nat.reduceAdd, Nat.reduceLeDiff, Nat.reduceSub, Option.some.injEq, exists_eq_left', aft_s, aft_n, ite_true, ite_false, if_true, if_false, Nat.zero_le, Nat.le_refl, reduceCtorEq]
  refine ⟨C.xo, invk c n (Nat.le_refl _) (Nat.le_refl _) (p_count C O hc hn (fun H' C' => ?_))⟩
  rw [u_count] at C'
  have hK' := hK H' C'
  rcases hp with hp | hp | hp
  · rw [hx_0 hp] at hK'
    rw [ou_0 hp]
    simp only [eL_count_0, eL_count_1, eL_count_2, eL_count_3, eL_count_6, eL_count_7, eL_count_8, eL_count_10, eL_count_11, eL_count_12, eL_count_14, isA_r, isA_n, isI_i, isF_f, isL_l, is1_i, is1_r, is1_n, is1_f, true_and, and_true, List.length_cons, List.length_nil, Nat.reduceAdd, Nat.reduceLeDiff, Nat.reduceSub, Option.some.injEq, exists_eq_left', aft_s, aft_n, ite_true, ite_false, if_true, if_false, Nat.zero_le, Nat.le_refl, reduceCtorEq]
    exact hK'
  · rw [hx_k (k := 0) hp] at hK'
    rw [ou_k (k := 0) hp]
    refine aft_h rfl rfl (fun q => ?_)
    simp only [eL_count_0, eL_count_1, eL_count_2, eL_count_3, eL_count_6, eL_count_7, eL_count_8, eL_count_10, eL_count_11, eL_count_12, eL_count_14, isA_r, isA_n, isI_i, isF_f, isL_l, is1_i, is1_r, is1_n, is1_f, true_and, and_true, List.length_cons, List.length_nil, Nat.reduceAdd, Nat.reduceLeDiff, Nat.reduceSub, Option.some.injEq, exists_eq_left', aft_s, aft_n, ite_true, ite_false, if_true, if_false, Nat.zero_le, Nat.le_refl, reduceCtorEq]
    exact hK'
  · rw [hx_k (k := 1) hp] at hK'
    rw [ou_k (k := 1) hp]
    refine aft_h rfl rfl (fun q => ?_)
    simp only [eL_count_0, eL_count_1, eL_count_2, eL_count_3, eL_count_6, eL_count_7, eL_count_8, eL_count_10, eL_count_11, eL_count_12, eL_count_14, isA_r, isA_n, isI_i, isF_f, isL_l, is1_i, is1_r, is1_n, is1_f, true_and, and_true, List.length_cons, List.length_nil, Nat.reduceAdd, Nat.reduceLeDiff, Nat.reduceSub, Option.some.injEq, exists_eq_left', aft_s, aft_n, ite_true, ite_false, if_true, if_false, Nat.zero_le, Nat.le_refl, reduceCtorEq]
    exact hK'
theorem h_holder (C : CW E P H0 x σ H) (O : Ok σ)  {v1 : Int32} (hc : 2 ≤ c) (hn : 12 ≤ n) (hK : ∀ H', CW E P H0 x σ H' → K (.inl (some (.int (hx [-78] (q_holder σ v1))))) H') : CRd TTv E (d + 13) mL_holder [.ref x, .int v1] H c n K := by
  refine crd rfl ?_
  show Ev E (d + 12) mL_holder K 0 [.ref x, .int v1, .retAddr 0] [] H c n
  have hp : (q_holder σ v1).1 = 0 ∨ (q_holder σ v1).1 = 1 := by
    unfold q_holder
    repeat' split
    all_goals simp
  simp only [eL_holder_0, eL_holder_1, eL_holder_2, eL_holder_5, eL_holder_6, eL_holder_7, eL_holder_9, isA_r, isA_n, isI_i, isF_f, isL_l, is1_i, is1_r, is1_n, is1_f, true_and, and_true, List.length_cons, List.length_nil, Nat.reduceAdd, Nat.reduceLeDiff, Nat.reduceSub, Option.some.injEq, exists_eq_left', aft_s, aft_n, ite_true, ite_false, if_true, if_false, Nat.zero_le, Nat.le_refl, reduceCtorEq]
  refine ⟨C.xo, invk c n (Nat.le_refl _) (Nat.le_refl _) (p_holder C O hc hn (fun H' C' => ?_))⟩
  rw [u_holder] at C'
  have hK' := hK H' C'
  rcases hp with hp | hp
  · rw [hx_0 hp] at hK'
    rw [ou_0 hp]
    simp only [eL_holder_0, eL_holder_1, eL_holder_2, eL_holder_5, eL_holder_6, eL_holder_7, eL_holder_9, isA_r, isA_n, isI_i, isF_f, isL_l, is1_i, is1_r, is1_n, is1_f, true_and, and_true, List.length_cons, List.length_nil, Nat.reduceAdd, Nat.reduceLeDiff, Nat.reduceSub, Option.some.injEq, exists_eq_left', aft_s, aft_n, ite_true, ite_false, if_true, if_false, Nat.zero_le, Nat.le_refl, reduceCtorEq]
    exact hK'
  · rw [hx_k (k := 0) hp] at hK'
    rw [ou_k (k := 0) hp]
    refine aft_h rfl rfl (fun q => ?_)
    simp only [eL_holder_0, eL_holder_1, eL_holder_2, eL_holder_5, eL_holder_6, eL_holder_7, eL_holder_9, isA_r, isA_n, isI_i, isF_f, isL_l, is1_i, is1_r, is1_n, is1_f, true_and, and_true, List.length_cons, List.length_nil, Nat.reduceAdd, Nat.reduceLeDiff, Nat.reduceSub, Option.some.injEq, exists_eq_left', aft_s, aft_n, ite_true, ite_false, if_true, if_false, Nat.zero_le, Nat.le_refl, reduceCtorEq]
    exact hK'
theorem h_holderByJobs (C : CW E P H0 x σ H) (O : Ok σ)  {v1 : Int32} (hc : 2 ≤ c) (hn : 12 ≤ n) (hK : ∀ H', CW E P H0 x σ H' → K (.inl (some (.int (hx [-78] (q_holder σ v1))))) H') : CRd TTv E (d + 13) mL_holderByJobs [.ref x, .int v1] H c n K := by
  refine crd rfl ?_
  show Ev E (d + 12) mL_holderByJobs K 0 [.ref x, .int v1, .retAddr 0] [] H c n
  have hp : (q_holder σ v1).1 = 0 ∨ (q_holder σ v1).1 = 1 := by
    unfold q_holder
    repeat' split
    all_goals simp
  simp only [eL_holderByJobs_0, eL_holderByJobs_1, eL_holderByJobs_2, eL_holderByJobs_5, eL_holderByJobs_6, eL_holderByJobs_7, eL_holderByJobs_9, isA_r, isA_n, isI_i, isF_f, isL_l, is1_i, is1_r, is1_n, is1_f, true_and, and_true, List.length_cons, List.length_nil, Nat.reduceAdd, Nat.reduceLeDiff, Nat.reduceSub, Option.some.injEq, exists_eq_left', aft_s, aft_n, ite_true, ite_false, if_true, if_false, Nat.zero_le, Nat.le_refl, reduceCtorEq]
  refine ⟨C.xo, invk c n (Nat.le_refl _) (Nat.le_refl _) (p_holderByJobs C O hc hn (fun H' C' => ?_))⟩
  rw [u_holderByJobs] at C'
  have hK' := hK H' C'
  rcases hp with hp | hp
  · rw [hx_0 hp] at hK'
    rw [ou_0 hp]
    simp only [eL_holderByJobs_0, eL_holderByJobs_1, eL_holderByJobs_2, eL_holderByJobs_5, eL_holderByJobs_6, eL_holderByJobs_7, eL_holderByJobs_9, isA_r, isA_n, isI_i, isF_f, isL_l, is1_i, is1_r, is1_n, is1_f, true_and, and_true, List.length_cons, List.length_nil, Nat.reduceAdd, Nat.reduceLeDiff, Nat.reduceSub, Option.some.injEq, exists_eq_left', aft_s, aft_n, ite_true, ite_false, if_true, if_false, Nat.zero_le, Nat.le_refl, reduceCtorEq]
    exact hK'
  · rw [hx_k (k := 0) hp] at hK'
    rw [ou_k (k := 0) hp]
    refine aft_h rfl rfl (fun q => ?_)
    simp only [eL_holderByJobs_0, eL_holderByJobs_1, eL_holderByJobs_2, eL_holderByJobs_5, eL_holderByJobs_6, eL_holderByJobs_7, eL_holderByJobs_9, isA_r, isA_n, isI_i, isF_f, isL_l, is1_i, is1_r, is1_n, is1_f, true_and, and_true, List.length_cons, List.length_nil, Nat.reduceAdd, Nat.reduceLeDiff, Nat.reduceSub, Option.some.injEq, exists_eq_left', aft_s, aft_n, ite_true, ite_false, if_true, if_false, Nat.zero_le, Nat.le_refl, reduceCtorEq]
    exact hK'
theorem h_holds (C : CW E P H0 x σ H) (O : Ok σ)  {v1 : Int32} (hc : 2 ≤ c) (hn : 12 ≤ n) (hK : ∀ H', CW E P H0 x σ H' → K (.inl (some (.int (hx [-77] (q_holds σ v1))))) H') : CRd TTv E (d + 13) mL_holds [.ref x, .int v1] H c n K := by
  refine crd rfl ?_
  show Ev E (d + 12) mL_holds K 0 [.ref x, .int v1, .retAddr 0] [] H c n
  have hp : (q_holds σ v1).1 = 0 ∨ (q_holds σ v1).1 = 1 := by
    unfold q_holds
    repeat' split
    all_goals simp
  simp only [eL_holds_0, eL_holds_1, eL_holds_2, eL_holds_5, eL_holds_8, eL_holds_9, eL_holds_12, eL_holds_13, eL_holds_14, eL_holds_15, eL_holds_17, isA_r, isA_n, isI_i, isF_f, isL_l, is1_i, is1_r, is1_n, is1_f, true_and, and_true, List.length_cons, List.length_nil, Nat.reduceAdd, Nat.reduceLeDiff, Nat.reduceSub, Option.some.injEq, exists_eq_left', aft_s, aft_n, ite_true, ite_false, if_true, if_false, Nat.zero_le, Nat.le_refl, reduceCtorEq]
  refine ⟨C.xo, invk c n (Nat.le_refl _) (Nat.le_refl _) (p_holds C O hc hn (fun H' C' => ?_))⟩
  rw [u_holds] at C'
  have hK' := hK H' C'
  rcases hp with hp | hp
  · rw [hx_0 hp] at hK'
    rw [ou_0 hp]
    have hb : (q_holds σ v1).2.1 = 0 ∨ (q_holds σ v1).2.1 = 1 := by
      unfold q_holds
      repeat' split
      all_goals first | exact Or.inl rfl | (exact b2_01)
    rcases hb with hb | hb
    · rw [hb] at hK'
      have e : ((q_holds σ v1).2.1 = 0) = True := eq_true hb
      simp only [eL_holds_0, eL_holds_1, eL_holds_2, eL_holds_5, eL_holds_8, eL_holds_9, eL_holds_12, eL_holds_13, eL_holds_14, eL_holds_15, eL_holds_17, isA_r, isA_n, isI_i, isF_f, isL_l, is1_i, is1_r, is1_n, is1_f, true_and, and_true, List.length_cons, List.length_nil, Nat.reduceAdd, Nat.reduceLeDiff, Nat.reduceSub, Option.some.injEq, exists_eq_left', aft_s, aft_n, ite_true, ite_false, if_true, if_false, Nat.zero_le, Nat.le_refl, reduceCtorEq, e]
      exact hK'
    · rw [hb] at hK'
      have e : ((q_holds σ v1).2.1 = 0) = False := eq_false (by rw [hb]; decide)
      simp only [eL_holds_0, eL_holds_1, eL_holds_2, eL_holds_5, eL_holds_8, eL_holds_9, eL_holds_12, eL_holds_13, eL_holds_14, eL_holds_15, eL_holds_17, isA_r, isA_n, isI_i, isF_f, isL_l, is1_i, is1_r, is1_n, is1_f, true_and, and_true, List.length_cons, List.length_nil, Nat.reduceAdd, Nat.reduceLeDiff, Nat.reduceSub, Option.some.injEq, exists_eq_left', aft_s, aft_n, ite_true, ite_false, if_true, if_false, Nat.zero_le, Nat.le_refl, reduceCtorEq, e]
      exact hK'
  · rw [hx_k (k := 0) hp] at hK'
    rw [ou_k (k := 0) hp]
    refine aft_h rfl rfl (fun q => ?_)
    simp only [eL_holds_0, eL_holds_1, eL_holds_2, eL_holds_5, eL_holds_8, eL_holds_9, eL_holds_12, eL_holds_13, eL_holds_14, eL_holds_15, eL_holds_17, isA_r, isA_n, isI_i, isF_f, isL_l, is1_i, is1_r, is1_n, is1_f, true_and, and_true, List.length_cons, List.length_nil, Nat.reduceAdd, Nat.reduceLeDiff, Nat.reduceSub, Option.some.injEq, exists_eq_left', aft_s, aft_n, ite_true, ite_false, if_true, if_false, Nat.zero_le, Nat.le_refl, reduceCtorEq]
    exact hK'
theorem h_waitingAt (C : CW E P H0 x σ H) (O : Ok σ)  {v1 : Int32} (hc : 2 ≤ c) (hn : 12 ≤ n) (hK : ∀ H', CW E P H0 x σ H' → K (.inl (some (.int (hx [-75] (q_waitingAt σ v1))))) H') : CRd TTv E (d + 13) mL_waitingAt [.ref x, .int v1] H c n K := by
  refine crd rfl ?_
  show Ev E (d + 12) mL_waitingAt K 0 [.ref x, .int v1, .retAddr 0] [] H c n
  have hp : (q_waitingAt σ v1).1 = 0 ∨ (q_waitingAt σ v1).1 = 1 := by
    unfold q_waitingAt
    repeat' split
    all_goals simp
  simp only [eL_waitingAt_0, eL_waitingAt_1, eL_waitingAt_2, eL_waitingAt_5, eL_waitingAt_6, eL_waitingAt_7, eL_waitingAt_9, isA_r, isA_n, isI_i, isF_f, isL_l, is1_i, is1_r, is1_n, is1_f, true_and, and_true, List.length_cons, List.length_nil, Nat.reduceAdd, Nat.reduceLeDiff, Nat.reduceSub, Option.some.injEq, exists_eq_left', aft_s, aft_n, ite_true, ite_false, if_true, if_false, Nat.zero_le, Nat.le_refl, reduceCtorEq]
  refine ⟨C.xo, invk c n (Nat.le_refl _) (Nat.le_refl _) (p_waitingAt C O hc hn (fun H' C' => ?_))⟩
  rw [u_waitingAt] at C'
  have hK' := hK H' C'
  rcases hp with hp | hp
  · rw [hx_0 hp] at hK'
    rw [ou_0 hp]
    simp only [eL_waitingAt_0, eL_waitingAt_1, eL_waitingAt_2, eL_waitingAt_5, eL_waitingAt_6, eL_waitingAt_7, eL_waitingAt_9, isA_r, isA_n, isI_i, isF_f, isL_l, is1_i, is1_r, is1_n, is1_f, true_and, and_true, List.length_cons, List.length_nil, Nat.reduceAdd, Nat.reduceLeDiff, Nat.reduceSub, Option.some.injEq, exists_eq_left', aft_s, aft_n, ite_true, ite_false, if_true, if_false, Nat.zero_le, Nat.le_refl, reduceCtorEq]
    exact hK'
  · rw [hx_k (k := 0) hp] at hK'
    rw [ou_k (k := 0) hp]
    refine aft_h rfl rfl (fun q => ?_)
    simp only [eL_waitingAt_0, eL_waitingAt_1, eL_waitingAt_2, eL_waitingAt_5, eL_waitingAt_6, eL_waitingAt_7, eL_waitingAt_9, isA_r, isA_n, isI_i, isF_f, isL_l, is1_i, is1_r, is1_n, is1_f, true_and, and_true, List.length_cons, List.length_nil, Nat.reduceAdd, Nat.reduceLeDiff, Nat.reduceSub, Option.some.injEq, exists_eq_left', aft_s, aft_n, ite_true, ite_false, if_true, if_false, Nat.zero_le, Nat.le_refl, reduceCtorEq]
    exact hK'
theorem h_blockers (C : CW E P H0 x σ H) (O : Ok σ)  {v1 : Int32} (hc : 2 ≤ c) (hn : 12 ≤ n) (hK : ∀ H', CW E P H0 x σ H' → K (.inl (some (.int (hx [-77, -79] (q_blockers σ v1))))) H') : CRd TTv E (d + 13) mL_blockers [.ref x, .int v1] H c n K := by
  refine crd rfl ?_
  show Ev E (d + 12) mL_blockers K 0 [.ref x, .int v1, .retAddr 0] [] H c n
  have hp : (q_blockers σ v1).1 = 0 ∨ (q_blockers σ v1).1 = 1 ∨ (q_blockers σ v1).1 = 2 := by
    unfold q_blockers
    repeat' split
    all_goals simp
  simp only [eL_blockers_0, eL_blockers_1, eL_blockers_2, eL_blockers_5, eL_blockers_6, eL_blockers_7, eL_blockers_9, eL_blockers_10, eL_blockers_11, eL_blockers_13, isA_r, isA_n, isI_i, isF_f, isL_l, is1_i, is1_r, is1_n, is1_f, true_and, and_true, List.length_cons, List.length_nil, Nat.reduceAdd, Nat.reduceLeDiff, Nat.reduceSub, Option.some.injEq, exists_eq_left', aft_s, aft_n, ite_true, ite_false, if_true, if_false, Nat.zero_le, Nat.le_refl, reduceCtorEq]
  refine ⟨C.xo, invk c n (Nat.le_refl _) (Nat.le_refl _) (p_blockers C O hc hn (fun H' C' => ?_))⟩
  rw [u_blockers] at C'
  have hK' := hK H' C'
  rcases hp with hp | hp | hp
  · rw [hx_0 hp] at hK'
    rw [ou_0 hp]
    simp only [eL_blockers_0, eL_blockers_1, eL_blockers_2, eL_blockers_5, eL_blockers_6, eL_blockers_7, eL_blockers_9, eL_blockers_10, eL_blockers_11, eL_blockers_13, isA_r, isA_n, isI_i, isF_f, isL_l, is1_i, is1_r, is1_n, is1_f, true_and, and_true, List.length_cons, List.length_nil, Nat.reduceAdd, Nat.reduceLeDiff, Nat.reduceSub, Option.some.injEq, exists_eq_left', aft_s, aft_n, ite_true, ite_false, if_true, if_false, Nat.zero_le, Nat.le_refl, reduceCtorEq]
    exact hK'
  · rw [hx_k (k := 0) hp] at hK'
    rw [ou_k (k := 0) hp]
    refine aft_h rfl rfl (fun q => ?_)
    simp only [eL_blockers_0, eL_blockers_1, eL_blockers_2, eL_blockers_5, eL_blockers_6, eL_blockers_7, eL_blockers_9, eL_blockers_10, eL_blockers_11, eL_blockers_13, isA_r, isA_n, isI_i, isF_f, isL_l, is1_i, is1_r, is1_n, is1_f, true_and, and_true, List.length_cons, List.length_nil, Nat.reduceAdd, Nat.reduceLeDiff, Nat.reduceSub, Option.some.injEq, exists_eq_left', aft_s, aft_n, ite_true, ite_false, if_true, if_false, Nat.zero_le, Nat.le_refl, reduceCtorEq]
    exact hK'
  · rw [hx_k (k := 1) hp] at hK'
    rw [ou_k (k := 1) hp]
    refine aft_h rfl rfl (fun q => ?_)
    simp only [eL_blockers_0, eL_blockers_1, eL_blockers_2, eL_blockers_5, eL_blockers_6, eL_blockers_7, eL_blockers_9, eL_blockers_10, eL_blockers_11, eL_blockers_13, isA_r, isA_n, isI_i, isF_f, isL_l, is1_i, is1_r, is1_n, is1_f, true_and, and_true, List.length_cons, List.length_nil, Nat.reduceAdd, Nat.reduceLeDiff, Nat.reduceSub, Option.some.injEq, exists_eq_left', aft_s, aft_n, ite_true, ite_false, if_true, if_false, Nat.zero_le, Nat.le_refl, reduceCtorEq]
    exact hK'
theorem h_stop (C : CW E P H0 x σ H) (G : Good σ T) (hT : T + 200 < 16384)  {v1 : Int32} (hc : JJ (a_stop σ v1).2.2 + 400 ≤ JJ σ + c) (hn : 4 * JJ (a_stop σ v1).2.2 + 1600 ≤ 4 * JJ σ + n) (hK : ∀ H', CW E P H0 x (a_stop σ v1).2.2 H' → K (.inl (some (.int (hx [-77, -79] (a_stop σ v1))))) H') : CRd TTv E (d + 14) mL_stop [.ref x, .int v1] H c n K := by
  refine crd rfl ?_
  show Ev E (d + 13) mL_stop K 0 [.ref x, .int v1, .retAddr 0] [] H c n
  have hp : (a_stop σ v1).1 = 0 ∨ (a_stop σ v1).1 = 1 ∨ (a_stop σ v1).1 = 2 := by
    unfold a_stop
    repeat' split
    all_goals simp
  simp only [eL_stop_0, eL_stop_1, eL_stop_2, eL_stop_5, eL_stop_6, eL_stop_7, eL_stop_9, eL_stop_10, eL_stop_11, eL_stop_13, isA_r, isA_n, isI_i, isF_f, isL_l, is1_i, is1_r, is1_n, is1_f, true_and, and_true, List.length_cons, List.length_nil, Nat.reduceAdd, Nat.reduceLeDiff, Nat.reduceSub, Option.some.injEq, exists_eq_left', aft_s, aft_n, ite_true, ite_false, if_true, if_false, Nat.zero_le, Nat.le_refl, reduceCtorEq]
  refine ⟨C.xo, invk c n (Nat.le_refl _) (Nat.le_refl _) (p_stop C G hT hc hn (fun H' C' => ?_))⟩
  have hK' := hK H' C'
  rcases hp with hp | hp | hp
  · rw [hx_0 hp] at hK'
    rw [ou_0 hp]
    simp only [eL_stop_0, eL_stop_1, eL_stop_2, eL_stop_5, eL_stop_6, eL_stop_7, eL_stop_9, eL_stop_10, eL_stop_11, eL_stop_13, isA_r, isA_n, isI_i, isF_f, isL_l, is1_i, is1_r, is1_n, is1_f, true_and, and_true, List.length_cons, List.length_nil, Nat.reduceAdd, Nat.reduceLeDiff, Nat.reduceSub, Option.some.injEq, exists_eq_left', aft_s, aft_n, ite_true, ite_false, if_true, if_false, Nat.zero_le, Nat.le_refl, reduceCtorEq]
    exact hK'
  · rw [hx_k (k := 0) hp] at hK'
    rw [ou_k (k := 0) hp]
    refine aft_h rfl rfl (fun q => ?_)
    simp only [eL_stop_0, eL_stop_1, eL_stop_2, eL_stop_5, eL_stop_6, eL_stop_7, eL_stop_9, eL_stop_10, eL_stop_11, eL_stop_13, isA_r, isA_n, isI_i, isF_f, isL_l, is1_i, is1_r, is1_n, is1_f, true_and, and_true, List.length_cons, List.length_nil, Nat.reduceAdd, Nat.reduceLeDiff, Nat.reduceSub, Option.some.injEq, exists_eq_left', aft_s, aft_n, ite_true, ite_false, if_true, if_false, Nat.zero_le, Nat.le_refl, reduceCtorEq]
    exact hK'
  · rw [hx_k (k := 1) hp] at hK'
    rw [ou_k (k := 1) hp]
    refine aft_h rfl rfl (fun q => ?_)
    simp only [eL_stop_0, eL_stop_1, eL_stop_2, eL_stop_5, eL_stop_6, eL_stop_7, eL_stop_9, eL_stop_10, eL_stop_11, eL_stop_13, isA_r, isA_n, isI_i, isF_f, isL_l, is1_i, is1_r, is1_n, is1_f, true_and, and_true, List.length_cons, List.length_nil, Nat.reduceAdd, Nat.reduceLeDiff, Nat.reduceSub, Option.some.injEq, exists_eq_left', aft_s, aft_n, ite_true, ite_false, if_true, if_false, Nat.zero_le, Nat.le_refl, reduceCtorEq]
    exact hK'
theorem h_goOn (C : CW E P H0 x σ H) (G : Good σ T) (hT : T + 200 < 16384)  {v1 : Int32} (hc : JJ (a_goOn σ v1).2.2 + 400 ≤ JJ σ + c) (hn : 4 * JJ (a_goOn σ v1).2.2 + 1600 ≤ 4 * JJ σ + n) (hK : ∀ H', CW E P H0 x (a_goOn σ v1).2.2 H' → K (.inl (some (.int (hx [-77, -79] (a_goOn σ v1))))) H') : CRd TTv E (d + 14) mL_goOn [.ref x, .int v1] H c n K := by
  refine crd rfl ?_
  show Ev E (d + 13) mL_goOn K 0 [.ref x, .int v1, .retAddr 0] [] H c n
  have hp : (a_goOn σ v1).1 = 0 ∨ (a_goOn σ v1).1 = 1 ∨ (a_goOn σ v1).1 = 2 := by
    unfold a_goOn
    repeat' split
    all_goals simp
  simp only [eL_goOn_0, eL_goOn_1, eL_goOn_2, eL_goOn_5, eL_goOn_6, eL_goOn_7, eL_goOn_9, eL_goOn_10, eL_goOn_11, eL_goOn_13, isA_r, isA_n, isI_i, isF_f, isL_l, is1_i, is1_r, is1_n, is1_f, true_and, and_true, List.length_cons, List.length_nil, Nat.reduceAdd, Nat.reduceLeDiff, Nat.reduceSub, Option.some.injEq, exists_eq_left', aft_s, aft_n, ite_true, ite_false, if_true, if_false, Nat.zero_le, Nat.le_refl, reduceCtorEq]
  refine ⟨C.xo, invk c n (Nat.le_refl _) (Nat.le_refl _) (p_goOn C G hT hc hn (fun H' C' => ?_))⟩
  have hK' := hK H' C'
  rcases hp with hp | hp | hp
  · rw [hx_0 hp] at hK'
    rw [ou_0 hp]
    simp only [eL_goOn_0, eL_goOn_1, eL_goOn_2, eL_goOn_5, eL_goOn_6, eL_goOn_7, eL_goOn_9, eL_goOn_10, eL_goOn_11, eL_goOn_13, isA_r, isA_n, isI_i, isF_f, isL_l, is1_i, is1_r, is1_n, is1_f, true_and, and_true, List.length_cons, List.length_nil, Nat.reduceAdd, Nat.reduceLeDiff, Nat.reduceSub, Option.some.injEq, exists_eq_left', aft_s, aft_n, ite_true, ite_false, if_true, if_false, Nat.zero_le, Nat.le_refl, reduceCtorEq]
    exact hK'
  · rw [hx_k (k := 0) hp] at hK'
    rw [ou_k (k := 0) hp]
    refine aft_h rfl rfl (fun q => ?_)
    simp only [eL_goOn_0, eL_goOn_1, eL_goOn_2, eL_goOn_5, eL_goOn_6, eL_goOn_7, eL_goOn_9, eL_goOn_10, eL_goOn_11, eL_goOn_13, isA_r, isA_n, isI_i, isF_f, isL_l, is1_i, is1_r, is1_n, is1_f, true_and, and_true, List.length_cons, List.length_nil, Nat.reduceAdd, Nat.reduceLeDiff, Nat.reduceSub, Option.some.injEq, exists_eq_left', aft_s, aft_n, ite_true, ite_false, if_true, if_false, Nat.zero_le, Nat.le_refl, reduceCtorEq]
    exact hK'
  · rw [hx_k (k := 1) hp] at hK'
    rw [ou_k (k := 1) hp]
    refine aft_h rfl rfl (fun q => ?_)
    simp only [eL_goOn_0, eL_goOn_1, eL_goOn_2, eL_goOn_5, eL_goOn_6, eL_goOn_7, eL_goOn_9, eL_goOn_10, eL_goOn_11, eL_goOn_13, isA_r, isA_n, isI_i, isF_f, isL_l, is1_i, is1_r, is1_n, is1_f, true_and, and_true, List.length_cons, List.length_nil, Nat.reduceAdd, Nat.reduceLeDiff, Nat.reduceSub, Option.some.injEq, exists_eq_left', aft_s, aft_n, ite_true, ite_false, if_true, if_false, Nat.zero_le, Nat.le_refl, reduceCtorEq]
    exact hK'
theorem h_end (C : CW E P H0 x σ H) (G : Good σ T) (hT : T + 200 < 16384)  {v1 : Int32} (hc : JJ (a_end σ v1).2.2 + 400 ≤ JJ σ + c) (hn : 4 * JJ (a_end σ v1).2.2 + 1600 ≤ 4 * JJ σ + n) (hK : ∀ H', CW E P H0 x (a_end σ v1).2.2 H' → K (.inl (some (.int (hx [-77, -79] (a_end σ v1))))) H') : CRd TTv E (d + 14) mL_end [.ref x, .int v1] H c n K := by
  refine crd rfl ?_
  show Ev E (d + 13) mL_end K 0 [.ref x, .int v1, .retAddr 0] [] H c n
  have hp : (a_end σ v1).1 = 0 ∨ (a_end σ v1).1 = 1 ∨ (a_end σ v1).1 = 2 := by
    unfold a_end
    repeat' split
    all_goals simp
  simp only [eL_end_0, eL_end_1, eL_end_2, eL_end_5, eL_end_6, eL_end_7, eL_end_9, eL_end_10, eL_end_11, eL_end_13, isA_r, isA_n, isI_i, isF_f, isL_l, is1_i, is1_r, is1_n, is1_f, true_and, and_true, List.length_cons, List.length_nil, Nat.reduceAdd, Nat.reduceLeDiff, Nat.reduceSub, Option.some.injEq, exists_eq_left', aft_s, aft_n, ite_true, ite_false, if_true, if_false, Nat.zero_le, Nat.le_refl, reduceCtorEq]
  refine ⟨C.xo, invk c n (Nat.le_refl _) (Nat.le_refl _) (p_end C G hT hc hn (fun H' C' => ?_))⟩
  have hK' := hK H' C'
  rcases hp with hp | hp | hp
  · rw [hx_0 hp] at hK'
    rw [ou_0 hp]
    simp only [eL_end_0, eL_end_1, eL_end_2, eL_end_5, eL_end_6, eL_end_7, eL_end_9, eL_end_10, eL_end_11, eL_end_13, isA_r, isA_n, isI_i, isF_f, isL_l, is1_i, is1_r, is1_n, is1_f, true_and, and_true, List.length_cons, List.length_nil, Nat.reduceAdd, Nat.reduceLeDiff, Nat.reduceSub, Option.some.injEq, exists_eq_left', aft_s, aft_n, ite_true, ite_false, if_true, if_false, Nat.zero_le, Nat.le_refl, reduceCtorEq]
    exact hK'
  · rw [hx_k (k := 0) hp] at hK'
    rw [ou_k (k := 0) hp]
    refine aft_h rfl rfl (fun q => ?_)
    simp only [eL_end_0, eL_end_1, eL_end_2, eL_end_5, eL_end_6, eL_end_7, eL_end_9, eL_end_10, eL_end_11, eL_end_13, isA_r, isA_n, isI_i, isF_f, isL_l, is1_i, is1_r, is1_n, is1_f, true_and, and_true, List.length_cons, List.length_nil, Nat.reduceAdd, Nat.reduceLeDiff, Nat.reduceSub, Option.some.injEq, exists_eq_left', aft_s, aft_n, ite_true, ite_false, if_true, if_false, Nat.zero_le, Nat.le_refl, reduceCtorEq]
    exact hK'
  · rw [hx_k (k := 1) hp] at hK'
    rw [ou_k (k := 1) hp]
    refine aft_h rfl rfl (fun q => ?_)
    simp only [eL_end_0, eL_end_1, eL_end_2, eL_end_5, eL_end_6, eL_end_7, eL_end_9, eL_end_10, eL_end_11, eL_end_13, isA_r, isA_n, isI_i, isF_f, isL_l, is1_i, is1_r, is1_n, is1_f, true_and, and_true, List.length_cons, List.length_nil, Nat.reduceAdd, Nat.reduceLeDiff, Nat.reduceSub, Option.some.injEq, exists_eq_left', aft_s, aft_n, ite_true, ite_false, if_true, if_false, Nat.zero_le, Nat.le_refl, reduceCtorEq]
    exact hK'
theorem h_signal (C : CW E P H0 x σ H) (G : Good σ T) (hT : T + 200 < 16384)  {v1 v2 : Int32} (hc : JJ (a_signal σ v1 v2).2.2 + 400 ≤ JJ σ + c) (hn : 4 * JJ (a_signal σ v1 v2).2.2 + 1600 ≤ 4 * JJ σ + n) (hK : ∀ H', CW E P H0 x (a_signal σ v1 v2).2.2 H' → K (.inl (some (.int (hx [-77, -78] (a_signal σ v1 v2))))) H') : CRd TTv E (d + 14) mL_signal [.ref x, .int v1, .int v2] H c n K := by
  refine crd rfl ?_
  show Ev E (d + 13) mL_signal K 0 [.ref x, .int v1, .int v2, .retAddr 0] [] H c n
  have hp : (a_signal σ v1 v2).1 = 0 ∨ (a_signal σ v1 v2).1 = 1 ∨ (a_signal σ v1 v2).1 = 2 := by
    unfold a_signal
    repeat' split
    all_goals simp
  simp only [eL_signal_0, eL_signal_1, eL_signal_2, eL_signal_3, eL_signal_6, eL_signal_7, eL_signal_8, eL_signal_10, eL_signal_11, eL_signal_12, eL_signal_14, isA_r, isA_n, isI_i, isF_f, isL_l, is1_i, is1_r, is1_n, is1_f, true_and, and_true, List.length_cons, List.length_nil, Nat.reduceAdd, Nat.reduceLeDiff, Nat.reduceSub, Option.some.injEq, exists_eq_left', aft_s, aft_n, ite_true, ite_false, if_true, if_false, Nat.zero_le, Nat.le_refl, reduceCtorEq]
  refine ⟨C.xo, invk c n (Nat.le_refl _) (Nat.le_refl _) (p_signal C G hT hc hn (fun H' C' => ?_))⟩
  have hK' := hK H' C'
  rcases hp with hp | hp | hp
  · rw [hx_0 hp] at hK'
    rw [ou_0 hp]
    simp only [eL_signal_0, eL_signal_1, eL_signal_2, eL_signal_3, eL_signal_6, eL_signal_7, eL_signal_8, eL_signal_10, eL_signal_11, eL_signal_12, eL_signal_14, isA_r, isA_n, isI_i, isF_f, isL_l, is1_i, is1_r, is1_n, is1_f, true_and, and_true, List.length_cons, List.length_nil, Nat.reduceAdd, Nat.reduceLeDiff, Nat.reduceSub, Option.some.injEq, exists_eq_left', aft_s, aft_n, ite_true, ite_false, if_true, if_false, Nat.zero_le, Nat.le_refl, reduceCtorEq]
    exact hK'
  · rw [hx_k (k := 0) hp] at hK'
    rw [ou_k (k := 0) hp]
    refine aft_h rfl rfl (fun q => ?_)
    simp only [eL_signal_0, eL_signal_1, eL_signal_2, eL_signal_3, eL_signal_6, eL_signal_7, eL_signal_8, eL_signal_10, eL_signal_11, eL_signal_12, eL_signal_14, isA_r, isA_n, isI_i, isF_f, isL_l, is1_i, is1_r, is1_n, is1_f, true_and, and_true, List.length_cons, List.length_nil, Nat.reduceAdd, Nat.reduceLeDiff, Nat.reduceSub, Option.some.injEq, exists_eq_left', aft_s, aft_n, ite_true, ite_false, if_true, if_false, Nat.zero_le, Nat.le_refl, reduceCtorEq]
    exact hK'
  · rw [hx_k (k := 1) hp] at hK'
    rw [ou_k (k := 1) hp]
    refine aft_h rfl rfl (fun q => ?_)
    simp only [eL_signal_0, eL_signal_1, eL_signal_2, eL_signal_3, eL_signal_6, eL_signal_7, eL_signal_8, eL_signal_10, eL_signal_11, eL_signal_12, eL_signal_14, isA_r, isA_n, isI_i, isF_f, isL_l, is1_i, is1_r, is1_n, is1_f, true_and, and_true, List.length_cons, List.length_nil, Nat.reduceAdd, Nat.reduceLeDiff, Nat.reduceSub, Option.some.injEq, exists_eq_left', aft_s, aft_n, ite_true, ite_false, if_true, if_false, Nat.zero_le, Nat.le_refl, reduceCtorEq]
    exact hK'
theorem h_tick (C : CW E P H0 x σ H) (G : Good σ T) (hT : T + 200 < 16384)  {v1 : Int32} (hc : JJ (a_tick σ v1).2.2 + 400 ≤ JJ σ + c) (hn : 4 * JJ (a_tick σ v1).2.2 + 1600 ≤ 4 * JJ σ + n) (hK : ∀ H', CW E P H0 x (a_tick σ v1).2.2 H' → K (.inl (some (.int (hx [-78] (a_tick σ v1))))) H') : CRd TTv E (d + 14) mL_tick [.ref x, .int v1] H c n K := by
  refine crd rfl ?_
  show Ev E (d + 13) mL_tick K 0 [.ref x, .int v1, .retAddr 0] [] H c n
  have hp : (a_tick σ v1).1 = 0 ∨ (a_tick σ v1).1 = 1 := by
    unfold a_tick
    repeat' split
    all_goals simp
  simp only [eL_tick_0, eL_tick_1, eL_tick_2, eL_tick_5, eL_tick_6, eL_tick_7, eL_tick_9, isA_r, isA_n, isI_i, isF_f, isL_l, is1_i, is1_r, is1_n, is1_f, true_and, and_true, List.length_cons, List.length_nil, Nat.reduceAdd, Nat.reduceLeDiff, Nat.reduceSub, Option.some.injEq, exists_eq_left', aft_s, aft_n, ite_true, ite_false, if_true, if_false, Nat.zero_le, Nat.le_refl, reduceCtorEq]
  refine ⟨C.xo, invk c n (Nat.le_refl _) (Nat.le_refl _) (p_tick C G hT hc hn (fun H' C' => ?_))⟩
  have hK' := hK H' C'
  rcases hp with hp | hp
  · rw [hx_0 hp] at hK'
    rw [ou_0 hp]
    simp only [eL_tick_0, eL_tick_1, eL_tick_2, eL_tick_5, eL_tick_6, eL_tick_7, eL_tick_9, isA_r, isA_n, isI_i, isF_f, isL_l, is1_i, is1_r, is1_n, is1_f, true_and, and_true, List.length_cons, List.length_nil, Nat.reduceAdd, Nat.reduceLeDiff, Nat.reduceSub, Option.some.injEq, exists_eq_left', aft_s, aft_n, ite_true, ite_false, if_true, if_false, Nat.zero_le, Nat.le_refl, reduceCtorEq]
    exact hK'
  · rw [hx_k (k := 0) hp] at hK'
    rw [ou_k (k := 0) hp]
    refine aft_h rfl rfl (fun q => ?_)
    simp only [eL_tick_0, eL_tick_1, eL_tick_2, eL_tick_5, eL_tick_6, eL_tick_7, eL_tick_9, isA_r, isA_n, isI_i, isF_f, isL_l, is1_i, is1_r, is1_n, is1_f, true_and, and_true, List.length_cons, List.length_nil, Nat.reduceAdd, Nat.reduceLeDiff, Nat.reduceSub, Option.some.injEq, exists_eq_left', aft_s, aft_n, ite_true, ite_false, if_true, if_false, Nat.zero_le, Nat.le_refl, reduceCtorEq]
    exact hK'
theorem h_entryJob (C : CW E P H0 x σ H) (O : Ok σ) (hj : (s_jn σ).length ≤ 16384)  {v1 : Int32} (hc : 2 ≤ c) (hn : 12 ≤ n) (hK : ∀ H', CW E P H0 x σ H' → K (.inl (some (.int (hx [-75] (q_entryJob σ v1))))) H') : CRd TTv E (d + 13) mL_entryJob [.ref x, .int v1] H c n K := by
  refine crd rfl ?_
  show Ev E (d + 12) mL_entryJob K 0 [.ref x, .int v1, .retAddr 0] [] H c n
  have hp : (q_entryJob σ v1).1 = 0 ∨ (q_entryJob σ v1).1 = 1 := by
    unfold q_entryJob
    repeat' split
    all_goals simp
  simp only [eL_entryJob_0, eL_entryJob_1, eL_entryJob_2, eL_entryJob_5, eL_entryJob_6, eL_entryJob_7, eL_entryJob_9, isA_r, isA_n, isI_i, isF_f, isL_l, is1_i, is1_r, is1_n, is1_f, true_and, and_true, List.length_cons, List.length_nil, Nat.reduceAdd, Nat.reduceLeDiff, Nat.reduceSub, Option.some.injEq, exists_eq_left', aft_s, aft_n, ite_true, ite_false, if_true, if_false, Nat.zero_le, Nat.le_refl, reduceCtorEq]
  refine ⟨C.xo, invk c n (Nat.le_refl _) (Nat.le_refl _) (p_entryJob C O hj hc hn (fun H' C' => ?_))⟩
  rw [u_entryJob] at C'
  have hK' := hK H' C'
  rcases hp with hp | hp
  · rw [hx_0 hp] at hK'
    rw [ou_0 hp]
    simp only [eL_entryJob_0, eL_entryJob_1, eL_entryJob_2, eL_entryJob_5, eL_entryJob_6, eL_entryJob_7, eL_entryJob_9, isA_r, isA_n, isI_i, isF_f, isL_l, is1_i, is1_r, is1_n, is1_f, true_and, and_true, List.length_cons, List.length_nil, Nat.reduceAdd, Nat.reduceLeDiff, Nat.reduceSub, Option.some.injEq, exists_eq_left', aft_s, aft_n, ite_true, ite_false, if_true, if_false, Nat.zero_le, Nat.le_refl, reduceCtorEq]
    exact hK'
  · rw [hx_k (k := 0) hp] at hK'
    rw [ou_k (k := 0) hp]
    refine aft_h rfl rfl (fun q => ?_)
    simp only [eL_entryJob_0, eL_entryJob_1, eL_entryJob_2, eL_entryJob_5, eL_entryJob_6, eL_entryJob_7, eL_entryJob_9, isA_r, isA_n, isI_i, isF_f, isL_l, is1_i, is1_r, is1_n, is1_f, true_and, and_true, List.length_cons, List.length_nil, Nat.reduceAdd, Nat.reduceLeDiff, Nat.reduceSub, Option.some.injEq, exists_eq_left', aft_s, aft_n, ite_true, ite_false, if_true, if_false, Nat.zero_le, Nat.le_refl, reduceCtorEq]
    exact hK'
theorem h_entryState (C : CW E P H0 x σ H) (O : Ok σ) (hj : (s_jn σ).length ≤ 16384)  {v1 : Int32} (hc : 2 ≤ c) (hn : 12 ≤ n) (hK : ∀ H', CW E P H0 x σ H' → K (.inl (some (.int (hx [-75] (q_entryState σ v1))))) H') : CRd TTv E (d + 13) mL_entryState [.ref x, .int v1] H c n K := by
  refine crd rfl ?_
  show Ev E (d + 12) mL_entryState K 0 [.ref x, .int v1, .retAddr 0] [] H c n
  have hp : (q_entryState σ v1).1 = 0 ∨ (q_entryState σ v1).1 = 1 := by
    unfold q_entryState
    repeat' split
    all_goals simp
  simp only [eL_entryState_0, eL_entryState_1, eL_entryState_2, eL_entryState_5, eL_entryState_6, eL_entryState_7, eL_entryState_9, isA_r, isA_n, isI_i, isF_f, isL_l, is1_i, is1_r, is1_n, is1_f, true_and, and_true, List.length_cons, List.length_nil, Nat.reduceAdd, Nat.reduceLeDiff, Nat.reduceSub, Option.some.injEq, exists_eq_left', aft_s, aft_n, ite_true, ite_false, if_true, if_false, Nat.zero_le, Nat.le_refl, reduceCtorEq]
  refine ⟨C.xo, invk c n (Nat.le_refl _) (Nat.le_refl _) (p_entryState C O hj hc hn (fun H' C' => ?_))⟩
  rw [u_entryState] at C'
  have hK' := hK H' C'
  rcases hp with hp | hp
  · rw [hx_0 hp] at hK'
    rw [ou_0 hp]
    simp only [eL_entryState_0, eL_entryState_1, eL_entryState_2, eL_entryState_5, eL_entryState_6, eL_entryState_7, eL_entryState_9, isA_r, isA_n, isI_i, isF_f, isL_l, is1_i, is1_r, is1_n, is1_f, true_and, and_true, List.length_cons, List.length_nil, Nat.reduceAdd, Nat.reduceLeDiff, Nat.reduceSub, Option.some.injEq, exists_eq_left', aft_s, aft_n, ite_true, ite_false, if_true, if_false, Nat.zero_le, Nat.le_refl, reduceCtorEq]
    exact hK'
  · rw [hx_k (k := 0) hp] at hK'
    rw [ou_k (k := 0) hp]
    refine aft_h rfl rfl (fun q => ?_)
    simp only [eL_entryState_0, eL_entryState_1, eL_entryState_2, eL_entryState_5, eL_entryState_6, eL_entryState_7, eL_entryState_9, isA_r, isA_n, isI_i, isF_f, isL_l, is1_i, is1_r, is1_n, is1_f, true_and, and_true, List.length_cons, List.length_nil, Nat.reduceAdd, Nat.reduceLeDiff, Nat.reduceSub, Option.some.injEq, exists_eq_left', aft_s, aft_n, ite_true, ite_false, if_true, if_false, Nat.zero_le, Nat.le_refl, reduceCtorEq]
    exact hK'
theorem h_doneShare (C : CW E P H0 x σ H) (hc : 2 ≤ c) (hn : 12 ≤ n) (hK : K (.inl (some (.float (if s_nJ σ = 0 then 3264610304 else shF σ)))) H) : CRd TTv E (d + 13) mL_doneShare [.ref x] H c n K := by
  refine crd rfl ?_
  show Ev E (d + 12) mL_doneShare K 0 [.ref x, .retAddr 0] [] H c n
  simp only [eL_doneShare_0, eL_doneShare_1, eL_doneShare_4, eL_doneShare_5, eL_doneShare_6, eL_doneShare_8, isA_r, isA_n, isI_i, isF_f, isL_l, is1_i, is1_r, is1_n, is1_f, true_and, and_true, List.length_cons, List.length_nil, Nat.reduceAdd, Nat.reduceLeDiff, Nat.reduceSub, Option.some.injEq, exists_eq_left', aft_s, aft_n, ite_true, ite_false, if_true, if_false, Nat.zero_le, Nat.le_refl, reduceCtorEq]
  refine ⟨C.xo, invk c n (Nat.le_refl _) (Nat.le_refl _) (p_doneShare C hc hn (fun h0 => ?_) (fun h0 => ?_))⟩
  · rw [if_pos h0] at hK
    refine aft_h rfl rfl (fun q => ?_)
    simp only [eL_doneShare_0, eL_doneShare_1, eL_doneShare_4, eL_doneShare_5, eL_doneShare_6, eL_doneShare_8, isA_r, isA_n, isI_i, isF_f, isL_l, is1_i, is1_r, is1_n, is1_f, true_and, and_true, List.length_cons, List.length_nil, Nat.reduceAdd, Nat.reduceLeDiff, Nat.reduceSub, Option.some.injEq, exists_eq_left', aft_s, aft_n, ite_true, ite_false, if_true, if_false, Nat.zero_le, Nat.le_refl, reduceCtorEq]
    exact hK
  · rw [if_neg h0] at hK
    simp only [eL_doneShare_0, eL_doneShare_1, eL_doneShare_4, eL_doneShare_5, eL_doneShare_6, eL_doneShare_8, isA_r, isA_n, isI_i, isF_f, isL_l, is1_i, is1_r, is1_n, is1_f, true_and, and_true, List.length_cons, List.length_nil, Nat.reduceAdd, Nat.reduceLeDiff, Nat.reduceSub, Option.some.injEq, exists_eq_left', aft_s, aft_n, ite_true, ite_false, if_true, if_false, Nat.zero_le, Nat.le_refl, reduceCtorEq]
    exact hK
end LAW2
