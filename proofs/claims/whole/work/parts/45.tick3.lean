theorem tickL_keep {ran : Nat → Bool} : ∀ (m j : Nat) (σ : Sg) (cnt T : Nat), Ok σ → Jb σ T → Lf σ → m + j = s_nJ σ → (∀ i, j ≤ i → i < s_nJ σ → ran i = true → s_st σ i = 114) → Ok (tickL ran m j σ cnt).2 ∧ Jb (tickL ran m j σ cnt).2 T ∧ Lf (tickL ran m j σ cnt).2 ∧ s_nJ (tickL ran m j σ cnt).2 = s_nJ σ ∧ s_nS (tickL ran m j σ cnt).2 = s_nS σ := by
  intro m
  induction m with
  | zero => intro j σ cnt T O J L _ _; exact ⟨O, J, L, rfl, rfl⟩
  | succ m ih =>
    intro j σ cnt T O J L hm hr
    unfold tickL
    cases hrn : ran j with
    | false => exact ih (j + 1) σ cnt T O J L (by omega) (fun i hi => hr i (by omega))
    | true =>
      have hlt : j < s_nJ σ := by omega
      obtain ⟨O', J', L', n1, n2, hs'⟩ := tick1_keep O J L hlt (hr j (Nat.le_refl j) hlt hrn)
      have := ih (j + 1) (tick1 σ j).2 (cnt + (tick1 σ j).1) T O' J' L' (by rw [n1]; omega) (fun i hi hi2 hri => hs' i (by omega) (hr i (by omega) (by rw [n1] at hi2; exact hi2) hri))
      rw [n1, n2] at this
      exact this
theorem ticks_keep {σ : Sg} {T : Nat} (O : Ok σ) (J : Jb σ T) (L : Lf σ) : Ok (ticksF σ).2 ∧ Jb (ticksF σ).2 T ∧ Lf (ticksF σ).2 ∧ s_nJ (ticksF σ).2 = s_nJ σ ∧ s_nS (ticksF σ).2 = s_nS σ :=
  tickL_keep (s_nJ σ) 0 σ 0 T O J L (by omega) (fun i _ _ h => by unfold runs at h; simpa using h)
def manyF : Nat → Sg → Nat → Nat × Sg
  | 0, σ, n => (n, σ)
  | m + 1, σ, n => manyF m (ticksF σ).2 (n + (ticksF σ).1)
def badT (v : Int32) : Bool := decide (v < 1) || decide (60 < v)
def a_tick (σ : Sg) (v : Int32) : SP := match badT v with
  | true => (1, 0, σ)
  | false => (0, nI (manyF v.toNatClampNeg σ 0).1, (manyF v.toNatClampNeg σ 0).2)
section MD20
variable {E : EN} {d : Nat} {h : AH} {c n : Nat} {K : Out → AH → Prop} {mo : Nat} {ad : Nat → Nat} {M : MS} {σ : Sg} {th : Nat}
theorem c_ticks (A : ADok mo ad) (R : RM σ 0 M) (O : Ok σ) {T : Nat} (J : Jb σ T) (L : Lf σ) (hT : T + 61 < 30999) (hk : ∀ M', RM (ticksF σ).2 0 M' → K (.inl (some (.int (nI (ticksF σ).1)))) (mv h mo ad M')) : CRd TTv E (d + 4) mX5_ticks [.ref mo] (mv h mo ad M) c n K := by
  refine crd rfl ?_
  show Ev E (d + 3) mX5_ticks K 0 [.ref mo, .retAddr 0, .retAddr 0, .retAddr 0] [] _ c n
  simp only [eX5_ticks_0, eX5_ticks_1, eX5_ticks_2, eX5_ticks_3, eX5_ticks_4, eX5_ticks_5, isA_r, isA_n, isI_i, isF_f, isL_l, is1_i, is1_r, is1_n, is1_f, true_and, and_true, List.length_cons, List.length_nil, Nat.reduceAdd, Nat.reduceLeDiff, Nat.reduceSub, Option.some.injEq, exists_eq_left', aft_s, aft_n, ite_true, ite_false, if_true, if_false, Nat.zero_le, Nat.le_refl, reduceCtorEq]
  refine l_ran A R O (s_nJ σ) 0 0 (by omega) (fun i => by simp) (fun b hb => ?_)
  exact l_tick2 A (ran := runs σ) (s_nJ σ) 0 σ 0 T M R O J L hT (by omega) (fun i _ _ h => by unfold runs at h; simpa using h) (fun i hi => by rw [hb i]; simp [hi]) hk
theorem l_tick (A : ADok mo ad) {N : Nat} (hN : N ≤ 60) : ∀ (m j : Nat) (σ : Sg) (cnt T : Nat) (M : MS), RM σ 0 M → Ok σ → Jb σ T → Lf σ → T + 61 < 30999 → m + j = N → (∀ M', RM (manyF m σ cnt).2 0 M' → K (.inl (some (.int (nI (manyF m σ cnt).1)))) (mv h mo ad M')) →
    Ev E (d + 4) mX5_tick K 25 [.ref mo, .int (nI N), .int (nI cnt), .int (nI j)] [] (mv h mo ad M) c n := by
  intro m
  induction m with
  | zero =>
    intro j σ cnt T M R O J L hT hm hK
    rw [hX5_tick_25]
    simp only [eX5_tick_26, isA_r, isA_n, isI_i, isF_f, isL_l, is1_i, is1_r, is1_n, is1_f, true_and, and_true, List.length_cons, List.length_nil, Nat.reduceAdd, Nat.reduceLeDiff, Nat.reduceSub, Option.some.injEq, exists_eq_left', aft_s, aft_n, ite_true, ite_false, if_true, if_false, Nat.zero_le, Nat.le_refl, reduceCtorEq]
    rw [eX5_tick_27, if_neg (nI_nlt (show N ≤ j by omega) (by omega))]
    simp only [eX5_tick_43, eX5_tick_44, isA_r, isA_n, isI_i, isF_f, isL_l, is1_i, is1_r, is1_n, is1_f, true_and, and_true, List.length_cons, List.length_nil, Nat.reduceAdd, Nat.reduceLeDiff, Nat.reduceSub, Option.some.injEq, exists_eq_left', aft_s, aft_n, ite_true, ite_false, if_true, if_false, Nat.zero_le, Nat.le_refl, reduceCtorEq]
    exact hK _ R
  | succ m ih =>
    intro j σ cnt T M R O J L hT hm hK
    rw [hX5_tick_25]
    simp only [eX5_tick_26, isA_r, isA_n, isI_i, isF_f, isL_l, is1_i, is1_r, is1_n, is1_f, true_and, and_true, List.length_cons, List.length_nil, Nat.reduceAdd, Nat.reduceLeDiff, Nat.reduceSub, Option.some.injEq, exists_eq_left', aft_s, aft_n, ite_true, ite_false, if_true, if_false, Nat.zero_le, Nat.le_refl, reduceCtorEq]
    rw [eX5_tick_27, if_pos (nI_lt (show j < N by omega) (by omega))]
    simp only [eX5_tick_30, eX5_tick_31, eX5_tick_32, isA_r, isA_n, isI_i, isF_f, isL_l, is1_i, is1_r, is1_n, is1_f, true_and, and_true, List.length_cons, List.length_nil, Nat.reduceAdd, Nat.reduceLeDiff, Nat.reduceSub, Option.some.injEq, exists_eq_left', aft_s, aft_n, ite_true, ite_false, if_true, if_false, Nat.zero_le, Nat.le_refl, reduceCtorEq, mv_ob, mr0 A, mw0 A, ms0 A, mr1 A, mw1 A, ms1 A, mr2 A, mw2 A, ms2 A, mr3 A, mw3 A, ms3 A, mr4 A, mw4 A, ms4 A, mr5 A, mw5 A, ms5 A, mr6 A, mw6 A, ms6 A, mr7 A, mw7 A, ms7 A, mr8 A, mw8 A, ms8 A, mr9 A, mw9 A, ms9 A, mr10 A, mw10 A, ms10 A, mr11 A, mw11 A, ms11 A, mr12 A, mw12 A, ms12 A, mr13 A, mw13 A, ms13 A, mr14 A, mw14 A, ms14 A, mf0, mf1, mf2, mf3, mf4, mf5, mf6, mg0, mg1, mg2, mg3, mg4, mg5, mg6, mg7, mg8, mg9, mg10, mg11, mg12, mg13, mg14, mg15, mg16, mg17, mg18, mg19, mg20, mg21, mgl, Nat.reduceLT, va_up_self, exists_eq']
    refine inv0 (c_ticks A R O J L hT (fun M' R' => ?_))
    obtain ⟨O', J', L', _, _⟩ := ticks_keep O J L
    simp only [aft_s, Nat.reduceAdd]
    simp only [eX5_tick_35, eX5_tick_36, eX5_tick_37, eX5_tick_40, isA_r, isA_n, isI_i, isF_f, isL_l, is1_i, is1_r, is1_n, is1_f, true_and, and_true, List.length_cons, List.length_nil, Nat.reduceAdd, Nat.reduceLeDiff, Nat.reduceSub, Option.some.injEq, exists_eq_left', aft_s, aft_n, ite_true, ite_false, if_true, if_false, Nat.zero_le, Nat.le_refl, reduceCtorEq, nI_add, nI_1]
    exact ih (j + 1) _ _ T M' R' O' J' L' hT (by omega) hK
theorem t_in {v : Int32} (h1 : ¬ v < 1) (h2 : ¬ 60 < v) : ∃ k : Nat, k ≤ 60 ∧ v = nI k := by
  rw [Int32.lt_iff_toInt_lt] at h1 h2
  have e1 : (1 : Int32).toInt = 1 := by decide
  have e2 : (60 : Int32).toInt = 60 := by decide
  have e0 : (0 : Int32).toInt = 0 := by decide
  rw [e1] at h1
  rw [e2] at h2
  obtain ⟨k, hk, he⟩ := nI_of (x := v) (by rw [Int32.lt_iff_toInt_lt]; omega)
  subst he
  rw [nI_toInt hk] at h1 h2
  exact ⟨k, by omega, rfl⟩
theorem c_tick (A : ADok mo ad) (R : RM σ th M) (O : Ok σ) {T : Nat} (J : Jb σ T) (L : Lf σ) (hT : T + 61 < 30999) {v : Int32} (hk : ∀ M', RM (a_tick σ v).2.2 (a_tick σ v).1 M' → K (.inl (some (.int (a_tick σ v).2.1))) (mv h mo ad M')) : CRd TTv E (d + 5) mX5_tick [.ref mo, .int v] (mv h mo ad M) c n K := by
  refine crd rfl ?_
  show Ev E (d + 4) mX5_tick K 0 [.ref mo, .int v, .retAddr 0, .retAddr 0] [] _ c n
  simp only [eX5_tick_0, eX5_tick_1, eX5_tick_2, eX5_tick_4, isA_r, isA_n, isI_i, isF_f, isL_l, is1_i, is1_r, is1_n, is1_f, true_and, and_true, List.length_cons, List.length_nil, Nat.reduceAdd, Nat.reduceLeDiff, Nat.reduceSub, Option.some.injEq, exists_eq_left', aft_s, aft_n, ite_true, ite_false, if_true, if_false, Nat.zero_le, Nat.le_refl, reduceCtorEq]
  refine inv0 (c_in ?_)
  have bad : badT v = true → Ev E (d + 4) mX5_tick K 7 [.ref mo, .int v, .retAddr 0, .retAddr 0] [.int 0] (mv h mo ad M) c n := by
    intro hb
    unfold a_tick at hk
    rw [hb] at hk
    rw [eX5_tick_7, if_pos rfl]
    simp only [eX5_tick_10, eX5_tick_11, eX5_tick_12, isA_r, isA_n, isI_i, isF_f, isL_l, is1_i, is1_r, is1_n, is1_f, true_and, and_true, List.length_cons, List.length_nil, Nat.reduceAdd, Nat.reduceLeDiff, Nat.reduceSub, Option.some.injEq, exists_eq_left', aft_s, aft_n, ite_true, ite_false, if_true, if_false, Nat.zero_le, Nat.le_refl, reduceCtorEq, mv_ob, mr0 A, mw0 A, ms0 A, mr1 A, mw1 A, ms1 A, mr2 A, mw2 A, ms2 A, mr3 A, mw3 A, ms3 A, mr4 A, mw4 A, ms4 A, mr5 A, mw5 A, ms5 A, mr6 A, mw6 A, ms6 A, mr7 A, mw7 A, ms7 A, mr8 A, mw8 A, ms8 A, mr9 A, mw9 A, ms9 A, mr10 A, mw10 A, ms10 A, mr11 A, mw11 A, ms11 A, mr12 A, mw12 A, ms12 A, mr13 A, mw13 A, ms13 A, mr14 A, mw14 A, ms14 A, mf0, mf1, mf2, mf3, mf4, mf5, mf6, mg0, mg1, mg2, mg3, mg4, mg5, mg6, mg7, mg8, mg9, mg10, mg11, mg12, mg13, mg14, mg15, mg16, mg17, mg18, mg19, mg20, mg21, mgl, Nat.reduceLT, va_up_self, exists_eq']
    refine inv0 (c_fails ?_)
    simp only [aft_s, Nat.reduceAdd]
    simp only [eX5_tick_15, isA_r, isA_n, isI_i, isF_f, isL_l, is1_i, is1_r, is1_n, is1_f, true_and, and_true, List.length_cons, List.length_nil, Nat.reduceAdd, Nat.reduceLeDiff, Nat.reduceSub, Option.some.injEq, exists_eq_left', aft_s, aft_n, ite_true, ite_false, if_true, if_false, Nat.zero_le, Nat.le_refl, reduceCtorEq]
    exact hk _ (R.t 1)
  by_cases g1 : v < 1
  · rw [if_pos g1]; exact bad (by unfold badT; simp [g1])
  · rw [if_neg g1]
    by_cases g2 : 60 < v
    · rw [if_pos g2]; exact bad (by unfold badT; simp [g2])
    · rw [if_neg g2]
      have hb : badT v = false := by unfold badT; simp [g1, g2]
      obtain ⟨N, hN, rfl⟩ := t_in g1 g2
      unfold a_tick at hk
      rw [hb, nI_clamp (show N < 2 ^ 31 by omega)] at hk
      simp only [aft_s, Nat.reduceAdd]
      simp only [eX5_tick_7, eX5_tick_16, eX5_tick_17, eX5_tick_18, eX5_tick_21, eX5_tick_22, eX5_tick_23, eX5_tick_24, isA_r, isA_n, isI_i, isF_f, isL_l, is1_i, is1_r, is1_n, is1_f, true_and, and_true, List.length_cons, List.length_nil, Nat.reduceAdd, Nat.reduceLeDiff, Nat.reduceSub, Option.some.injEq, exists_eq_left', aft_s, aft_n, ite_true, ite_false, if_true, if_false, Nat.zero_le, Nat.le_refl, reduceCtorEq, mv_ob, mr0 A, mw0 A, ms0 A, mr1 A, mw1 A, ms1 A, mr2 A, mw2 A, ms2 A, mr3 A, mw3 A, ms3 A, mr4 A, mw4 A, ms4 A, mr5 A, mw5 A, ms5 A, mr6 A, mw6 A, ms6 A, mr7 A, mw7 A, ms7 A, mr8 A, mw8 A, ms8 A, mr9 A, mw9 A, ms9 A, mr10 A, mw10 A, ms10 A, mr11 A, mw11 A, ms11 A, mr12 A, mw12 A, ms12 A, mr13 A, mw13 A, ms13 A, mr14 A, mw14 A, ms14 A, mf0, mf1, mf2, mf3, mf4, mf5, mf6, mg0, mg1, mg2, mg3, mg4, mg5, mg6, mg7, mg8, mg9, mg10, mg11, mg12, mg13, mg14, mg15, mg16, mg17, mg18, mg19, mg20, mg21, mgl, Nat.reduceLT, va_up_self, i10]
      exact l_tick A hN N 0 σ 0 T _ (R.t 0) O J L hT (by omega) hk
end MD20
