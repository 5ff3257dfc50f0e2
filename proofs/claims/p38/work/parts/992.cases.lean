/-! the law's steps, a kind each -/
theorem inv_act {TT : TAB} {E : EN} {d : Nat} {M M' : MD} {Q : Out → AH → Prop} {pc : Nat} {ls st as : List Value} {h : AH} {a b c n X Y : Nat} (y : a ≤ b) (hb : b ≤ 16384) (hX : 82000 ≤ X) (hY : 459000 ≤ Y) (hc : X + 2390 ≤ a + c) (hn : Y + 14900 ≤ 4 * a + n) (H : ∀ kc kn c2 n2, b + 400 ≤ a + kc → 4 * b + 1600 ≤ 4 * a + kn → X + 1990 ≤ b + c2 → Y + 13300 ≤ 4 * b + n2 → CRd TT E d M' as h kc kn (fun o h' => Aft (EvR TT E d M Q) Q M (mI M') pc ls st o h' c2 n2)) : Inv TT E d M M' Q pc ls st as h c n := by
  obtain ⟨k1, k2, k3, k4, k5, k6⟩ := ar38 y hb hX hY hc hn
  exact ⟨_, _, k1, k2, H _ _ _ _ k3 k4 k5 k6⟩
theorem AF.o2 {P : Nat → Prop} {H0 H : AH} {E : EN} {x ao : Nat} {σ τ : Sg} {fO : Nat → Int32} (A : AF P H0 ao σ fO) (C : CW E P H0 x τ H) : H ao = some (arI 30 fO) := by rw [C.at A.1.1]; exact A.1.2
section CASES
variable {E : EN} {P : Nat → Prop} {H0 : AH} {b x aw al ao k i T X Y : Nat} {bf : Int64} {σ : Sg} {fw : Nat → Nat} {fW fL fO : Nat → Int32} {H : AH} {d c n : Nat} {K : Out → AH → Prop}
theorem w_stop (g : GI E P H0 x aw al ao σ T fw fW fL fO H) (hbf : sumF σ (s_nS σ) = bf) (hT : T + 200 < 16384) (hX : 82000 ≤ X) (hY : 459000 ≤ Y) (hc : X + 2400 ≤ JJ σ + c) (hn : Y + 15000 ≤ 4 * JJ σ + n) {m a j : Nat} (hm : m < 1000) (ha : a ≤ s_nS σ) (hj : j ≤ s_nJ σ) (nx : NX E P d K b x aw al ao k i T X Y bf) {a12 a17 a18 a19 : Value} : Ev E (d + 14) mL_law K 735 (lwF b x aw al ao (s_nS σ) (s_nJ σ) k i (.long bf) (.retAddr 0) a12 (.int (nI m)) (.int (nI a)) (.int (nI j)) (.int 0) a17 a18 a19) [] H c n := by
  have g0 := g
  obtain ⟨C, G, I, A, F, h2⟩ := g
  have O := G.1
  have h4 := O.1.1
  have h30 := O.1.2
  have hT3 : T + 30 + 60 ≤ 16384 := by omega
  have hJ1 := JJ_top G (by omega)
  simp only [eL_law_735, eL_law_736, eL_law_738, isA_r, isA_n, isI_i, isF_f, isL_l, is1_i, is1_r, is1_n, is1_f, true_and, and_true, List.length_cons, List.length_nil, Nat.reduceAdd, Nat.reduceLeDiff, Nat.reduceSub, Option.some.injEq, exists_eq_left', aft_s, aft_n, ite_true, ite_false, if_true, if_false, Nat.zero_le, Nat.le_refl, reduceCtorEq]
  refine invk 2 12 (by omega) (by omega) (h_holds C O (by omega) (by omega) (fun H1 C1 => ?_))
  have hc2 : X + 2390 ≤ JJ σ + (c - 2) := by omega
  have hn2 : Y + 14900 ≤ 4 * JJ σ + (n - 12) := by omega
  have y1 := y_stop (σ := σ) (v1 := nI j)
  have x1 := x_stop (v1 := nI j) G
  have i1 := i_stop G I (v := nI j)
  have s1 := sm_stop (σ := σ) (v := nI j)
  have q1 := p_st_stop O (v := nI j)
  have hJ3 := JJ_top x1 hT3
  simp only [eL_law_741, eL_law_743, eL_law_744, eL_law_746, isA_r, isA_n, isI_i, isF_f, isL_l, is1_i, is1_r, is1_n, is1_f, true_and, and_true, List.length_cons, List.length_nil, Nat.reduceAdd, Nat.reduceLeDiff, Nat.reduceSub, Option.some.injEq, exists_eq_left', aft_s, aft_n, ite_true, ite_false, if_true, if_false, Nat.zero_le, Nat.le_refl, reduceCtorEq]
  refine inv_act y1 hJ3 hX hY hc2 hn2 (fun kc kn c2 n2 k3 k4 k5 k6 => h_stop C1 G hT k3 k4 (fun H2 C2 => ?_))
  clear hJ3
  generalize a_stop σ (nI j) = p at y1 x1 i1 s1 q1 k3 k4 k5 k6 C2 ⊢
  obtain ⟨pc, pv, τ⟩ := p
  dsimp only at y1 x1 i1 s1 q1 k3 k4 k5 k6 C2 ⊢
  have hJ2 := JJ_top x1 hT3
  clear hc2 hn2 hc hn hJ1 y1 k3 k4
  generalize hx [-77, -79] (pc, pv, τ) = w at q1 ⊢
  rcases q1 with ⟨q1, rfl⟩ | ⟨j', hj', ej, rfl, q2, q3⟩
  · have ew : (w < 0) = True := by rcases q1 with q1 | q1 <;> (rw [q1]; exact eq_true (by decide))
    simp only [eL_law_749, eL_law_751, eL_law_753, eL_law_756, eL_law_757, eL_law_760, eL_law_761, eL_law_763, eL_law_765, eL_law_768, eL_law_770, eL_law_771, eL_law_774, eL_law_777, eL_law_778, eL_law_780, eL_law_783, eL_law_785, eL_law_788, eL_law_789, eL_law_791, eL_law_794, eL_law_796, eL_law_799, eL_law_800, eL_law_803, eL_law_804, eL_law_806, isA_r, isA_n, isI_i, isF_f, isL_l, is1_i, is1_r, is1_n, is1_f, true_and, and_true, List.length_cons, List.length_nil, Nat.reduceAdd, Nat.reduceLeDiff, Nat.reduceSub, Option.some.injEq, exists_eq_left', aft_s, aft_n, ite_true, ite_false, if_true, if_false, Nat.zero_le, Nat.le_refl, reduceCtorEq, ew]
    exact nx.go (GI.sm g0 s1 C2 x1 i1) s1.1 s1.2.1 (Or.inr ⟨rfl, hbf⟩) (by omega) (by omega)
  · have ejj : j = j' := (nI_eq (by omega) (by omega)).mp ej
    subst ejj
    have O' := x1.1
    have hol := od_le O'
    have ew : (nI (s_od τ).length < 0) = False := eq_false (nI_pos (by omega))
    have hj2 : j < s_nJ τ := by rw [s1.2.1]; exact hj'
    have h32 : s_nJ τ ≤ 30 := O'.1.2
    simp only [eL_law_749, eL_law_751, eL_law_753, eL_law_756, eL_law_757, eL_law_760, eL_law_761, eL_law_763, eL_law_765, eL_law_768, eL_law_770, eL_law_771, isA_r, isA_n, isI_i, isF_f, isL_l, is1_i, is1_r, is1_n, is1_f, true_and, and_true, List.length_cons, List.length_nil, Nat.reduceAdd, Nat.reduceLeDiff, Nat.reduceSub, Option.some.injEq, exists_eq_left', aft_s, aft_n, ite_true, ite_false, if_true, if_false, Nat.zero_le, Nat.le_refl, reduceCtorEq, ew]
    refine ⟨C2.xo, inv0 (p_waiting C2 ?_)⟩
    simp only [eL_law_774, eL_law_777, eL_law_778, eL_law_780, isA_r, isA_n, isI_i, isF_f, isL_l, is1_i, is1_r, is1_n, is1_f, true_and, and_true, List.length_cons, List.length_nil, Nat.reduceAdd, Nat.reduceLeDiff, Nat.reduceSub, Option.some.injEq, exists_eq_left', aft_s, aft_n, ite_true, ite_false, if_true, if_false, Nat.zero_le, Nat.le_refl, reduceCtorEq, eq_self]
    refine invk 2 12 (by omega) (by omega) (h_state C2 O' (by omega) (by omega) (fun H3 C3 => ?_))
    simp only [eL_law_783, eL_law_785, eL_law_788, eL_law_789, eL_law_791, isA_r, isA_n, isI_i, isF_f, isL_l, is1_i, is1_r, is1_n, is1_f, true_and, and_true, List.length_cons, List.length_nil, Nat.reduceAdd, Nat.reduceLeDiff, Nat.reduceSub, Option.some.injEq, exists_eq_left', aft_s, aft_n, ite_true, ite_false, if_true, if_false, Nat.zero_le, Nat.le_refl, reduceCtorEq, v_state hj2 h32, q2, n_114_114, n_114_119, n_114_115, n_114_100, n_114_107, n_114_0, n_114_103, n_119_114, n_119_119, n_119_115, n_119_100, n_119_107, n_119_0, n_119_103, n_115_114, n_115_119, n_115_115, n_115_100, n_115_107, n_115_0, n_115_103, n_100_114, n_100_119, n_100_115, n_100_100, n_100_107, n_100_0, n_100_103, n_107_114, n_107_119, n_107_115, n_107_100, n_107_107, n_107_0, n_107_103]
    refine invk 2 12 (by omega) (by omega) (h_holds C3 O' (by omega) (by omega) (fun H4 C4 => ?_))
    simp only [eL_law_794, eL_law_796, eL_law_799, eL_law_800, eL_law_803, eL_law_804, eL_law_806, isA_r, isA_n, isI_i, isF_f, isL_l, is1_i, is1_r, is1_n, is1_f, true_and, and_true, List.length_cons, List.length_nil, Nat.reduceAdd, Nat.reduceLeDiff, Nat.reduceSub, Option.some.injEq, exists_eq_left', aft_s, aft_n, ite_true, ite_false, if_true, if_false, Nat.zero_le, Nat.le_refl, reduceCtorEq, v_holds hj2 h32, v_holds hj' h30, q3, eq_self]
    exact nx.go (GI.sm g0 s1 C4 x1 i1) s1.1 s1.2.1 (Or.inl rfl) (by omega) (by omega)
theorem w_goOn (g : GI E P H0 x aw al ao σ T fw fW fL fO H) (hbf : sumF σ (s_nS σ) = bf) (hT : T + 200 < 16384) (hX : 82000 ≤ X) (hY : 459000 ≤ Y) (hc : X + 2400 ≤ JJ σ + c) (hn : Y + 15000 ≤ 4 * JJ σ + n) {m a j : Nat} (hm : m < 1000) (ha : a ≤ s_nS σ) (hj : j ≤ s_nJ σ) (nx : NX E P d K b x aw al ao k i T X Y bf) {a12 a17 a18 a19 : Value} : Ev E (d + 14) mL_law K 816 (lwF b x aw al ao (s_nS σ) (s_nJ σ) k i (.long bf) (.retAddr 0) a12 (.int (nI m)) (.int (nI a)) (.int (nI j)) (.int 0) a17 a18 a19) [] H c n := by
  have g0 := g
  obtain ⟨C, G, I, A, F, h2⟩ := g
  have O := G.1
  have h4 := O.1.1
  have h30 := O.1.2
  have hT3 : T + 30 + 60 ≤ 16384 := by omega
  have hJ1 := JJ_top G (by omega)
  simp only [eL_law_816, eL_law_817, eL_law_819, isA_r, isA_n, isI_i, isF_f, isL_l, is1_i, is1_r, is1_n, is1_f, true_and, and_true, List.length_cons, List.length_nil, Nat.reduceAdd, Nat.reduceLeDiff, Nat.reduceSub, Option.some.injEq, exists_eq_left', aft_s, aft_n, ite_true, ite_false, if_true, if_false, Nat.zero_le, Nat.le_refl, reduceCtorEq]
  refine invk 2 12 (by omega) (by omega) (h_holds C O (by omega) (by omega) (fun H1 C1 => ?_))
  have hc2 : X + 2390 ≤ JJ σ + (c - 2) := by omega
  have hn2 : Y + 14900 ≤ 4 * JJ σ + (n - 12) := by omega
  have y1 := y_goOn (σ := σ) (v1 := nI j)
  have x1 := x_goOn (v1 := nI j) G
  have i1 := i_goOn G I (v := nI j)
  have s1 := sm_goOn (σ := σ) (v := nI j)
  have q1 := p_st_goOn O (v := nI j)
  have hJ3 := JJ_top x1 hT3
  simp only [eL_law_822, eL_law_824, eL_law_825, eL_law_827, isA_r, isA_n, isI_i, isF_f, isL_l, is1_i, is1_r, is1_n, is1_f, true_and, and_true, List.length_cons, List.length_nil, Nat.reduceAdd, Nat.reduceLeDiff, Nat.reduceSub, Option.some.injEq, exists_eq_left', aft_s, aft_n, ite_true, ite_false, if_true, if_false, Nat.zero_le, Nat.le_refl, reduceCtorEq]
  refine inv_act y1 hJ3 hX hY hc2 hn2 (fun kc kn c2 n2 k3 k4 k5 k6 => h_goOn C1 G hT k3 k4 (fun H2 C2 => ?_))
  clear hJ3
  generalize a_goOn σ (nI j) = p at y1 x1 i1 s1 q1 k3 k4 k5 k6 C2 ⊢
  obtain ⟨pc, pv, τ⟩ := p
  dsimp only at y1 x1 i1 s1 q1 k3 k4 k5 k6 C2 ⊢
  have hJ2 := JJ_top x1 hT3
  clear hc2 hn2 hc hn hJ1 y1 k3 k4
  generalize hx [-77, -79] (pc, pv, τ) = w at q1 ⊢
  rcases q1 with ⟨q1, rfl⟩ | ⟨j', hj', ej, rfl, q2, q3⟩
  · have ew : (w < 0) = True := by rcases q1 with q1 | q1 <;> (rw [q1]; exact eq_true (by decide))
    simp only [eL_law_830, eL_law_832, eL_law_834, eL_law_837, eL_law_838, eL_law_841, eL_law_842, eL_law_844, eL_law_846, eL_law_849, eL_law_851, eL_law_852, eL_law_855, eL_law_858, eL_law_860, eL_law_861, eL_law_864, eL_law_865, eL_law_867, eL_law_870, eL_law_872, eL_law_875, eL_law_878, eL_law_879, eL_law_881, eL_law_884, eL_law_886, eL_law_889, eL_law_890, eL_law_892, eL_law_893, eL_law_894, eL_law_897, eL_law_899, eL_law_902, eL_law_903, eL_law_906, eL_law_907, eL_law_909, isA_r, isA_n, isI_i, isF_f, isL_l, is1_i, is1_r, is1_n, is1_f, true_and, and_true, List.length_cons, List.length_nil, Nat.reduceAdd, Nat.reduceLeDiff, Nat.reduceSub, Option.some.injEq, exists_eq_left', aft_s, aft_n, ite_true, ite_false, if_true, if_false, Nat.zero_le, Nat.le_refl, reduceCtorEq, ew]
    exact nx.go (GI.sm g0 s1 C2 x1 i1) s1.1 s1.2.1 (Or.inr ⟨rfl, hbf⟩) (by omega) (by omega)
  · have ejj : j = j' := (nI_eq (by omega) (by omega)).mp ej
    subst ejj
    have O' := x1.1
    have hol := od_le O'
    have ew : (nI (s_od τ).length < 0) = False := eq_false (nI_pos (by omega))
    have hj2 : j < s_nJ τ := by rw [s1.2.1]; exact hj'
    have h32 : s_nJ τ ≤ 30 := O'.1.2
    simp only [eL_law_830, eL_law_832, eL_law_834, eL_law_837, eL_law_838, eL_law_841, eL_law_842, eL_law_844, eL_law_846, eL_law_849, eL_law_851, eL_law_852, isA_r, isA_n, isI_i, isF_f, isL_l, is1_i, is1_r, is1_n, is1_f, true_and, and_true, List.length_cons, List.length_nil, Nat.reduceAdd, Nat.reduceLeDiff, Nat.reduceSub, Option.some.injEq, exists_eq_left', aft_s, aft_n, ite_true, ite_false, if_true, if_false, Nat.zero_le, Nat.le_refl, reduceCtorEq, ew, v_holds hj' h30]
    refine ⟨C2.xo, inv0 (p_waiting C2 ?_)⟩
    cases hh : s_hl σ j with
    | true =>
      simp only [eL_law_855, eL_law_858, eL_law_860, eL_law_861, eL_law_864, eL_law_865, eL_law_867, isA_r, isA_n, isI_i, isF_f, isL_l, is1_i, is1_r, is1_n, is1_f, true_and, and_true, List.length_cons, List.length_nil, Nat.reduceAdd, Nat.reduceLeDiff, Nat.reduceSub, Option.some.injEq, exists_eq_left', aft_s, aft_n, ite_true, ite_false, if_true, if_false, Nat.zero_le, Nat.le_refl, reduceCtorEq, eq_self, bt_1]
      refine invk 2 12 (by omega) (by omega) (h_state C2 O' (by omega) (by omega) (fun H3 C3 => ?_))
      simp only [eL_law_870, eL_law_872, eL_law_875, eL_law_878, eL_law_879, eL_law_881, eL_law_884, eL_law_886, eL_law_889, eL_law_890, eL_law_892, eL_law_893, eL_law_894, eL_law_897, eL_law_899, eL_law_902, eL_law_903, eL_law_906, eL_law_907, eL_law_909, isA_r, isA_n, isI_i, isF_f, isL_l, is1_i, is1_r, is1_n, is1_f, true_and, and_true, List.length_cons, List.length_nil, Nat.reduceAdd, Nat.reduceLeDiff, Nat.reduceSub, Option.some.injEq, exists_eq_left', aft_s, aft_n, ite_true, ite_false, if_true, if_false, Nat.zero_le, Nat.le_refl, reduceCtorEq, v_state hj2 h32, q2 hh, n_114_114, n_114_119, n_114_115, n_114_100, n_114_107, n_114_0, n_114_103, n_119_114, n_119_119, n_119_115, n_119_100, n_119_107, n_119_0, n_119_103, n_115_114, n_115_119, n_115_115, n_115_100, n_115_107, n_115_0, n_115_103, n_100_114, n_100_119, n_100_115, n_100_100, n_100_107, n_100_0, n_100_103, n_107_114, n_107_119, n_107_115, n_107_100, n_107_107, n_107_0, n_107_103]
      exact nx.go (GI.sm g0 s1 C3 x1 i1) s1.1 s1.2.1 (Or.inl rfl) (by omega) (by omega)
    | false =>
      simp only [eL_law_855, eL_law_858, eL_law_860, eL_law_861, eL_law_864, eL_law_865, eL_law_867, eL_law_870, eL_law_872, eL_law_875, eL_law_878, eL_law_879, eL_law_881, isA_r, isA_n, isI_i, isF_f, isL_l, is1_i, is1_r, is1_n, is1_f, true_and, and_true, List.length_cons, List.length_nil, Nat.reduceAdd, Nat.reduceLeDiff, Nat.reduceSub, Option.some.injEq, exists_eq_left', aft_s, aft_n, ite_true, ite_false, if_true, if_false, Nat.zero_le, Nat.le_refl, reduceCtorEq, eq_self, bf_1]
      refine invk 2 12 (by omega) (by omega) (h_state C2 O' (by omega) (by omega) (fun H3 C3 => ?_))
      rw [v_state hj2 h32]
      rcases q3 hh with e | ⟨l, e⟩
      · simp only [eL_law_884, eL_law_886, eL_law_889, eL_law_890, eL_law_892, eL_law_893, eL_law_894, eL_law_897, eL_law_899, eL_law_902, eL_law_903, eL_law_906, eL_law_907, eL_law_909, isA_r, isA_n, isI_i, isF_f, isL_l, is1_i, is1_r, is1_n, is1_f, true_and, and_true, List.length_cons, List.length_nil, Nat.reduceAdd, Nat.reduceLeDiff, Nat.reduceSub, Option.some.injEq, exists_eq_left', aft_s, aft_n, ite_true, ite_false, if_true, if_false, Nat.zero_le, Nat.le_refl, reduceCtorEq, e, n_114_114, n_114_119, n_114_115, n_114_100, n_114_107, n_114_0, n_114_103, n_119_114, n_119_119, n_119_115, n_119_100, n_119_107, n_119_0, n_119_103, n_115_114, n_115_119, n_115_115, n_115_100, n_115_107, n_115_0, n_115_103, n_100_114, n_100_119, n_100_115, n_100_100, n_100_107, n_100_0, n_100_103, n_107_114, n_107_119, n_107_115, n_107_100, n_107_107, n_107_0, n_107_103]
        exact nx.go (GI.sm g0 s1 C3 x1 i1) s1.1 s1.2.1 (Or.inl rfl) (by omega) (by omega)
      · have e119 : s_st τ j = 119 := ((O'.2.2.1.2 j).mp (by rw [e]; simp)).2
        have elen : (s_od τ).length = l.length + 1 := by rw [e]; simp
        have elst : hx [-75] (q_waitingAt τ (nI l.length)) = nI j := by
          rw [v_wAt (by omega) hol, e, List.getD_eq_getElem?_getD, List.getElem?_append_right (Nat.le_refl _), Nat.sub_self]
          rfl
        simp only [eL_law_884, eL_law_886, eL_law_889, eL_law_890, eL_law_892, eL_law_893, eL_law_894, isA_r, isA_n, isI_i, isF_f, isL_l, is1_i, is1_r, is1_n, is1_f, true_and, and_true, List.length_cons, List.length_nil, Nat.reduceAdd, Nat.reduceLeDiff, Nat.reduceSub, Option.some.injEq, exists_eq_left', aft_s, aft_n, ite_true, ite_false, if_true, if_false, Nat.zero_le, Nat.le_refl, reduceCtorEq, e119, n_114_114, n_114_119, n_114_115, n_114_100, n_114_107, n_114_0, n_114_103, n_119_114, n_119_119, n_119_115, n_119_100, n_119_107, n_119_0, n_119_103, n_115_114, n_115_119, n_115_115, n_115_100, n_115_107, n_115_0, n_115_103, n_100_114, n_100_119, n_100_115, n_100_100, n_100_107, n_100_0, n_100_103, n_107_114, n_107_119, n_107_115, n_107_100, n_107_107, n_107_0, n_107_103, elen, nI_pred]
        refine invk 2 12 (by omega) (by omega) (h_waitingAt C3 O' (by omega) (by omega) (fun H4 C4 => ?_))
        simp only [eL_law_897, eL_law_899, eL_law_902, eL_law_903, eL_law_906, eL_law_907, eL_law_909, isA_r, isA_n, isI_i, isF_f, isL_l, is1_i, is1_r, is1_n, is1_f, true_and, and_true, List.length_cons, List.length_nil, Nat.reduceAdd, Nat.reduceLeDiff, Nat.reduceSub, Option.some.injEq, exists_eq_left', aft_s, aft_n, ite_true, ite_false, if_true, if_false, Nat.zero_le, Nat.le_refl, reduceCtorEq, elst, eq_self]
        exact nx.go (GI.sm g0 s1 C4 x1 i1) s1.1 s1.2.1 (Or.inl rfl) (by omega) (by omega)
theorem w_end (g : GI E P H0 x aw al ao σ T fw fW fL fO H) (hbf : sumF σ (s_nS σ) = bf) (hT : T + 200 < 16384) (hX : 82000 ≤ X) (hY : 459000 ≤ Y) (hc : X + 2400 ≤ JJ σ + c) (hn : Y + 15000 ≤ 4 * JJ σ + n) {m a j : Nat} (hm : m < 1000) (ha : a ≤ s_nS σ) (hj : j ≤ s_nJ σ) (nx : NX E P d K b x aw al ao k i T X Y bf) {a12 a17 a18 a19 : Value} : Ev E (d + 14) mL_law K 919 (lwF b x aw al ao (s_nS σ) (s_nJ σ) k i (.long bf) (.retAddr 0) a12 (.int (nI m)) (.int (nI a)) (.int (nI j)) (.int 0) a17 a18 a19) [] H c n := by
  have g0 := g
  obtain ⟨C, G, I, A, F, h2⟩ := g
  have O := G.1
  have h4 := O.1.1
  have h30 := O.1.2
  have hT3 : T + 30 + 60 ≤ 16384 := by omega
  have hJ1 := JJ_top G (by omega)
  have hc2 : X + 2390 ≤ JJ σ + c := by omega
  have hn2 : Y + 14900 ≤ 4 * JJ σ + n := by omega
  have y1 := y_end (σ := σ) (v1 := nI j)
  have x1 := x_end (v1 := nI j) G
  have i1 := i_end G I (v := nI j)
  have s1 := sm_end (σ := σ) (v := nI j)
  have q1 := p_st_end O (v := nI j)
  have hJ3 := JJ_top x1 hT3
  simp only [eL_law_919, eL_law_920, eL_law_922, isA_r, isA_n, isI_i, isF_f, isL_l, is1_i, is1_r, is1_n, is1_f, true_and, and_true, List.length_cons, List.length_nil, Nat.reduceAdd, Nat.reduceLeDiff, Nat.reduceSub, Option.some.injEq, exists_eq_left', aft_s, aft_n, ite_true, ite_false, if_true, if_false, Nat.zero_le, Nat.le_refl, reduceCtorEq]
  refine inv_act y1 hJ3 hX hY hc2 hn2 (fun kc kn c2 n2 k3 k4 k5 k6 => h_end C G hT k3 k4 (fun H2 C2 => ?_))
  clear hJ3
  generalize a_end σ (nI j) = p at y1 x1 i1 s1 q1 k3 k4 k5 k6 C2 ⊢
  obtain ⟨pc, pv, τ⟩ := p
  dsimp only at y1 x1 i1 s1 q1 k3 k4 k5 k6 C2 ⊢
  have hJ2 := JJ_top x1 hT3
  clear hc2 hn2 hc hn hJ1 y1 k3 k4
  generalize hx [-77, -79] (pc, pv, τ) = w at q1 ⊢
  rcases q1 with ⟨q1, rfl⟩ | ⟨j', hj', ej, rfl, q2, q3, q4⟩
  · have ew : (w < 0) = True := by rcases q1 with q1 | q1 <;> (rw [q1]; exact eq_true (by decide))
    simp only [eL_law_925, eL_law_927, eL_law_929, eL_law_932, eL_law_933, eL_law_936, eL_law_937, eL_law_939, eL_law_941, eL_law_944, eL_law_945, eL_law_947, eL_law_950, eL_law_952, eL_law_955, eL_law_956, eL_law_958, eL_law_961, eL_law_964, eL_law_965, eL_law_967, eL_law_969, eL_law_970, eL_law_973, eL_law_975, eL_law_978, eL_law_979, eL_law_982, eL_law_983, eL_law_985, isA_r, isA_n, isI_i, isF_f, isL_l, is1_i, is1_r, is1_n, is1_f, true_and, and_true, List.length_cons, List.length_nil, Nat.reduceAdd, Nat.reduceLeDiff, Nat.reduceSub, Option.some.injEq, exists_eq_left', aft_s, aft_n, ite_true, ite_false, if_true, if_false, Nat.zero_le, Nat.le_refl, reduceCtorEq, ew]
    exact nx.go (GI.sm g0 s1 C2 x1 i1) s1.1 s1.2.1 (Or.inr ⟨rfl, hbf⟩) (by omega) (by omega)
  · have ejj : j = j' := (nI_eq (by omega) (by omega)).mp ej
    subst ejj
    have O' := x1.1
    have hol := od_le O'
    have ew : (nI (s_od τ).length < 0) = False := eq_false (nI_pos (by omega))
    have hj2 : j < s_nJ τ := by rw [s1.2.1]; exact hj'
    have h32 : s_nJ τ ≤ 30 := O'.1.2
    have hse := (O.2.1 j hj').1
    simp only [eL_law_925, eL_law_927, eL_law_929, eL_law_932, eL_law_933, eL_law_936, eL_law_937, eL_law_939, eL_law_941, eL_law_944, eL_law_945, eL_law_947, isA_r, isA_n, isI_i, isF_f, isL_l, is1_i, is1_r, is1_n, is1_f, true_and, and_true, List.length_cons, List.length_nil, Nat.reduceAdd, Nat.reduceLeDiff, Nat.reduceSub, Option.some.injEq, exists_eq_left', aft_s, aft_n, ite_true, ite_false, if_true, if_false, Nat.zero_le, Nat.le_refl, reduceCtorEq, ew]
    refine invk 2 12 (by omega) (by omega) (h_state C2 O' (by omega) (by omega) (fun H3 C3 => ?_))
    simp only [eL_law_950, eL_law_952, eL_law_955, eL_law_956, eL_law_958, isA_r, isA_n, isI_i, isF_f, isL_l, is1_i, is1_r, is1_n, is1_f, true_and, and_true, List.length_cons, List.length_nil, Nat.reduceAdd, Nat.reduceLeDiff, Nat.reduceSub, Option.some.injEq, exists_eq_left', aft_s, aft_n, ite_true, ite_false, if_true, if_false, Nat.zero_le, Nat.le_refl, reduceCtorEq, v_state hj2 h32, q2, n_114_114, n_114_119, n_114_115, n_114_100, n_114_107, n_114_0, n_114_103, n_119_114, n_119_119, n_119_115, n_119_100, n_119_107, n_119_0, n_119_103, n_115_114, n_115_119, n_115_115, n_115_100, n_115_107, n_115_0, n_115_103, n_100_114, n_100_119, n_100_115, n_100_100, n_100_107, n_100_0, n_100_103, n_107_114, n_107_119, n_107_115, n_107_100, n_107_107, n_107_0, n_107_103]
    refine invk 2 12 (by omega) (by omega) (h_holds C3 O' (by omega) (by omega) (fun H4 C4 => ?_))
    have e2 := rdI_of (E := E) (F.o2 C4)
    have e3 : inB (nI j) 30 = true := inB_nI (by omega) (by omega)
    have e4 : (nI j).toNatClampNeg = j := nI_clamp (by omega)
    have e5 := F.2 j hj'
    simp only [eL_law_961, eL_law_964, eL_law_965, eL_law_967, eL_law_969, eL_law_970, isA_r, isA_n, isI_i, isF_f, isL_l, is1_i, is1_r, is1_n, is1_f, true_and, and_true, List.length_cons, List.length_nil, Nat.reduceAdd, Nat.reduceLeDiff, Nat.reduceSub, Option.some.injEq, exists_eq_left', aft_s, aft_n, ite_true, ite_false, if_true, if_false, Nat.zero_le, Nat.le_refl, reduceCtorEq, v_holds hj2 h32, q3, bf_0, e2, e3, e4, e5]
    refine invk 2 12 (by omega) (by omega) (h_front C4 O' (by omega) (by omega) (fun H5 C5 => ?_))
    rw [v_front (show s_se σ j < s_nS τ by rw [s1.1]; exact hse) O'.1.1]
    have e6 : (frI (s_fr τ (s_se σ j)) = nI j) = False := by
      refine eq_false (fun z => ?_)
      cases hfr : s_fr τ (s_se σ j) with
      | none => rw [hfr] at z; exact nI_pos (n := j) (by omega) (by rw [← z]; decide)
      | some j2 =>
        rw [hfr] at z
        have hj3 := (O'.2.2.2.2.2.1.1 _ _ hfr).1
        have z2 : nI j2 = nI j := z
        have z3 := (nI_eq (by omega) (by omega)).mp z2
        rw [z3] at hfr
        exact q4 _ hfr
    simp only [eL_law_973, eL_law_975, eL_law_978, eL_law_979, eL_law_982, eL_law_983, eL_law_985, isA_r, isA_n, isI_i, isF_f, isL_l, is1_i, is1_r, is1_n, is1_f, true_and, and_true, List.length_cons, List.length_nil, Nat.reduceAdd, Nat.reduceLeDiff, Nat.reduceSub, Option.some.injEq, exists_eq_left', aft_s, aft_n, ite_true, ite_false, if_true, if_false, Nat.zero_le, Nat.le_refl, reduceCtorEq, e6]
    exact nx.go (GI.sm g0 s1 C5 x1 i1) s1.1 s1.2.1 (Or.inl rfl) (by omega) (by omega)
theorem w_drop (g : GI E P H0 x aw al ao σ T fw fW fL fO H) (hbf : sumF σ (s_nS σ) = bf) (hT : T + 200 < 16384) (hX : 82000 ≤ X) (hY : 459000 ≤ Y) (hc : X + 2400 ≤ JJ σ + c) (hn : Y + 15000 ≤ 4 * JJ σ + n) {m a j : Nat} (hm : m < 1000) (ha : a ≤ s_nS σ) (hj : j ≤ s_nJ σ) (nx : NX E P d K b x aw al ao k i T X Y bf) {a12 a17 a18 a19 : Value} : Ev E (d + 14) mL_law K 232 (lwF b x aw al ao (s_nS σ) (s_nJ σ) k i (.long bf) (.retAddr 0) a12 (.int (nI m)) (.int (nI a)) (.int (nI j)) (.int 0) a17 a18 a19) [] H c n := by
  have g0 := g
  obtain ⟨C, G, I, A, F, h2⟩ := g
  have O := G.1
  have h4 := O.1.1
  have h30 := O.1.2
  have hT3 : T + 30 + 60 ≤ 16384 := by omega
  have hJ1 := JJ_top G (by omega)
  simp only [eL_law_232, eL_law_233, eL_law_235, isA_r, isA_n, isI_i, isF_f, isL_l, is1_i, is1_r, is1_n, is1_f, true_and, and_true, List.length_cons, List.length_nil, Nat.reduceAdd, Nat.reduceLeDiff, Nat.reduceSub, Option.some.injEq, exists_eq_left', aft_s, aft_n, ite_true, ite_false, if_true, if_false, Nat.zero_le, Nat.le_refl, reduceCtorEq]
  refine invk 2 12 (by omega) (by omega) (h_front C O (by omega) (by omega) (fun H1 C1 => ?_))
  have hc2 : X + 2390 ≤ JJ σ + (c - 2) := by omega
  have hn2 : Y + 14900 ≤ 4 * JJ σ + (n - 12) := by omega
  have y1 := y_drop (σ := σ) (v1 := nI a)
  have x1 := x_drop (v1 := nI a) G
  have i1 := i_drop G I (v := nI a)
  have s1 := sm_drop (σ := σ) (v := nI a)
  have q1 := p_st_drop O (v := nI a)
  have hJ3 := JJ_top x1 hT3
  simp only [eL_law_238, eL_law_240, eL_law_241, eL_law_243, isA_r, isA_n, isI_i, isF_f, isL_l, is1_i, is1_r, is1_n, is1_f, true_and, and_true, List.length_cons, List.length_nil, Nat.reduceAdd, Nat.reduceLeDiff, Nat.reduceSub, Option.some.injEq, exists_eq_left', aft_s, aft_n, ite_true, ite_false, if_true, if_false, Nat.zero_le, Nat.le_refl, reduceCtorEq]
  refine inv_act y1 hJ3 hX hY hc2 hn2 (fun kc kn c2 n2 k3 k4 k5 k6 => h_drop C1 G hT k3 k4 (fun H2 C2 => ?_))
  clear hJ3
  generalize a_drop σ (nI a) = p at y1 x1 i1 s1 q1 k3 k4 k5 k6 C2 ⊢
  obtain ⟨pc, pv, τ⟩ := p
  dsimp only at y1 x1 i1 s1 q1 k3 k4 k5 k6 C2 ⊢
  have hJ2 := JJ_top x1 hT3
  clear hc2 hn2 hc hn hJ1 y1 k3 k4
  generalize hx [-77, -79] (pc, pv, τ) = w at q1 ⊢
  rcases q1 with ⟨q1, rfl⟩ | ⟨s, hs, es, q2, q3⟩
  · have ew : (-75 < w) = False := by rcases q1 with q1 | q1 <;> (rw [q1]; exact eq_false (by decide))
    simp only [eL_law_246, eL_law_248, eL_law_250, eL_law_252, eL_law_255, eL_law_256, eL_law_259, eL_law_260, eL_law_262, eL_law_264, eL_law_267, eL_law_268, eL_law_270, eL_law_273, eL_law_276, eL_law_278, eL_law_279, eL_law_282, eL_law_284, eL_law_286, eL_law_289, eL_law_290, eL_law_292, eL_law_295, eL_law_297, eL_law_300, eL_law_301, eL_law_303, eL_law_306, eL_law_308, eL_law_311, eL_law_312, eL_law_315, eL_law_316, eL_law_318, isA_r, isA_n, isI_i, isF_f, isL_l, is1_i, is1_r, is1_n, is1_f, true_and, and_true, List.length_cons, List.length_nil, Nat.reduceAdd, Nat.reduceLeDiff, Nat.reduceSub, Option.some.injEq, exists_eq_left', aft_s, aft_n, ite_true, ite_false, if_true, if_false, Nat.zero_le, Nat.le_refl, reduceCtorEq, ew, i1_0]
    exact nx.go (GI.sm g0 s1 C2 x1 i1) s1.1 s1.2.1 (Or.inr ⟨rfl, hbf⟩) (by omega) (by omega)
  · have ess : a = s := (nI_eq (by omega) (by omega)).mp es
    subst ess
    have O' := x1.1
    have h32 : s_nJ τ ≤ 30 := O'.1.2
    have ha2 : a < s_nS τ := by rw [s1.1]; exact hs
    have e0 : ((0 : Int32) = 0) = True := eq_true rfl
    have e1 : hx [-77] (q_isAttached τ (nI a)) = 0 := by rw [v_att ha2 O'.1.1, q2]; rfl
    rcases q3 with rfl | ⟨jj, hjj, rfl, q4, q5, q6⟩
    · have ew : ((-75 : Int32) < -1) = True := eq_true (by decide)
      simp only [eL_law_246, eL_law_248, eL_law_250, eL_law_252, eL_law_255, eL_law_256, eL_law_259, eL_law_260, eL_law_262, eL_law_264, eL_law_267, eL_law_268, eL_law_270, isA_r, isA_n, isI_i, isF_f, isL_l, is1_i, is1_r, is1_n, is1_f, true_and, and_true, List.length_cons, List.length_nil, Nat.reduceAdd, Nat.reduceLeDiff, Nat.reduceSub, Option.some.injEq, exists_eq_left', aft_s, aft_n, ite_true, ite_false, if_true, if_false, Nat.zero_le, Nat.le_refl, reduceCtorEq, ew, e0]
      refine invk 2 12 (by omega) (by omega) (h_isAttached C2 O' (by omega) (by omega) (fun H3 C3 => ?_))
      simp only [eL_law_273, eL_law_276, eL_law_278, eL_law_279, eL_law_282, eL_law_284, eL_law_286, eL_law_289, eL_law_290, eL_law_292, eL_law_295, eL_law_297, eL_law_300, eL_law_301, eL_law_303, eL_law_306, eL_law_308, eL_law_311, eL_law_312, eL_law_315, eL_law_316, eL_law_318, isA_r, isA_n, isI_i, isF_f, isL_l, is1_i, is1_r, is1_n, is1_f, true_and, and_true, List.length_cons, List.length_nil, Nat.reduceAdd, Nat.reduceLeDiff, Nat.reduceSub, Option.some.injEq, exists_eq_left', aft_s, aft_n, ite_true, ite_false, if_true, if_false, Nat.zero_le, Nat.le_refl, reduceCtorEq, e1, e0, eq_self]
      exact nx.go (GI.sm g0 s1 C3 x1 i1) s1.1 s1.2.1 (Or.inl rfl) (by omega) (by omega)
    · have hj2 : jj < s_nJ τ := by rw [s1.2.1]; exact hjj
      have ew : ((-75 : Int32) < nI jj) = True := eq_true (by rw [Int32.lt_iff_toInt_lt, nI_toInt (by omega)]; show (-75 : Int) < _; omega)
      have ew2 : (nI jj = -1) = False := eq_false (fun z => nI_pos (n := jj) (by omega) (by rw [z]; decide))
      have e3 : frI (some jj) = nI jj := rfl
      simp only [eL_law_246, eL_law_248, eL_law_250, eL_law_252, eL_law_255, eL_law_256, eL_law_259, eL_law_260, eL_law_262, eL_law_264, eL_law_267, eL_law_268, eL_law_270, isA_r, isA_n, isI_i, isF_f, isL_l, is1_i, is1_r, is1_n, is1_f, true_and, and_true, List.length_cons, List.length_nil, Nat.reduceAdd, Nat.reduceLeDiff, Nat.reduceSub, Option.some.injEq, exists_eq_left', aft_s, aft_n, ite_true, ite_false, if_true, if_false, Nat.zero_le, Nat.le_refl, reduceCtorEq, ew, e0]
      refine invk 2 12 (by omega) (by omega) (h_isAttached C2 O' (by omega) (by omega) (fun H3 C3 => ?_))
      simp only [eL_law_273, eL_law_276, eL_law_278, eL_law_279, eL_law_282, eL_law_284, eL_law_286, eL_law_289, eL_law_290, eL_law_292, isA_r, isA_n, isI_i, isF_f, isL_l, is1_i, is1_r, is1_n, is1_f, true_and, and_true, List.length_cons, List.length_nil, Nat.reduceAdd, Nat.reduceLeDiff, Nat.reduceSub, Option.some.injEq, exists_eq_left', aft_s, aft_n, ite_true, ite_false, if_true, if_false, Nat.zero_le, Nat.le_refl, reduceCtorEq, e1, e0, ew2, v_front hs h4, q4, e3, eq_self]
      refine invk 2 12 (by omega) (by omega) (h_state C3 O' (by omega) (by omega) (fun H4 C4 => ?_))
      simp only [eL_law_295, eL_law_297, eL_law_300, eL_law_301, eL_law_303, isA_r, isA_n, isI_i, isF_f, isL_l, is1_i, is1_r, is1_n, is1_f, true_and, and_true, List.length_cons, List.length_nil, Nat.reduceAdd, Nat.reduceLeDiff, Nat.reduceSub, Option.some.injEq, exists_eq_left', aft_s, aft_n, ite_true, ite_false, if_true, if_false, Nat.zero_le, Nat.le_refl, reduceCtorEq, v_state hj2 h32, q5, n_114_114, n_114_119, n_114_115, n_114_100, n_114_107, n_114_0, n_114_103, n_119_114, n_119_119, n_119_115, n_119_100, n_119_107, n_119_0, n_119_103, n_115_114, n_115_119, n_115_115, n_115_100, n_115_107, n_115_0, n_115_103, n_100_114, n_100_119, n_100_115, n_100_100, n_100_107, n_100_0, n_100_103, n_107_114, n_107_119, n_107_115, n_107_100, n_107_107, n_107_0, n_107_103]
      refine invk 2 12 (by omega) (by omega) (h_front C4 O' (by omega) (by omega) (fun H5 C5 => ?_))
      simp only [eL_law_306, eL_law_308, eL_law_311, eL_law_312, eL_law_315, eL_law_316, eL_law_318, isA_r, isA_n, isI_i, isF_f, isL_l, is1_i, is1_r, is1_n, is1_f, true_and, and_true, List.length_cons, List.length_nil, Nat.reduceAdd, Nat.reduceLeDiff, Nat.reduceSub, Option.some.injEq, exists_eq_left', aft_s, aft_n, ite_true, ite_false, if_true, if_false, Nat.zero_le, Nat.le_refl, reduceCtorEq, v_front ha2 O'.1.1, q6, e3, eq_self]
      exact nx.go (GI.sm g0 s1 C5 x1 i1) s1.1 s1.2.1 (Or.inl rfl) (by omega) (by omega)
theorem w_takeUp (g : GI E P H0 x aw al ao σ T fw fW fL fO H) (hbf : sumF σ (s_nS σ) = bf) (hT : T + 200 < 16384) (hX : 82000 ≤ X) (hY : 459000 ≤ Y) (hc : X + 2400 ≤ JJ σ + c) (hn : Y + 15000 ≤ 4 * JJ σ + n) {m a j : Nat} (hm : m < 1000) (ha : a ≤ s_nS σ) (hj : j ≤ s_nJ σ) (nx : NX E P d K b x aw al ao k i T X Y bf) {a12 a17 a18 a19 : Value} : Ev E (d + 14) mL_law K 327 (lwF b x aw al ao (s_nS σ) (s_nJ σ) k i (.long bf) (.retAddr 0) a12 (.int (nI m)) (.int (nI a)) (.int (nI j)) (.int 0) a17 a18 a19) [] H c n := by
  have g0 := g
  obtain ⟨C, G, I, A, F, h2⟩ := g
  have O := G.1
  have h4 := O.1.1
  have h30 := O.1.2
  have hT3 : T + 30 + 60 ≤ 16384 := by omega
  have hJ1 := JJ_top G (by omega)
  have hc2 : X + 2390 ≤ JJ σ + c := by omega
  have hn2 : Y + 14900 ≤ 4 * JJ σ + n := by omega
  have y1 := y_takeUp (σ := σ) (v1 := nI a)
  have x1 := x_takeUp (v1 := nI a) G
  have i1 := i_takeUp G I (v := nI a)
  have s1 := sm_takeUp (σ := σ) (v := nI a)
  have q1 := p_st_takeUp O (v := nI a)
  have hJ3 := JJ_top x1 hT3
  simp only [eL_law_327, eL_law_328, eL_law_330, isA_r, isA_n, isI_i, isF_f, isL_l, is1_i, is1_r, is1_n, is1_f, true_and, and_true, List.length_cons, List.length_nil, Nat.reduceAdd, Nat.reduceLeDiff, Nat.reduceSub, Option.some.injEq, exists_eq_left', aft_s, aft_n, ite_true, ite_false, if_true, if_false, Nat.zero_le, Nat.le_refl, reduceCtorEq]
  refine inv_act y1 hJ3 hX hY hc2 hn2 (fun kc kn c2 n2 k3 k4 k5 k6 => h_takeUp C G hT k3 k4 (fun H2 C2 => ?_))
  clear hJ3
  generalize a_takeUp σ (nI a) = p at y1 x1 i1 s1 q1 k3 k4 k5 k6 C2 ⊢
  obtain ⟨pc, pv, τ⟩ := p
  dsimp only at y1 x1 i1 s1 q1 k3 k4 k5 k6 C2 ⊢
  have hJ2 := JJ_top x1 hT3
  clear hc2 hn2 hc hn hJ1 y1 k3 k4
  generalize hx [-77, -79] (pc, pv, τ) = w at q1 ⊢
  rcases q1 with ⟨q1, rfl⟩ | ⟨s, hs, es, q2, q3⟩
  · have ew : (-75 < w) = False := by rcases q1 with q1 | q1 <;> (rw [q1]; exact eq_false (by decide))
    simp only [eL_law_333, eL_law_335, eL_law_337, eL_law_339, eL_law_342, eL_law_343, eL_law_346, eL_law_347, eL_law_349, eL_law_351, eL_law_354, eL_law_355, eL_law_357, eL_law_360, eL_law_361, eL_law_364, eL_law_366, eL_law_367, eL_law_370, eL_law_371, eL_law_373, eL_law_376, eL_law_378, eL_law_381, eL_law_382, eL_law_384, eL_law_387, eL_law_389, eL_law_392, eL_law_393, eL_law_396, eL_law_397, eL_law_399, isA_r, isA_n, isI_i, isF_f, isL_l, is1_i, is1_r, is1_n, is1_f, true_and, and_true, List.length_cons, List.length_nil, Nat.reduceAdd, Nat.reduceLeDiff, Nat.reduceSub, Option.some.injEq, exists_eq_left', aft_s, aft_n, ite_true, ite_false, if_true, if_false, Nat.zero_le, Nat.le_refl, reduceCtorEq, ew, i1_0]
    exact nx.go (GI.sm g0 s1 C2 x1 i1) s1.1 s1.2.1 (Or.inr ⟨rfl, hbf⟩) (by omega) (by omega)
  · have ess : a = s := (nI_eq (by omega) (by omega)).mp es
    subst ess
    have O' := x1.1
    have h32 : s_nJ τ ≤ 30 := O'.1.2
    have ha2 : a < s_nS τ := by rw [s1.1]; exact hs
    have e0 : ((0 : Int32) = 0) = True := eq_true rfl
    have e1 : hx [-77] (q_isAttached τ (nI a)) = 1 := by rw [v_att ha2 O'.1.1, q2]; rfl
    rcases q3 with rfl | ⟨jj, hjj, rfl, q4⟩
    · have ew : ((-75 : Int32) < -1) = True := eq_true (by decide)
      simp only [eL_law_333, eL_law_335, eL_law_337, eL_law_339, eL_law_342, eL_law_343, eL_law_346, eL_law_347, eL_law_349, eL_law_351, eL_law_354, eL_law_355, eL_law_357, isA_r, isA_n, isI_i, isF_f, isL_l, is1_i, is1_r, is1_n, is1_f, true_and, and_true, List.length_cons, List.length_nil, Nat.reduceAdd, Nat.reduceLeDiff, Nat.reduceSub, Option.some.injEq, exists_eq_left', aft_s, aft_n, ite_true, ite_false, if_true, if_false, Nat.zero_le, Nat.le_refl, reduceCtorEq, ew, e0]
      refine invk 2 12 (by omega) (by omega) (h_isAttached C2 O' (by omega) (by omega) (fun H3 C3 => ?_))
      simp only [eL_law_360, eL_law_361, eL_law_364, eL_law_366, eL_law_367, eL_law_370, eL_law_371, eL_law_373, eL_law_376, eL_law_378, eL_law_381, eL_law_382, eL_law_384, eL_law_387, eL_law_389, eL_law_392, eL_law_393, eL_law_396, eL_law_397, eL_law_399, isA_r, isA_n, isI_i, isF_f, isL_l, is1_i, is1_r, is1_n, is1_f, true_and, and_true, List.length_cons, List.length_nil, Nat.reduceAdd, Nat.reduceLeDiff, Nat.reduceSub, Option.some.injEq, exists_eq_left', aft_s, aft_n, ite_true, ite_false, if_true, if_false, Nat.zero_le, Nat.le_refl, reduceCtorEq, e1, eq_self]
      exact nx.go (GI.sm g0 s1 C3 x1 i1) s1.1 s1.2.1 (Or.inl rfl) (by omega) (by omega)
    · have hj2 : jj < s_nJ τ := by rw [s1.2.1]; exact hjj
      have ew : ((-75 : Int32) < nI jj) = True := eq_true (by rw [Int32.lt_iff_toInt_lt, nI_toInt (by omega)]; show (-75 : Int) < _; omega)
      have ew2 : (nI jj = -1) = False := eq_false (fun z => nI_pos (n := jj) (by omega) (by rw [z]; decide))
      simp only [eL_law_333, eL_law_335, eL_law_337, eL_law_339, eL_law_342, eL_law_343, eL_law_346, eL_law_347, eL_law_349, eL_law_351, eL_law_354, eL_law_355, eL_law_357, isA_r, isA_n, isI_i, isF_f, isL_l, is1_i, is1_r, is1_n, is1_f, true_and, and_true, List.length_cons, List.length_nil, Nat.reduceAdd, Nat.reduceLeDiff, Nat.reduceSub, Option.some.injEq, exists_eq_left', aft_s, aft_n, ite_true, ite_false, if_true, if_false, Nat.zero_le, Nat.le_refl, reduceCtorEq, ew, e0]
      refine invk 2 12 (by omega) (by omega) (h_isAttached C2 O' (by omega) (by omega) (fun H3 C3 => ?_))
      simp only [eL_law_360, eL_law_361, eL_law_364, eL_law_366, eL_law_367, eL_law_370, eL_law_371, eL_law_373, isA_r, isA_n, isI_i, isF_f, isL_l, is1_i, is1_r, is1_n, is1_f, true_and, and_true, List.length_cons, List.length_nil, Nat.reduceAdd, Nat.reduceLeDiff, Nat.reduceSub, Option.some.injEq, exists_eq_left', aft_s, aft_n, ite_true, ite_false, if_true, if_false, Nat.zero_le, Nat.le_refl, reduceCtorEq, e1, ew2, eq_self]
      refine invk 2 12 (by omega) (by omega) (h_state C3 O' (by omega) (by omega) (fun H4 C4 => ?_))
      rcases q4 with q4 | q4
      · simp only [eL_law_376, eL_law_378, eL_law_381, eL_law_382, eL_law_384, eL_law_387, eL_law_389, eL_law_392, eL_law_393, eL_law_396, eL_law_397, eL_law_399, isA_r, isA_n, isI_i, isF_f, isL_l, is1_i, is1_r, is1_n, is1_f, true_and, and_true, List.length_cons, List.length_nil, Nat.reduceAdd, Nat.reduceLeDiff, Nat.reduceSub, Option.some.injEq, exists_eq_left', aft_s, aft_n, ite_true, ite_false, if_true, if_false, Nat.zero_le, Nat.le_refl, reduceCtorEq, v_state hj2 h32, q4, n_114_114, n_114_119, n_114_115, n_114_100, n_114_107, n_114_0, n_114_103, n_119_114, n_119_119, n_119_115, n_119_100, n_119_107, n_119_0, n_119_103, n_115_114, n_115_119, n_115_115, n_115_100, n_115_107, n_115_0, n_115_103, n_100_114, n_100_119, n_100_115, n_100_100, n_100_107, n_100_0, n_100_103, n_107_114, n_107_119, n_107_115, n_107_100, n_107_107, n_107_0, n_107_103]
        exact nx.go (GI.sm g0 s1 C4 x1 i1) s1.1 s1.2.1 (Or.inl rfl) (by omega) (by omega)
      · simp only [eL_law_376, eL_law_378, eL_law_381, eL_law_382, eL_law_384, isA_r, isA_n, isI_i, isF_f, isL_l, is1_i, is1_r, is1_n, is1_f, true_and, and_true, List.length_cons, List.length_nil, Nat.reduceAdd, Nat.reduceLeDiff, Nat.reduceSub, Option.some.injEq, exists_eq_left', aft_s, aft_n, ite_true, ite_false, if_true, if_false, Nat.zero_le, Nat.le_refl, reduceCtorEq, v_state hj2 h32, q4, n_114_114, n_114_119, n_114_115, n_114_100, n_114_107, n_114_0, n_114_103, n_119_114, n_119_119, n_119_115, n_119_100, n_119_107, n_119_0, n_119_103, n_115_114, n_115_119, n_115_115, n_115_100, n_115_107, n_115_0, n_115_103, n_100_114, n_100_119, n_100_115, n_100_100, n_100_107, n_100_0, n_100_103, n_107_114, n_107_119, n_107_115, n_107_100, n_107_107, n_107_0, n_107_103]
        refine invk 2 12 (by omega) (by omega) (h_state C4 O' (by omega) (by omega) (fun H5 C5 => ?_))
        simp only [eL_law_387, eL_law_389, eL_law_392, eL_law_393, eL_law_396, eL_law_397, eL_law_399, isA_r, isA_n, isI_i, isF_f, isL_l, is1_i, is1_r, is1_n, is1_f, true_and, and_true, List.length_cons, List.length_nil, Nat.reduceAdd, Nat.reduceLeDiff, Nat.reduceSub, Option.some.injEq, exists_eq_left', aft_s, aft_n, ite_true, ite_false, if_true, if_false, Nat.zero_le, Nat.le_refl, reduceCtorEq, v_state hj2 h32, q4, n_114_114, n_114_119, n_114_115, n_114_100, n_114_107, n_114_0, n_114_103, n_119_114, n_119_119, n_119_115, n_119_100, n_119_107, n_119_0, n_119_103, n_115_114, n_115_119, n_115_115, n_115_100, n_115_107, n_115_0, n_115_103, n_100_114, n_100_119, n_100_115, n_100_100, n_100_107, n_100_0, n_100_103, n_107_114, n_107_119, n_107_115, n_107_100, n_107_107, n_107_0, n_107_103]
        exact nx.go (GI.sm g0 s1 C5 x1 i1) s1.1 s1.2.1 (Or.inl rfl) (by omega) (by omega)
theorem w_toFront (g : GI E P H0 x aw al ao σ T fw fW fL fO H) (hbf : sumF σ (s_nS σ) = bf) (hT : T + 200 < 16384) (hX : 82000 ≤ X) (hY : 459000 ≤ Y) (hc : X + 2400 ≤ JJ σ + c) (hn : Y + 15000 ≤ 4 * JJ σ + n) {m a j : Nat} (hm : m < 1000) (ha : a ≤ s_nS σ) (hj : j ≤ s_nJ σ) (nx : NX E P d K b x aw al ao k i T X Y bf) {a12 a17 a18 a19 : Value} : Ev E (d + 14) mL_law K 626 (lwF b x aw al ao (s_nS σ) (s_nJ σ) k i (.long bf) (.retAddr 0) a12 (.int (nI m)) (.int (nI a)) (.int (nI j)) (.int 0) a17 a18 a19) [] H c n := by
  have g0 := g
  obtain ⟨C, G, I, A, F, h2⟩ := g
  have O := G.1
  have h4 := O.1.1
  have h30 := O.1.2
  have hT3 : T + 30 + 60 ≤ 16384 := by omega
  have hJ1 := JJ_top G (by omega)
  have y1 := y_toFront (σ := σ) (v1 := nI j)
  have x1 := x_toFront (v1 := nI j) G
  have i1 := i_toFront I (v := nI j)
  have s1 := sm_toFront (σ := σ) (v := nI j)
  have q1 := p_st_toFront O (v := nI j)
  simp only [eL_law_626, eL_law_627, eL_law_629, isA_r, isA_n, isI_i, isF_f, isL_l, is1_i, is1_r, is1_n, is1_f, true_and, and_true, List.length_cons, List.length_nil, Nat.reduceAdd, Nat.reduceLeDiff, Nat.reduceSub, Option.some.injEq, exists_eq_left', aft_s, aft_n, ite_true, ite_false, if_true, if_false, Nat.zero_le, Nat.le_refl, reduceCtorEq]
  refine invk 2 12 (by omega) (by omega) (h_toFront C O (by omega) (by omega) (fun H2 C2 => ?_))
  generalize a_toFront σ (nI j) = p at y1 x1 i1 s1 q1 C2 ⊢
  obtain ⟨pc, pv, τ⟩ := p
  dsimp only at y1 x1 i1 s1 q1 C2 ⊢
  generalize hx [-77, -76, -79] (pc, pv, τ) = w at q1 ⊢
  rcases q1 with ⟨q1, rfl⟩ | ⟨j', bb, hj', ej, rfl, q2⟩
  · have ew : (w < 0) = True := by rcases q1 with q1 | q1 | q1 <;> (rw [q1]; exact eq_true (by decide))
    simp only [eL_law_632, eL_law_634, eL_law_636, eL_law_639, eL_law_640, eL_law_643, eL_law_644, eL_law_646, eL_law_648, eL_law_651, eL_law_652, eL_law_654, eL_law_656, eL_law_657, eL_law_660, eL_law_662, eL_law_665, eL_law_666, eL_law_669, eL_law_670, eL_law_672, isA_r, isA_n, isI_i, isF_f, isL_l, is1_i, is1_r, is1_n, is1_f, true_and, and_true, List.length_cons, List.length_nil, Nat.reduceAdd, Nat.reduceLeDiff, Nat.reduceSub, Option.some.injEq, exists_eq_left', aft_s, aft_n, ite_true, ite_false, if_true, if_false, Nat.zero_le, Nat.le_refl, reduceCtorEq, ew]
    exact nx.go (GI.sm g0 s1 C2 x1 i1) s1.1 s1.2.1 (Or.inr ⟨rfl, hbf⟩) (by omega) (by omega)
  · have ejj : j = j' := (nI_eq (by omega) (by omega)).mp ej
    subst ejj
    have O' := x1.1
    have ew : (b2 bb < 0) = False := eq_false (by cases bb <;> decide)
    have hse := (O.2.1 j hj').1
    have e2 := rdI_of (E := E) (F.o2 C2)
    have e3 : inB (nI j) 30 = true := inB_nI (by omega) (by omega)
    have e4 : (nI j).toNatClampNeg = j := nI_clamp (by omega)
    have e5 := F.2 j hj'
    simp only [eL_law_632, eL_law_634, eL_law_636, eL_law_639, eL_law_640, eL_law_643, eL_law_644, eL_law_646, eL_law_648, eL_law_651, eL_law_652, eL_law_654, eL_law_656, eL_law_657, isA_r, isA_n, isI_i, isF_f, isL_l, is1_i, is1_r, is1_n, is1_f, true_and, and_true, List.length_cons, List.length_nil, Nat.reduceAdd, Nat.reduceLeDiff, Nat.reduceSub, Option.some.injEq, exists_eq_left', aft_s, aft_n, ite_true, ite_false, if_true, if_false, Nat.zero_le, Nat.le_refl, reduceCtorEq, ew, e2, e3, e4, e5]
    refine invk 2 12 (by omega) (by omega) (h_front C2 O' (by omega) (by omega) (fun H3 C3 => ?_))
    have e6 : frI (some j) = nI j := rfl
    simp only [eL_law_660, eL_law_662, eL_law_665, eL_law_666, eL_law_669, eL_law_670, eL_law_672, isA_r, isA_n, isI_i, isF_f, isL_l, is1_i, is1_r, is1_n, is1_f, true_and, and_true, List.length_cons, List.length_nil, Nat.reduceAdd, Nat.reduceLeDiff, Nat.reduceSub, Option.some.injEq, exists_eq_left', aft_s, aft_n, ite_true, ite_false, if_true, if_false, Nat.zero_le, Nat.le_refl, reduceCtorEq, v_front (show s_se σ j < s_nS τ by rw [s1.1]; exact hse) O'.1.1, q2, e6, eq_self]
    exact nx.go (GI.sm g0 s1 C3 x1 i1) s1.1 s1.2.1 (Or.inl rfl) (by omega) (by omega)
theorem w_toBack (g : GI E P H0 x aw al ao σ T fw fW fL fO H) (hbf : sumF σ (s_nS σ) = bf) (hT : T + 200 < 16384) (hX : 82000 ≤ X) (hY : 459000 ≤ Y) (hc : X + 2400 ≤ JJ σ + c) (hn : Y + 15000 ≤ 4 * JJ σ + n) {m a j : Nat} (hm : m < 1000) (ha : a ≤ s_nS σ) (hj : j ≤ s_nJ σ) (nx : NX E P d K b x aw al ao k i T X Y bf) {a12 a17 a18 a19 : Value} : Ev E (d + 14) mL_law K 682 (lwF b x aw al ao (s_nS σ) (s_nJ σ) k i (.long bf) (.retAddr 0) a12 (.int (nI m)) (.int (nI a)) (.int (nI j)) (.int 0) a17 a18 a19) [] H c n := by
  have g0 := g
  obtain ⟨C, G, I, A, F, h2⟩ := g
  have O := G.1
  have h4 := O.1.1
  have h30 := O.1.2
  have hT3 : T + 30 + 60 ≤ 16384 := by omega
  have hJ1 := JJ_top G (by omega)
  have y1 := y_toBack (σ := σ) (v1 := nI a)
  have x1 := x_toBack (v1 := nI a) G
  have i1 := i_toBack I (v := nI a)
  have s1 := sm_toBack (σ := σ) (v := nI a)
  have q1 := p_st_toBack O (v := nI a)
  simp only [eL_law_682, eL_law_683, eL_law_685, isA_r, isA_n, isI_i, isF_f, isL_l, is1_i, is1_r, is1_n, is1_f, true_and, and_true, List.length_cons, List.length_nil, Nat.reduceAdd, Nat.reduceLeDiff, Nat.reduceSub, Option.some.injEq, exists_eq_left', aft_s, aft_n, ite_true, ite_false, if_true, if_false, Nat.zero_le, Nat.le_refl, reduceCtorEq]
  refine invk 2 12 (by omega) (by omega) (h_toBack C O (by omega) (by omega) (fun H2 C2 => ?_))
  generalize q_toBack σ (nI a) = p at y1 x1 i1 s1 q1 C2 ⊢
  obtain ⟨pc, pv, τ⟩ := p
  dsimp only at y1 x1 i1 s1 q1 C2 ⊢
  generalize hx [-77, -75] (pc, pv, τ) = w at q1 ⊢
  rcases q1 with ⟨q1, rfl⟩ | ⟨s, jj, hs, es, hjj, rfl, q2⟩
  · have ew : (w < 0) = True := by rcases q1 with q1 | q1 <;> (rw [q1]; exact eq_true (by decide))
    simp only [eL_law_688, eL_law_690, eL_law_692, eL_law_695, eL_law_696, eL_law_699, eL_law_700, eL_law_702, eL_law_704, eL_law_707, eL_law_708, eL_law_710, eL_law_713, eL_law_715, eL_law_718, eL_law_719, eL_law_722, eL_law_723, eL_law_725, isA_r, isA_n, isI_i, isF_f, isL_l, is1_i, is1_r, is1_n, is1_f, true_and, and_true, List.length_cons, List.length_nil, Nat.reduceAdd, Nat.reduceLeDiff, Nat.reduceSub, Option.some.injEq, exists_eq_left', aft_s, aft_n, ite_true, ite_false, if_true, if_false, Nat.zero_le, Nat.le_refl, reduceCtorEq, ew]
    exact nx.go (GI.sm g0 s1 C2 x1 i1) s1.1 s1.2.1 (Or.inr ⟨rfl, hbf⟩) (by omega) (by omega)
  · have ess : a = s := (nI_eq (by omega) (by omega)).mp es
    subst ess
    have O' := x1.1
    have ha2 : a < s_nS τ := by rw [s1.1]; exact hs
    have ew : (nI jj < 0) = False := eq_false (nI_pos (by omega))
    simp only [eL_law_688, eL_law_690, eL_law_692, eL_law_695, eL_law_696, eL_law_699, eL_law_700, eL_law_702, eL_law_704, eL_law_707, eL_law_708, eL_law_710, isA_r, isA_n, isI_i, isF_f, isL_l, is1_i, is1_r, is1_n, is1_f, true_and, and_true, List.length_cons, List.length_nil, Nat.reduceAdd, Nat.reduceLeDiff, Nat.reduceSub, Option.some.injEq, exists_eq_left', aft_s, aft_n, ite_true, ite_false, if_true, if_false, Nat.zero_le, Nat.le_refl, reduceCtorEq, ew]
    refine invk 2 12 (by omega) (by omega) (h_front C2 O' (by omega) (by omega) (fun H3 C3 => ?_))
    have e6 : (frI none = -75) = True := eq_true rfl
    simp only [eL_law_713, eL_law_715, eL_law_718, eL_law_719, eL_law_722, eL_law_723, eL_law_725, isA_r, isA_n, isI_i, isF_f, isL_l, is1_i, is1_r, is1_n, is1_f, true_and, and_true, List.length_cons, List.length_nil, Nat.reduceAdd, Nat.reduceLeDiff, Nat.reduceSub, Option.some.injEq, exists_eq_left', aft_s, aft_n, ite_true, ite_false, if_true, if_false, Nat.zero_le, Nat.le_refl, reduceCtorEq, v_front ha2 O'.1.1, q2, e6]
    exact nx.go (GI.sm g0 s1 C3 x1 i1) s1.1 s1.2.1 (Or.inl rfl) (by omega) (by omega)
theorem w_tick2 (g : GI E P H0 x aw al ao σ T fw fW fL fO H) (hbf : sumF σ (s_nS σ) = bf) (hT : T + 200 < 16384) (hX : 82000 ≤ X) (hY : 459000 ≤ Y) (hc : X + 2400 ≤ JJ σ + c) (hn : Y + 15000 ≤ 4 * JJ σ + n) {m a j : Nat} (hm : m < 1000) (ha : a ≤ s_nS σ) (hj : j ≤ s_nJ σ) {tk : Nat} (nx : NX E P d K b x aw al ao k i T X Y bf) {a12 a17 a18 a19 : Value} : Ev E (d + 14) mL_law K 1163 (lwF b x aw al ao (s_nS σ) (s_nJ σ) k i (.long bf) (.retAddr 0) a12 (.int (nI m)) (.int (nI a)) (.int (nI j)) (.int 0) a17 a18 a19) [.int (nI tk)] H c n := by
  have g0 := g
  obtain ⟨C, G, I, A, F, h2⟩ := g
  have O := G.1
  have h4 := O.1.1
  have h30 := O.1.2
  have hT3 : T + 30 + 60 ≤ 16384 := by omega
  have hJ1 := JJ_top G (by omega)
  simp only [eL_law_1163, eL_law_1165, eL_law_1166, eL_law_1168, isA_r, isA_n, isI_i, isF_f, isL_l, is1_i, is1_r, is1_n, is1_f, true_and, and_true, List.length_cons, List.length_nil, Nat.reduceAdd, Nat.reduceLeDiff, Nat.reduceSub, Option.some.injEq, exists_eq_left', aft_s, aft_n, ite_true, ite_false, if_true, if_false, Nat.zero_le, Nat.le_refl, reduceCtorEq]
  refine invk 8 48 (by omega) (by omega) (k_done C O (Nat.le_refl _) (by omega) (by omega) (fun H1 C1 => ?_))
  have hc2 : X + 2390 ≤ JJ σ + (c - 8) := by omega
  have hn2 : Y + 14900 ≤ 4 * JJ σ + (n - 48) := by omega
  have y1 := y_tick (σ := σ) (v1 := nI tk)
  have x1 := x_tick (v1 := nI tk) G
  have i1 := i_tick G I (v := nI tk)
  have s1 := sm_tick G (v := nI tk)
  have q1 := p_st_tick G I (v := nI tk)
  have hJ3 := JJ_top x1 hT3
  simp only [eL_law_1171, eL_law_1173, eL_law_1174, eL_law_1176, isA_r, isA_n, isI_i, isF_f, isL_l, is1_i, is1_r, is1_n, is1_f, true_and, and_true, List.length_cons, List.length_nil, Nat.reduceAdd, Nat.reduceLeDiff, Nat.reduceSub, Option.some.injEq, exists_eq_left', aft_s, aft_n, ite_true, ite_false, if_true, if_false, Nat.zero_le, Nat.le_refl, reduceCtorEq]
  refine inv_act y1 hJ3 hX hY hc2 hn2 (fun kc kn c2 n2 k3 k4 k5 k6 => h_tick C1 G hT k3 k4 (fun H2 C2 => ?_))
  clear hJ3
  generalize a_tick σ (nI tk) = p at y1 x1 i1 s1 q1 k3 k4 k5 k6 C2 ⊢
  obtain ⟨pc, pv, τ⟩ := p
  dsimp only at y1 x1 i1 s1 q1 k3 k4 k5 k6 C2 ⊢
  have hJ2 := JJ_top x1 hT3
  clear hc2 hn2 hc hn hJ1 y1 k3 k4
  generalize hx [-78] (pc, pv, τ) = w at q1 ⊢
  rcases q1 with ⟨rfl, rfl⟩ | ⟨cnt, hcnt, rfl, q2⟩
  · have ew : ((-78 : Int32) < 0) = True := eq_true (by decide)
    simp only [eL_law_1179, eL_law_1181, eL_law_1183, eL_law_1186, eL_law_1187, eL_law_1190, eL_law_1191, eL_law_1193, eL_law_1195, eL_law_1198, eL_law_1199, eL_law_1201, eL_law_1204, eL_law_1206, eL_law_1208, eL_law_1209, eL_law_1212, eL_law_1213, eL_law_1216, eL_law_1217, isA_r, isA_n, isI_i, isF_f, isL_l, is1_i, is1_r, is1_n, is1_f, true_and, and_true, List.length_cons, List.length_nil, Nat.reduceAdd, Nat.reduceLeDiff, Nat.reduceSub, Option.some.injEq, exists_eq_left', aft_s, aft_n, ite_true, ite_false, if_true, if_false, Nat.zero_le, Nat.le_refl, reduceCtorEq, ew]
    exact nx.go (GI.sm g0 s1 C2 x1 i1) s1.1 s1.2.1 (Or.inr ⟨rfl, hbf⟩) (by omega) (by omega)
  · have O' := x1.1
    have ew : (nI cnt < 0) = False := eq_false (nI_pos (by omega))
    simp only [eL_law_1179, eL_law_1181, eL_law_1183, eL_law_1186, eL_law_1187, eL_law_1190, eL_law_1191, eL_law_1193, eL_law_1195, eL_law_1198, eL_law_1199, eL_law_1201, isA_r, isA_n, isI_i, isF_f, isL_l, is1_i, is1_r, is1_n, is1_f, true_and, and_true, List.length_cons, List.length_nil, Nat.reduceAdd, Nat.reduceLeDiff, Nat.reduceSub, Option.some.injEq, exists_eq_left', aft_s, aft_n, ite_true, ite_false, if_true, if_false, Nat.zero_le, Nat.le_refl, reduceCtorEq, ew]
    have hS : s_nS σ ≤ s_nS τ := by rw [s1.1]; exact Nat.le_refl _
    refine invk 8 48 (by omega) (by omega) (k_done C2 O' hS (by omega) (by omega) (fun H3 C3 => ?_))
    have e1 : dnS τ (s_nS σ) = dn σ + cnt := by
      have := dnS_eq O'
      rw [s1.1] at this
      rw [this, q2]
    simp only [eL_law_1204, eL_law_1206, eL_law_1208, eL_law_1209, eL_law_1212, eL_law_1213, eL_law_1216, eL_law_1217, isA_r, isA_n, isI_i, isF_f, isL_l, is1_i, is1_r, is1_n, is1_f, true_and, and_true, List.length_cons, List.length_nil, Nat.reduceAdd, Nat.reduceLeDiff, Nat.reduceSub, Option.some.injEq, exists_eq_left', aft_s, aft_n, ite_true, ite_false, if_true, if_false, Nat.zero_le, Nat.le_refl, reduceCtorEq, e1, dnS_eq O, nI_add, eq_self]
    exact nx.go (GI.sm g0 s1 C3 x1 i1) s1.1 s1.2.1 (Or.inl rfl) (by omega) (by omega)
theorem w_tick (g : GI E P H0 x aw al ao σ T fw fW fL fO H) (hbf : sumF σ (s_nS σ) = bf) (hT : T + 200 < 16384) (hX : 82000 ≤ X) (hY : 459000 ≤ Y) (hc : X + 2400 ≤ JJ σ + c) (hn : Y + 15000 ≤ 4 * JJ σ + n) {m a j : Nat} (hm : m < 1000) (ha : a ≤ s_nS σ) (hj : j ≤ s_nJ σ) (nx : NX E P d K b x aw al ao k i T X Y bf) {a12 a17 a18 a19 : Value} : Ev E (d + 14) mL_law K 1144 (lwF b x aw al ao (s_nS σ) (s_nJ σ) k i (.long bf) (.retAddr 0) a12 (.int (nI m)) (.int (nI a)) (.int (nI j)) (.int 0) a17 a18 a19) [] H c n := by
  have g0 := g
  obtain ⟨C, G, I, A, F, h2⟩ := g
  have O := G.1
  have h4 := O.1.1
  have h30 := O.1.2
  have hT3 : T + 30 + 60 ≤ 16384 := by omega
  have hJ1 := JJ_top G (by omega)
  have r29 := rm_29 hm
  have r6 := rm_6 hm
  by_cases h0 : m % 29 = 0
  · have e0 : (nI (m % 29) = 0) = True := eq_true (by rw [h0]; rfl)
    simp only [eL_law_1144, eL_law_1146, eL_law_1148, eL_law_1149, eL_law_1152, eL_law_1153, eL_law_1156, eL_law_1157, eL_law_1159, eL_law_1161, eL_law_1162, isA_r, isA_n, isI_i, isF_f, isL_l, is1_i, is1_r, is1_n, is1_f, true_and, and_true, List.length_cons, List.length_nil, Nat.reduceAdd, Nat.reduceLeDiff, Nat.reduceSub, Option.some.injEq, exists_eq_left', aft_s, aft_n, ite_true, ite_false, if_true, if_false, Nat.zero_le, Nat.le_refl, reduceCtorEq, nz_2, nz_3, nz_4, nz_6, nz_8, nz_11, nz_23, nz_29, nz_31, nz_41, not_false_eq_true, r29, e0]
    exact w_tick2 (tk := 0) g0 hbf hT hX hY hc hn hm ha hj nx
  · have hlt := Nat.mod_lt m (show 0 < 29 by omega)
    have e0 : (nI (m % 29) = 0) = False := eq_false (nI_ne0 (by omega) (by omega))
    have e1 : (1 : Int32) + nI (m % 6) = nI (1 + m % 6) := nI_add 1 (m % 6)
    simp only [eL_law_1144, eL_law_1146, eL_law_1148, eL_law_1149, eL_law_1152, eL_law_1153, eL_law_1156, eL_law_1157, eL_law_1159, eL_law_1161, eL_law_1162, isA_r, isA_n, isI_i, isF_f, isL_l, is1_i, is1_r, is1_n, is1_f, true_and, and_true, List.length_cons, List.length_nil, Nat.reduceAdd, Nat.reduceLeDiff, Nat.reduceSub, Option.some.injEq, exists_eq_left', aft_s, aft_n, ite_true, ite_false, if_true, if_false, Nat.zero_le, Nat.le_refl, reduceCtorEq, nz_2, nz_3, nz_4, nz_6, nz_8, nz_11, nz_23, nz_29, nz_31, nz_41, not_false_eq_true, r29, r6, e0, e1]
    exact w_tick2 (tk := 1 + m % 6) g0 hbf hT hX hY hc hn hm ha hj nx
theorem cnt_0 {τ : Sg} {a : Nat} {x : Int32} : ∀ {n : Nat}, (∀ i, i < n → s_se τ i = a → nI (s_st τ i) ≠ x) → cN (pcnt τ a x) n = 0
  | 0, _ => rfl
  | n + 1, h => by
    rw [cN_s, cnt_0 (n := n) (fun i hi => h i (by omega))]
    have : pcnt τ a x n ≠ true := by
      unfold pcnt
      intro z
      simp only [Bool.and_eq_true, beq_iff_eq, decide_eq_true_eq] at z
      exact h n (Nat.lt_succ_self n) z.1 z.2
    rw [if_neg this]
theorem cnt_kd {τ : Sg} (O : Ok τ) {a : Nat} : ∀ {n : Nat}, n ≤ s_nJ τ → (∀ i, i < n → s_se τ i = a → s_st τ i = 100 ∨ s_st τ i = 107) → cN (pcnt τ a 107) n + cN (pcnt τ a 100) n = cN (fun j => s_se τ j == a) n
  | 0, _, _ => rfl
  | n + 1, hle, h => by
    have ih := cnt_kd O (a := a) (n := n) (by omega) (fun i hi => h i (by omega))
    rw [cN_s, cN_s, cN_s]
    have hp : ∀ x : Int32, pcnt τ a x n = (s_se τ n == a && decide (nI (s_st τ n) = x)) := fun x => rfl
    rw [hp, hp]
    cases hs : s_se τ n == a with
    | false => simp only [Bool.false_and, Bool.false_eq_true, if_false, Nat.add_zero]; exact ih
    | true =>
      rcases h n (Nat.lt_succ_self n) (by simpa using hs) with e | e
      all_goals (rw [e]; simp only [n_114_114, n_114_119, n_114_115, n_114_100, n_114_107, n_114_0, n_114_103, n_119_114, n_119_119, n_119_115, n_119_100, n_119_107, n_119_0, n_119_103, n_115_114, n_115_119, n_115_115, n_115_100, n_115_107, n_115_0, n_115_103, n_100_114, n_100_119, n_100_115, n_100_100, n_100_107, n_100_0, n_100_103, n_107_114, n_107_119, n_107_115, n_107_100, n_107_107, n_107_0, n_107_103, decide_true, decide_false, Bool.true_and, if_true, Bool.false_eq_true, if_false, Nat.add_zero]; omega)
theorem w_sig115 (g : GI E P H0 x aw al ao σ T fw fW fL fO H) (hbf : sumF σ (s_nS σ) = bf) (hT : T + 200 < 16384) (hX : 82000 ≤ X) (hY : 459000 ≤ Y) (hc : X + 2400 ≤ JJ σ + c) (hn : Y + 15000 ≤ 4 * JJ σ + n) {m a j : Nat} (hm : m < 1000) (ha : a ≤ s_nS σ) (hj : j ≤ s_nJ σ) (nx : NX E P d K b x aw al ao k i T X Y bf) {a12 a17 a18 a19 : Value} : Ev E (d + 14) mL_law K 1022 (lwF b x aw al ao (s_nS σ) (s_nJ σ) k i (.long bf) (.retAddr 0) a12 (.int (nI m)) (.int (nI a)) (.int (nI j)) (.int 0) a17 a18 a19) [.int 115] H c n := by
  have g0 := g
  obtain ⟨C, G, I, A, F, h2⟩ := g
  have O := G.1
  have h4 := O.1.1
  have h30 := O.1.2
  have hT3 : T + 30 + 60 ≤ 16384 := by omega
  have hJ1 := JJ_top G (by omega)
  have hc2 : X + 2390 ≤ JJ σ + c := by omega
  have hn2 : Y + 14900 ≤ 4 * JJ σ + n := by omega
  have y1 := y_signal (σ := σ) (v1 := nI a) (v2 := nI 115)
  have x1 := x_signal (v1 := nI a) (v2 := nI 115) G
  have i1 := i_signal G I (v := nI a) (g := nI 115)
  have s1 := sm_signal G (v := nI a) (g := nI 115)
  have q1 := p_st_signal G (v := nI a) (k := 115) (by omega)
  have hJ3 := JJ_top x1 hT3
  simp only [eL_law_1022, eL_law_1024, eL_law_1025, eL_law_1027, eL_law_1029, isA_r, isA_n, isI_i, isF_f, isL_l, is1_i, is1_r, is1_n, is1_f, true_and, and_true, List.length_cons, List.length_nil, Nat.reduceAdd, Nat.reduceLeDiff, Nat.reduceSub, Option.some.injEq, exists_eq_left', aft_s, aft_n, ite_true, ite_false, if_true, if_false, Nat.zero_le, Nat.le_refl, reduceCtorEq]
  refine inv_act y1 hJ3 hX hY hc2 hn2 (fun kc kn c2 n2 k3 k4 k5 k6 => h_signal (v2 := nI 115) C G hT k3 k4 (fun H2 C2 => ?_))
  clear hJ3
  generalize a_signal σ (nI a) (nI 115) = p at y1 x1 i1 s1 q1 k3 k4 k5 k6 C2 ⊢
  obtain ⟨pc, pv, τ⟩ := p
  dsimp only at y1 x1 i1 s1 q1 k3 k4 k5 k6 C2 ⊢
  have hJ2 := JJ_top x1 hT3
  clear hc2 hn2 hc hn hJ1 y1 k3 k4
  generalize hx [-77, -78] (pc, pv, τ) = w at q1 ⊢
  rcases q1 with ⟨rfl, rfl⟩ | ⟨s, cnt, hs, es, hcnt, rfl, q2⟩
  · have ew : ((-77 : Int32) < 0) = True := eq_true (by decide)
    simp only [eL_law_1032, eL_law_1034, eL_law_1036, eL_law_1039, eL_law_1040, eL_law_1043, eL_law_1044, eL_law_1046, eL_law_1048, eL_law_1051, eL_law_1053, eL_law_1055, eL_law_1058, eL_law_1059, eL_law_1061, eL_law_1063, eL_law_1066, eL_law_1069, eL_law_1071, eL_law_1073, eL_law_1076, eL_law_1077, eL_law_1079, eL_law_1081, eL_law_1084, eL_law_1087, eL_law_1088, eL_law_1090, eL_law_1092, eL_law_1095, eL_law_1098, eL_law_1100, eL_law_1102, eL_law_1105, eL_law_1106, eL_law_1108, eL_law_1110, eL_law_1113, eL_law_1114, eL_law_1116, eL_law_1118, eL_law_1121, eL_law_1122, eL_law_1124, eL_law_1126, eL_law_1128, eL_law_1131, eL_law_1134, eL_law_1135, eL_law_1138, eL_law_1139, eL_law_1141, isA_r, isA_n, isI_i, isF_f, isL_l, is1_i, is1_r, is1_n, is1_f, true_and, and_true, List.length_cons, List.length_nil, Nat.reduceAdd, Nat.reduceLeDiff, Nat.reduceSub, Option.some.injEq, exists_eq_left', aft_s, aft_n, ite_true, ite_false, if_true, if_false, Nat.zero_le, Nat.le_refl, reduceCtorEq, ew]
    exact nx.go (GI.sm g0 s1 C2 x1 i1) s1.1 s1.2.1 (Or.inr ⟨rfl, hbf⟩) (by omega) (by omega)
  · have ess : a = s := (nI_eq (by omega) (by omega)).mp es
    subst ess
    have O' := x1.1
    have ha2 : a < s_nS τ := by rw [s1.1]; exact hs
    have hJ2 : s_nJ τ ≤ 30 := O'.1.2
    have ew : (nI cnt < 0) = False := eq_false (nI_pos (by omega))
    have q3 : ∀ i, i < s_nJ τ → s_se τ i = a → sgB 115 (s_st τ i) := fun i h1 h2 => q2 i (by rw [← s1.2.1]; exact h1) (by rw [← s1.2.2.1]; exact h2)
    have b119 : ∀ i, i < s_nJ τ → s_st τ i < 2 ^ 31 := fun i hi => by rcases (O'.2.1 i hi).2.2.1 with h | h | h | h | h <;> omega
    have z115_103 : ((115 : Int32) = 103) = False := eq_false (by decide)
    have z115_115 : ((115 : Int32) = 115) = True := eq_true rfl
    have z115_107 : ((115 : Int32) = 107) = False := eq_false (by decide)
    have e0 : ((nI 0) = 0) = True := eq_true rfl
    have c1 : cN (pcnt τ a 114) (s_nJ τ) = 0 := cnt_0 (fun i h1 h2 h3 => (q3 i h1 h2).1 ((nI_eq (b := 114) (b119 i h1) (by omega)).mp h3))
    have c2 : cN (pcnt τ a 119) (s_nJ τ) = 0 := cnt_0 (fun i h1 h2 h3 => (q3 i h1 h2).2 ((nI_eq (b := 119) (b119 i h1) (by omega)).mp h3))
    simp only [eL_law_1032, eL_law_1034, eL_law_1036, eL_law_1039, eL_law_1040, eL_law_1043, eL_law_1044, eL_law_1046, eL_law_1048, eL_law_1051, eL_law_1053, eL_law_1055, eL_law_1058, eL_law_1059, eL_law_1061, eL_law_1063, eL_law_1066, eL_law_1069, eL_law_1071, eL_law_1073, eL_law_1076, eL_law_1077, eL_law_1079, eL_law_1081, isA_r, isA_n, isI_i, isF_f, isL_l, is1_i, is1_r, is1_n, is1_f, true_and, and_true, List.length_cons, List.length_nil, Nat.reduceAdd, Nat.reduceLeDiff, Nat.reduceSub, Option.some.injEq, exists_eq_left', aft_s, aft_n, ite_true, ite_false, if_true, if_false, Nat.zero_le, Nat.le_refl, reduceCtorEq, ew, z115_103, z115_115, z115_107]
    refine invk 2 12 (by omega) (by omega) (h_count C2 O' (by omega) (by omega) (fun H3 C3 => ?_))
    simp only [eL_law_1084, eL_law_1087, eL_law_1088, eL_law_1090, eL_law_1092, isA_r, isA_n, isI_i, isF_f, isL_l, is1_i, is1_r, is1_n, is1_f, true_and, and_true, List.length_cons, List.length_nil, Nat.reduceAdd, Nat.reduceLeDiff, Nat.reduceSub, Option.some.injEq, exists_eq_left', aft_s, aft_n, ite_true, ite_false, if_true, if_false, Nat.zero_le, Nat.le_refl, reduceCtorEq, v_count (g := 114) ha2 O'.1.1 rfl, c1, e0]
    refine invk 2 12 (by omega) (by omega) (h_count C3 O' (by omega) (by omega) (fun H4 C4 => ?_))
    simp only [eL_law_1095, eL_law_1098, eL_law_1100, eL_law_1102, eL_law_1105, eL_law_1106, eL_law_1108, eL_law_1110, eL_law_1113, eL_law_1114, eL_law_1116, eL_law_1118, eL_law_1121, eL_law_1122, eL_law_1124, eL_law_1126, eL_law_1128, eL_law_1131, eL_law_1134, eL_law_1135, eL_law_1138, eL_law_1139, eL_law_1141, isA_r, isA_n, isI_i, isF_f, isL_l, is1_i, is1_r, is1_n, is1_f, true_and, and_true, List.length_cons, List.length_nil, Nat.reduceAdd, Nat.reduceLeDiff, Nat.reduceSub, Option.some.injEq, exists_eq_left', aft_s, aft_n, ite_true, ite_false, if_true, if_false, Nat.zero_le, Nat.le_refl, reduceCtorEq, v_count (g := 119) ha2 O'.1.1 rfl, c2, e0]
    exact nx.go (GI.sm g0 s1 C4 x1 i1) s1.1 s1.2.1 (Or.inl rfl) (by omega) (by omega)
theorem w_sig103 (g : GI E P H0 x aw al ao σ T fw fW fL fO H) (hbf : sumF σ (s_nS σ) = bf) (hT : T + 200 < 16384) (hX : 82000 ≤ X) (hY : 459000 ≤ Y) (hc : X + 2400 ≤ JJ σ + c) (hn : Y + 15000 ≤ 4 * JJ σ + n) {m a j : Nat} (hm : m < 1000) (ha : a ≤ s_nS σ) (hj : j ≤ s_nJ σ) (nx : NX E P d K b x aw al ao k i T X Y bf) {a12 a17 a18 a19 : Value} : Ev E (d + 14) mL_law K 1022 (lwF b x aw al ao (s_nS σ) (s_nJ σ) k i (.long bf) (.retAddr 0) a12 (.int (nI m)) (.int (nI a)) (.int (nI j)) (.int 0) a17 a18 a19) [.int 103] H c n := by
  have g0 := g
  obtain ⟨C, G, I, A, F, h2⟩ := g
  have O := G.1
  have h4 := O.1.1
  have h30 := O.1.2
  have hT3 : T + 30 + 60 ≤ 16384 := by omega
  have hJ1 := JJ_top G (by omega)
  have hc2 : X + 2390 ≤ JJ σ + c := by omega
  have hn2 : Y + 14900 ≤ 4 * JJ σ + n := by omega
  have y1 := y_signal (σ := σ) (v1 := nI a) (v2 := nI 103)
  have x1 := x_signal (v1 := nI a) (v2 := nI 103) G
  have i1 := i_signal G I (v := nI a) (g := nI 103)
  have s1 := sm_signal G (v := nI a) (g := nI 103)
  have q1 := p_st_signal G (v := nI a) (k := 103) (by omega)
  have hJ3 := JJ_top x1 hT3
  simp only [eL_law_1022, eL_law_1024, eL_law_1025, eL_law_1027, eL_law_1029, isA_r, isA_n, isI_i, isF_f, isL_l, is1_i, is1_r, is1_n, is1_f, true_and, and_true, List.length_cons, List.length_nil, Nat.reduceAdd, Nat.reduceLeDiff, Nat.reduceSub, Option.some.injEq, exists_eq_left', aft_s, aft_n, ite_true, ite_false, if_true, if_false, Nat.zero_le, Nat.le_refl, reduceCtorEq]
  refine inv_act y1 hJ3 hX hY hc2 hn2 (fun kc kn c2 n2 k3 k4 k5 k6 => h_signal (v2 := nI 103) C G hT k3 k4 (fun H2 C2 => ?_))
  clear hJ3
  generalize a_signal σ (nI a) (nI 103) = p at y1 x1 i1 s1 q1 k3 k4 k5 k6 C2 ⊢
  obtain ⟨pc, pv, τ⟩ := p
  dsimp only at y1 x1 i1 s1 q1 k3 k4 k5 k6 C2 ⊢
  have hJ2 := JJ_top x1 hT3
  clear hc2 hn2 hc hn hJ1 y1 k3 k4
  generalize hx [-77, -78] (pc, pv, τ) = w at q1 ⊢
  rcases q1 with ⟨rfl, rfl⟩ | ⟨s, cnt, hs, es, hcnt, rfl, q2⟩
  · have ew : ((-77 : Int32) < 0) = True := eq_true (by decide)
    simp only [eL_law_1032, eL_law_1034, eL_law_1036, eL_law_1039, eL_law_1040, eL_law_1043, eL_law_1044, eL_law_1046, eL_law_1048, eL_law_1051, eL_law_1053, eL_law_1055, eL_law_1058, eL_law_1059, eL_law_1061, eL_law_1063, eL_law_1066, eL_law_1069, eL_law_1071, eL_law_1073, eL_law_1076, eL_law_1077, eL_law_1079, eL_law_1081, eL_law_1084, eL_law_1087, eL_law_1088, eL_law_1090, eL_law_1092, eL_law_1095, eL_law_1098, eL_law_1100, eL_law_1102, eL_law_1105, eL_law_1106, eL_law_1108, eL_law_1110, eL_law_1113, eL_law_1114, eL_law_1116, eL_law_1118, eL_law_1121, eL_law_1122, eL_law_1124, eL_law_1126, eL_law_1128, eL_law_1131, eL_law_1134, eL_law_1135, eL_law_1138, eL_law_1139, eL_law_1141, isA_r, isA_n, isI_i, isF_f, isL_l, is1_i, is1_r, is1_n, is1_f, true_and, and_true, List.length_cons, List.length_nil, Nat.reduceAdd, Nat.reduceLeDiff, Nat.reduceSub, Option.some.injEq, exists_eq_left', aft_s, aft_n, ite_true, ite_false, if_true, if_false, Nat.zero_le, Nat.le_refl, reduceCtorEq, ew]
    exact nx.go (GI.sm g0 s1 C2 x1 i1) s1.1 s1.2.1 (Or.inr ⟨rfl, hbf⟩) (by omega) (by omega)
  · have ess : a = s := (nI_eq (by omega) (by omega)).mp es
    subst ess
    have O' := x1.1
    have ha2 : a < s_nS τ := by rw [s1.1]; exact hs
    have hJ2 : s_nJ τ ≤ 30 := O'.1.2
    have ew : (nI cnt < 0) = False := eq_false (nI_pos (by omega))
    have q3 : ∀ i, i < s_nJ τ → s_se τ i = a → sgB 103 (s_st τ i) := fun i h1 h2 => q2 i (by rw [← s1.2.1]; exact h1) (by rw [← s1.2.2.1]; exact h2)
    have b119 : ∀ i, i < s_nJ τ → s_st τ i < 2 ^ 31 := fun i hi => by rcases (O'.2.1 i hi).2.2.1 with h | h | h | h | h <;> omega
    have z103_103 : ((103 : Int32) = 103) = True := eq_true rfl
    have z103_115 : ((103 : Int32) = 115) = False := eq_false (by decide)
    have z103_107 : ((103 : Int32) = 107) = False := eq_false (by decide)
    have e0 : ((nI 0) = 0) = True := eq_true rfl
    have c1 : cN (pcnt τ a 115) (s_nJ τ) = 0 := cnt_0 (fun i h1 h2 h3 => q3 i h1 h2 ((nI_eq (b := 115) (b119 i h1) (by omega)).mp h3))
    simp only [eL_law_1032, eL_law_1034, eL_law_1036, eL_law_1039, eL_law_1040, eL_law_1043, eL_law_1044, eL_law_1046, eL_law_1048, eL_law_1051, eL_law_1053, eL_law_1055, eL_law_1058, eL_law_1059, eL_law_1061, eL_law_1063, isA_r, isA_n, isI_i, isF_f, isL_l, is1_i, is1_r, is1_n, is1_f, true_and, and_true, List.length_cons, List.length_nil, Nat.reduceAdd, Nat.reduceLeDiff, Nat.reduceSub, Option.some.injEq, exists_eq_left', aft_s, aft_n, ite_true, ite_false, if_true, if_false, Nat.zero_le, Nat.le_refl, reduceCtorEq, ew, z103_103, z103_115, z103_107]
    refine invk 2 12 (by omega) (by omega) (h_count C2 O' (by omega) (by omega) (fun H3 C3 => ?_))
    simp only [eL_law_1066, eL_law_1069, eL_law_1071, eL_law_1073, eL_law_1076, eL_law_1077, eL_law_1079, eL_law_1081, eL_law_1084, eL_law_1087, eL_law_1088, eL_law_1090, eL_law_1092, eL_law_1095, eL_law_1098, eL_law_1100, eL_law_1102, eL_law_1105, eL_law_1106, eL_law_1108, eL_law_1110, eL_law_1113, eL_law_1114, eL_law_1116, eL_law_1118, eL_law_1121, eL_law_1122, eL_law_1124, eL_law_1126, eL_law_1128, eL_law_1131, eL_law_1134, eL_law_1135, eL_law_1138, eL_law_1139, eL_law_1141, isA_r, isA_n, isI_i, isF_f, isL_l, is1_i, is1_r, is1_n, is1_f, true_and, and_true, List.length_cons, List.length_nil, Nat.reduceAdd, Nat.reduceLeDiff, Nat.reduceSub, Option.some.injEq, exists_eq_left', aft_s, aft_n, ite_true, ite_false, if_true, if_false, Nat.zero_le, Nat.le_refl, reduceCtorEq, v_count (g := 115) ha2 O'.1.1 rfl, c1, e0]
    exact nx.go (GI.sm g0 s1 C3 x1 i1) s1.1 s1.2.1 (Or.inl rfl) (by omega) (by omega)
theorem w_sig107 (g : GI E P H0 x aw al ao σ T fw fW fL fO H) (hbf : sumF σ (s_nS σ) = bf) (hT : T + 200 < 16384) (hX : 82000 ≤ X) (hY : 459000 ≤ Y) (hc : X + 2400 ≤ JJ σ + c) (hn : Y + 15000 ≤ 4 * JJ σ + n) {m a j : Nat} (hm : m < 1000) (ha : a ≤ s_nS σ) (hj : j ≤ s_nJ σ) (nx : NX E P d K b x aw al ao k i T X Y bf) {a12 a17 a18 a19 : Value} : Ev E (d + 14) mL_law K 1022 (lwF b x aw al ao (s_nS σ) (s_nJ σ) k i (.long bf) (.retAddr 0) a12 (.int (nI m)) (.int (nI a)) (.int (nI j)) (.int 0) a17 a18 a19) [.int 107] H c n := by
  have g0 := g
  obtain ⟨C, G, I, A, F, h2⟩ := g
  have O := G.1
  have h4 := O.1.1
  have h30 := O.1.2
  have hT3 : T + 30 + 60 ≤ 16384 := by omega
  have hJ1 := JJ_top G (by omega)
  have hc2 : X + 2390 ≤ JJ σ + c := by omega
  have hn2 : Y + 14900 ≤ 4 * JJ σ + n := by omega
  have y1 := y_signal (σ := σ) (v1 := nI a) (v2 := nI 107)
  have x1 := x_signal (v1 := nI a) (v2 := nI 107) G
  have i1 := i_signal G I (v := nI a) (g := nI 107)
  have s1 := sm_signal G (v := nI a) (g := nI 107)
  have q1 := p_st_signal G (v := nI a) (k := 107) (by omega)
  have hJ3 := JJ_top x1 hT3
  simp only [eL_law_1022, eL_law_1024, eL_law_1025, eL_law_1027, eL_law_1029, isA_r, isA_n, isI_i, isF_f, isL_l, is1_i, is1_r, is1_n, is1_f, true_and, and_true, List.length_cons, List.length_nil, Nat.reduceAdd, Nat.reduceLeDiff, Nat.reduceSub, Option.some.injEq, exists_eq_left', aft_s, aft_n, ite_true, ite_false, if_true, if_false, Nat.zero_le, Nat.le_refl, reduceCtorEq]
  refine inv_act y1 hJ3 hX hY hc2 hn2 (fun kc kn c2 n2 k3 k4 k5 k6 => h_signal (v2 := nI 107) C G hT k3 k4 (fun H2 C2 => ?_))
  clear hJ3
  generalize a_signal σ (nI a) (nI 107) = p at y1 x1 i1 s1 q1 k3 k4 k5 k6 C2 ⊢
  obtain ⟨pc, pv, τ⟩ := p
  dsimp only at y1 x1 i1 s1 q1 k3 k4 k5 k6 C2 ⊢
  have hJ2 := JJ_top x1 hT3
  clear hc2 hn2 hc hn hJ1 y1 k3 k4
  generalize hx [-77, -78] (pc, pv, τ) = w at q1 ⊢
  rcases q1 with ⟨rfl, rfl⟩ | ⟨s, cnt, hs, es, hcnt, rfl, q2⟩
  · have ew : ((-77 : Int32) < 0) = True := eq_true (by decide)
    simp only [eL_law_1032, eL_law_1034, eL_law_1036, eL_law_1039, eL_law_1040, eL_law_1043, eL_law_1044, eL_law_1046, eL_law_1048, eL_law_1051, eL_law_1053, eL_law_1055, eL_law_1058, eL_law_1059, eL_law_1061, eL_law_1063, eL_law_1066, eL_law_1069, eL_law_1071, eL_law_1073, eL_law_1076, eL_law_1077, eL_law_1079, eL_law_1081, eL_law_1084, eL_law_1087, eL_law_1088, eL_law_1090, eL_law_1092, eL_law_1095, eL_law_1098, eL_law_1100, eL_law_1102, eL_law_1105, eL_law_1106, eL_law_1108, eL_law_1110, eL_law_1113, eL_law_1114, eL_law_1116, eL_law_1118, eL_law_1121, eL_law_1122, eL_law_1124, eL_law_1126, eL_law_1128, eL_law_1131, eL_law_1134, eL_law_1135, eL_law_1138, eL_law_1139, eL_law_1141, isA_r, isA_n, isI_i, isF_f, isL_l, is1_i, is1_r, is1_n, is1_f, true_and, and_true, List.length_cons, List.length_nil, Nat.reduceAdd, Nat.reduceLeDiff, Nat.reduceSub, Option.some.injEq, exists_eq_left', aft_s, aft_n, ite_true, ite_false, if_true, if_false, Nat.zero_le, Nat.le_refl, reduceCtorEq, ew]
    exact nx.go (GI.sm g0 s1 C2 x1 i1) s1.1 s1.2.1 (Or.inr ⟨rfl, hbf⟩) (by omega) (by omega)
  · have ess : a = s := (nI_eq (by omega) (by omega)).mp es
    subst ess
    have O' := x1.1
    have ha2 : a < s_nS τ := by rw [s1.1]; exact hs
    have hJ2 : s_nJ τ ≤ 30 := O'.1.2
    have ew : (nI cnt < 0) = False := eq_false (nI_pos (by omega))
    have q3 : ∀ i, i < s_nJ τ → s_se τ i = a → sgB 107 (s_st τ i) := fun i h1 h2 => q2 i (by rw [← s1.2.1]; exact h1) (by rw [← s1.2.2.1]; exact h2)
    have b119 : ∀ i, i < s_nJ τ → s_st τ i < 2 ^ 31 := fun i hi => by rcases (O'.2.1 i hi).2.2.1 with h | h | h | h | h <;> omega
    have z107_103 : ((107 : Int32) = 103) = False := eq_false (by decide)
    have z107_115 : ((107 : Int32) = 115) = False := eq_false (by decide)
    have z107_107 : ((107 : Int32) = 107) = True := eq_true rfl
    have e0 : ((nI 0) = 0) = True := eq_true rfl
    have c1 := cnt_kd O' (a := a) (Nat.le_refl _) (fun i h1 h2 => q3 i h1 h2)
    simp only [eL_law_1032, eL_law_1034, eL_law_1036, eL_law_1039, eL_law_1040, eL_law_1043, eL_law_1044, eL_law_1046, eL_law_1048, eL_law_1051, eL_law_1053, eL_law_1055, eL_law_1058, eL_law_1059, eL_law_1061, eL_law_1063, eL_law_1066, eL_law_1069, eL_law_1071, eL_law_1073, eL_law_1076, eL_law_1077, eL_law_1079, eL_law_1081, eL_law_1084, eL_law_1087, eL_law_1088, eL_law_1090, eL_law_1092, eL_law_1095, eL_law_1098, eL_law_1100, eL_law_1102, eL_law_1105, eL_law_1106, eL_law_1108, eL_law_1110, isA_r, isA_n, isI_i, isF_f, isL_l, is1_i, is1_r, is1_n, is1_f, true_and, and_true, List.length_cons, List.length_nil, Nat.reduceAdd, Nat.reduceLeDiff, Nat.reduceSub, Option.some.injEq, exists_eq_left', aft_s, aft_n, ite_true, ite_false, if_true, if_false, Nat.zero_le, Nat.le_refl, reduceCtorEq, ew, z107_103, z107_115, z107_107]
    refine invk 2 12 (by omega) (by omega) (h_count C2 O' (by omega) (by omega) (fun H3 C3 => ?_))
    simp only [eL_law_1113, eL_law_1114, eL_law_1116, eL_law_1118, isA_r, isA_n, isI_i, isF_f, isL_l, is1_i, is1_r, is1_n, is1_f, true_and, and_true, List.length_cons, List.length_nil, Nat.reduceAdd, Nat.reduceLeDiff, Nat.reduceSub, Option.some.injEq, exists_eq_left', aft_s, aft_n, ite_true, ite_false, if_true, if_false, Nat.zero_le, Nat.le_refl, reduceCtorEq, v_count (g := 107) ha2 O'.1.1 rfl]
    refine invk 2 12 (by omega) (by omega) (h_count C3 O' (by omega) (by omega) (fun H4 C4 => ?_))
    simp only [eL_law_1121, eL_law_1122, eL_law_1124, eL_law_1126, eL_law_1128, isA_r, isA_n, isI_i, isF_f, isL_l, is1_i, is1_r, is1_n, is1_f, true_and, and_true, List.length_cons, List.length_nil, Nat.reduceAdd, Nat.reduceLeDiff, Nat.reduceSub, Option.some.injEq, exists_eq_left', aft_s, aft_n, ite_true, ite_false, if_true, if_false, Nat.zero_le, Nat.le_refl, reduceCtorEq, v_count (g := 100) ha2 O'.1.1 rfl, nI_add, c1]
    have F' := F.sm s1
    have h4t := O'.1.1
    refine inv0 (k_ofS (F'.o C4) h30 (by omega) (fun j hj => ⟨F'.2 j (by rw [s1.2.1]; exact hj), by have := (O'.2.1 j (by rw [s1.2.1]; exact hj)).1; omega⟩) ?_)
    rw [← s1.2.1]
    simp only [eL_law_1131, eL_law_1134, eL_law_1135, eL_law_1138, eL_law_1139, eL_law_1141, isA_r, isA_n, isI_i, isF_f, isL_l, is1_i, is1_r, is1_n, is1_f, true_and, and_true, List.length_cons, List.length_nil, Nat.reduceAdd, Nat.reduceLeDiff, Nat.reduceSub, Option.some.injEq, exists_eq_left', aft_s, aft_n, ite_true, ite_false, if_true, if_false, Nat.zero_le, Nat.le_refl, reduceCtorEq, eq_self]
    exact nx.go (GI.sm g0 s1 C4 x1 i1) s1.1 rfl (Or.inl rfl) (by omega) (by omega)
theorem w_signal (g : GI E P H0 x aw al ao σ T fw fW fL fO H) (hbf : sumF σ (s_nS σ) = bf) (hT : T + 200 < 16384) (hX : 82000 ≤ X) (hY : 459000 ≤ Y) (hc : X + 2400 ≤ JJ σ + c) (hn : Y + 15000 ≤ 4 * JJ σ + n) {m a j : Nat} (hm : m < 1000) (ha : a ≤ s_nS σ) (hj : j ≤ s_nJ σ) (nx : NX E P d K b x aw al ao k i T X Y bf) {a12 a17 a18 a19 : Value} : Ev E (d + 14) mL_law K 995 (lwF b x aw al ao (s_nS σ) (s_nJ σ) k i (.long bf) (.retAddr 0) a12 (.int (nI m)) (.int (nI a)) (.int (nI j)) (.int 0) a17 a18 a19) [] H c n := by
  have g0 := g
  obtain ⟨C, G, I, A, F, h2⟩ := g
  have O := G.1
  have h4 := O.1.1
  have h30 := O.1.2
  have hT3 : T + 30 + 60 ≤ 16384 := by omega
  have hJ1 := JJ_top G (by omega)
  have r11 := rm_11 hm
  have r2 := rm_2 hm
  by_cases h0 : m % 11 = 0
  · have e0 : (nI (m % 11) = 0) = True := eq_true (by rw [h0]; rfl)
    simp only [eL_law_995, eL_law_997, eL_law_999, eL_law_1000, eL_law_1003, eL_law_1005, eL_law_1008, eL_law_1010, eL_law_1011, eL_law_1012, eL_law_1015, eL_law_1017, eL_law_1020, isA_r, isA_n, isI_i, isF_f, isL_l, is1_i, is1_r, is1_n, is1_f, true_and, and_true, List.length_cons, List.length_nil, Nat.reduceAdd, Nat.reduceLeDiff, Nat.reduceSub, Option.some.injEq, exists_eq_left', aft_s, aft_n, ite_true, ite_false, if_true, if_false, Nat.zero_le, Nat.le_refl, reduceCtorEq, nz_2, nz_3, nz_4, nz_6, nz_8, nz_11, nz_23, nz_29, nz_31, nz_41, not_false_eq_true, r11, e0]
    exact w_sig107 g0 hbf hT hX hY hc hn hm ha hj nx
  · have hlt := Nat.mod_lt m (show 0 < 11 by omega)
    have e0 : (nI (m % 11) = 0) = False := eq_false (nI_ne0 (by omega) (by omega))
    by_cases h1 : m % 2 = 0
    · have e1 : (nI (m % 2) = 0) = True := eq_true (by rw [h1]; rfl)
      simp only [eL_law_995, eL_law_997, eL_law_999, eL_law_1000, eL_law_1003, eL_law_1005, eL_law_1008, eL_law_1010, eL_law_1011, eL_law_1012, eL_law_1015, eL_law_1017, eL_law_1020, isA_r, isA_n, isI_i, isF_f, isL_l, is1_i, is1_r, is1_n, is1_f, true_and, and_true, List.length_cons, List.length_nil, Nat.reduceAdd, Nat.reduceLeDiff, Nat.reduceSub, Option.some.injEq, exists_eq_left', aft_s, aft_n, ite_true, ite_false, if_true, if_false, Nat.zero_le, Nat.le_refl, reduceCtorEq, nz_2, nz_3, nz_4, nz_6, nz_8, nz_11, nz_23, nz_29, nz_31, nz_41, not_false_eq_true, r11, r2, e0, e1]
      exact w_sig115 g0 hbf hT hX hY hc hn hm ha hj nx
    · have e1 : (nI (m % 2) = 0) = False := eq_false (nI_ne0 (by omega) (by omega))
      simp only [eL_law_995, eL_law_997, eL_law_999, eL_law_1000, eL_law_1003, eL_law_1005, eL_law_1008, eL_law_1010, eL_law_1011, eL_law_1012, eL_law_1015, eL_law_1017, eL_law_1020, isA_r, isA_n, isI_i, isF_f, isL_l, is1_i, is1_r, is1_n, is1_f, true_and, and_true, List.length_cons, List.length_nil, Nat.reduceAdd, Nat.reduceLeDiff, Nat.reduceSub, Option.some.injEq, exists_eq_left', aft_s, aft_n, ite_true, ite_false, if_true, if_false, Nat.zero_le, Nat.le_refl, reduceCtorEq, nz_2, nz_3, nz_4, nz_6, nz_8, nz_11, nz_23, nz_29, nz_31, nz_41, not_false_eq_true, r11, r2, e0, e1]
      exact w_sig103 g0 hbf hT hX hY hc hn hm ha hj nx
theorem w_open2 (g : GI E P H0 x aw al ao σ T fw fW fL fO H) (hbf : sumF σ (s_nS σ) = bf) (hT : T + 200 < 16384) (hX : 82000 ≤ X) (hY : 459000 ≤ Y) (hc : X + 2400 ≤ JJ σ + c) (hn : Y + 15000 ≤ 4 * JJ σ + n) {m a j : Nat} (hm : m < 1000) (ha : a ≤ s_nS σ) (hj : j ≤ s_nJ σ) {pp : Bool} (nx : NX E P d K b x aw al ao k i T X Y bf) {a12 a17 a18 a19 : Value} : Ev E (d + 14) mL_law K 191 (lwF b x aw al ao (s_nS σ) (s_nJ σ) k i (.long bf) (.retAddr 0) a12 (.int (nI m)) (.int (nI a)) (.int (nI j)) (.int 0) a17 a18 a19) [.int (b2 pp), .ref x] H c n := by
  have g0 := g
  obtain ⟨C, G, I, A, F, h2⟩ := g
  have O := G.1
  have h4 := O.1.1
  have h30 := O.1.2
  have hT3 : T + 30 + 60 ≤ 16384 := by omega
  have hJ1 := JJ_top G (by omega)
  have y1 := y_open (σ := σ) (p1 := pp)
  have x1 := x_open (p1 := pp) G
  have i1 := i_open I (p := pp)
  have q1 := p_st_open O (p := pp)
  simp only [eL_law_191, isA_r, isA_n, isI_i, isF_f, isL_l, is1_i, is1_r, is1_n, is1_f, true_and, and_true, List.length_cons, List.length_nil, Nat.reduceAdd, Nat.reduceLeDiff, Nat.reduceSub, Option.some.injEq, exists_eq_left', aft_s, aft_n, ite_true, ite_false, if_true, if_false, Nat.zero_le, Nat.le_refl, reduceCtorEq]
  refine invk 10 100 (by omega) (by omega) (h_open C O (by omega) (by omega) (fun H2 C2 => ?_))
  generalize a_open σ pp = p at y1 x1 i1 q1 C2 ⊢
  obtain ⟨pc, pv, τ⟩ := p
  dsimp only at y1 x1 i1 q1 C2 ⊢
  generalize hx [-79] (pc, pv, τ) = w at q1 ⊢
  rcases q1 with ⟨rfl, rfl⟩ | ⟨rfl, q2, q3, q4, q5⟩
  · have ew : ((-79 : Int32) < 0) = True := eq_true (by decide)
    have ew2 : ((0 : Int32) < -79) = False := eq_false (by decide)
    simp only [eL_law_194, eL_law_196, eL_law_198, eL_law_200, eL_law_203, eL_law_204, eL_law_207, eL_law_208, eL_law_209, eL_law_211, eL_law_213, eL_law_216, eL_law_217, eL_law_220, eL_law_221, eL_law_223, isA_r, isA_n, isI_i, isF_f, isL_l, is1_i, is1_r, is1_n, is1_f, true_and, and_true, List.length_cons, List.length_nil, Nat.reduceAdd, Nat.reduceLeDiff, Nat.reduceSub, Option.some.injEq, exists_eq_left', aft_s, aft_n, ite_true, ite_false, if_true, if_false, Nat.zero_le, Nat.le_refl, reduceCtorEq, ew, ew2, Int32.add_zero]
    exact nx.go ⟨C2, x1, i1, A, F, h2⟩ rfl rfl (Or.inr ⟨rfl, hbf⟩) (by omega) (by omega)
  · have ew : (nI (s_nS σ) < 0) = False := eq_false (nI_pos (by omega))
    have ew2 : ((0 : Int32) < nI (s_nS σ)) = True := eq_true (nI_lt (a := 0) (by omega) (by omega))
    simp only [eL_law_194, eL_law_196, eL_law_198, eL_law_200, eL_law_203, eL_law_204, eL_law_207, eL_law_208, eL_law_209, eL_law_211, eL_law_213, eL_law_216, eL_law_217, eL_law_220, eL_law_221, eL_law_223, isA_r, isA_n, isI_i, isF_f, isL_l, is1_i, is1_r, is1_n, is1_f, true_and, and_true, List.length_cons, List.length_nil, Nat.reduceAdd, Nat.reduceLeDiff, Nat.reduceSub, Option.some.injEq, exists_eq_left', aft_s, aft_n, ite_true, ite_false, if_true, if_false, Nat.zero_le, Nat.le_refl, reduceCtorEq, ew, ew2, nI_1]
    exact nx.go (τ := τ) ⟨C2, x1, i1, ⟨A.1, A.2.1, by rw [q3, q5]; exact A.2.2⟩, ⟨F.1, by rw [q3, q4]; exact F.2⟩, by omega⟩ q2 q3 (Or.inl rfl) (by omega) (by omega)
theorem w_open (g : GI E P H0 x aw al ao σ T fw fW fL fO H) (hbf : sumF σ (s_nS σ) = bf) (hT : T + 200 < 16384) (hX : 82000 ≤ X) (hY : 459000 ≤ Y) (hc : X + 2400 ≤ JJ σ + c) (hn : Y + 15000 ≤ 4 * JJ σ + n) {m a j : Nat} (hm : m < 1000) (ha : a ≤ s_nS σ) (hj : j ≤ s_nJ σ) (nx : NX E P d K b x aw al ao k i T X Y bf) {a12 a17 a18 a19 : Value} : Ev E (d + 14) mL_law K 166 (lwF b x aw al ao (s_nS σ) (s_nJ σ) k i (.long bf) (.retAddr 0) a12 (.int (nI m)) (.int (nI a)) (.int (nI j)) (.int 0) a17 a18 a19) [] H c n := by
  have g0 := g
  obtain ⟨C, G, I, A, F, h2⟩ := g
  have O := G.1
  have h4 := O.1.1
  have h30 := O.1.2
  have hT3 : T + 30 + 60 ≤ 16384 := by omega
  have hJ1 := JJ_top G (by omega)
  have r4 := rm_4 hm
  have r8 := rm_8 hm
  by_cases h0 : m % 4 = 0
  · have e0 : (0 < nI (m % 4)) = False := eq_false (by rw [h0]; decide)
    by_cases h1 : m % 8 = 0
    · have e1 : (nI (m % 8) = 0) = True := eq_true (by rw [h1]; rfl)
      simp only [eL_law_166, eL_law_168, eL_law_169, eL_law_170, eL_law_173, eL_law_174, eL_law_177, eL_law_178, eL_law_180, eL_law_182, eL_law_183, eL_law_186, eL_law_187, eL_law_190, isA_r, isA_n, isI_i, isF_f, isL_l, is1_i, is1_r, is1_n, is1_f, true_and, and_true, List.length_cons, List.length_nil, Nat.reduceAdd, Nat.reduceLeDiff, Nat.reduceSub, Option.some.injEq, exists_eq_left', aft_s, aft_n, ite_true, ite_false, if_true, if_false, Nat.zero_le, Nat.le_refl, reduceCtorEq, nz_2, nz_3, nz_4, nz_6, nz_8, nz_11, nz_23, nz_29, nz_31, nz_41, not_false_eq_true, r4, r8, e0, e1]
      exact w_open2 (pp := true) g0 hbf hT hX hY hc hn hm ha hj nx
    · have hlt := Nat.mod_lt m (show 0 < 8 by omega)
      have e1 : (nI (m % 8) = 0) = False := eq_false (nI_ne0 (by omega) (by omega))
      simp only [eL_law_166, eL_law_168, eL_law_169, eL_law_170, eL_law_173, eL_law_174, eL_law_177, eL_law_178, eL_law_180, eL_law_182, eL_law_183, eL_law_186, eL_law_187, eL_law_190, isA_r, isA_n, isI_i, isF_f, isL_l, is1_i, is1_r, is1_n, is1_f, true_and, and_true, List.length_cons, List.length_nil, Nat.reduceAdd, Nat.reduceLeDiff, Nat.reduceSub, Option.some.injEq, exists_eq_left', aft_s, aft_n, ite_true, ite_false, if_true, if_false, Nat.zero_le, Nat.le_refl, reduceCtorEq, nz_2, nz_3, nz_4, nz_6, nz_8, nz_11, nz_23, nz_29, nz_31, nz_41, not_false_eq_true, r4, r8, e0, e1]
      exact w_open2 (pp := false) g0 hbf hT hX hY hc hn hm ha hj nx
  · have hlt := Nat.mod_lt m (show 0 < 4 by omega)
    have e0 : (0 < nI (m % 4)) = True := eq_true (nI_lt (a := 0) (by omega) (by omega))
    have e1 : ((0 : Int32) < 0) = False := eq_false (by decide)
    simp only [eL_law_166, eL_law_168, eL_law_169, eL_law_170, eL_law_173, eL_law_174, eL_law_177, eL_law_178, eL_law_180, eL_law_182, eL_law_183, eL_law_186, eL_law_187, eL_law_190, eL_law_191, eL_law_194, eL_law_196, eL_law_198, eL_law_200, eL_law_203, eL_law_204, eL_law_207, eL_law_208, eL_law_209, eL_law_211, eL_law_213, eL_law_216, eL_law_217, eL_law_220, eL_law_221, eL_law_223, isA_r, isA_n, isI_i, isF_f, isL_l, is1_i, is1_r, is1_n, is1_f, true_and, and_true, List.length_cons, List.length_nil, Nat.reduceAdd, Nat.reduceLeDiff, Nat.reduceSub, Option.some.injEq, exists_eq_left', aft_s, aft_n, ite_true, ite_false, if_true, if_false, Nat.zero_le, Nat.le_refl, reduceCtorEq, nz_2, nz_3, nz_4, nz_6, nz_8, nz_11, nz_23, nz_29, nz_31, nz_41, not_false_eq_true, r4, e0, e1, Int32.add_zero]
    exact nx.go (g0.sm Sm.rfl' C (G.up (by omega)) I) rfl rfl (Or.inl rfl) (by omega) (by omega)
end CASES
