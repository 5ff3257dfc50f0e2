/-! the law's start: THE PURE STATEMENT -/
theorem b_st1 {a c : Nat} (hc : 600000 ≤ c) : bX 110 ≤ a + (c - 1 - 20 - 1 - 1 - 1 - 10 - 10) := by
  unfold bX
  omega
theorem b_st2 {a n : Nat} (hn : 6000000 ≤ n) : bY 110 ≤ 4 * a + (n - 7 - 400 - 30 - 30 - 30 - 100 - 100) := by
  unfold bY
  omega
theorem open_ok {σ : Sg} {p : Bool} (h : s_nS σ ≠ 4) : hx [-79] (a_open σ p) = nI (s_nS σ) ∧ s_nS (a_open σ p).2.2 = s_nS σ + 1 ∧ s_nJ (a_open σ p).2.2 = s_nJ σ := by
  unfold a_open
  rw [if_neg h]
  refine ⟨rfl, ?_, ?_⟩ <;> (unfold openF; simp only [g_nS_nS, g_nS_nJ, g_nS_wk, g_nS_pv, g_nS_dr, g_nS_fr, g_nS_pk, g_nS_hi, g_nS_cm, g_nS_se, g_nS_lf, g_nS_nd, g_nS_st, g_nS_hl, g_nS_od, g_nS_jn, g_nJ_nS, g_nJ_nJ, g_nJ_wk, g_nJ_pv, g_nJ_dr, g_nJ_fr, g_nJ_pk, g_nJ_hi, g_nJ_cm, g_nJ_se, g_nJ_lf, g_nJ_nd, g_nJ_st, g_nJ_hl, g_nJ_od, g_nJ_jn, g_wk_nS, g_wk_nJ, g_wk_wk, g_wk_pv, g_wk_dr, g_wk_fr, g_wk_pk, g_wk_hi, g_wk_cm, g_wk_se, g_wk_lf, g_wk_nd, g_wk_st, g_wk_hl, g_wk_od, g_wk_jn, g_pv_nS, g_pv_nJ, g_pv_wk, g_pv_pv, g_pv_dr, g_pv_fr, g_pv_pk, g_pv_hi, g_pv_cm, g_pv_se, g_pv_lf, g_pv_nd, g_pv_st, g_pv_hl, g_pv_od, g_pv_jn, g_dr_nS, g_dr_nJ, g_dr_wk, g_dr_pv, g_dr_dr, g_dr_fr, g_dr_pk, g_dr_hi, g_dr_cm, g_dr_se, g_dr_lf, g_dr_nd, g_dr_st, g_dr_hl, g_dr_od, g_dr_jn, g_fr_nS, g_fr_nJ, g_fr_wk, g_fr_pv, g_fr_dr, g_fr_fr, g_fr_pk, g_fr_hi, g_fr_cm, g_fr_se, g_fr_lf, g_fr_nd, g_fr_st, g_fr_hl, g_fr_od, g_fr_jn, g_pk_nS, g_pk_nJ, g_pk_wk, g_pk_pv, g_pk_dr, g_pk_fr, g_pk_pk, g_pk_hi, g_pk_cm, g_pk_se, g_pk_lf, g_pk_nd, g_pk_st, g_pk_hl, g_pk_od, g_pk_jn, g_hi_nS, g_hi_nJ, g_hi_wk, g_hi_pv, g_hi_dr, g_hi_fr, g_hi_pk, g_hi_hi, g_hi_cm, g_hi_se, g_hi_lf, g_hi_nd, g_hi_st, g_hi_hl, g_hi_od, g_hi_jn, g_cm_nS, g_cm_nJ, g_cm_wk, g_cm_pv, g_cm_dr, g_cm_fr, g_cm_pk, g_cm_hi, g_cm_cm, g_cm_se, g_cm_lf, g_cm_nd, g_cm_st, g_cm_hl, g_cm_od, g_cm_jn, g_se_nS, g_se_nJ, g_se_wk, g_se_pv, g_se_dr, g_se_fr, g_se_pk, g_se_hi, g_se_cm, g_se_se, g_se_lf, g_se_nd, g_se_st, g_se_hl, g_se_od, g_se_jn, g_lf_nS, g_lf_nJ, g_lf_wk, g_lf_pv, g_lf_dr, g_lf_fr, g_lf_pk, g_lf_hi, g_lf_cm, g_lf_se, g_lf_lf, g_lf_nd, g_lf_st, g_lf_hl, g_lf_od, g_lf_jn, g_nd_nS, g_nd_nJ, g_nd_wk, g_nd_pv, g_nd_dr, g_nd_fr, g_nd_pk, g_nd_hi, g_nd_cm, g_nd_se, g_nd_lf, g_nd_nd, g_nd_st, g_nd_hl, g_nd_od, g_nd_jn, g_st_nS, g_st_nJ, g_st_wk, g_st_pv, g_st_dr, g_st_fr, g_st_pk, g_st_hi, g_st_cm, g_st_se, g_st_lf, g_st_nd, g_st_st, g_st_hl, g_st_od, g_st_jn, g_hl_nS, g_hl_nJ, g_hl_wk, g_hl_pv, g_hl_dr, g_hl_fr, g_hl_pk, g_hl_hi, g_hl_cm, g_hl_se, g_hl_lf, g_hl_nd, g_hl_st, g_hl_hl, g_hl_od, g_hl_jn, g_od_nS, g_od_nJ, g_od_wk, g_od_pv, g_od_dr, g_od_fr, g_od_pk, g_od_hi, g_od_cm, g_od_se, g_od_lf, g_od_nd, g_od_st, g_od_hl, g_od_od, g_od_jn, g_jn_nS, g_jn_nJ, g_jn_wk, g_jn_pv, g_jn_dr, g_jn_fr, g_jn_pk, g_jn_hi, g_jn_cm, g_jn_se, g_jn_lf, g_jn_nd, g_jn_st, g_jn_hl, g_jn_od, g_jn_jn])
theorem iv_0 : Iv sgZ (fun _ => 0) := by
  refine ⟨⟨fun j hj => absurd hj (Nat.not_lt_zero _), ⟨rfl, fun j hj => absurd hj (Nat.not_lt_zero _)⟩, fun s j h => (nomatch h), ⟨fun k hk => absurd hk (Nat.not_lt_zero _), fun j => rfl⟩⟩, fun j hj => (nomatch hj)⟩
theorem s_law {E : EN} {b L : Nat} {xs : Nat → Int32} {K : Out → AH → Prop} {c n : Nat} (eb : E.1 b = some (arI L xs)) (hE : EA E) (hL : L ≤ 260) (hK : ∀ H, K (.inl (some (.int 1))) H) (hc : 600000 ≤ c) (hn : 6000000 ≤ n) : Ev E 14 mL_law K 0 [.ref b, .retAddr 0, .retAddr 0, .retAddr 0, .retAddr 0, .retAddr 0, .retAddr 0, .retAddr 0, .retAddr 0, .retAddr 0, .retAddr 0, .retAddr 0, .retAddr 0, .retAddr 0, .retAddr 0, .retAddr 0, .retAddr 0, .retAddr 0, .retAddr 0, .retAddr 0] [] (fun _ => none) c n := by
  simp only [eL_law_0, isA_r, isA_n, isI_i, isF_f, isL_l, is1_i, is1_r, is1_n, is1_f, true_and, and_true, List.length_cons, List.length_nil, Nat.reduceAdd, Nat.reduceLeDiff, Nat.reduceSub, Option.some.injEq, exists_eq_left', aft_s, aft_n, ite_true, ite_false, if_true, if_false, Nat.zero_le, Nat.le_refl, reduceCtorEq]
  refine ⟨by omega, by omega, fun x _ hxE => ?_⟩
  simp only [eL_law_3, eL_law_4, isA_r, isA_n, isI_i, isF_f, isL_l, is1_i, is1_r, is1_n, is1_f, true_and, and_true, List.length_cons, List.length_nil, Nat.reduceAdd, Nat.reduceLeDiff, Nat.reduceSub, Option.some.injEq, exists_eq_left', aft_s, aft_n, ite_true, ite_false, if_true, if_false, Nat.zero_le, Nat.le_refl, reduceCtorEq]
  refine invk 20 400 (by omega) (by omega) (p_init (P := fun _ => False) hE hxE hs_e (fun q hq => ?_) (Nat.le_refl _) (Nat.le_refl _) (fun H1 A wr hA C1 hF1 => ?_))
  · rw [hs_n (fun e => hq (by rw [e]; exact hxE))]
  have CW1 : CW E (fun _ => False) _ x sgZ H1 := ⟨A, wr, hA, C1⟩
  clear hF1
  have e1 : (30 : Int32).toNatClampNeg = 30 := rfl
  have e2 : (¬ (30 : Int32) < 0) = True := eq_true (by decide)
  simp only [eL_law_7, eL_law_8, eL_law_10, isA_r, isA_n, isI_i, isF_f, isL_l, is1_i, is1_r, is1_n, is1_f, true_and, and_true, List.length_cons, List.length_nil, Nat.reduceAdd, Nat.reduceLeDiff, Nat.reduceSub, Option.some.injEq, exists_eq_left', aft_s, aft_n, ite_true, ite_false, if_true, if_false, Nat.zero_le, Nat.le_refl, reduceCtorEq, e1, e2]
  refine ⟨by omega, by omega, fun aw w1 w2 => ?_⟩
  have CW2 := CW1.new (y := (.inl (0, 30, .inl (fun _ => 0)) : AC)) w1 w2
  have a2 : (hset H1 aw (.inl (0, 30, .inl (fun _ => 0)))) aw = some (arI 30 (fun _ => 0)) := hs_e
  generalize hset H1 aw (.inl (0, 30, .inl (fun _ => 0))) = H2 at CW2 a2 ⊢
  simp only [eL_law_12, eL_law_13, eL_law_15, isA_r, isA_n, isI_i, isF_f, isL_l, is1_i, is1_r, is1_n, is1_f, true_and, and_true, List.length_cons, List.length_nil, Nat.reduceAdd, Nat.reduceLeDiff, Nat.reduceSub, Option.some.injEq, exists_eq_left', aft_s, aft_n, ite_true, ite_false, if_true, if_false, Nat.zero_le, Nat.le_refl, reduceCtorEq, e1, e2]
  refine ⟨by omega, by omega, fun al l1 l2 => ?_⟩
  have n1 : aw ≠ al := by rintro rfl; rw [a2] at l1; cases l1
  have CW3 := CW2.new (y := (.inl (0, 30, .inl (fun _ => 0)) : AC)) l1 l2
  have a3 : (hset H2 al (.inl (0, 30, .inl (fun _ => 0)))) aw = some (arI 30 (fun _ => 0)) := by rw [hs_n n1]; exact a2
  have b3 : (hset H2 al (.inl (0, 30, .inl (fun _ => 0)))) al = some (arI 30 (fun _ => 0)) := hs_e
  generalize hset H2 al (.inl (0, 30, .inl (fun _ => 0))) = H3 at CW3 a3 b3 ⊢
  simp only [eL_law_17, eL_law_18, eL_law_20, isA_r, isA_n, isI_i, isF_f, isL_l, is1_i, is1_r, is1_n, is1_f, true_and, and_true, List.length_cons, List.length_nil, Nat.reduceAdd, Nat.reduceLeDiff, Nat.reduceSub, Option.some.injEq, exists_eq_left', aft_s, aft_n, ite_true, ite_false, if_true, if_false, Nat.zero_le, Nat.le_refl, reduceCtorEq, e1, e2]
  refine ⟨by omega, by omega, fun ao o1 o2' => ?_⟩
  have n2 : aw ≠ ao := by rintro rfl; rw [a3] at o1; cases o1
  have n3 : al ≠ ao := by rintro rfl; rw [b3] at o1; cases o1
  have CW4 := CW3.new (y := (.inl (0, 30, .inl (fun _ => 0)) : AC)) o1 o2'
  have a4 : (hset H3 ao (.inl (0, 30, .inl (fun _ => 0)))) aw = some (arI 30 (fun _ => 0)) := by rw [hs_n n2]; exact a3
  have b4 : (hset H3 ao (.inl (0, 30, .inl (fun _ => 0)))) al = some (arI 30 (fun _ => 0)) := by rw [hs_n n3]; exact b3
  have c4 : (hset H3 ao (.inl (0, 30, .inl (fun _ => 0)))) ao = some (arI 30 (fun _ => 0)) := hs_e
  generalize hset H3 ao (.inl (0, 30, .inl (fun _ => 0))) = H4 at CW4 a4 b4 c4 ⊢
  clear CW1 CW2 CW3 a2 a3 b3 w1 w2 l1 l2 o1 o2' C1 hA
  generalize hPP : (fun z => ((False ∨ z = aw) ∨ z = al) ∨ z = ao : Nat → Prop) = P at CW4
  have pw : P aw := by rw [← hPP]; exact Or.inl (Or.inl (Or.inr rfl))
  have pl : P al := by rw [← hPP]; exact Or.inl (Or.inr rfl)
  have po : P ao := by rw [← hPP]; exact Or.inr rfl
  clear hPP
  have G0 := good_0
  have x1 := x_open (p1 := false) G0
  have i1 := i_open iv_0 (p := false)
  have q1 := open_ok (σ := sgZ) (p := false) (by decide)
  simp only [eL_law_22, eL_law_24, eL_law_25, eL_law_27, eL_law_28, eL_law_30, eL_law_31, eL_law_32, isA_r, isA_n, isI_i, isF_f, isL_l, is1_i, is1_r, is1_n, is1_f, true_and, and_true, List.length_cons, List.length_nil, Nat.reduceAdd, Nat.reduceLeDiff, Nat.reduceSub, Option.some.injEq, exists_eq_left', aft_s, aft_n, ite_true, ite_false, if_true, if_false, Nat.zero_le, Nat.le_refl, reduceCtorEq]
  refine invk 10 100 (by omega) (by omega) (h_open (p1 := false) CW4 G0.1 (by omega) (by omega) (fun H5 C5 => ?_))
  generalize a_open sgZ false = p at x1 i1 q1 C5 ⊢
  obtain ⟨pc, pv, τ⟩ := p
  dsimp only at x1 i1 q1 C5 ⊢
  obtain ⟨q2, q3, q4⟩ := q1
  have q3 : s_nS τ = 1 := q3
  have q4 : s_nJ τ = 0 := q4
  have e3 : (hx [-79] (pc, pv, τ) = 0) = True := eq_true (by rw [q2]; rfl)
  have x2 := x_open (p1 := true) x1
  have i2 := i_open i1 (p := true)
  have r1 := open_ok (σ := τ) (p := true) (by rw [q3]; decide)
  simp only [eL_law_35, eL_law_38, eL_law_39, eL_law_40, isA_r, isA_n, isI_i, isF_f, isL_l, is1_i, is1_r, is1_n, is1_f, true_and, and_true, List.length_cons, List.length_nil, Nat.reduceAdd, Nat.reduceLeDiff, Nat.reduceSub, Option.some.injEq, exists_eq_left', aft_s, aft_n, ite_true, ite_false, if_true, if_false, Nat.zero_le, Nat.le_refl, reduceCtorEq, e3]
  refine invk 10 100 (by omega) (by omega) (h_open (p1 := true) C5 x1.1 (by omega) (by omega) (fun H6 C6 => ?_))
  generalize a_open τ true = p2 at x2 i2 r1 C6 ⊢
  obtain ⟨pc2, pv2, υ⟩ := p2
  dsimp only at x2 i2 r1 C6 ⊢
  obtain ⟨r2, r3, r4⟩ := r1
  rw [q3] at r2 r3
  rw [q4] at r4
  have e4 : (hx [-79] (pc2, pv2, υ) = 1) = True := eq_true (by rw [r2]; rfl)
  simp only [eL_law_43, eL_law_44, eL_law_47, eL_law_48, eL_law_51, eL_law_52, eL_law_54, eL_law_55, eL_law_57, eL_law_58, isA_r, isA_n, isI_i, isF_f, isL_l, is1_i, is1_r, is1_n, is1_f, true_and, and_true, List.length_cons, List.length_nil, Nat.reduceAdd, Nat.reduceLeDiff, Nat.reduceSub, Option.some.injEq, exists_eq_left', aft_s, aft_n, ite_true, ite_false, if_true, if_false, Nat.zero_le, Nat.le_refl, reduceCtorEq, e4]
  have g : GI E P H4 x aw al ao υ (30 * 0 + 60) (fun _ => 0) (fun _ => 0) (fun _ => 0) (fun _ => 0) H6 := by
    refine ⟨C6, x2, i2, ⟨⟨pw, a4⟩, ⟨pl, b4⟩, fun j hj => ?_⟩, ⟨⟨po, c4⟩, fun j hj => ?_⟩, by omega⟩
    · rw [r4] at hj; exact absurd hj (Nat.not_lt_zero _)
    · rw [r4] at hj; exact absurd hj (Nat.not_lt_zero _)
  have fin := l_law (d := 0) eb hL ⟨n1, n2, n3⟩ hK 110 0 υ _ _ _ _ H4 H6 (c - 1 - 20 - 1 - 1 - 1 - 10 - 10) (n - 7 - 400 - 30 - 30 - 30 - 100 - 100) (.retAddr 0) (.retAddr 0) (.retAddr 0) (.retAddr 0) (.retAddr 0) (.retAddr 0) (.retAddr 0) (.retAddr 0) (.retAddr 0) (.retAddr 0) rfl g (b_st1 hc) (b_st2 hn)
  rw [r3, r4] at fin
  exact fin
theorem pure_law : PureLaw := by
  intro b L eA mi xs hL hne
  show Ev (enV b L eA mi xs) 14 mL_law _ 0 [.ref b, .retAddr 0, .retAddr 0, .retAddr 0, .retAddr 0, .retAddr 0, .retAddr 0, .retAddr 0, .retAddr 0, .retAddr 0, .retAddr 0, .retAddr 0, .retAddr 0, .retAddr 0, .retAddr 0, .retAddr 0, .retAddr 0, .retAddr 0, .retAddr 0, .retAddr 0] [] _ _ _
  have hb : (enV b L eA mi xs).1 b = some (arI L xs) := if_pos rfl
  have hE : EA (enV b L eA mi xs) := by
    show (if eA = b then _ else if eA = eA then _ else _) = _
    rw [if_neg hne.symm, if_pos rfl]
  exact s_law hb hE hL (fun H => rfl) (Nat.le_of_ble_eq_true rfl) (Nat.le_of_ble_eq_true rfl)
