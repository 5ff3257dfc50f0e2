theorem open_1 {σ : Sg} {p : Bool} : s_nS (openF σ p) = s_nS σ + 1 ∧ s_nJ (openF σ p) = s_nJ σ ∧ s_wk (openF σ p) = s_wk σ ∧ s_pv (openF σ p) = upN (s_pv σ) (s_nS σ) p ∧ s_dr (openF σ p) = s_dr σ ∧ s_fr (openF σ p) = upN (s_fr σ) (s_nS σ) none ∧ s_pk (openF σ p) = upN (s_pk σ) (s_nS σ) none ∧ s_hi (openF σ p) = s_hi σ ∧ s_cm (openF σ p) = s_cm σ ∧ s_se (openF σ p) = s_se σ ∧ s_lf (openF σ p) = s_lf σ ∧ s_nd (openF σ p) = s_nd σ ∧ s_st (openF σ p) = s_st σ ∧ s_hl (openF σ p) = s_hl σ ∧ s_od (openF σ p) = s_od σ ∧ s_jn (openF σ p) = s_jn σ := by
  unfold openF
  simp only [g_nS_nS, g_nS_nJ, g_nS_wk, g_nS_pv, g_nS_dr, g_nS_fr, g_nS_pk, g_nS_hi, g_nS_cm, g_nS_se, g_nS_lf, g_nS_nd, g_nS_st, g_nS_hl, g_nS_od, g_nS_jn, g_nJ_nS, g_nJ_nJ, g_nJ_wk, g_nJ_pv, g_nJ_dr, g_nJ_fr, g_nJ_pk, g_nJ_hi, g_nJ_cm, g_nJ_se, g_nJ_lf, g_nJ_nd, g_nJ_st, g_nJ_hl, g_nJ_od, g_nJ_jn, g_wk_nS, g_wk_nJ, g_wk_wk, g_wk_pv, g_wk_dr, g_wk_fr, g_wk_pk, g_wk_hi, g_wk_cm, g_wk_se, g_wk_lf, g_wk_nd, g_wk_st, g_wk_hl, g_wk_od, g_wk_jn, g_pv_nS, g_pv_nJ, g_pv_wk, g_pv_pv, g_pv_dr, g_pv_fr, g_pv_pk, g_pv_hi, g_pv_cm, g_pv_se, g_pv_lf, g_pv_nd, g_pv_st, g_pv_hl, g_pv_od, g_pv_jn, g_dr_nS, g_dr_nJ, g_dr_wk, g_dr_pv, g_dr_dr, g_dr_fr, g_dr_pk, g_dr_hi, g_dr_cm, g_dr_se, g_dr_lf, g_dr_nd, g_dr_st, g_dr_hl, g_dr_od, g_dr_jn, g_fr_nS, g_fr_nJ, g_fr_wk, g_fr_pv, g_fr_dr, g_fr_fr, g_fr_pk, g_fr_hi, g_fr_cm, g_fr_se, g_fr_lf, g_fr_nd, g_fr_st, g_fr_hl, g_fr_od, g_fr_jn, g_pk_nS, g_pk_nJ, g_pk_wk, g_pk_pv, g_pk_dr, g_pk_fr, g_pk_pk, g_pk_hi, g_pk_cm, g_pk_se, g_pk_lf, g_pk_nd, g_pk_st, g_pk_hl, g_pk_od, g_pk_jn, g_hi_nS, g_hi_nJ, g_hi_wk, g_hi_pv, g_hi_dr, g_hi_fr, g_hi_pk, g_hi_hi, g_hi_cm, g_hi_se, g_hi_lf, g_hi_nd, g_hi_st, g_hi_hl, g_hi_od, g_hi_jn, g_cm_nS, g_cm_nJ, g_cm_wk, g_cm_pv, g_cm_dr, g_cm_fr, g_cm_pk, g_cm_hi, g_cm_cm, g_cm_se, g_cm_lf, g_cm_nd, g_cm_st, g_cm_hl, g_cm_od, g_cm_jn, g_se_nS, g_se_nJ, g_se_wk, g_se_pv, g_se_dr, g_se_fr, g_se_pk, g_se_hi, g_se_cm, g_se_se, g_se_lf, g_se_nd, g_se_st, g_se_hl, g_se_od, g_se_jn, g_lf_nS, g_lf_nJ, g_lf_wk, g_lf_pv, g_lf_dr, g_lf_fr, g_lf_pk, g_lf_hi, g_lf_cm, g_lf_se, g_lf_lf, g_lf_nd, g_lf_st, g_lf_hl, g_lf_od, g_lf_jn, g_nd_nS, g_nd_nJ, g_nd_wk, g_nd_pv, g_nd_dr, g_nd_fr, g_nd_pk, g_nd_hi, g_nd_cm, g_nd_se, g_nd_lf, g_nd_nd, g_nd_st, g_nd_hl, g_nd_od, g_nd_jn, g_st_nS, g_st_nJ, g_st_wk, g_st_pv, g_st_dr, g_st_fr, g_st_pk, g_st_hi, g_st_cm, g_st_se, g_st_lf, g_st_nd, g_st_st, g_st_hl, g_st_od, g_st_jn, g_hl_nS, g_hl_nJ, g_hl_wk, g_hl_pv, g_hl_dr, g_hl_fr, g_hl_pk, g_hl_hi, g_hl_cm, g_hl_se, g_hl_lf, g_hl_nd, g_hl_st, g_hl_hl, g_hl_od, g_hl_jn, g_od_nS, g_od_nJ, g_od_wk, g_od_pv, g_od_dr, g_od_fr, g_od_pk, g_od_hi, g_od_cm, g_od_se, g_od_lf, g_od_nd, g_od_st, g_od_hl, g_od_od, g_od_jn, g_jn_nS, g_jn_nJ, g_jn_wk, g_jn_pv, g_jn_dr, g_jn_fr, g_jn_pk, g_jn_hi, g_jn_cm, g_jn_se, g_jn_lf, g_jn_nd, g_jn_st, g_jn_hl, g_jn_od, g_jn_jn, and_self]
section OPN2
variable {E : EN} {P : Nat → Prop} {H0 : AH} {x : Nat} {σ : Sg} {H : AH} {d c n : Nat} {K : Out → AH → Prop}
theorem p_open (C : CW E P H0 x σ H) (O : Ok σ) {p : Bool} (hc : 10 ≤ c) (hn : 100 ≤ n) (hK : ∀ H', CW E P H0 x (a_open σ p).2.2 H' → K (ou [1] (a_open σ p)) H') : CRd TTv E (d + 13) mX4_open [.ref x, .int (b2 p)] H c n K := by
  obtain ⟨A, wr, rfl, C⟩ := C
  refine crd rfl ?_
  show Ev E (d + 12) mX4_open K 0 [.ref (A 0 0), .int (b2 p), .retAddr 0] [] H c n
  have h4 := C.S4
  simp only [eX4_open_0, eX4_open_1, eX4_open_4, isA_r, isA_n, isI_i, isF_f, isL_l, is1_i, is1_r, is1_n, is1_f, true_and, and_true, List.length_cons, List.length_nil, Nat.reduceAdd, Nat.reduceLeDiff, Nat.reduceSub, Option.some.injEq, exists_eq_left', aft_s, aft_n, ite_true, ite_false, if_true, if_false, Nat.zero_le, Nat.le_refl, reduceCtorEq, ob_of C.top, og0]
  refine ⟨C.lS, inv0 (k_sSize C ?_)⟩
  by_cases hS : s_nS σ = 4
  · have q : a_open σ p = (1, 0, σ) := by unfold a_open; rw [if_pos hS]
    rw [q] at hK
    have e1 : (nI (s_nS σ) < 4) = False := eq_false (nI_nlt (b := 4) (by omega) (by omega))
    simp only [eX4_open_7, eX4_open_8, eX4_open_9, eX4_open_10, eX4_open_13, isA_r, isA_n, isI_i, isF_f, isL_l, is1_i, is1_r, is1_n, is1_f, true_and, and_true, List.length_cons, List.length_nil, Nat.reduceAdd, Nat.reduceLeDiff, Nat.reduceSub, Option.some.injEq, exists_eq_left', aft_s, aft_n, ite_true, ite_false, if_true, if_false, Nat.zero_le, Nat.le_refl, reduceCtorEq, e1, Nat.le_add_left, show 1 ≤ c by omega, show 6 ≤ n by omega]
    exact hK H ⟨A, wr, rfl, C⟩
  · have q : a_open σ p = (0, nI (s_nS σ), openF σ p) := by unfold a_open; rw [if_neg hS]
    rw [q] at hK
    have hS2 : s_nS σ < 4 := by omega
    have e1 : (nI (s_nS σ) < 4) = True := eq_true (nI_lt (b := 4) hS2 (by omega))
    have hnC : nC 4 = 6 := rfl
    simp only [eX4_open_7, eX4_open_8, eX4_open_9, eX4_open_10, eX4_open_13, eX4_open_16, eX4_open_23, eX4_open_24, eX4_open_27, isA_r, isA_n, isI_i, isF_f, isL_l, is1_i, is1_r, is1_n, is1_f, true_and, and_true, List.length_cons, List.length_nil, Nat.reduceAdd, Nat.reduceLeDiff, Nat.reduceSub, Option.some.injEq, exists_eq_left', aft_s, aft_n, ite_true, ite_false, if_true, if_false, Nat.zero_le, Nat.le_refl, reduceCtorEq, e1, ob_of C.top, og0, hnC]
    refine ⟨by omega, by omega, fun q hq hqE => ?_⟩
    simp only [eX4_open_30, eX4_open_31, eX4_open_32, eX4_open_33, isA_r, isA_n, isI_i, isF_f, isL_l, is1_i, is1_r, is1_n, is1_f, true_and, and_true, List.length_cons, List.length_nil, Nat.reduceAdd, Nat.reduceLeDiff, Nat.reduceSub, Option.some.injEq, exists_eq_left', aft_s, aft_n, ite_true, ite_false, if_true, if_false, Nat.zero_le, Nat.le_refl, reduceCtorEq]
    refine invk 2 10 (by omega) (by omega) (k_sInit hs_e (Nat.le_refl _) (Nat.le_refl _) (fun q1 q2 H2 hq1 hq1E hq2 hq2E hne h1 h2 h3 h4' => ?_))
    have e1 : q ≠ q1 := by rintro rfl; rw [hs_e] at hq1; cases hq1
    have e2 : q ≠ q2 := by rintro rfl; rw [hs_e] at hq2; cases hq2
    rw [hs_n e1.symm] at hq1
    rw [hs_n e2.symm] at hq2
    obtain ⟨Z, X, C0, ec⟩ := C
    have hF2 : ∀ y, y ≠ q → y ≠ q1 → y ≠ q2 → H2 y = H y := fun y y1 y2 y3 => by rw [h4' y y1 y2 y3, hs_n y1]
    have nq : ∀ y, H y ≠ none → y ≠ q ∧ y ≠ q1 ∧ y ≠ q2 := fun y hy => ⟨fun e => hy (by rw [e]; exact hq), fun e => hy (by rw [e]; exact hq1), fun e => hy (by rw [e]; exact hq2)⟩
    have hold : ∀ y, H y ≠ none → H2 y = H y := fun y hy => hF2 y (nq y hy).1 (nq y hy).2.1 (nq y hy).2.2
    have L2 : LLs E H2 (A 1 0) (x_mod X 1) (Z 8) (s_nS σ) (x_cap X 8) (x_F X 8) := by
      obtain ⟨g1, g2, g3, g4, g5⟩ := C0.lsS
      refine ⟨by rw [hold _ (by rw [g1]; simp)]; exact g1, g2, g3, ?_, fun i hi => ?_⟩
      · rcases g4 with ⟨k1, k2, k3⟩ | ⟨k1, k2⟩
        · refine Or.inl ⟨k1, k2, ?_⟩
          have hz : E.1 (Z 8) ≠ none := by rw [k2, C0.ea]; simp
          rw [hF2 _ (fun e => hz (by rw [e]; exact hqE)) (fun e => hz (by rw [e]; exact hq1E)) (fun e => hz (by rw [e]; exact hq2E))]
          exact k3
        · exact Or.inr ⟨k1, by rw [hold _ (by rw [k2]; simp)]; exact k2⟩
      · obtain ⟨w, hw1, hw2⟩ := g5 i hi
        refine ⟨w, hw1, ?_⟩
        unfold isO
        rw [hold _ (fun e => by unfold isO at hw2; rw [e] at hw2; cases hw2)]
        exact hw2
    have hw := C0.wl
    simp only [eX4_open_36, isA_r, isA_n, isI_i, isF_f, isL_l, is1_i, is1_r, is1_n, is1_f, true_and, and_true, List.length_cons, List.length_nil, Nat.reduceAdd, Nat.reduceLeDiff, Nat.reduceSub, Option.some.injEq, exists_eq_left', aft_s, aft_n, ite_true, ite_false, if_true, if_false, Nat.zero_le, Nat.le_refl, reduceCtorEq]
    refine ⟨⟨_, ob_of L2.1⟩, invk 1 43 (by omega) (by omega) (L_add L2 C0.ea (isO_of h1) (by omega) (Nat.le_refl _) (Nat.le_refl _) (fun H3 m' z' cap' f' l1 l2 l3 l4 l5 l6 => ?_))⟩
    have hA1 : H (A 1 0) ≠ none := by rw [C0.lsS.1]; simp
    obtain ⟨m1, m2, m3⟩ := nq _ hA1
    have hz : (z' = Z 8 ∧ 0 < x_cap X 8 ∧ cap' = x_cap X 8) ∨ (H z' = none ∧ z' ≠ q ∧ z' ≠ q1 ∧ z' ≠ q2 ∧ E.1 z' = none) := by
      rcases l4 with l4 | ⟨l4, l7⟩
      · exact Or.inl l4
      · have z1 : z' ≠ q := by rintro rfl; rw [h1] at l4; cases l4
        have z2 : z' ≠ q1 := by rintro rfl; rw [h2] at l4; cases l4
        have z3 : z' ≠ q2 := by rintro rfl; rw [h3] at l4; cases l4
        exact Or.inr ⟨by rw [hF2 z' z1 z2 z3] at l4; exact l4, z1, z2, z3, l7⟩
    have hzq : q ≠ z' ∧ q1 ≠ z' ∧ q2 ≠ z' := by
      rcases hz with ⟨g1, g2, g3⟩ | ⟨g1, g2, g3, g4, g5⟩
      · have := C0.1 8 0 (lv_A (by omega) (fun _ _ => by omega))
        have h8 : H (Z 8) = _ := this
        obtain ⟨k1, k2, k3⟩ := nq (Z 8) (by rw [h8]; simp)
        rw [g1]
        exact ⟨k1.symm, k2.symm, k3.symm⟩
      · exact ⟨g2.symm, g3.symm, g4.symm⟩
    obtain ⟨o1, o2, o3, o4, o5, o6, o7, o8, o9, o10, o11, o12, o13, o14, o15, o16⟩ := open_1 (σ := σ) (p := p)
    have C1 := C0.newSes (σ' := openF σ p) hq hqE hq1 hq1E hq2 hq2E e1 e2 hne hS2 (O.2.2.2.2.2.2.2.2.1 _ (Nat.le_refl _)).1 (O.2.2.2.2.2.2.2.2.1 _ (Nat.le_refl _)).2 o1 o2 o3 o4 o5 o6 o7 o8 o9 o10 o11 o12 o13 o14 o15 o16 l1 l2 l3 hz l5 (by rw [l6 q m1.symm hzq.1]; exact h1) (by rw [l6 q1 m2.symm hzq.2.1]; exact h2) (by rw [l6 q2 m3.symm hzq.2.2]; exact h3) (fun y y1 y2 y3 y4 y5 => by rw [l6 y y1 y2, hF2 y y3 y4 y5])
    have hd : hdF (openF σ p) = hdF σ := hd_c o2 o14 o12
    rw [← hd] at C1
    simp only [eX4_open_39, eX4_open_40, eX4_open_41, isA_r, isA_n, isI_i, isF_f, isL_l, is1_i, is1_r, is1_n, is1_f, true_and, and_true, List.length_cons, List.length_nil, Nat.reduceAdd, Nat.reduceLeDiff, Nat.reduceSub, Option.some.injEq, exists_eq_left', aft_s, aft_n, ite_true, ite_false, if_true, if_false, Nat.zero_le, Nat.le_refl, reduceCtorEq]
    refine hK H3 ⟨_, wr, ?_, _, _, C1, ?_, ?_⟩
    · rw [upA_k (by omega), upA_k (by omega), upA_k (by omega)]
    · rw [xc, upN_n (show 11 ≠ 8 by omega), o16]; exact ec.1
    · rw [xc, upN_n (show 12 ≠ 8 by omega), o16]; exact ec.2
end OPN2
