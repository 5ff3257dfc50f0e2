/-! histories in CV, remember; numbers of sessions and jobs -/
theorem ix_case {v : Int32} {n : Nat} (hn : n < 2 ^ 31) : (v < 0 ∧ ix v n = none) ∨ (¬ v < 0 ∧ ¬ v < nI n ∧ ix v n = none) ∨ (∃ j, j < n ∧ v = nI j ∧ ¬ v < 0 ∧ v < nI n ∧ ix v n = some j) := by
  by_cases h0 : v < 0
  · exact Or.inl ⟨h0, if_pos h0⟩
  · obtain ⟨j, hj, rfl⟩ := nI_of h0
    by_cases hlt : j < n
    · exact Or.inr (Or.inr ⟨j, hlt, rfl, h0, nI_lt hlt hn, ix_s hlt hn⟩)
    · refine Or.inr (Or.inl ⟨h0, nI_nlt (by omega) (by omega), ?_⟩)
      unfold ix
      rw [if_neg h0, nI_clamp (by omega), if_neg hlt]
section C12
variable {E : EN} {P : Nat → Prop} {H0 : AH} {A : AD} {d : Nat} {K : Out → AH → Prop} {σ : Sg} {H : AH} {c n : Nat} {ho : Nat → Option Nat} {wr : Nat → Bool}
theorem CV.hl (C : CV E P H0 A σ ho wr H) {s : Nat} (hs : s < s_nS σ) (hl : (s_hi σ s).length ≤ 8) : HL H (A 14 s) (A 15 s) 8 (s_hi σ s) := by
  obtain ⟨Z, X, C, -⟩ := C
  exact ⟨C.his hs, hl, by omega, _, C.har hs, C.rl.2.2.2.1 s hs⟩
theorem CV.hc (C : CV E P H0 A σ ho wr H) (hl : (s_cm σ).length ≤ 12) : HL H (A 5 0) (A 6 0) 12 (s_cm σ) := by
  obtain ⟨Z, X, C, -⟩ := C
  exact ⟨C.com, hl, by omega, _, C.car, C.rl.2.1⟩
theorem CV.pHi (C : CV E P H0 A σ ho wr H) {H' : AH} {s : Nat} {l : List Nat} (hs : s < s_nS σ) (h : HL H' (A 14 s) (A 15 s) 8 l) (hF : ∀ q, q ≠ A 14 s → q ≠ A 15 s → H' q = H q) : CV E P H0 A (putHi σ s l) ho wr H' := by
  obtain ⟨Z, X, C, e⟩ := C
  obtain ⟨h1, h2, h3, g, h4, h5⟩ := h
  refine ⟨Z, (x_cap X, x_mod X, upN (x_G X) (s + 20) g, x_F X), ?_, e⟩
  refine C.re (fun k i => (k = 14 ∨ k = 15) ∧ i = s) (fun k i hl hk => ?_) (fun k i hl hk => ?_) (fun q hq => ?_) (fun k i k' i' _ _ q1 _ q3 _ _ => ?_) ?_ C.wl
  · obtain ⟨hk, rfl⟩ := hk
    refine ⟨?_, Or.inl ⟨hl, rfl⟩⟩
    rcases hk with rfl | rfl
    · rw [cl_S (by omega) (by omega)]
      show H' (A 14 i) = some (.inr (1, hfs (A 15 i) (upN (s_hi σ) i l i).length))
      rw [upN_s]; exact h1
    · rw [cl_S (by omega) (by omega)]
      show H' (A 15 i) = some (arI 8 (upN (x_G X) (i + 20) g (i + 20)))
      rw [upN_s]; exact h4
  · refine ⟨hl, rfl, ?_⟩
    rcases lv_cs hl with ⟨g1, -⟩ | ⟨g1, g2, -⟩ | ⟨rfl, -⟩
    · rw [cl_A g1, cl_A g1]
      have hkk : k = 0 ∨ k = 1 ∨ k = 2 ∨ k = 3 ∨ k = 4 ∨ k = 5 ∨ k = 6 ∨ k = 7 ∨ k = 8 ∨ k = 9 ∨ k = 10 ∨ k = 11 ∨ k = 12 := by omega
      rcases hkk with rfl | rfl | rfl | rfl | rfl | rfl | rfl | rfl | rfl | rfl | rfl | rfl | rfl
      all_goals first | rfl | (show arI _ (upN (x_G X) (s + 20) g _) = _; rw [upN_n (by omega)])
    · rw [cl_S g1 g2, cl_S g1 g2]
      have hkk : k = 13 ∨ k = 14 ∨ k = 15 := by omega
      rcases hkk with rfl | rfl | rfl
      · rfl
      · have hne : i ≠ s := fun e => hk ⟨Or.inl rfl, e⟩
        show (Sum.inr (1, hfs (A 15 i) (upN (s_hi σ) s l i).length) : AC) = .inr (1, hfs (A 15 i) (s_hi σ i).length)
        rw [upN_n hne]
      · have hne : i ≠ s := fun e => hk ⟨Or.inr rfl, e⟩
        show arI 8 (upN (x_G X) (s + 20) g (i + 20)) = arI 8 (x_G X (i + 20))
        rw [upN_n (by omega)]
    · rfl
  · have b1 := hq 14 s (lv_S (by omega) (by omega) hs) ⟨Or.inl rfl, rfl⟩
    have b2 := hq 15 s (lv_S (by omega) (by omega) hs) ⟨Or.inr rfl, rfl⟩
    exact hF q b1 b2
  · obtain ⟨hk, rfl⟩ := q1
    exfalso
    rcases hk with rfl | rfl
    · have := C.his hs
      have q4 : H (A 14 i) = none := q3
      rw [this] at q4; cases q4
    · have := C.har hs
      have q4 : H (A 15 i) = none := q3
      rw [this] at q4; cases q4
  · obtain ⟨r1, r2, r3, r4, r5⟩ := C.rl
    refine ⟨fun i hi => ?_, fun i hi => ?_, fun i hi => ?_, fun t ht i hi => ?_, r5⟩
    · show upN (x_G X) (s + 20) g 4 i = _
      rw [upN_n (by omega)]; exact r1 i hi
    · show upN (x_G X) (s + 20) g 6 i = _
      rw [upN_n (by omega)]; exact r2 i hi
    · show upN (x_G X) (s + 20) g 11 i = _ ∧ upN (x_G X) (s + 20) g 12 i = _
      rw [upN_n (by omega), upN_n (by omega)]; exact r3 i hi
    · have hi2 : i < (upN (s_hi σ) s l t).length := hi
      show upN (x_G X) (s + 20) g (t + 20) i = nI ((upN (s_hi σ) s l t).getD i 0)
      by_cases hts : t = s
      · subst hts
        rw [upN_s] at hi2
        rw [upN_s, upN_s]; exact h5 i hi2
      · rw [upN_n hts] at hi2
        rw [upN_n (by omega), upN_n hts]; exact r4 t ht i hi2
theorem CV.pCm (C : CV E P H0 A σ ho wr H) {H' : AH} {l : List Nat} (h : HL H' (A 5 0) (A 6 0) 12 l) (hF : ∀ q, q ≠ A 5 0 → q ≠ A 6 0 → H' q = H q) : CV E P H0 A (w_cm σ l) ho wr H' := by
  obtain ⟨Z, X, C, e⟩ := C
  obtain ⟨h1, h2, h3, g, h4, h5⟩ := h
  refine ⟨Z, (x_cap X, x_mod X, upN (x_G X) 6 g, x_F X), ?_, e⟩
  refine C.re (fun k i => k = 5 ∨ k = 6) (fun k i hl hk => ?_) (fun k i hl hk => ?_) (fun q hq => ?_) (fun k i k' i' hl _ q1 _ q3 _ _ => ?_) ?_ C.wl
  · have hi : i = 0 := by
      rcases lv_cs hl with ⟨g1, g2, g3⟩ | ⟨g1, g2, g3⟩ | ⟨g1, g3⟩ <;> omega
    subst hi
    refine ⟨?_, Or.inl ⟨hl, rfl⟩⟩
    rcases hk with rfl | rfl
    · exact h1
    · show H' (A 6 0) = some (arI 12 (upN (x_G X) 6 g 6))
      rw [upN_s]; exact h4
  · refine ⟨hl, rfl, ?_⟩
    rcases lv_cs hl with ⟨g1, -⟩ | ⟨g1, g2, -⟩ | ⟨rfl, -⟩
    · rw [cl_A g1, cl_A g1]
      have hkk : k = 0 ∨ k = 1 ∨ k = 2 ∨ k = 3 ∨ k = 4 ∨ k = 7 ∨ k = 8 ∨ k = 9 ∨ k = 10 ∨ k = 11 ∨ k = 12 := by omega
      rcases hkk with rfl | rfl | rfl | rfl | rfl | rfl | rfl | rfl | rfl | rfl | rfl <;> rfl
    · rw [cl_S g1 g2, cl_S g1 g2]
      have hkk : k = 13 ∨ k = 14 ∨ k = 15 := by omega
      rcases hkk with rfl | rfl | rfl
      · rfl
      · rfl
      · show arI 8 (upN (x_G X) 6 g (i + 20)) = arI 8 (x_G X (i + 20))
        rw [upN_n (by omega)]
    · rfl
  · have b1 := hq 5 0 (lv_A (by omega) (by omega)) (Or.inl rfl)
    have b2 := hq 6 0 (lv_A (by omega) (by omega)) (Or.inr rfl)
    exact hF q b1 b2
  · exfalso
    rcases q1 with rfl | rfl
    · have hi : i = 0 := by
        rcases lv_cs hl with ⟨g1, g2, g3⟩ | ⟨g1, g2, g3⟩ | ⟨g1, g3⟩ <;> omega
      subst hi
      have := C.com
      have q4 : H (A 5 0) = none := q3
      rw [this] at q4; cases q4
    · have hi : i = 0 := by
        rcases lv_cs hl with ⟨g1, g2, g3⟩ | ⟨g1, g2, g3⟩ | ⟨g1, g3⟩ <;> omega
      subst hi
      have := C.car
      have q4 : H (A 6 0) = none := q3
      rw [this] at q4; cases q4
  · obtain ⟨r1, r2, r3, r4, r5⟩ := C.rl
    refine ⟨fun i hi => ?_, fun i hi => ?_, fun i hi => ?_, fun t ht i hi => ?_, r5⟩
    · show upN (x_G X) 6 g 4 i = _
      rw [upN_n (by omega)]; exact r1 i hi
    · show upN (x_G X) 6 g 6 i = nI (l.getD i 0)
      rw [upN_s]; exact h5 i hi
    · show upN (x_G X) 6 g 11 i = _ ∧ upN (x_G X) 6 g 12 i = _
      rw [upN_n (by omega), upN_n (by omega)]; exact r3 i hi
    · show upN (x_G X) 6 g (t + 20) i = _
      rw [upN_n (by omega)]; exact r4 t ht i hi
theorem k_remember (C : CV E P H0 A σ ho wr H) {s x : Nat} (hs : s < s_nS σ) (hlen : (s_hi σ s).length ≤ 8) (hcm : (s_cm σ).length ≤ 12) (hnd : (s_cm σ).Nodup) (hb : ∀ y ∈ s_cm σ, y < 100) (hx : x < 100) (hK : ∀ H', CV E P H0 A (rememberF σ s x) ho wr H' → K (.inl none) H') : CRd TTv E (d + 4) mX4_remember [.ref (A 0 0), .ref (A 13 s), .int (nI x)] H c n K := by
  refine crd rfl ?_
  show Ev E (d + 3) mX4_remember K 0 [.ref (A 0 0), .ref (A 13 s), .int (nI x)] [] H c n
  simp only [eX4_remember_0, eX4_remember_1, eX4_remember_4, eX4_remember_5, eX4_remember_8, eX4_remember_9, eX4_remember_12, eX4_remember_15, eX4_remember_16, eX4_remember_19, eX4_remember_20, eX4_remember_23, eX4_remember_24, eX4_remember_27, eX4_remember_28, eX4_remember_31, isA_r, isA_n, isI_i, isF_f, isL_l, is1_i, is1_r, is1_n, is1_f, true_and, and_true, List.length_cons, List.length_nil, Nat.reduceAdd, Nat.reduceLeDiff, Nat.reduceSub, Option.some.injEq, exists_eq_left', aft_s, aft_n, ite_true, ite_false, if_true, if_false, Nat.zero_le, Nat.le_refl, reduceCtorEq, ob_of (C.ses hs), sg1]
  refine ⟨⟨_, ob_of (C.his hs)⟩, inv0 (k_append (C.hl hs hlen) (by omega) (fun H1 h1 h2 => ?_))⟩
  have C1 := C.pHi hs h1 h2
  have ef : (if (s_hi σ s).length = 8 then (s_hi σ s).tail else s_hi σ s) = fitHi (s_hi σ s) := rfl
  rw [ef] at C1
  have hs1 : s < s_nS (putHi σ s (fitHi (s_hi σ s) ++ [x])) := hs
  have q1 : s_cm (putHi σ s (fitHi (s_hi σ s) ++ [x])) = s_cm σ := putHi_cm
  have q2 : s_pv (putHi σ s (fitHi (s_hi σ s) ++ [x])) = s_pv σ := putHi_pv
  have er : ∀ h : s_pv σ s = false, rememberF σ s x = w_cm (putHi σ s (fitHi (s_hi σ s) ++ [x])) (fitCm (cutCm σ x) ++ [x]) := fun h => rem_f h
  have er2 : ∀ h : ¬ s_pv σ s = false, rememberF σ s x = putHi σ s (fitHi (s_hi σ s) ++ [x]) := fun h => rem_t h
  generalize putHi σ s (fitHi (s_hi σ s) ++ [x]) = σ1 at *
  cases hp : s_pv σ s with
  | true =>
    have b1 : (b2 true = 0) = False := eq_false (by decide)
    simp only [eX4_remember_0, eX4_remember_1, eX4_remember_4, eX4_remember_5, eX4_remember_8, eX4_remember_9, eX4_remember_12, eX4_remember_15, eX4_remember_16, eX4_remember_19, eX4_remember_20, eX4_remember_23, eX4_remember_24, eX4_remember_27, eX4_remember_28, eX4_remember_31, isA_r, isA_n, isI_i, isF_f, isL_l, is1_i, is1_r, is1_n, is1_f, true_and, and_true, List.length_cons, List.length_nil, Nat.reduceAdd, Nat.reduceLeDiff, Nat.reduceSub, Option.some.injEq, exists_eq_left', aft_s, aft_n, ite_true, ite_false, if_true, if_false, Nat.zero_le, Nat.le_refl, reduceCtorEq, ob_of (C1.ses hs1), sg2, q2, hp, b1]
    rw [er2 (by rw [hp]; decide)] at hK
    exact hK H1 C1
  | false =>
    have b0 : (b2 false = 0) = True := eq_true rfl
    simp only [eX4_remember_0, eX4_remember_1, eX4_remember_4, eX4_remember_5, eX4_remember_8, eX4_remember_9, eX4_remember_12, eX4_remember_15, eX4_remember_16, eX4_remember_19, eX4_remember_20, eX4_remember_23, eX4_remember_24, eX4_remember_27, eX4_remember_28, eX4_remember_31, isA_r, isA_n, isI_i, isF_f, isL_l, is1_i, is1_r, is1_n, is1_f, true_and, and_true, List.length_cons, List.length_nil, Nat.reduceAdd, Nat.reduceLeDiff, Nat.reduceSub, Option.some.injEq, exists_eq_left', aft_s, aft_n, ite_true, ite_false, if_true, if_false, Nat.zero_le, Nat.le_refl, reduceCtorEq, ob_of (C1.ses hs1), sg2, q2, hp, b0, ob_of C1.top, og4]
    refine ⟨⟨_, ob_of C1.com⟩, inv0 (k_forget (C1.hc (by rw [q1]; exact hcm)) (by rw [q1]; exact hnd) (by rw [q1]; exact hb) hx (fun H2 h3 h4 => ?_))⟩
    have C2 := C1.pCm h3 h4
    rw [q1] at C2 h3
    have e2 : (s_cm σ).filter (fun y => y != x) = cutCm σ x := rfl
    rw [e2] at C2 h3
    have r1 : s_cm (w_cm σ1 (cutCm σ x)) = cutCm σ x := g_cm_cm
    have r2 : w_cm (w_cm σ1 (cutCm σ x)) (fitCm (cutCm σ x) ++ [x]) = w_cm σ1 (fitCm (cutCm σ x) ++ [x]) := by apply sg_ext <;> simp only [g_nS_nS, g_nS_nJ, g_nS_wk, g_nS_pv, g_nS_dr, g_nS_fr, g_nS_pk, g_nS_hi, g_nS_cm, g_nS_se, g_nS_lf, g_nS_nd, g_nS_st, g_nS_hl, g_nS_od, g_nS_jn, g_nJ_nS, g_nJ_nJ, g_nJ_wk, g_nJ_pv, g_nJ_dr, g_nJ_fr, g_nJ_pk, g_nJ_hi, g_nJ_cm, g_nJ_se, g_nJ_lf, g_nJ_nd, g_nJ_st, g_nJ_hl, g_nJ_od, g_nJ_jn, g_wk_nS, g_wk_nJ, g_wk_wk, g_wk_pv, g_wk_dr, g_wk_fr, g_wk_pk, g_wk_hi, g_wk_cm, g_wk_se, g_wk_lf, g_wk_nd, g_wk_st, g_wk_hl, g_wk_od, g_wk_jn, g_pv_nS, g_pv_nJ, g_pv_wk, g_pv_pv, g_pv_dr, g_pv_fr, g_pv_pk, g_pv_hi, g_pv_cm, g_pv_se, g_pv_lf, g_pv_nd, g_pv_st, g_pv_hl, g_pv_od, g_pv_jn, g_dr_nS, g_dr_nJ, g_dr_wk, g_dr_pv, g_dr_dr, g_dr_fr, g_dr_pk, g_dr_hi, g_dr_cm, g_dr_se, g_dr_lf, g_dr_nd, g_dr_st, g_dr_hl, g_dr_od, g_dr_jn, g_fr_nS, g_fr_nJ, g_fr_wk, g_fr_pv, g_fr_dr, g_fr_fr, g_fr_pk, g_fr_hi, g_fr_cm, g_fr_se, g_fr_lf, g_fr_nd, g_fr_st, g_fr_hl, g_fr_od, g_fr_jn, g_pk_nS, g_pk_nJ, g_pk_wk, g_pk_pv, g_pk_dr, g_pk_fr, g_pk_pk, g_pk_hi, g_pk_cm, g_pk_se, g_pk_lf, g_pk_nd, g_pk_st, g_pk_hl, g_pk_od, g_pk_jn, g_hi_nS, g_hi_nJ, g_hi_wk, g_hi_pv, g_hi_dr, g_hi_fr, g_hi_pk, g_hi_hi, g_hi_cm, g_hi_se, g_hi_lf, g_hi_nd, g_hi_st, g_hi_hl, g_hi_od, g_hi_jn, g_cm_nS, g_cm_nJ, g_cm_wk, g_cm_pv, g_cm_dr, g_cm_fr, g_cm_pk, g_cm_hi, g_cm_cm, g_cm_se, g_cm_lf, g_cm_nd, g_cm_st, g_cm_hl, g_cm_od, g_cm_jn, g_se_nS, g_se_nJ, g_se_wk, g_se_pv, g_se_dr, g_se_fr, g_se_pk, g_se_hi, g_se_cm, g_se_se, g_se_lf, g_se_nd, g_se_st, g_se_hl, g_se_od, g_se_jn, g_lf_nS, g_lf_nJ, g_lf_wk, g_lf_pv, g_lf_dr, g_lf_fr, g_lf_pk, g_lf_hi, g_lf_cm, g_lf_se, g_lf_lf, g_lf_nd, g_lf_st, g_lf_hl, g_lf_od, g_lf_jn, g_nd_nS, g_nd_nJ, g_nd_wk, g_nd_pv, g_nd_dr, g_nd_fr, g_nd_pk, g_nd_hi, g_nd_cm, g_nd_se, g_nd_lf, g_nd_nd, g_nd_st, g_nd_hl, g_nd_od, g_nd_jn, g_st_nS, g_st_nJ, g_st_wk, g_st_pv, g_st_dr, g_st_fr, g_st_pk, g_st_hi, g_st_cm, g_st_se, g_st_lf, g_st_nd, g_st_st, g_st_hl, g_st_od, g_st_jn, g_hl_nS, g_hl_nJ, g_hl_wk, g_hl_pv, g_hl_dr, g_hl_fr, g_hl_pk, g_hl_hi, g_hl_cm, g_hl_se, g_hl_lf, g_hl_nd, g_hl_st, g_hl_hl, g_hl_od, g_hl_jn, g_od_nS, g_od_nJ, g_od_wk, g_od_pv, g_od_dr, g_od_fr, g_od_pk, g_od_hi, g_od_cm, g_od_se, g_od_lf, g_od_nd, g_od_st, g_od_hl, g_od_od, g_od_jn, g_jn_nS, g_jn_nJ, g_jn_wk, g_jn_pv, g_jn_dr, g_jn_fr, g_jn_pk, g_jn_hi, g_jn_cm, g_jn_se, g_jn_lf, g_jn_nd, g_jn_st, g_jn_hl, g_jn_od, g_jn_jn]
    have r3 : ∀ l, HL H2 (A 5 0) (A 6 0) 12 l → True := fun _ _ => trivial
    simp only [eX4_remember_0, eX4_remember_1, eX4_remember_4, eX4_remember_5, eX4_remember_8, eX4_remember_9, eX4_remember_12, eX4_remember_15, eX4_remember_16, eX4_remember_19, eX4_remember_20, eX4_remember_23, eX4_remember_24, eX4_remember_27, eX4_remember_28, eX4_remember_31, isA_r, isA_n, isI_i, isF_f, isL_l, is1_i, is1_r, is1_n, is1_f, true_and, and_true, List.length_cons, List.length_nil, Nat.reduceAdd, Nat.reduceLeDiff, Nat.reduceSub, Option.some.injEq, exists_eq_left', aft_s, aft_n, ite_true, ite_false, if_true, if_false, Nat.zero_le, Nat.le_refl, reduceCtorEq, ob_of C2.top, og4]
    refine ⟨⟨_, ob_of C2.com⟩, inv0 (k_append h3 (by omega) (fun H3 h5 h6 => ?_))⟩
    have C3 := C2.pCm h5 h6
    have e3 : (if (cutCm σ x).length = 12 then (cutCm σ x).tail else cutCm σ x) = fitCm (cutCm σ x) := rfl
    rw [e3, r2, ← er hp] at C3
    simp only [eX4_remember_0, eX4_remember_1, eX4_remember_4, eX4_remember_5, eX4_remember_8, eX4_remember_9, eX4_remember_12, eX4_remember_15, eX4_remember_16, eX4_remember_19, eX4_remember_20, eX4_remember_23, eX4_remember_24, eX4_remember_27, eX4_remember_28, eX4_remember_31, isA_r, isA_n, isI_i, isF_f, isL_l, is1_i, is1_r, is1_n, is1_f, true_and, and_true, List.length_cons, List.length_nil, Nat.reduceAdd, Nat.reduceLeDiff, Nat.reduceSub, Option.some.injEq, exists_eq_left', aft_s, aft_n, ite_true, ite_false, if_true, if_false, Nat.zero_le, Nat.le_refl, reduceCtorEq]
    exact hK H3 C3
theorem k_sesNum (C : CV E P H0 A σ ho wr H) {v : Int32} (hc : 1 ≤ c) (hn : 6 ≤ n) (h1 : ∀ s, s < s_nS σ → ix v (s_nS σ) = some s → K (.inl (some (.ref (A 13 s)))) H) (h0 : ix v (s_nS σ) = none → K (.inr 2) H) : CRd TTv E (d + 7) mX4_sessionNumbered [.ref (A 0 0), .int v] H c n K := by
  refine crd rfl ?_
  show Ev E (d + 6) mX4_sessionNumbered K 0 [.ref (A 0 0), .int v] [] H c n
  have h4 := C.S4
  rcases ix_case (v := v) (n := s_nS σ) (by omega) with ⟨g1, g2⟩ | ⟨g1, g2, g3⟩ | ⟨j, g1, rfl, g2, g3, g4⟩
  · simp only [eX4_sessionNumbered_0, eX4_sessionNumbered_1, eX4_sessionNumbered_4, eX4_sessionNumbered_5, eX4_sessionNumbered_6, eX4_sessionNumbered_9, eX4_sessionNumbered_12, eX4_sessionNumbered_15, isA_r, isA_n, isI_i, isF_f, isL_l, is1_i, is1_r, is1_n, is1_f, true_and, and_true, List.length_cons, List.length_nil, Nat.reduceAdd, Nat.reduceLeDiff, Nat.reduceSub, Option.some.injEq, exists_eq_left', aft_s, aft_n, ite_true, ite_false, if_true, if_false, Nat.zero_le, Nat.le_refl, reduceCtorEq, g1, Nat.le_add_left, hc, hn]
    exact h0 g2
  · simp only [eX4_sessionNumbered_0, eX4_sessionNumbered_1, eX4_sessionNumbered_4, eX4_sessionNumbered_5, eX4_sessionNumbered_6, eX4_sessionNumbered_9, isA_r, isA_n, isI_i, isF_f, isL_l, is1_i, is1_r, is1_n, is1_f, true_and, and_true, List.length_cons, List.length_nil, Nat.reduceAdd, Nat.reduceLeDiff, Nat.reduceSub, Option.some.injEq, exists_eq_left', aft_s, aft_n, ite_true, ite_false, if_true, if_false, Nat.zero_le, Nat.le_refl, reduceCtorEq, g1, ob_of C.top, og0]
    refine ⟨C.lS, inv0 (k_sSize C ?_)⟩
    simp only [eX4_sessionNumbered_12, eX4_sessionNumbered_15, isA_r, isA_n, isI_i, isF_f, isL_l, is1_i, is1_r, is1_n, is1_f, true_and, and_true, List.length_cons, List.length_nil, Nat.reduceAdd, Nat.reduceLeDiff, Nat.reduceSub, Option.some.injEq, exists_eq_left', aft_s, aft_n, ite_true, ite_false, if_true, if_false, Nat.zero_le, Nat.le_refl, reduceCtorEq, g2, Nat.le_add_left, hc, hn]
    exact h0 g3
  · simp only [eX4_sessionNumbered_0, eX4_sessionNumbered_1, eX4_sessionNumbered_4, eX4_sessionNumbered_5, eX4_sessionNumbered_6, eX4_sessionNumbered_9, isA_r, isA_n, isI_i, isF_f, isL_l, is1_i, is1_r, is1_n, is1_f, true_and, and_true, List.length_cons, List.length_nil, Nat.reduceAdd, Nat.reduceLeDiff, Nat.reduceSub, Option.some.injEq, exists_eq_left', aft_s, aft_n, ite_true, ite_false, if_true, if_false, Nat.zero_le, Nat.le_refl, reduceCtorEq, g2, ob_of C.top, og0]
    refine ⟨C.lS, inv0 (k_sSize C ?_)⟩
    simp only [eX4_sessionNumbered_12, eX4_sessionNumbered_25, eX4_sessionNumbered_26, eX4_sessionNumbered_29, eX4_sessionNumbered_30, isA_r, isA_n, isI_i, isF_f, isL_l, is1_i, is1_r, is1_n, is1_f, true_and, and_true, List.length_cons, List.length_nil, Nat.reduceAdd, Nat.reduceLeDiff, Nat.reduceSub, Option.some.injEq, exists_eq_left', aft_s, aft_n, ite_true, ite_false, if_true, if_false, Nat.zero_le, Nat.le_refl, reduceCtorEq, g3, ob_of C.top, og0]
    refine ⟨C.lS, inv0 (k_sGet C g1 ?_)⟩
    simp only [eX4_sessionNumbered_33, eX4_sessionNumbered_36, isA_r, isA_n, isI_i, isF_f, isL_l, is1_i, is1_r, is1_n, is1_f, true_and, and_true, List.length_cons, List.length_nil, Nat.reduceAdd, Nat.reduceLeDiff, Nat.reduceSub, Option.some.injEq, exists_eq_left', aft_s, aft_n, ite_true, ite_false, if_true, if_false, Nat.zero_le, Nat.le_refl, reduceCtorEq, ob_of (C.ses g1)]
    exact h1 j g1 g4
theorem k_jobNum (C : CV E P H0 A σ ho wr H) {v : Int32} (hc : 1 ≤ c) (hn : 6 ≤ n) (h1 : ∀ j, j < s_nJ σ → ix v (s_nJ σ) = some j → K (.inl (some (.ref (A 16 j)))) H) (h0 : ix v (s_nJ σ) = none → K (.inr 2) H) : CRd TTv E (d + 7) mX4_jobNumbered [.ref (A 0 0), .int v] H c n K := by
  refine crd rfl ?_
  show Ev E (d + 6) mX4_jobNumbered K 0 [.ref (A 0 0), .int v] [] H c n
  have h4 := C.J30
  rcases ix_case (v := v) (n := s_nJ σ) (by omega) with ⟨g1, g2⟩ | ⟨g1, g2, g3⟩ | ⟨j, g1, rfl, g2, g3, g4⟩
  · simp only [eX4_jobNumbered_0, eX4_jobNumbered_1, eX4_jobNumbered_4, eX4_jobNumbered_5, eX4_jobNumbered_6, eX4_jobNumbered_9, eX4_jobNumbered_12, eX4_jobNumbered_15, isA_r, isA_n, isI_i, isF_f, isL_l, is1_i, is1_r, is1_n, is1_f, true_and, and_true, List.length_cons, List.length_nil, Nat.reduceAdd, Nat.reduceLeDiff, Nat.reduceSub, Option.some.injEq, exists_eq_left', aft_s, aft_n, ite_true, ite_false, if_true, if_false, Nat.zero_le, Nat.le_refl, reduceCtorEq, g1, Nat.le_add_left, hc, hn]
    exact h0 g2
  · simp only [eX4_jobNumbered_0, eX4_jobNumbered_1, eX4_jobNumbered_4, eX4_jobNumbered_5, eX4_jobNumbered_6, eX4_jobNumbered_9, isA_r, isA_n, isI_i, isF_f, isL_l, is1_i, is1_r, is1_n, is1_f, true_and, and_true, List.length_cons, List.length_nil, Nat.reduceAdd, Nat.reduceLeDiff, Nat.reduceSub, Option.some.injEq, exists_eq_left', aft_s, aft_n, ite_true, ite_false, if_true, if_false, Nat.zero_le, Nat.le_refl, reduceCtorEq, g1, ob_of C.top, og1]
    refine ⟨C.lJ, inv0 (k_jSize C ?_)⟩
    simp only [eX4_jobNumbered_12, eX4_jobNumbered_15, isA_r, isA_n, isI_i, isF_f, isL_l, is1_i, is1_r, is1_n, is1_f, true_and, and_true, List.length_cons, List.length_nil, Nat.reduceAdd, Nat.reduceLeDiff, Nat.reduceSub, Option.some.injEq, exists_eq_left', aft_s, aft_n, ite_true, ite_false, if_true, if_false, Nat.zero_le, Nat.le_refl, reduceCtorEq, g2, Nat.le_add_left, hc, hn]
    exact h0 g3
  · simp only [eX4_jobNumbered_0, eX4_jobNumbered_1, eX4_jobNumbered_4, eX4_jobNumbered_5, eX4_jobNumbered_6, eX4_jobNumbered_9, isA_r, isA_n, isI_i, isF_f, isL_l, is1_i, is1_r, is1_n, is1_f, true_and, and_true, List.length_cons, List.length_nil, Nat.reduceAdd, Nat.reduceLeDiff, Nat.reduceSub, Option.some.injEq, exists_eq_left', aft_s, aft_n, ite_true, ite_false, if_true, if_false, Nat.zero_le, Nat.le_refl, reduceCtorEq, g2, ob_of C.top, og1]
    refine ⟨C.lJ, inv0 (k_jSize C ?_)⟩
    simp only [eX4_jobNumbered_12, eX4_jobNumbered_26, eX4_jobNumbered_27, eX4_jobNumbered_30, eX4_jobNumbered_31, isA_r, isA_n, isI_i, isF_f, isL_l, is1_i, is1_r, is1_n, is1_f, true_and, and_true, List.length_cons, List.length_nil, Nat.reduceAdd, Nat.reduceLeDiff, Nat.reduceSub, Option.some.injEq, exists_eq_left', aft_s, aft_n, ite_true, ite_false, if_true, if_false, Nat.zero_le, Nat.le_refl, reduceCtorEq, g3, ob_of C.top, og1]
    refine ⟨C.lJ, inv0 (k_jGet C g1 ?_)⟩
    simp only [eX4_jobNumbered_34, eX4_jobNumbered_37, isA_r, isA_n, isI_i, isF_f, isL_l, is1_i, is1_r, is1_n, is1_f, true_and, and_true, List.length_cons, List.length_nil, Nat.reduceAdd, Nat.reduceLeDiff, Nat.reduceSub, Option.some.injEq, exists_eq_left', aft_s, aft_n, ite_true, ite_false, if_true, if_false, Nat.zero_le, Nat.le_refl, reduceCtorEq, ob_of (C.job g1)]
    exact h1 j g1 g4
theorem k_fro (C : CV E P H0 A σ ho wr H) {s : Nat} (hs : s < s_nS σ) (hc : 1 ≤ c) (hn : 6 ≤ n) (h1 : ∀ j, s_fr σ s = some j → K (.inl (some (.ref (A 16 j)))) H) (h0 : s_fr σ s = none → K (.inr 3) H) : CRd TTv E (d + 7) mX4_jobInFrontOf [.ref (A 13 s)] H c n K := by
  refine crd rfl ?_
  show Ev E (d + 6) mX4_jobInFrontOf K 0 [.ref (A 13 s), .retAddr 0] [] H c n
  cases hf : s_fr σ s with
  | none =>
    simp only [eX4_jobInFrontOf_0, eX4_jobInFrontOf_1, eX4_jobInFrontOf_4, eX4_jobInFrontOf_5, eX4_jobInFrontOf_6, eX4_jobInFrontOf_9, eX4_jobInFrontOf_12, eX4_jobInFrontOf_20, eX4_jobInFrontOf_21, isA_r, isA_n, isI_i, isF_f, isL_l, is1_i, is1_r, is1_n, is1_f, true_and, and_true, List.length_cons, List.length_nil, Nat.reduceAdd, Nat.reduceLeDiff, Nat.reduceSub, Option.some.injEq, exists_eq_left', aft_s, aft_n, ite_true, ite_false, if_true, if_false, Nat.zero_le, Nat.le_refl, reduceCtorEq, ob_of (C.ses hs), sg4, hf, j_n, isA_n, Nat.le_add_left, hc, hn]
    exact h0 hf
  | some j =>
    have e1 : ((.ref (A 16 j) : Value) = .null) = False := eq_false (fun h => nomatch h)
    simp only [eX4_jobInFrontOf_0, eX4_jobInFrontOf_1, eX4_jobInFrontOf_4, eX4_jobInFrontOf_5, eX4_jobInFrontOf_6, eX4_jobInFrontOf_9, eX4_jobInFrontOf_12, eX4_jobInFrontOf_20, eX4_jobInFrontOf_21, isA_r, isA_n, isI_i, isF_f, isL_l, is1_i, is1_r, is1_n, is1_f, true_and, and_true, List.length_cons, List.length_nil, Nat.reduceAdd, Nat.reduceLeDiff, Nat.reduceSub, Option.some.injEq, exists_eq_left', aft_s, aft_n, ite_true, ite_false, if_true, if_false, Nat.zero_le, Nat.le_refl, reduceCtorEq, ob_of (C.ses hs), sg4, j_s hf, isA_r, e1]
    exact h1 j hf
theorem k_cmd {ha ar N : Nat} {l : List Nat} (h : HL H ha ar N l) {v : Int32} (hc : 1 ≤ c) (hn : 6 ≤ n) (h1 : ∀ b, ix v l.length = some b → K (.inl (some (.int (nI (l.getD (l.length - 1 - b) 0))))) H) (h0 : ix v l.length = none → K (.inr 3) H) : CRd TTv E (d + 7) mX4_commandOf [.ref ha, .int v] H c n K := by
  refine crd rfl ?_
  show Ev E (d + 6) mX4_commandOf K 0 [.ref ha, .int v] [] H c n
  obtain ⟨q1, q2, q3, g, q4, q5⟩ := h
  rcases ix_case (v := v) (n := l.length) (by omega) with ⟨g1, g2⟩ | ⟨g1, g2, g3⟩ | ⟨j, g1, rfl, g2, g3, g4⟩
  · simp only [eX4_commandOf_0, eX4_commandOf_1, eX4_commandOf_4, eX4_commandOf_5, eX4_commandOf_6, eX4_commandOf_9, eX4_commandOf_12, isA_r, isA_n, isI_i, isF_f, isL_l, is1_i, is1_r, is1_n, is1_f, true_and, and_true, List.length_cons, List.length_nil, Nat.reduceAdd, Nat.reduceLeDiff, Nat.reduceSub, Option.some.injEq, exists_eq_left', aft_s, aft_n, ite_true, ite_false, if_true, if_false, Nat.zero_le, Nat.le_refl, reduceCtorEq, g1, Nat.le_add_left, hc, hn]
    exact h0 g2
  · simp only [eX4_commandOf_0, eX4_commandOf_1, eX4_commandOf_4, eX4_commandOf_5, eX4_commandOf_6, eX4_commandOf_9, eX4_commandOf_12, isA_r, isA_n, isI_i, isF_f, isL_l, is1_i, is1_r, is1_n, is1_f, true_and, and_true, List.length_cons, List.length_nil, Nat.reduceAdd, Nat.reduceLeDiff, Nat.reduceSub, Option.some.injEq, exists_eq_left', aft_s, aft_n, ite_true, ite_false, if_true, if_false, Nat.zero_le, Nat.le_refl, reduceCtorEq, g1, ob_of q1, hg1, g2, Nat.le_add_left, hc, hn]
    exact h0 g3
  · have e1 : nI l.length - 1 - nI j = nI (l.length - 1 - j) := by
      rw [show (1 : Int32) = nI 1 from rfl, pk_sub (by omega), pk_sub (by omega)]
    simp only [eX4_commandOf_0, eX4_commandOf_1, eX4_commandOf_4, eX4_commandOf_5, eX4_commandOf_6, eX4_commandOf_9, eX4_commandOf_12, eX4_commandOf_15, eX4_commandOf_23, eX4_commandOf_24, eX4_commandOf_27, eX4_commandOf_28, eX4_commandOf_31, eX4_commandOf_32, isA_r, isA_n, isI_i, isF_f, isL_l, is1_i, is1_r, is1_n, is1_f, true_and, and_true, List.length_cons, List.length_nil, Nat.reduceAdd, Nat.reduceLeDiff, Nat.reduceSub, Option.some.injEq, exists_eq_left', aft_s, aft_n, ite_true, ite_false, if_true, if_false, Nat.zero_le, Nat.le_refl, reduceCtorEq, g2, g3, ob_of q1, hg0, hg1]
    simp only [eX4_commandOf_33, eX4_commandOf_34, isA_r, isA_n, isI_i, isF_f, isL_l, is1_i, is1_r, is1_n, is1_f, true_and, and_true, List.length_cons, List.length_nil, Nat.reduceAdd, Nat.reduceLeDiff, Nat.reduceSub, Option.some.injEq, exists_eq_left', aft_s, aft_n, ite_true, ite_false, if_true, if_false, Nat.zero_le, Nat.le_refl, reduceCtorEq]
    rw [e1]
    have e2 := q5 (l.length - 1 - j) (by omega)
    simp only [eX4_commandOf_35, eX4_commandOf_36, isA_r, isA_n, isI_i, isF_f, isL_l, is1_i, is1_r, is1_n, is1_f, true_and, and_true, List.length_cons, List.length_nil, Nat.reduceAdd, Nat.reduceLeDiff, Nat.reduceSub, Option.some.injEq, exists_eq_left', aft_s, aft_n, ite_true, ite_false, if_true, if_false, Nat.zero_le, Nat.le_refl, reduceCtorEq, rdI_of q4, inB_nI (show l.length - 1 - j < N by omega) (by omega), nI_clamp (show l.length - 1 - j < 2 ^ 31 by omega), e2]
    exact h1 j g4
theorem k_lock {v : Int32} (hc : 1 ≤ c) (hn : 6 ≤ n) (h1 : ∀ l, l < 6 → v = nI l → ix v 6 = some l → K (.inl none) H) (h0 : ix v 6 = none → K (.inr 4) H) : CRd TTv E (d + 7) mX4_refuseNoLock [.int v] H c n K := by
  refine crd rfl ?_
  show Ev E (d + 6) mX4_refuseNoLock K 0 [.int v] [] H c n
  rcases ix_case (v := v) (n := 6) (by omega) with ⟨g1, g2⟩ | ⟨g1, g2, g3⟩ | ⟨j, g1, rfl, g2, g3, g4⟩
  · simp only [eX4_refuseNoLock_0, eX4_refuseNoLock_1, eX4_refuseNoLock_4, eX4_refuseNoLock_5, eX4_refuseNoLock_7, eX4_refuseNoLock_10, isA_r, isA_n, isI_i, isF_f, isL_l, is1_i, is1_r, is1_n, is1_f, true_and, and_true, List.length_cons, List.length_nil, Nat.reduceAdd, Nat.reduceLeDiff, Nat.reduceSub, Option.some.injEq, exists_eq_left', aft_s, aft_n, ite_true, ite_false, if_true, if_false, Nat.zero_le, Nat.le_refl, reduceCtorEq, g1, Nat.le_add_left, hc, hn]
    exact h0 g2
  · have g2' : (v < 6) = False := eq_false g2
    simp only [eX4_refuseNoLock_0, eX4_refuseNoLock_1, eX4_refuseNoLock_4, eX4_refuseNoLock_5, eX4_refuseNoLock_7, eX4_refuseNoLock_10, isA_r, isA_n, isI_i, isF_f, isL_l, is1_i, is1_r, is1_n, is1_f, true_and, and_true, List.length_cons, List.length_nil, Nat.reduceAdd, Nat.reduceLeDiff, Nat.reduceSub, Option.some.injEq, exists_eq_left', aft_s, aft_n, ite_true, ite_false, if_true, if_false, Nat.zero_le, Nat.le_refl, reduceCtorEq, g1, g2', Nat.le_add_left, hc, hn]
    exact h0 g3
  · have g3' : (nI j < 6) = True := eq_true g3
    simp only [eX4_refuseNoLock_0, eX4_refuseNoLock_1, eX4_refuseNoLock_4, eX4_refuseNoLock_5, eX4_refuseNoLock_7, eX4_refuseNoLock_10, eX4_refuseNoLock_13, eX4_refuseNoLock_21, isA_r, isA_n, isI_i, isF_f, isL_l, is1_i, is1_r, is1_n, is1_f, true_and, and_true, List.length_cons, List.length_nil, Nat.reduceAdd, Nat.reduceLeDiff, Nat.reduceSub, Option.some.injEq, exists_eq_left', aft_s, aft_n, ite_true, ite_false, if_true, if_false, Nat.zero_le, Nat.le_refl, reduceCtorEq, g2, g3']
    exact h1 j g1 rfl g4
theorem k_entry (C : CV E P H0 A σ ho wr H) {v : Int32} (hlen : (s_jn σ).length ≤ 16384) (hc : 1 ≤ c) (hn : 6 ≤ n) (h1 : ∀ e, e < (s_jn σ).length → v = nI e → ix v (s_jn σ).length = some e → K (.inl none) H) (h0 : ix v (s_jn σ).length = none → K (.inr 3) H) : CRd TTv E (d + 7) mX4_refuseNoEntry [.ref (A 0 0), .int v] H c n K := by
  refine crd rfl ?_
  show Ev E (d + 6) mX4_refuseNoEntry K 0 [.ref (A 0 0), .int v] [] H c n
  obtain ⟨Z, X, C, -⟩ := C
  rcases ix_case (v := v) (n := (s_jn σ).length) (by omega) with ⟨g1, g2⟩ | ⟨g1, g2, g3⟩ | ⟨j, g1, rfl, g2, g3, g4⟩
  · simp only [eX4_refuseNoEntry_0, eX4_refuseNoEntry_1, eX4_refuseNoEntry_4, eX4_refuseNoEntry_5, eX4_refuseNoEntry_6, eX4_refuseNoEntry_9, eX4_refuseNoEntry_12, eX4_refuseNoEntry_15, isA_r, isA_n, isI_i, isF_f, isL_l, is1_i, is1_r, is1_n, is1_f, true_and, and_true, List.length_cons, List.length_nil, Nat.reduceAdd, Nat.reduceLeDiff, Nat.reduceSub, Option.some.injEq, exists_eq_left', aft_s, aft_n, ite_true, ite_false, if_true, if_false, Nat.zero_le, Nat.le_refl, reduceCtorEq, g1, Nat.le_add_left, hc, hn]
    exact h0 g2
  · simp only [eX4_refuseNoEntry_0, eX4_refuseNoEntry_1, eX4_refuseNoEntry_4, eX4_refuseNoEntry_5, eX4_refuseNoEntry_6, eX4_refuseNoEntry_9, eX4_refuseNoEntry_12, eX4_refuseNoEntry_15, isA_r, isA_n, isI_i, isF_f, isL_l, is1_i, is1_r, is1_n, is1_f, true_and, and_true, List.length_cons, List.length_nil, Nat.reduceAdd, Nat.reduceLeDiff, Nat.reduceSub, Option.some.injEq, exists_eq_left', aft_s, aft_n, ite_true, ite_false, if_true, if_false, Nat.zero_le, Nat.le_refl, reduceCtorEq, g1, ob_of C.top, og5, ob_of C.jou, ng2, g2, Nat.le_add_left, hc, hn]
    exact h0 g3
  · simp only [eX4_refuseNoEntry_0, eX4_refuseNoEntry_1, eX4_refuseNoEntry_4, eX4_refuseNoEntry_5, eX4_refuseNoEntry_6, eX4_refuseNoEntry_9, eX4_refuseNoEntry_12, eX4_refuseNoEntry_15, eX4_refuseNoEntry_18, eX4_refuseNoEntry_26, isA_r, isA_n, isI_i, isF_f, isL_l, is1_i, is1_r, is1_n, is1_f, true_and, and_true, List.length_cons, List.length_nil, Nat.reduceAdd, Nat.reduceLeDiff, Nat.reduceSub, Option.some.injEq, exists_eq_left', aft_s, aft_n, ite_true, ite_false, if_true, if_false, Nat.zero_le, Nat.le_refl, reduceCtorEq, g2, ob_of C.top, og5, ob_of C.jou, ng2, g3]
    exact h1 j g1 rfl g4
end C12
