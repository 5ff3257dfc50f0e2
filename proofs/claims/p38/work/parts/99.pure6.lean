/-! a start, as the law asks of it -/
section SPEC3
variable {σ : Sg} {fw : Nat → Nat} {T : Nat}
theorem rem_nd {s x : Nat} : s_nd (rememberF σ s x) = s_nd σ ∧ s_hi (rememberF σ s x) = upN (s_hi σ) s (fitHi (s_hi σ s) ++ [x]) := by
  by_cases h : s_pv σ s = false
  · rw [rem_f h]; unfold putHi; simp only [g_nS_nS, g_nS_nJ, g_nS_wk, g_nS_pv, g_nS_dr, g_nS_fr, g_nS_pk, g_nS_hi, g_nS_cm, g_nS_se, g_nS_lf, g_nS_nd, g_nS_st, g_nS_hl, g_nS_od, g_nS_jn, g_nJ_nS, g_nJ_nJ, g_nJ_wk, g_nJ_pv, g_nJ_dr, g_nJ_fr, g_nJ_pk, g_nJ_hi, g_nJ_cm, g_nJ_se, g_nJ_lf, g_nJ_nd, g_nJ_st, g_nJ_hl, g_nJ_od, g_nJ_jn, g_wk_nS, g_wk_nJ, g_wk_wk, g_wk_pv, g_wk_dr, g_wk_fr, g_wk_pk, g_wk_hi, g_wk_cm, g_wk_se, g_wk_lf, g_wk_nd, g_wk_st, g_wk_hl, g_wk_od, g_wk_jn, g_pv_nS, g_pv_nJ, g_pv_wk, g_pv_pv, g_pv_dr, g_pv_fr, g_pv_pk, g_pv_hi, g_pv_cm, g_pv_se, g_pv_lf, g_pv_nd, g_pv_st, g_pv_hl, g_pv_od, g_pv_jn, g_dr_nS, g_dr_nJ, g_dr_wk, g_dr_pv, g_dr_dr, g_dr_fr, g_dr_pk, g_dr_hi, g_dr_cm, g_dr_se, g_dr_lf, g_dr_nd, g_dr_st, g_dr_hl, g_dr_od, g_dr_jn, g_fr_nS, g_fr_nJ, g_fr_wk, g_fr_pv, g_fr_dr, g_fr_fr, g_fr_pk, g_fr_hi, g_fr_cm, g_fr_se, g_fr_lf, g_fr_nd, g_fr_st, g_fr_hl, g_fr_od, g_fr_jn, g_pk_nS, g_pk_nJ, g_pk_wk, g_pk_pv, g_pk_dr, g_pk_fr, g_pk_pk, g_pk_hi, g_pk_cm, g_pk_se, g_pk_lf, g_pk_nd, g_pk_st, g_pk_hl, g_pk_od, g_pk_jn, g_hi_nS, g_hi_nJ, g_hi_wk, g_hi_pv, g_hi_dr, g_hi_fr, g_hi_pk, g_hi_hi, g_hi_cm, g_hi_se, g_hi_lf, g_hi_nd, g_hi_st, g_hi_hl, g_hi_od, g_hi_jn, g_cm_nS, g_cm_nJ, g_cm_wk, g_cm_pv, g_cm_dr, g_cm_fr, g_cm_pk, g_cm_hi, g_cm_cm, g_cm_se, g_cm_lf, g_cm_nd, g_cm_st, g_cm_hl, g_cm_od, g_cm_jn, g_se_nS, g_se_nJ, g_se_wk, g_se_pv, g_se_dr, g_se_fr, g_se_pk, g_se_hi, g_se_cm, g_se_se, g_se_lf, g_se_nd, g_se_st, g_se_hl, g_se_od, g_se_jn, g_lf_nS, g_lf_nJ, g_lf_wk, g_lf_pv, g_lf_dr, g_lf_fr, g_lf_pk, g_lf_hi, g_lf_cm, g_lf_se, g_lf_lf, g_lf_nd, g_lf_st, g_lf_hl, g_lf_od, g_lf_jn, g_nd_nS, g_nd_nJ, g_nd_wk, g_nd_pv, g_nd_dr, g_nd_fr, g_nd_pk, g_nd_hi, g_nd_cm, g_nd_se, g_nd_lf, g_nd_nd, g_nd_st, g_nd_hl, g_nd_od, g_nd_jn, g_st_nS, g_st_nJ, g_st_wk, g_st_pv, g_st_dr, g_st_fr, g_st_pk, g_st_hi, g_st_cm, g_st_se, g_st_lf, g_st_nd, g_st_st, g_st_hl, g_st_od, g_st_jn, g_hl_nS, g_hl_nJ, g_hl_wk, g_hl_pv, g_hl_dr, g_hl_fr, g_hl_pk, g_hl_hi, g_hl_cm, g_hl_se, g_hl_lf, g_hl_nd, g_hl_st, g_hl_hl, g_hl_od, g_hl_jn, g_od_nS, g_od_nJ, g_od_wk, g_od_pv, g_od_dr, g_od_fr, g_od_pk, g_od_hi, g_od_cm, g_od_se, g_od_lf, g_od_nd, g_od_st, g_od_hl, g_od_od, g_od_jn, g_jn_nS, g_jn_nJ, g_jn_wk, g_jn_pv, g_jn_dr, g_jn_fr, g_jn_pk, g_jn_hi, g_jn_cm, g_jn_se, g_jn_lf, g_jn_nd, g_jn_st, g_jn_hl, g_jn_od, g_jn_jn, and_self]
  · rw [rem_t h]; unfold putHi; simp only [g_nS_nS, g_nS_nJ, g_nS_wk, g_nS_pv, g_nS_dr, g_nS_fr, g_nS_pk, g_nS_hi, g_nS_cm, g_nS_se, g_nS_lf, g_nS_nd, g_nS_st, g_nS_hl, g_nS_od, g_nS_jn, g_nJ_nS, g_nJ_nJ, g_nJ_wk, g_nJ_pv, g_nJ_dr, g_nJ_fr, g_nJ_pk, g_nJ_hi, g_nJ_cm, g_nJ_se, g_nJ_lf, g_nJ_nd, g_nJ_st, g_nJ_hl, g_nJ_od, g_nJ_jn, g_wk_nS, g_wk_nJ, g_wk_wk, g_wk_pv, g_wk_dr, g_wk_fr, g_wk_pk, g_wk_hi, g_wk_cm, g_wk_se, g_wk_lf, g_wk_nd, g_wk_st, g_wk_hl, g_wk_od, g_wk_jn, g_pv_nS, g_pv_nJ, g_pv_wk, g_pv_pv, g_pv_dr, g_pv_fr, g_pv_pk, g_pv_hi, g_pv_cm, g_pv_se, g_pv_lf, g_pv_nd, g_pv_st, g_pv_hl, g_pv_od, g_pv_jn, g_dr_nS, g_dr_nJ, g_dr_wk, g_dr_pv, g_dr_dr, g_dr_fr, g_dr_pk, g_dr_hi, g_dr_cm, g_dr_se, g_dr_lf, g_dr_nd, g_dr_st, g_dr_hl, g_dr_od, g_dr_jn, g_fr_nS, g_fr_nJ, g_fr_wk, g_fr_pv, g_fr_dr, g_fr_fr, g_fr_pk, g_fr_hi, g_fr_cm, g_fr_se, g_fr_lf, g_fr_nd, g_fr_st, g_fr_hl, g_fr_od, g_fr_jn, g_pk_nS, g_pk_nJ, g_pk_wk, g_pk_pv, g_pk_dr, g_pk_fr, g_pk_pk, g_pk_hi, g_pk_cm, g_pk_se, g_pk_lf, g_pk_nd, g_pk_st, g_pk_hl, g_pk_od, g_pk_jn, g_hi_nS, g_hi_nJ, g_hi_wk, g_hi_pv, g_hi_dr, g_hi_fr, g_hi_pk, g_hi_hi, g_hi_cm, g_hi_se, g_hi_lf, g_hi_nd, g_hi_st, g_hi_hl, g_hi_od, g_hi_jn, g_cm_nS, g_cm_nJ, g_cm_wk, g_cm_pv, g_cm_dr, g_cm_fr, g_cm_pk, g_cm_hi, g_cm_cm, g_cm_se, g_cm_lf, g_cm_nd, g_cm_st, g_cm_hl, g_cm_od, g_cm_jn, g_se_nS, g_se_nJ, g_se_wk, g_se_pv, g_se_dr, g_se_fr, g_se_pk, g_se_hi, g_se_cm, g_se_se, g_se_lf, g_se_nd, g_se_st, g_se_hl, g_se_od, g_se_jn, g_lf_nS, g_lf_nJ, g_lf_wk, g_lf_pv, g_lf_dr, g_lf_fr, g_lf_pk, g_lf_hi, g_lf_cm, g_lf_se, g_lf_lf, g_lf_nd, g_lf_st, g_lf_hl, g_lf_od, g_lf_jn, g_nd_nS, g_nd_nJ, g_nd_wk, g_nd_pv, g_nd_dr, g_nd_fr, g_nd_pk, g_nd_hi, g_nd_cm, g_nd_se, g_nd_lf, g_nd_nd, g_nd_st, g_nd_hl, g_nd_od, g_nd_jn, g_st_nS, g_st_nJ, g_st_wk, g_st_pv, g_st_dr, g_st_fr, g_st_pk, g_st_hi, g_st_cm, g_st_se, g_st_lf, g_st_nd, g_st_st, g_st_hl, g_st_od, g_st_jn, g_hl_nS, g_hl_nJ, g_hl_wk, g_hl_pv, g_hl_dr, g_hl_fr, g_hl_pk, g_hl_hi, g_hl_cm, g_hl_se, g_hl_lf, g_hl_nd, g_hl_st, g_hl_hl, g_hl_od, g_hl_jn, g_od_nS, g_od_nJ, g_od_wk, g_od_pv, g_od_dr, g_od_fr, g_od_pk, g_od_hi, g_od_cm, g_od_se, g_od_lf, g_od_nd, g_od_st, g_od_hl, g_od_od, g_od_jn, g_jn_nS, g_jn_nJ, g_jn_wk, g_jn_pv, g_jn_dr, g_jn_fr, g_jn_pk, g_jn_hi, g_jn_cm, g_jn_se, g_jn_lf, g_jn_nd, g_jn_st, g_jn_hl, g_jn_od, g_jn_jn, and_self]
theorem bgn_all {τ : Sg} {s w l : Nat} {f : Nat → Option Nat} : s_nS (bgn τ s w l f) = s_nS τ ∧ s_nJ (bgn τ s w l f) = s_nJ τ + 1 ∧ s_se (bgn τ s w l f) = upN (s_se τ) (s_nJ τ) s ∧ s_nd (bgn τ s w l f) = upN (s_nd τ) (s_nJ τ) l ∧ s_hi (bgn τ s w l f) = s_hi τ ∧ s_fr (bgn τ s w l f) = f := by
  unfold bgn
  simp only [g_nS_nS, g_nS_nJ, g_nS_wk, g_nS_pv, g_nS_dr, g_nS_fr, g_nS_pk, g_nS_hi, g_nS_cm, g_nS_se, g_nS_lf, g_nS_nd, g_nS_st, g_nS_hl, g_nS_od, g_nS_jn, g_nJ_nS, g_nJ_nJ, g_nJ_wk, g_nJ_pv, g_nJ_dr, g_nJ_fr, g_nJ_pk, g_nJ_hi, g_nJ_cm, g_nJ_se, g_nJ_lf, g_nJ_nd, g_nJ_st, g_nJ_hl, g_nJ_od, g_nJ_jn, g_wk_nS, g_wk_nJ, g_wk_wk, g_wk_pv, g_wk_dr, g_wk_fr, g_wk_pk, g_wk_hi, g_wk_cm, g_wk_se, g_wk_lf, g_wk_nd, g_wk_st, g_wk_hl, g_wk_od, g_wk_jn, g_pv_nS, g_pv_nJ, g_pv_wk, g_pv_pv, g_pv_dr, g_pv_fr, g_pv_pk, g_pv_hi, g_pv_cm, g_pv_se, g_pv_lf, g_pv_nd, g_pv_st, g_pv_hl, g_pv_od, g_pv_jn, g_dr_nS, g_dr_nJ, g_dr_wk, g_dr_pv, g_dr_dr, g_dr_fr, g_dr_pk, g_dr_hi, g_dr_cm, g_dr_se, g_dr_lf, g_dr_nd, g_dr_st, g_dr_hl, g_dr_od, g_dr_jn, g_fr_nS, g_fr_nJ, g_fr_wk, g_fr_pv, g_fr_dr, g_fr_fr, g_fr_pk, g_fr_hi, g_fr_cm, g_fr_se, g_fr_lf, g_fr_nd, g_fr_st, g_fr_hl, g_fr_od, g_fr_jn, g_pk_nS, g_pk_nJ, g_pk_wk, g_pk_pv, g_pk_dr, g_pk_fr, g_pk_pk, g_pk_hi, g_pk_cm, g_pk_se, g_pk_lf, g_pk_nd, g_pk_st, g_pk_hl, g_pk_od, g_pk_jn, g_hi_nS, g_hi_nJ, g_hi_wk, g_hi_pv, g_hi_dr, g_hi_fr, g_hi_pk, g_hi_hi, g_hi_cm, g_hi_se, g_hi_lf, g_hi_nd, g_hi_st, g_hi_hl, g_hi_od, g_hi_jn, g_cm_nS, g_cm_nJ, g_cm_wk, g_cm_pv, g_cm_dr, g_cm_fr, g_cm_pk, g_cm_hi, g_cm_cm, g_cm_se, g_cm_lf, g_cm_nd, g_cm_st, g_cm_hl, g_cm_od, g_cm_jn, g_se_nS, g_se_nJ, g_se_wk, g_se_pv, g_se_dr, g_se_fr, g_se_pk, g_se_hi, g_se_cm, g_se_se, g_se_lf, g_se_nd, g_se_st, g_se_hl, g_se_od, g_se_jn, g_lf_nS, g_lf_nJ, g_lf_wk, g_lf_pv, g_lf_dr, g_lf_fr, g_lf_pk, g_lf_hi, g_lf_cm, g_lf_se, g_lf_lf, g_lf_nd, g_lf_st, g_lf_hl, g_lf_od, g_lf_jn, g_nd_nS, g_nd_nJ, g_nd_wk, g_nd_pv, g_nd_dr, g_nd_fr, g_nd_pk, g_nd_hi, g_nd_cm, g_nd_se, g_nd_lf, g_nd_nd, g_nd_st, g_nd_hl, g_nd_od, g_nd_jn, g_st_nS, g_st_nJ, g_st_wk, g_st_pv, g_st_dr, g_st_fr, g_st_pk, g_st_hi, g_st_cm, g_st_se, g_st_lf, g_st_nd, g_st_st, g_st_hl, g_st_od, g_st_jn, g_hl_nS, g_hl_nJ, g_hl_wk, g_hl_pv, g_hl_dr, g_hl_fr, g_hl_pk, g_hl_hi, g_hl_cm, g_hl_se, g_hl_lf, g_hl_nd, g_hl_st, g_hl_hl, g_hl_od, g_hl_jn, g_od_nS, g_od_nJ, g_od_wk, g_od_pv, g_od_dr, g_od_fr, g_od_pk, g_od_hi, g_od_cm, g_od_se, g_od_lf, g_od_nd, g_od_st, g_od_hl, g_od_od, g_od_jn, g_jn_nS, g_jn_nJ, g_jn_wk, g_jn_pv, g_jn_dr, g_jn_fr, g_jn_pk, g_jn_hi, g_jn_cm, g_jn_se, g_jn_lf, g_jn_nd, g_jn_st, g_jn_hl, g_jn_od, g_jn_jn, and_self]
theorem sta_all {s x w l : Nat} {f : Bool} : s_nS (started σ s x w l f) = s_nS σ ∧ s_nJ (started σ s x w l f) = s_nJ σ + 1 ∧ s_se (started σ s x w l f) = upN (s_se σ) (s_nJ σ) s ∧ s_nd (started σ s x w l f) = upN (s_nd σ) (s_nJ σ) l ∧ s_hi (started σ s x w l f) = upN (s_hi σ) s (fitHi (s_hi σ s) ++ [x]) ∧ (f = true → s_fr (started σ s x w l f) s = some (s_nJ σ)) := by
  obtain ⟨k1, k2, k3, k4⟩ := rem_keep2 (σ := σ) (s := s) (x := x)
  obtain ⟨k5, k6⟩ := rem_nd (σ := σ) (s := s) (x := x)
  rw [started_eq]
  have S := same_looks (σ := bgn (rememberF σ s x) s w l (if f = false then s_fr σ else upN (s_fr σ) s (some (s_nJ σ))))
  have B := bgn_all (τ := rememberF σ s x) (s := s) (w := w) (l := l) (f := if f = false then s_fr σ else upN (s_fr σ) s (some (s_nJ σ)))
  refine ⟨?_, ?_, ?_, ?_, ?_, fun hf => ?_⟩
  · rw [S.1, B.1, k1]
  · rw [S.2.1, B.2.1, k2]
  · rw [S.2.2.2.2.2.2.2.1, B.2.2.1, k3, k2]
  · rw [S.2.2.2.2.2.2.2.2.2, B.2.2.2.1, k5, k2]
  · rw [S.2.2.2.2.2.1, B.2.2.2.2.1, k6]
  · rw [lk_fr, B.2.2.2.2.2, if_neg (by rw [hf]; decide), upN_s]
theorem p_st_start (G : Good σ T) (I : Iv σ fw) {v x w l : Int32} {f : Bool} : ((hx [-77, -78, -76, -79] (a_start σ v x w l f) = -77 ∨ hx [-77, -78, -76, -79] (a_start σ v x w l f) = -78 ∨ hx [-77, -78, -76, -79] (a_start σ v x w l f) = -76 ∨ hx [-77, -78, -76, -79] (a_start σ v x w l f) = -79) ∧ (a_start σ v x w l f).2.2 = σ) ∨
    ∃ s xx ww ll, (s < s_nS σ ∧ v = nI s) ∧ (xx < 100 ∧ x = nI xx) ∧ (ww ≤ 50 ∧ w = nI ww) ∧ (ll < 64 ∧ l = nI ll) ∧ s_nJ σ < 30 ∧ hx [-77, -78, -76, -79] (a_start σ v x w l f) = nI (s_nJ σ) ∧ (a_start σ v x w l f).2.2 = started σ s xx ww ll f ∧ Iv (started σ s xx ww ll f) (upN fw (s_nJ σ) ww) := by
  have h4 := G.1.1.1
  have h30 := G.1.1.2
  unfold a_start
  split
  · exact Or.inl ⟨Or.inl rfl, rfl⟩
  · next s es =>
    obtain ⟨hs, hv⟩ := ix_some es (by omega)
    split
    · exact Or.inl ⟨Or.inr (Or.inl rfl), rfl⟩
    · next xx ex =>
      obtain ⟨hxx, hvx⟩ := ix_some ex (by omega)
      split
      · exact Or.inl ⟨Or.inr (Or.inl rfl), rfl⟩
      · next hw =>
        split
        · exact Or.inl ⟨Or.inr (Or.inl rfl), rfl⟩
        · next ll el =>
          obtain ⟨hll, hvl⟩ := ix_some el (by omega)
          split
          · exact Or.inl ⟨Or.inr (Or.inr (Or.inl rfl)), rfl⟩
          · split
            · exact Or.inl ⟨Or.inr (Or.inr (Or.inr rfl)), rfl⟩
            · next hJ =>
              obtain ⟨k, k1, k2, rfl⟩ := w_in (fun h => hw (Or.inl h)) (fun h => hw (Or.inr h))
              have ek : (nI k).toNatClampNeg = k := nI_clamp (by omega)
              refine Or.inr ⟨s, xx, k, ll, ⟨hs, hv⟩, ⟨hxx, hvx⟩, ⟨k1, rfl⟩, ⟨hll, hvl⟩, by omega, rfl, by rw [ek], ?_⟩
              exact iv_started G I hs hxx k2 k1 (by omega) (by omega)
/-- the histories behind it -/
theorem fit_len {l : List Nat} (h : l.length ≤ 8) (x : Nat) : (fitHi l ++ [x]).length = if l.length + 1 < 8 then l.length + 1 else 8 := by
  unfold fitHi
  rw [List.length_append, List.length_singleton]
  split
  · next h8 => rw [List.length_tail]; rw [if_neg (by omega)]; omega
  · split <;> omega
theorem v_last {τ : Sg} {s x : Nat} {l : List Nat} (hs : s < s_nS τ) (h4 : s_nS τ ≤ 4) (hl : (l ++ [x]).length ≤ 8) (e : s_hi τ s = l ++ [x]) : hx [-77, -75] (q_commandAt τ (nI s) 0) = nI x := by
  unfold q_commandAt
  rw [ix_s hs (by omega)]
  dsimp only
  rw [e]
  have h0 : ix 0 (l ++ [x]).length = some 0 := ix_s (s := 0) (n := (l ++ [x]).length) (by simp) (by omega)
  rw [h0]
  dsimp only
  have h1 : (l ++ [x]).getD ((l ++ [x]).length - 1 - 0) 0 = x := by
    have : (l ++ [x]).length - 1 - 0 = l.length := by simp
    rw [this, List.getD_eq_getElem?_getD, List.getElem?_append_right (Nat.le_refl _), Nat.sub_self]
    rfl
  rw [h1]
  rfl
theorem v_search {τ : Sg} {s x : Nat} {l : List Nat} (hs : s < s_nS τ) (h4 : s_nS τ ≤ 4) (hx' : x < 100) (e : s_hi τ s = l ++ [x]) : hx [-77, -78, -75] (a_search τ (nI s) (nI x) (nI x)) = nI x := by
  unfold a_search
  rw [ix_s hs (by omega)]
  dsimp only
  have hb : badR (nI x) (nI x) = false := by
    unfold badR
    have h1 : ¬ nI x < 0 := nI_pos (by omega)
    have h2 : ¬ nI x < nI x := nI_nlt (Nat.le_refl _) (by omega)
    have h3 : ¬ 99 < nI x := nI_nlt (b := x) (a := 99) (by omega) (by omega)
    simp [h1, h2, h3]
  rw [hb]
  dsimp only
  unfold sres lastIn
  rw [e]
  have h2 : ¬ nI x < nI x := nI_nlt (Nat.le_refl _) (by omega)
  have hf : (l ++ [x]).reverse.find? (inR (nI x) (nI x)) = some x := by
    rw [List.reverse_append, List.reverse_singleton, List.singleton_append, List.find?_cons]
    have : inR (nI x) (nI x) x = true := by unfold inR; simp [h2]
    rw [this]
  rw [hf]
  rfl
end SPEC3
