theorem sta_f {σ : Sg} {s w l : Nat} : startF σ s w l false = start0 σ s w l := if_pos rfl
theorem sta_t {σ : Sg} {s w l : Nat} : startF σ s w l true = w_fr (start0 σ s w l) (upN (s_fr σ) s (some (s_nJ σ))) := if_neg (by decide)
theorem rem_f {σ : Sg} {s x : Nat} (h : s_pv σ s = false) : rememberF σ s x = w_cm (putHi σ s (fitHi (s_hi σ s) ++ [x])) (fitCm (cutCm σ x) ++ [x]) := if_pos h
theorem rem_t {σ : Sg} {s x : Nat} (h : ¬ s_pv σ s = false) : rememberF σ s x = putHi σ s (fitHi (s_hi σ s) ++ [x]) := if_neg h
theorem started_eq {σ : Sg} {s x w l : Nat} {f : Bool} : started σ s x w l f = looksF (bgn (rememberF σ s x) s w l (if f = false then s_fr σ else upN (s_fr σ) s (some (s_nJ σ)))) := by
  unfold started
  congr 1
  have hp : s_pv (startF σ s w l f) = s_pv σ := sta_keep.2.2.2.2.2.2.2
  by_cases h : s_pv σ s = false
  · rw [rem_f h, rem_f (σ := startF σ s w l f) (by rw [hp]; exact h)]
    cases f with
    | false =>
      rw [sta_f, if_pos rfl]
      unfold comesF bgn putHi cutCm start0
      apply sg_ext <;> simp only [g_nS_nS, g_nS_nJ, g_nS_wk, g_nS_pv, g_nS_dr, g_nS_fr, g_nS_pk, g_nS_hi, g_nS_cm, g_nS_se, g_nS_lf, g_nS_nd, g_nS_st, g_nS_hl, g_nS_od, g_nS_jn, g_nJ_nS, g_nJ_nJ, g_nJ_wk, g_nJ_pv, g_nJ_dr, g_nJ_fr, g_nJ_pk, g_nJ_hi, g_nJ_cm, g_nJ_se, g_nJ_lf, g_nJ_nd, g_nJ_st, g_nJ_hl, g_nJ_od, g_nJ_jn, g_wk_nS, g_wk_nJ, g_wk_wk, g_wk_pv, g_wk_dr, g_wk_fr, g_wk_pk, g_wk_hi, g_wk_cm, g_wk_se, g_wk_lf, g_wk_nd, g_wk_st, g_wk_hl, g_wk_od, g_wk_jn, g_pv_nS, g_pv_nJ, g_pv_wk, g_pv_pv, g_pv_dr, g_pv_fr, g_pv_pk, g_pv_hi, g_pv_cm, g_pv_se, g_pv_lf, g_pv_nd, g_pv_st, g_pv_hl, g_pv_od, g_pv_jn, g_dr_nS, g_dr_nJ, g_dr_wk, g_dr_pv, g_dr_dr, g_dr_fr, g_dr_pk, g_dr_hi, g_dr_cm, g_dr_se, g_dr_lf, g_dr_nd, g_dr_st, g_dr_hl, g_dr_od, g_dr_jn, g_fr_nS, g_fr_nJ, g_fr_wk, g_fr_pv, g_fr_dr, g_fr_fr, g_fr_pk, g_fr_hi, g_fr_cm, g_fr_se, g_fr_lf, g_fr_nd, g_fr_st, g_fr_hl, g_fr_od, g_fr_jn, g_pk_nS, g_pk_nJ, g_pk_wk, g_pk_pv, g_pk_dr, g_pk_fr, g_pk_pk, g_pk_hi, g_pk_cm, g_pk_se, g_pk_lf, g_pk_nd, g_pk_st, g_pk_hl, g_pk_od, g_pk_jn, g_hi_nS, g_hi_nJ, g_hi_wk, g_hi_pv, g_hi_dr, g_hi_fr, g_hi_pk, g_hi_hi, g_hi_cm, g_hi_se, g_hi_lf, g_hi_nd, g_hi_st, g_hi_hl, g_hi_od, g_hi_jn, g_cm_nS, g_cm_nJ, g_cm_wk, g_cm_pv, g_cm_dr, g_cm_fr, g_cm_pk, g_cm_hi, g_cm_cm, g_cm_se, g_cm_lf, g_cm_nd, g_cm_st, g_cm_hl, g_cm_od, g_cm_jn, g_se_nS, g_se_nJ, g_se_wk, g_se_pv, g_se_dr, g_se_fr, g_se_pk, g_se_hi, g_se_cm, g_se_se, g_se_lf, g_se_nd, g_se_st, g_se_hl, g_se_od, g_se_jn, g_lf_nS, g_lf_nJ, g_lf_wk, g_lf_pv, g_lf_dr, g_lf_fr, g_lf_pk, g_lf_hi, g_lf_cm, g_lf_se, g_lf_lf, g_lf_nd, g_lf_st, g_lf_hl, g_lf_od, g_lf_jn, g_nd_nS, g_nd_nJ, g_nd_wk, g_nd_pv, g_nd_dr, g_nd_fr, g_nd_pk, g_nd_hi, g_nd_cm, g_nd_se, g_nd_lf, g_nd_nd, g_nd_st, g_nd_hl, g_nd_od, g_nd_jn, g_st_nS, g_st_nJ, g_st_wk, g_st_pv, g_st_dr, g_st_fr, g_st_pk, g_st_hi, g_st_cm, g_st_se, g_st_lf, g_st_nd, g_st_st, g_st_hl, g_st_od, g_st_jn, g_hl_nS, g_hl_nJ, g_hl_wk, g_hl_pv, g_hl_dr, g_hl_fr, g_hl_pk, g_hl_hi, g_hl_cm, g_hl_se, g_hl_lf, g_hl_nd, g_hl_st, g_hl_hl, g_hl_od, g_hl_jn, g_od_nS, g_od_nJ, g_od_wk, g_od_pv, g_od_dr, g_od_fr, g_od_pk, g_od_hi, g_od_cm, g_od_se, g_od_lf, g_od_nd, g_od_st, g_od_hl, g_od_od, g_od_jn, g_jn_nS, g_jn_nJ, g_jn_wk, g_jn_pv, g_jn_dr, g_jn_fr, g_jn_pk, g_jn_hi, g_jn_cm, g_jn_se, g_jn_lf, g_jn_nd, g_jn_st, g_jn_hl, g_jn_od, g_jn_jn]
    | true =>
      rw [sta_t, if_neg (show ¬ true = false by decide)]
      unfold comesF bgn putHi cutCm start0
      apply sg_ext <;> simp only [g_nS_nS, g_nS_nJ, g_nS_wk, g_nS_pv, g_nS_dr, g_nS_fr, g_nS_pk, g_nS_hi, g_nS_cm, g_nS_se, g_nS_lf, g_nS_nd, g_nS_st, g_nS_hl, g_nS_od, g_nS_jn, g_nJ_nS, g_nJ_nJ, g_nJ_wk, g_nJ_pv, g_nJ_dr, g_nJ_fr, g_nJ_pk, g_nJ_hi, g_nJ_cm, g_nJ_se, g_nJ_lf, g_nJ_nd, g_nJ_st, g_nJ_hl, g_nJ_od, g_nJ_jn, g_wk_nS, g_wk_nJ, g_wk_wk, g_wk_pv, g_wk_dr, g_wk_fr, g_wk_pk, g_wk_hi, g_wk_cm, g_wk_se, g_wk_lf, g_wk_nd, g_wk_st, g_wk_hl, g_wk_od, g_wk_jn, g_pv_nS, g_pv_nJ, g_pv_wk, g_pv_pv, g_pv_dr, g_pv_fr, g_pv_pk, g_pv_hi, g_pv_cm, g_pv_se, g_pv_lf, g_pv_nd, g_pv_st, g_pv_hl, g_pv_od, g_pv_jn, g_dr_nS, g_dr_nJ, g_dr_wk, g_dr_pv, g_dr_dr, g_dr_fr, g_dr_pk, g_dr_hi, g_dr_cm, g_dr_se, g_dr_lf, g_dr_nd, g_dr_st, g_dr_hl, g_dr_od, g_dr_jn, g_fr_nS, g_fr_nJ, g_fr_wk, g_fr_pv, g_fr_dr, g_fr_fr, g_fr_pk, g_fr_hi, g_fr_cm, g_fr_se, g_fr_lf, g_fr_nd, g_fr_st, g_fr_hl, g_fr_od, g_fr_jn, g_pk_nS, g_pk_nJ, g_pk_wk, g_pk_pv, g_pk_dr, g_pk_fr, g_pk_pk, g_pk_hi, g_pk_cm, g_pk_se, g_pk_lf, g_pk_nd, g_pk_st, g_pk_hl, g_pk_od, g_pk_jn, g_hi_nS, g_hi_nJ, g_hi_wk, g_hi_pv, g_hi_dr, g_hi_fr, g_hi_pk, g_hi_hi, g_hi_cm, g_hi_se, g_hi_lf, g_hi_nd, g_hi_st, g_hi_hl, g_hi_od, g_hi_jn, g_cm_nS, g_cm_nJ, g_cm_wk, g_cm_pv, g_cm_dr, g_cm_fr, g_cm_pk, g_cm_hi, g_cm_cm, g_cm_se, g_cm_lf, g_cm_nd, g_cm_st, g_cm_hl, g_cm_od, g_cm_jn, g_se_nS, g_se_nJ, g_se_wk, g_se_pv, g_se_dr, g_se_fr, g_se_pk, g_se_hi, g_se_cm, g_se_se, g_se_lf, g_se_nd, g_se_st, g_se_hl, g_se_od, g_se_jn, g_lf_nS, g_lf_nJ, g_lf_wk, g_lf_pv, g_lf_dr, g_lf_fr, g_lf_pk, g_lf_hi, g_lf_cm, g_lf_se, g_lf_lf, g_lf_nd, g_lf_st, g_lf_hl, g_lf_od, g_lf_jn, g_nd_nS, g_nd_nJ, g_nd_wk, g_nd_pv, g_nd_dr, g_nd_fr, g_nd_pk, g_nd_hi, g_nd_cm, g_nd_se, g_nd_lf, g_nd_nd, g_nd_st, g_nd_hl, g_nd_od, g_nd_jn, g_st_nS, g_st_nJ, g_st_wk, g_st_pv, g_st_dr, g_st_fr, g_st_pk, g_st_hi, g_st_cm, g_st_se, g_st_lf, g_st_nd, g_st_st, g_st_hl, g_st_od, g_st_jn, g_hl_nS, g_hl_nJ, g_hl_wk, g_hl_pv, g_hl_dr, g_hl_fr, g_hl_pk, g_hl_hi, g_hl_cm, g_hl_se, g_hl_lf, g_hl_nd, g_hl_st, g_hl_hl, g_hl_od, g_hl_jn, g_od_nS, g_od_nJ, g_od_wk, g_od_pv, g_od_dr, g_od_fr, g_od_pk, g_od_hi, g_od_cm, g_od_se, g_od_lf, g_od_nd, g_od_st, g_od_hl, g_od_od, g_od_jn, g_jn_nS, g_jn_nJ, g_jn_wk, g_jn_pv, g_jn_dr, g_jn_fr, g_jn_pk, g_jn_hi, g_jn_cm, g_jn_se, g_jn_lf, g_jn_nd, g_jn_st, g_jn_hl, g_jn_od, g_jn_jn]
  · rw [rem_t h, rem_t (σ := startF σ s w l f) (by rw [hp]; exact h)]
    cases f with
    | false =>
      rw [sta_f, if_pos rfl]
      unfold comesF bgn putHi start0
      apply sg_ext <;> simp only [g_nS_nS, g_nS_nJ, g_nS_wk, g_nS_pv, g_nS_dr, g_nS_fr, g_nS_pk, g_nS_hi, g_nS_cm, g_nS_se, g_nS_lf, g_nS_nd, g_nS_st, g_nS_hl, g_nS_od, g_nS_jn, g_nJ_nS, g_nJ_nJ, g_nJ_wk, g_nJ_pv, g_nJ_dr, g_nJ_fr, g_nJ_pk, g_nJ_hi, g_nJ_cm, g_nJ_se, g_nJ_lf, g_nJ_nd, g_nJ_st, g_nJ_hl, g_nJ_od, g_nJ_jn, g_wk_nS, g_wk_nJ, g_wk_wk, g_wk_pv, g_wk_dr, g_wk_fr, g_wk_pk, g_wk_hi, g_wk_cm, g_wk_se, g_wk_lf, g_wk_nd, g_wk_st, g_wk_hl, g_wk_od, g_wk_jn, g_pv_nS, g_pv_nJ, g_pv_wk, g_pv_pv, g_pv_dr, g_pv_fr, g_pv_pk, g_pv_hi, g_pv_cm, g_pv_se, g_pv_lf, g_pv_nd, g_pv_st, g_pv_hl, g_pv_od, g_pv_jn, g_dr_nS, g_dr_nJ, g_dr_wk, g_dr_pv, g_dr_dr, g_dr_fr, g_dr_pk, g_dr_hi, g_dr_cm, g_dr_se, g_dr_lf, g_dr_nd, g_dr_st, g_dr_hl, g_dr_od, g_dr_jn, g_fr_nS, g_fr_nJ, g_fr_wk, g_fr_pv, g_fr_dr, g_fr_fr, g_fr_pk, g_fr_hi, g_fr_cm, g_fr_se, g_fr_lf, g_fr_nd, g_fr_st, g_fr_hl, g_fr_od, g_fr_jn, g_pk_nS, g_pk_nJ, g_pk_wk, g_pk_pv, g_pk_dr, g_pk_fr, g_pk_pk, g_pk_hi, g_pk_cm, g_pk_se, g_pk_lf, g_pk_nd, g_pk_st, g_pk_hl, g_pk_od, g_pk_jn, g_hi_nS, g_hi_nJ, g_hi_wk, g_hi_pv, g_hi_dr, g_hi_fr, g_hi_pk, g_hi_hi, g_hi_cm, g_hi_se, g_hi_lf, g_hi_nd, g_hi_st, g_hi_hl, g_hi_od, g_hi_jn, g_cm_nS, g_cm_nJ, g_cm_wk, g_cm_pv, g_cm_dr, g_cm_fr, g_cm_pk, g_cm_hi, g_cm_cm, g_cm_se, g_cm_lf, g_cm_nd, g_cm_st, g_cm_hl, g_cm_od, g_cm_jn, g_se_nS, g_se_nJ, g_se_wk, g_se_pv, g_se_dr, g_se_fr, g_se_pk, g_se_hi, g_se_cm, g_se_se, g_se_lf, g_se_nd, g_se_st, g_se_hl, g_se_od, g_se_jn, g_lf_nS, g_lf_nJ, g_lf_wk, g_lf_pv, g_lf_dr, g_lf_fr, g_lf_pk, g_lf_hi, g_lf_cm, g_lf_se, g_lf_lf, g_lf_nd, g_lf_st, g_lf_hl, g_lf_od, g_lf_jn, g_nd_nS, g_nd_nJ, g_nd_wk, g_nd_pv, g_nd_dr, g_nd_fr, g_nd_pk, g_nd_hi, g_nd_cm, g_nd_se, g_nd_lf, g_nd_nd, g_nd_st, g_nd_hl, g_nd_od, g_nd_jn, g_st_nS, g_st_nJ, g_st_wk, g_st_pv, g_st_dr, g_st_fr, g_st_pk, g_st_hi, g_st_cm, g_st_se, g_st_lf, g_st_nd, g_st_st, g_st_hl, g_st_od, g_st_jn, g_hl_nS, g_hl_nJ, g_hl_wk, g_hl_pv, g_hl_dr, g_hl_fr, g_hl_pk, g_hl_hi, g_hl_cm, g_hl_se, g_hl_lf, g_hl_nd, g_hl_st, g_hl_hl, g_hl_od, g_hl_jn, g_od_nS, g_od_nJ, g_od_wk, g_od_pv, g_od_dr, g_od_fr, g_od_pk, g_od_hi, g_od_cm, g_od_se, g_od_lf, g_od_nd, g_od_st, g_od_hl, g_od_od, g_od_jn, g_jn_nS, g_jn_nJ, g_jn_wk, g_jn_pv, g_jn_dr, g_jn_fr, g_jn_pk, g_jn_hi, g_jn_cm, g_jn_se, g_jn_lf, g_jn_nd, g_jn_st, g_jn_hl, g_jn_od, g_jn_jn]
    | true =>
      rw [sta_t, if_neg (show ¬ true = false by decide)]
      unfold comesF bgn putHi start0
      apply sg_ext <;> simp only [g_nS_nS, g_nS_nJ, g_nS_wk, g_nS_pv, g_nS_dr, g_nS_fr, g_nS_pk, g_nS_hi, g_nS_cm, g_nS_se, g_nS_lf, g_nS_nd, g_nS_st, g_nS_hl, g_nS_od, g_nS_jn, g_nJ_nS, g_nJ_nJ, g_nJ_wk, g_nJ_pv, g_nJ_dr, g_nJ_fr, g_nJ_pk, g_nJ_hi, g_nJ_cm, g_nJ_se, g_nJ_lf, g_nJ_nd, g_nJ_st, g_nJ_hl, g_nJ_od, g_nJ_jn, g_wk_nS, g_wk_nJ, g_wk_wk, g_wk_pv, g_wk_dr, g_wk_fr, g_wk_pk, g_wk_hi, g_wk_cm, g_wk_se, g_wk_lf, g_wk_nd, g_wk_st, g_wk_hl, g_wk_od, g_wk_jn, g_pv_nS, g_pv_nJ, g_pv_wk, g_pv_pv, g_pv_dr, g_pv_fr, g_pv_pk, g_pv_hi, g_pv_cm, g_pv_se, g_pv_lf, g_pv_nd, g_pv_st, g_pv_hl, g_pv_od, g_pv_jn, g_dr_nS, g_dr_nJ, g_dr_wk, g_dr_pv, g_dr_dr, g_dr_fr, g_dr_pk, g_dr_hi, g_dr_cm, g_dr_se, g_dr_lf, g_dr_nd, g_dr_st, g_dr_hl, g_dr_od, g_dr_jn, g_fr_nS, g_fr_nJ, g_fr_wk, g_fr_pv, g_fr_dr, g_fr_fr, g_fr_pk, g_fr_hi, g_fr_cm, g_fr_se, g_fr_lf, g_fr_nd, g_fr_st, g_fr_hl, g_fr_od, g_fr_jn, g_pk_nS, g_pk_nJ, g_pk_wk, g_pk_pv, g_pk_dr, g_pk_fr, g_pk_pk, g_pk_hi, g_pk_cm, g_pk_se, g_pk_lf, g_pk_nd, g_pk_st, g_pk_hl, g_pk_od, g_pk_jn, g_hi_nS, g_hi_nJ, g_hi_wk, g_hi_pv, g_hi_dr, g_hi_fr, g_hi_pk, g_hi_hi, g_hi_cm, g_hi_se, g_hi_lf, g_hi_nd, g_hi_st, g_hi_hl, g_hi_od, g_hi_jn, g_cm_nS, g_cm_nJ, g_cm_wk, g_cm_pv, g_cm_dr, g_cm_fr, g_cm_pk, g_cm_hi, g_cm_cm, g_cm_se, g_cm_lf, g_cm_nd, g_cm_st, g_cm_hl, g_cm_od, g_cm_jn, g_se_nS, g_se_nJ, g_se_wk, g_se_pv, g_se_dr, g_se_fr, g_se_pk, g_se_hi, g_se_cm, g_se_se, g_se_lf, g_se_nd, g_se_st, g_se_hl, g_se_od, g_se_jn, g_lf_nS, g_lf_nJ, g_lf_wk, g_lf_pv, g_lf_dr, g_lf_fr, g_lf_pk, g_lf_hi, g_lf_cm, g_lf_se, g_lf_lf, g_lf_nd, g_lf_st, g_lf_hl, g_lf_od, g_lf_jn, g_nd_nS, g_nd_nJ, g_nd_wk, g_nd_pv, g_nd_dr, g_nd_fr, g_nd_pk, g_nd_hi, g_nd_cm, g_nd_se, g_nd_lf, g_nd_nd, g_nd_st, g_nd_hl, g_nd_od, g_nd_jn, g_st_nS, g_st_nJ, g_st_wk, g_st_pv, g_st_dr, g_st_fr, g_st_pk, g_st_hi, g_st_cm, g_st_se, g_st_lf, g_st_nd, g_st_st, g_st_hl, g_st_od, g_st_jn, g_hl_nS, g_hl_nJ, g_hl_wk, g_hl_pv, g_hl_dr, g_hl_fr, g_hl_pk, g_hl_hi, g_hl_cm, g_hl_se, g_hl_lf, g_hl_nd, g_hl_st, g_hl_hl, g_hl_od, g_hl_jn, g_od_nS, g_od_nJ, g_od_wk, g_od_pv, g_od_dr, g_od_fr, g_od_pk, g_od_hi, g_od_cm, g_od_se, g_od_lf, g_od_nd, g_od_st, g_od_hl, g_od_od, g_od_jn, g_jn_nS, g_jn_nJ, g_jn_wk, g_jn_pv, g_jn_dr, g_jn_fr, g_jn_pk, g_jn_hi, g_jn_cm, g_jn_se, g_jn_lf, g_jn_nd, g_jn_st, g_jn_hl, g_jn_od, g_jn_jn]
theorem rem_good {σ : Sg} {T s x : Nat} (G : Good σ T) (hs : s < s_nS σ) (hx : x < 100) : Good (rememberF σ s x) T := by
  refine ⟨ok_remember G.1 hs hx, ?_, ?_⟩
  · unfold rememberF
    split
    · exact G.2.1
    · exact G.2.1
  · unfold rememberF
    split
    · exact G.2.2
    · exact G.2.2
theorem rem_keep2 {σ : Sg} {s x : Nat} : s_nS (rememberF σ s x) = s_nS σ ∧ s_nJ (rememberF σ s x) = s_nJ σ ∧ s_se (rememberF σ s x) = s_se σ ∧ s_fr (rememberF σ s x) = s_fr σ := by
  unfold rememberF
  split <;> exact ⟨rfl, rfl, rfl, rfl⟩
theorem started_good {σ : Sg} {T s x w l : Nat} {f : Bool} (G : Good σ T) (hs : s < s_nS σ) (hx : x < 100) (hw1 : 1 ≤ w) (hw : w ≤ 50) (hl : l ≤ 63) (hJ : s_nJ σ < 30) : Good (started σ s x w l f) (T + 1) := by
  have k := rem_keep2 (σ := σ) (s := s) (x := x)
  rw [started_eq]
  refine good_bgn (rem_good G hs hx) (by rw [k.1]; exact hs) hw1 hw hl (by rw [k.2.1]; exact hJ) (fun t i h => ?_)
  rw [k.2.1, k.2.2.1]
  have old : ∀ t i, s_fr σ t = some i → i < s_nJ σ + 1 ∧ upN (s_se σ) (s_nJ σ) s i = t := fun t i h => by
    have h1 := G.1.2.2.2.2.2.1.1 t i h
    rw [upN_n (by omega)]
    exact ⟨by omega, h1.2⟩
  split at h
  · exact old t i h
  · unfold upN at h
    split at h
    · next he =>
      rw [Option.some.injEq] at h
      subst h
      rw [upN_s]
      exact ⟨Nat.lt_succ_self _, he.symm⟩
    · exact old t i h
