theorem neg_iff {a : Bool} : (a = false) ↔ ¬ a = true := by cases a <;> simp
theorem sg_ext {σ τ : Sg} (h0 : s_nS σ = s_nS τ) (h1 : s_nJ σ = s_nJ τ) (h2 : s_wk σ = s_wk τ) (h3 : s_pv σ = s_pv τ) (h4 : s_dr σ = s_dr τ) (h5 : s_fr σ = s_fr τ) (h6 : s_pk σ = s_pk τ) (h7 : s_hi σ = s_hi τ) (h8 : s_cm σ = s_cm τ) (h9 : s_se σ = s_se τ) (h10 : s_lf σ = s_lf τ) (h11 : s_nd σ = s_nd τ) (h12 : s_st σ = s_st τ) (h13 : s_hl σ = s_hl τ) (h14 : s_od σ = s_od τ) (h15 : s_jn σ = s_jn τ) : σ = τ := by
  obtain ⟨x0, x1, x2, x3, x4, x5, x6, x7, x8, x9, x10, x11, x12, x13, x14, x15⟩ := σ
  obtain ⟨y0, y1, y2, y3, y4, y5, y6, y7, y8, y9, y10, y11, y12, y13, y14, y15⟩ := τ
  have h0 : x0 = y0 := h0
  have h1 : x1 = y1 := h1
  have h2 : x2 = y2 := h2
  have h3 : x3 = y3 := h3
  have h4 : x4 = y4 := h4
  have h5 : x5 = y5 := h5
  have h6 : x6 = y6 := h6
  have h7 : x7 = y7 := h7
  have h8 : x8 = y8 := h8
  have h9 : x9 = y9 := h9
  have h10 : x10 = y10 := h10
  have h11 : x11 = y11 := h11
  have h12 : x12 = y12 := h12
  have h13 : x13 = y13 := h13
  have h14 : x14 = y14 := h14
  have h15 : x15 = y15 := h15
  subst h0 h1 h2 h3 h4 h5 h6 h7 h8 h9 h10 h11 h12 h13 h14 h15
  rfl
theorem sta_fr {σ : Sg} {s w l v0 : Nat} : w_fr (w_st (start0 σ s w l) (upN (s_st σ) (s_nJ σ) v0)) (upN (s_fr (w_st (start0 σ s w l) (upN (s_st σ) (s_nJ σ) v0))) s (some (s_nJ σ))) = w_st (startF σ s w l true) (upN (s_st σ) (s_nJ σ) v0) := by
  rw [show startF σ s w l true = w_fr (start0 σ s w l) (upN (s_fr σ) s (some (s_nJ σ))) from if_neg (by decide)]
  unfold start0
  apply sg_ext <;> simp only [g_nS_nS, g_nS_nJ, g_nS_wk, g_nS_pv, g_nS_dr, g_nS_fr, g_nS_pk, g_nS_hi, g_nS_cm, g_nS_se, g_nS_lf, g_nS_nd, g_nS_st, g_nS_hl, g_nS_od, g_nS_jn, g_nJ_nS, g_nJ_nJ, g_nJ_wk, g_nJ_pv, g_nJ_dr, g_nJ_fr, g_nJ_pk, g_nJ_hi, g_nJ_cm, g_nJ_se, g_nJ_lf, g_nJ_nd, g_nJ_st, g_nJ_hl, g_nJ_od, g_nJ_jn, g_wk_nS, g_wk_nJ, g_wk_wk, g_wk_pv, g_wk_dr, g_wk_fr, g_wk_pk, g_wk_hi, g_wk_cm, g_wk_se, g_wk_lf, g_wk_nd, g_wk_st, g_wk_hl, g_wk_od, g_wk_jn, g_pv_nS, g_pv_nJ, g_pv_wk, g_pv_pv, g_pv_dr, g_pv_fr, g_pv_pk, g_pv_hi, g_pv_cm, g_pv_se, g_pv_lf, g_pv_nd, g_pv_st, g_pv_hl, g_pv_od, g_pv_jn, g_dr_nS, g_dr_nJ, g_dr_wk, g_dr_pv, g_dr_dr, g_dr_fr, g_dr_pk, g_dr_hi, g_dr_cm, g_dr_se, g_dr_lf, g_dr_nd, g_dr_st, g_dr_hl, g_dr_od, g_dr_jn, g_fr_nS, g_fr_nJ, g_fr_wk, g_fr_pv, g_fr_dr, g_fr_fr, g_fr_pk, g_fr_hi, g_fr_cm, g_fr_se, g_fr_lf, g_fr_nd, g_fr_st, g_fr_hl, g_fr_od, g_fr_jn, g_pk_nS, g_pk_nJ, g_pk_wk, g_pk_pv, g_pk_dr, g_pk_fr, g_pk_pk, g_pk_hi, g_pk_cm, g_pk_se, g_pk_lf, g_pk_nd, g_pk_st, g_pk_hl, g_pk_od, g_pk_jn, g_hi_nS, g_hi_nJ, g_hi_wk, g_hi_pv, g_hi_dr, g_hi_fr, g_hi_pk, g_hi_hi, g_hi_cm, g_hi_se, g_hi_lf, g_hi_nd, g_hi_st, g_hi_hl, g_hi_od, g_hi_jn, g_cm_nS, g_cm_nJ, g_cm_wk, g_cm_pv, g_cm_dr, g_cm_fr, g_cm_pk, g_cm_hi, g_cm_cm, g_cm_se, g_cm_lf, g_cm_nd, g_cm_st, g_cm_hl, g_cm_od, g_cm_jn, g_se_nS, g_se_nJ, g_se_wk, g_se_pv, g_se_dr, g_se_fr, g_se_pk, g_se_hi, g_se_cm, g_se_se, g_se_lf, g_se_nd, g_se_st, g_se_hl, g_se_od, g_se_jn, g_lf_nS, g_lf_nJ, g_lf_wk, g_lf_pv, g_lf_dr, g_lf_fr, g_lf_pk, g_lf_hi, g_lf_cm, g_lf_se, g_lf_lf, g_lf_nd, g_lf_st, g_lf_hl, g_lf_od, g_lf_jn, g_nd_nS, g_nd_nJ, g_nd_wk, g_nd_pv, g_nd_dr, g_nd_fr, g_nd_pk, g_nd_hi, g_nd_cm, g_nd_se, g_nd_lf, g_nd_nd, g_nd_st, g_nd_hl, g_nd_od, g_nd_jn, g_st_nS, g_st_nJ, g_st_wk, g_st_pv, g_st_dr, g_st_fr, g_st_pk, g_st_hi, g_st_cm, g_st_se, g_st_lf, g_st_nd, g_st_st, g_st_hl, g_st_od, g_st_jn, g_hl_nS, g_hl_nJ, g_hl_wk, g_hl_pv, g_hl_dr, g_hl_fr, g_hl_pk, g_hl_hi, g_hl_cm, g_hl_se, g_hl_lf, g_hl_nd, g_hl_st, g_hl_hl, g_hl_od, g_hl_jn, g_od_nS, g_od_nJ, g_od_wk, g_od_pv, g_od_dr, g_od_fr, g_od_pk, g_od_hi, g_od_cm, g_od_se, g_od_lf, g_od_nd, g_od_st, g_od_hl, g_od_od, g_od_jn, g_jn_nS, g_jn_nJ, g_jn_wk, g_jn_pv, g_jn_dr, g_jn_fr, g_jn_pk, g_jn_hi, g_jn_cm, g_jn_se, g_jn_lf, g_jn_nd, g_jn_st, g_jn_hl, g_jn_od, g_jn_jn]
section MD15
variable {E : EN} {d : Nat} {h : AH} {c n : Nat} {K : Out → AH → Prop} {mo : Nat} {ad : Nat → Nat} {M : MS} {σ : Sg} {th : Nat}
end MD15
