/-! resume, finish -/
theorem w_hl_self {σ : Sg} : w_hl σ (s_hl σ) = σ := by apply sg_ext <;> simp only [g_nS_nS, g_nS_nJ, g_nS_wk, g_nS_pv, g_nS_dr, g_nS_fr, g_nS_pk, g_nS_hi, g_nS_cm, g_nS_se, g_nS_lf, g_nS_nd, g_nS_st, g_nS_hl, g_nS_od, g_nS_jn, g_nJ_nS, g_nJ_nJ, g_nJ_wk, g_nJ_pv, g_nJ_dr, g_nJ_fr, g_nJ_pk, g_nJ_hi, g_nJ_cm, g_nJ_se, g_nJ_lf, g_nJ_nd, g_nJ_st, g_nJ_hl, g_nJ_od, g_nJ_jn, g_wk_nS, g_wk_nJ, g_wk_wk, g_wk_pv, g_wk_dr, g_wk_fr, g_wk_pk, g_wk_hi, g_wk_cm, g_wk_se, g_wk_lf, g_wk_nd, g_wk_st, g_wk_hl, g_wk_od, g_wk_jn, g_pv_nS, g_pv_nJ, g_pv_wk, g_pv_pv, g_pv_dr, g_pv_fr, g_pv_pk, g_pv_hi, g_pv_cm, g_pv_se, g_pv_lf, g_pv_nd, g_pv_st, g_pv_hl, g_pv_od, g_pv_jn, g_dr_nS, g_dr_nJ, g_dr_wk, g_dr_pv, g_dr_dr, g_dr_fr, g_dr_pk, g_dr_hi, g_dr_cm, g_dr_se, g_dr_lf, g_dr_nd, g_dr_st, g_dr_hl, g_dr_od, g_dr_jn, g_fr_nS, g_fr_nJ, g_fr_wk, g_fr_pv, g_fr_dr, g_fr_fr, g_fr_pk, g_fr_hi, g_fr_cm, g_fr_se, g_fr_lf, g_fr_nd, g_fr_st, g_fr_hl, g_fr_od, g_fr_jn, g_pk_nS, g_pk_nJ, g_pk_wk, g_pk_pv, g_pk_dr, g_pk_fr, g_pk_pk, g_pk_hi, g_pk_cm, g_pk_se, g_pk_lf, g_pk_nd, g_pk_st, g_pk_hl, g_pk_od, g_pk_jn, g_hi_nS, g_hi_nJ, g_hi_wk, g_hi_pv, g_hi_dr, g_hi_fr, g_hi_pk, g_hi_hi, g_hi_cm, g_hi_se, g_hi_lf, g_hi_nd, g_hi_st, g_hi_hl, g_hi_od, g_hi_jn, g_cm_nS, g_cm_nJ, g_cm_wk, g_cm_pv, g_cm_dr, g_cm_fr, g_cm_pk, g_cm_hi, g_cm_cm, g_cm_se, g_cm_lf, g_cm_nd, g_cm_st, g_cm_hl, g_cm_od, g_cm_jn, g_se_nS, g_se_nJ, g_se_wk, g_se_pv, g_se_dr, g_se_fr, g_se_pk, g_se_hi, g_se_cm, g_se_se, g_se_lf, g_se_nd, g_se_st, g_se_hl, g_se_od, g_se_jn, g_lf_nS, g_lf_nJ, g_lf_wk, g_lf_pv, g_lf_dr, g_lf_fr, g_lf_pk, g_lf_hi, g_lf_cm, g_lf_se, g_lf_lf, g_lf_nd, g_lf_st, g_lf_hl, g_lf_od, g_lf_jn, g_nd_nS, g_nd_nJ, g_nd_wk, g_nd_pv, g_nd_dr, g_nd_fr, g_nd_pk, g_nd_hi, g_nd_cm, g_nd_se, g_nd_lf, g_nd_nd, g_nd_st, g_nd_hl, g_nd_od, g_nd_jn, g_st_nS, g_st_nJ, g_st_wk, g_st_pv, g_st_dr, g_st_fr, g_st_pk, g_st_hi, g_st_cm, g_st_se, g_st_lf, g_st_nd, g_st_st, g_st_hl, g_st_od, g_st_jn, g_hl_nS, g_hl_nJ, g_hl_wk, g_hl_pv, g_hl_dr, g_hl_fr, g_hl_pk, g_hl_hi, g_hl_cm, g_hl_se, g_hl_lf, g_hl_nd, g_hl_st, g_hl_hl, g_hl_od, g_hl_jn, g_od_nS, g_od_nJ, g_od_wk, g_od_pv, g_od_dr, g_od_fr, g_od_pk, g_od_hi, g_od_cm, g_od_se, g_od_lf, g_od_nd, g_od_st, g_od_hl, g_od_od, g_od_jn, g_jn_nS, g_jn_nJ, g_jn_wk, g_jn_pv, g_jn_dr, g_jn_fr, g_jn_pk, g_jn_hi, g_jn_cm, g_jn_se, g_jn_lf, g_jn_nd, g_jn_st, g_jn_hl, g_jn_od, g_jn_jn]
theorem upN_self {α : Type} {f : Nat → α} {j : Nat} {x : α} (h : f j = x) : upN f j x = f := by
  funext i
  by_cases hi : i = j
  · subst hi; rw [upN_s, h]
  · rw [upN_n hi]
theorem hd_end {σ : Sg} {j l : Nat} (hd : ∀ i, i ≠ j → s_hl σ i = true → s_nd σ i &&& s_nd σ j = 0) (hh : s_hl σ j = true) : (if bitN (s_nd σ j) l = true then none else hdF σ l) = hdF (w_hl σ (upN (s_hl σ) j false)) l := by
  have e0 : hdF (w_hl σ (upN (s_hl σ) j false)) l = (List.range (s_nJ σ)).find? (fun o => upN (s_hl σ) j false o && bitN (s_nd σ o) l) := by
    unfold hdF
    rw [g_nJ_hl, g_hl_hl, g_nd_hl]
  rw [e0]
  by_cases hb : bitN (s_nd σ j) l = true
  · rw [if_pos hb]
    refine (fd_none (fun i hi => ?_)).symm
    by_cases hij : i = j
    · subst hij; rw [upN_s]; rfl
    · rw [upN_n hij]
      cases h1 : s_hl σ i with
      | false => rfl
      | true =>
        cases h2 : bitN (s_nd σ i) l with
        | false => rfl
        | true => exact (bit_no (hd i hij h1) h2 hb).elim
  · rw [if_neg hb]
    unfold hdF
    congr 1
    funext o
    by_cases ho : o = j
    · subst ho
      rw [upN_s, hh]
      cases h : bitN (s_nd σ o) l with
      | false => rfl
      | true => exact absurd h hb
    · rw [upN_n ho]
theorem unpk_1 {σ : Sg} {j : Nat} : s_hl (unpk σ j) = s_hl σ ∧ s_nJ (unpk σ j) = s_nJ σ ∧ s_nd (unpk σ j) = s_nd σ ∧ s_jn (unpk σ j) = s_jn σ ∧ s_od (unpk σ j) = s_od σ := by
  obtain ⟨f, hu, -⟩ := unpk_eq σ j
  rw [hu]
  exact ⟨g_hl_pk, g_nJ_pk, g_nd_pk, g_jn_pk, g_od_pk⟩
theorem unfr_1 {σ : Sg} {j : Nat} : s_hl (unfr σ j) = s_hl σ ∧ s_nJ (unfr σ j) = s_nJ σ ∧ s_nd (unfr σ j) = s_nd σ ∧ s_jn (unfr σ j) = s_jn σ := by
  obtain ⟨f, hu, -⟩ := unfr_eq σ j
  rw [hu]
  exact ⟨g_hl_fr, g_nJ_fr, g_nd_fr, g_jn_fr⟩
section C8
variable {E : EN} {P : Nat → Prop} {H0 : AH} {A : AD} {wr : Nat → Bool} {d : Nat} {K : Out → AH → Prop} {σ : Sg} {H : AH} {c n T : Nat} {ho : Nat → Option Nat}
theorem CV.pjr (C : CV E P H0 A σ ho wr H) {o : Option Nat} {j : Nat} (hx : ∀ i, o = some i → i < s_nJ σ) (hj : j < s_nJ σ) : (jrf A o = .ref (A 16 j)) = (o = some j) := by
  refine propext ⟨fun h => ?_, fun h => by rw [h]; rfl⟩
  cases o with
  | none => cases h
  | some i =>
    have h2 : Value.ref (A 16 i) = .ref (A 16 j) := h
    rw [C.jinj (hx i rfl) hj] at h2
    rw [h2]
theorem l_resume2 {τ : Sg} (C : CV E P H0 A σ (hdF σ) wr H) {j : Nat} (hj : j < s_nJ σ) (e1 : s_hl σ j = false → τ = comesF (w_od σ (s_od σ ++ [j])) j 119) (e2 : s_hl σ j = true → τ = comesF σ j 114) (O : Ok τ) (J : Jb τ T) (hT : T + 61 < 16384) (hnj : s_hl σ j = false → j ∉ s_od σ) (hlen : (s_jn σ).length < 16384) (hc : JJ (looksF τ) + 11 ≤ JJ σ + c) (hn : 4 * JJ (looksF τ) + 44 ≤ 4 * JJ σ + n) (hK : ∀ H', CV E P H0 A (looksF τ) (hdF (looksF τ)) wr H' → K (.inl none) H') : Ev E (d + 9) mX4_resume K 19 [.ref (A 0 0), .ref (A 16 j)] [] H c n := by
  cases hh : s_hl σ j with
  | false =>
    have e3 : (b2 false = 0) = True := eq_true rfl
    simp only [eX4_resume_19, eX4_resume_20, eX4_resume_23, eX4_resume_26, eX4_resume_27, eX4_resume_28, eX4_resume_30, eX4_resume_33, eX4_resume_34, eX4_resume_37, eX4_resume_40, eX4_resume_41, eX4_resume_42, eX4_resume_45, isA_r, isA_n, isI_i, isF_f, isL_l, is1_i, is1_r, is1_n, is1_f, true_and, and_true, List.length_cons, List.length_nil, Nat.reduceAdd, Nat.reduceLeDiff, Nat.reduceSub, Option.some.injEq, exists_eq_left', aft_s, aft_n, ite_true, ite_false, if_true, if_false, Nat.zero_le, Nat.le_refl, reduceCtorEq, ob_of (C.job hj), jg5, hh, e3]
    refine ⟨C.oT, invk c n (Nat.le_refl _) (Nat.le_refl _) (k_wait C (e1 hh) O J hT hj (hnj hh) hlen hc hn (fun H1 C1 => ?_))⟩
    simp only [eX4_resume_19, eX4_resume_20, eX4_resume_23, eX4_resume_26, eX4_resume_27, eX4_resume_28, eX4_resume_30, eX4_resume_33, eX4_resume_34, eX4_resume_37, eX4_resume_40, eX4_resume_41, eX4_resume_42, eX4_resume_45, isA_r, isA_n, isI_i, isF_f, isL_l, is1_i, is1_r, is1_n, is1_f, true_and, and_true, List.length_cons, List.length_nil, Nat.reduceAdd, Nat.reduceLeDiff, Nat.reduceSub, Option.some.injEq, exists_eq_left', aft_s, aft_n, ite_true, ite_false, if_true, if_false, Nat.zero_le, Nat.le_refl, reduceCtorEq]
    exact hK H1 C1
  | true =>
    have e3 : (b2 true = 0) = False := eq_false (by decide)
    have eτ := e2 hh
    have m1 := JJ_c (σ := σ) (j := j) (ch := 114)
    have m2 := JJ_l (σ := τ)
    have hd : hdF (comesF σ j 114) = hdF σ := hd_c cf_1.1 cf_1.2.1 cf_1.2.2.1
    rw [← eτ] at m1 hd
    simp only [eX4_resume_19, eX4_resume_20, eX4_resume_23, eX4_resume_26, eX4_resume_27, eX4_resume_28, eX4_resume_30, eX4_resume_33, eX4_resume_34, eX4_resume_37, eX4_resume_40, eX4_resume_41, eX4_resume_42, eX4_resume_45, isA_r, isA_n, isI_i, isF_f, isL_l, is1_i, is1_r, is1_n, is1_f, true_and, and_true, List.length_cons, List.length_nil, Nat.reduceAdd, Nat.reduceLeDiff, Nat.reduceSub, Option.some.injEq, exists_eq_left', aft_s, aft_n, ite_true, ite_false, if_true, if_false, Nat.zero_le, Nat.le_refl, reduceCtorEq, ob_of (C.job hj), jg5, hh, e3]
    refine ⟨C.oT, invk (JJ τ - JJ σ) (4 * (JJ τ - JJ σ)) (by omega) (by omega) (k_comeInto (ch := 114) C hj (Or.inl rfl) hlen (by rw [← eτ]; omega) (by rw [← eτ]; omega) (fun H1 C1 => ?_))⟩
    rw [← eτ, ← hd] at C1
    simp only [eX4_resume_19, eX4_resume_20, eX4_resume_23, eX4_resume_26, eX4_resume_27, eX4_resume_28, eX4_resume_30, eX4_resume_33, eX4_resume_34, eX4_resume_37, eX4_resume_40, eX4_resume_41, eX4_resume_42, eX4_resume_45, isA_r, isA_n, isI_i, isF_f, isL_l, is1_i, is1_r, is1_n, is1_f, true_and, and_true, List.length_cons, List.length_nil, Nat.reduceAdd, Nat.reduceLeDiff, Nat.reduceSub, Option.some.injEq, exists_eq_left', aft_s, aft_n, ite_true, ite_false, if_true, if_false, Nat.zero_le, Nat.le_refl, reduceCtorEq]
    refine ⟨C1.oT, invk (JJ (looksF τ) - JJ τ) (4 * (JJ (looksF τ) - JJ τ)) (by omega) (by omega) (k_look C1 O J hT (by omega) (by omega) (fun H2 C2 => ?_))⟩
    simp only [eX4_resume_19, eX4_resume_20, eX4_resume_23, eX4_resume_26, eX4_resume_27, eX4_resume_28, eX4_resume_30, eX4_resume_33, eX4_resume_34, eX4_resume_37, eX4_resume_40, eX4_resume_41, eX4_resume_42, eX4_resume_45, isA_r, isA_n, isI_i, isF_f, isL_l, is1_i, is1_r, is1_n, is1_f, true_and, and_true, List.length_cons, List.length_nil, Nat.reduceAdd, Nat.reduceLeDiff, Nat.reduceSub, Option.some.injEq, exists_eq_left', aft_s, aft_n, ite_true, ite_false, if_true, if_false, Nat.zero_le, Nat.le_refl, reduceCtorEq]
    exact hK H2 C2
theorem k_resume (C : CV E P H0 A σ (hdF σ) wr H) (O : Ok σ) (J : Jb σ T) (hT : T + 62 < 16384) {j : Nat} (hj : j < s_nJ σ) (h115 : s_st σ j = 115) (hc : JJ (goesOnF σ j) + 11 ≤ JJ σ + c) (hn : 4 * JJ (goesOnF σ j) + 44 ≤ 4 * JJ σ + n) (hK : ∀ H', CV E P H0 A (goesOnF σ j) (hdF (goesOnF σ j)) wr H' → K (.inl none) H') : CRd TTv E (d + 10) mX4_resume [.ref (A 0 0), .ref (A 16 j)] H c n K := by
  refine crd rfl ?_
  show Ev E (d + 9) mX4_resume K 0 [.ref (A 0 0), .ref (A 16 j)] [] H c n
  have hjl := J.len O.J
  have O1 := ok_goesOn0 O hj h115
  have J1 := jb_goesOn0 (j := j) J h115
  have hs := (O.job hj).1
  have hpk : ∀ i, s_pk σ (s_se σ j) = some i → i < s_nJ σ := fun i h => (O.2.2.2.2.2.1.2 _ i h).1
  have hnj : j ∉ s_od σ := fun h => by have := ((O.2.2.1.2 j).mp h).2; omega
  have hjr := C.pjr hpk hj
  rw [goesOn_eq] at hc hn hK
  obtain ⟨u1, u2, u3, u4, u5⟩ := unpk_1 (σ := σ) (j := j)
  have hg1 : s_hl (unpk σ j) j = false → goesOn0 σ j = comesF (w_od (unpk σ j) (s_od (unpk σ j) ++ [j])) j 119 := by
    intro h
    rw [u1] at h
    unfold goesOn0
    rw [if_pos h]
  have hg2 : s_hl (unpk σ j) j = true → goesOn0 σ j = comesF (unpk σ j) j 114 := by
    intro h
    rw [u1] at h
    unfold goesOn0
    rw [if_neg (by rw [h]; decide)]
  have hju : JJ (unpk σ j) = JJ σ := JJ_e u4
  have hdu : hdF (unpk σ j) = hdF σ := hd_c u2 u1 u3
  rw [← hju] at hc hn
  by_cases he : s_pk σ (s_se σ j) = some j
  · have e3 : (jrf A (s_pk σ (s_se σ j)) = .ref (A 16 j)) = True := by rw [hjr]; exact eq_true he
    have eu : unpk σ j = w_pk σ (upN (s_pk σ) (s_se σ j) none) := if_pos he
    have e4 : (.null : Value) = jrf A none := rfl
    have C2 := C.ppk (v := none) hs
    simp only [eX4_resume_0, eX4_resume_1, eX4_resume_4, eX4_resume_7, eX4_resume_8, eX4_resume_11, eX4_resume_12, eX4_resume_15, eX4_resume_16, isA_r, isA_n, isI_i, isF_f, isL_l, is1_i, is1_r, is1_n, is1_f, true_and, and_true, List.length_cons, List.length_nil, Nat.reduceAdd, Nat.reduceLeDiff, Nat.reduceSub, Option.some.injEq, exists_eq_left', aft_s, aft_n, ite_true, ite_false, if_true, if_false, Nat.zero_le, Nat.le_refl, reduceCtorEq, ob_of (C.job hj), jg1, ob_of (C.ses hs), sg5, sgl, isA_j, e3, Nat.reduceLT]
    rw [e4, sf_pk]
    rw [← eu] at C2 ⊢
    rw [← hdu] at C2
    generalize unpk σ j = σ1 at *
    exact l_resume2 C2 (by omega) hg1 hg2 O1 J1 (by omega) (fun _ => by rw [u5]; exact hnj) (by rw [u4]; omega) hc hn hK
  · have e3 : (jrf A (s_pk σ (s_se σ j)) = .ref (A 16 j)) = False := by rw [hjr]; exact eq_false he
    have eu : unpk σ j = σ := if_neg he
    simp only [eX4_resume_0, eX4_resume_1, eX4_resume_4, eX4_resume_7, eX4_resume_8, isA_r, isA_n, isI_i, isF_f, isL_l, is1_i, is1_r, is1_n, is1_f, true_and, and_true, List.length_cons, List.length_nil, Nat.reduceAdd, Nat.reduceLeDiff, Nat.reduceSub, Option.some.injEq, exists_eq_left', aft_s, aft_n, ite_true, ite_false, if_true, if_false, Nat.zero_le, Nat.le_refl, reduceCtorEq, ob_of (C.job hj), jg1, ob_of (C.ses hs), sg5, sgl, isA_j, e3, Nat.reduceLT]
    rw [eu] at hg1 hg2 hc hn
    exact l_resume2 C hj hg1 hg2 O1 J1 (by omega) (fun _ => hnj) (by omega) hc hn hK
theorem l_finish2 (C : CV E P H0 A σ (hdF σ) wr H) {j how : Nat} (hj : j < s_nJ σ) (hs : s_se σ j < s_nS σ) (hfr : ∀ i, s_fr σ (s_se σ j) = some i → i < s_nJ σ) (hh : stOK how) {τ : Sg} (eτ : τ = comesF (unfr σ j) j how) (O : Ok τ) (J : Jb τ T) (hT : T + 61 < 16384) (hlen : (s_jn σ).length < 16384) (hc : JJ (looksF τ) ≤ JJ σ + c) (hn : 4 * JJ (looksF τ) ≤ 4 * JJ σ + n) (hK : ∀ H', CV E P H0 A (looksF τ) (hdF (looksF τ)) wr H' → K (.inl none) H') : Ev E (d + 6) mX4_finish K 23 [.ref (A 0 0), .ref (A 16 j), .int (nI how)] [] H c n := by
  obtain ⟨u1, u2, u3, u4⟩ := unfr_1 (σ := σ) (j := j)
  have hju : JJ (unfr σ j) = JJ σ := JJ_e u4
  have hdu : hdF (unfr σ j) = hdF σ := hd_c u2 u1 u3
  rw [← hju] at hc hn
  have fin : ∀ (σ1 : Sg) (H1 : AH), CV E P H0 A σ1 (hdF σ1) wr H1 → τ = comesF σ1 j how → s_nJ σ1 = s_nJ σ → s_jn σ1 = s_jn σ → JJ (looksF τ) ≤ JJ σ1 + c → 4 * JJ (looksF τ) ≤ 4 * JJ σ1 + n → Ev E (d + 6) mX4_finish K 42 [.ref (A 0 0), .ref (A 16 j), .int (nI how)] [] H1 c n := by
    intro σ1 H1 C1 e n1 n2 hc hn
    have m1 := JJ_c (σ := σ1) (j := j) (ch := how)
    have m2 := JJ_l (σ := τ)
    have hd : hdF (comesF σ1 j how) = hdF σ1 := hd_c cf_1.1 cf_1.2.1 cf_1.2.2.1
    rw [← e] at m1 hd
    simp only [eX4_finish_42, eX4_finish_43, eX4_finish_44, eX4_finish_45, eX4_finish_48, eX4_finish_49, eX4_finish_52, isA_r, isA_n, isI_i, isF_f, isL_l, is1_i, is1_r, is1_n, is1_f, true_and, and_true, List.length_cons, List.length_nil, Nat.reduceAdd, Nat.reduceLeDiff, Nat.reduceSub, Option.some.injEq, exists_eq_left', aft_s, aft_n, ite_true, ite_false, if_true, if_false, Nat.zero_le, Nat.le_refl, reduceCtorEq]
    refine ⟨C1.oT, invk (JJ τ - JJ σ1) (4 * (JJ τ - JJ σ1)) (by omega) (by omega) (k_comeInto C1 (by omega) hh (by rw [n2]; exact hlen) (by rw [← e]; omega) (by rw [← e]; omega) (fun H2 C2 => ?_))⟩
    rw [← e, ← hd] at C2
    simp only [eX4_finish_42, eX4_finish_43, eX4_finish_44, eX4_finish_45, eX4_finish_48, eX4_finish_49, eX4_finish_52, isA_r, isA_n, isI_i, isF_f, isL_l, is1_i, is1_r, is1_n, is1_f, true_and, and_true, List.length_cons, List.length_nil, Nat.reduceAdd, Nat.reduceLeDiff, Nat.reduceSub, Option.some.injEq, exists_eq_left', aft_s, aft_n, ite_true, ite_false, if_true, if_false, Nat.zero_le, Nat.le_refl, reduceCtorEq]
    refine ⟨C2.oT, invk (JJ (looksF τ) - JJ τ) (4 * (JJ (looksF τ) - JJ τ)) (by omega) (by omega) (k_look C2 O J hT (by omega) (by omega) (fun H3 C3 => ?_))⟩
    simp only [eX4_finish_42, eX4_finish_43, eX4_finish_44, eX4_finish_45, eX4_finish_48, eX4_finish_49, eX4_finish_52, isA_r, isA_n, isI_i, isF_f, isL_l, is1_i, is1_r, is1_n, is1_f, true_and, and_true, List.length_cons, List.length_nil, Nat.reduceAdd, Nat.reduceLeDiff, Nat.reduceSub, Option.some.injEq, exists_eq_left', aft_s, aft_n, ite_true, ite_false, if_true, if_false, Nat.zero_le, Nat.le_refl, reduceCtorEq]
    exact hK H3 C3
  have hjr := C.pjr hfr hj
  by_cases he : s_fr σ (s_se σ j) = some j
  · have e3 : (jrf A (s_fr σ (s_se σ j)) = .ref (A 16 j)) = True := by rw [hjr]; exact eq_true he
    have eu : unfr σ j = w_fr σ (upN (s_fr σ) (s_se σ j) none) := if_pos he
    have e4 : (.null : Value) = jrf A none := rfl
    have C2 := C.pfr (v := none) hs
    simp only [eX4_finish_23, eX4_finish_24, eX4_finish_27, eX4_finish_30, eX4_finish_31, eX4_finish_34, eX4_finish_35, eX4_finish_38, eX4_finish_39, isA_r, isA_n, isI_i, isF_f, isL_l, is1_i, is1_r, is1_n, is1_f, true_and, and_true, List.length_cons, List.length_nil, Nat.reduceAdd, Nat.reduceLeDiff, Nat.reduceSub, Option.some.injEq, exists_eq_left', aft_s, aft_n, ite_true, ite_false, if_true, if_false, Nat.zero_le, Nat.le_refl, reduceCtorEq, ob_of (C.job hj), jg1, ob_of (C.ses hs), sg4, sgl, isA_j, e3, Nat.reduceLT]
    rw [e4, sf_fr]
    rw [← eu] at C2 ⊢
    rw [← hdu] at C2
    generalize unfr σ j = σ1 at *
    exact fin σ1 _ C2 eτ u2 u4 hc hn
  · have e3 : (jrf A (s_fr σ (s_se σ j)) = .ref (A 16 j)) = False := by rw [hjr]; exact eq_false he
    have eu : unfr σ j = σ := if_neg he
    simp only [eX4_finish_23, eX4_finish_24, eX4_finish_27, eX4_finish_30, eX4_finish_31, isA_r, isA_n, isI_i, isF_f, isL_l, is1_i, is1_r, is1_n, is1_f, true_and, and_true, List.length_cons, List.length_nil, Nat.reduceAdd, Nat.reduceLeDiff, Nat.reduceSub, Option.some.injEq, exists_eq_left', aft_s, aft_n, ite_true, ite_false, if_true, if_false, Nat.zero_le, Nat.le_refl, reduceCtorEq, ob_of (C.job hj), jg1, ob_of (C.ses hs), sg4, sgl, isA_j, e3, Nat.reduceLT]
    rw [eu] at eτ hc hn
    exact fin σ H C eτ rfl rfl hc hn
theorem k_finish (C : CV E P H0 A σ (hdF σ) wr H) (O : Ok σ) (J : Jb σ T) (hT : T + 62 < 16384) {j how : Nat} (hj : j < s_nJ σ) (hov : over σ j = false) (hh : how = 100 ∨ how = 107) (hc : JJ (endsF σ j how) ≤ JJ σ + c) (hn : 4 * JJ (endsF σ j how) ≤ 4 * JJ σ + n) (hK : ∀ H', CV E P H0 A (endsF σ j how) (hdF (endsF σ j how)) wr H' → K (.inl none) H') : CRd TTv E (d + 7) mX4_finish [.ref (A 0 0), .ref (A 16 j), .int (nI how)] H c n K := by
  refine crd rfl ?_
  show Ev E (d + 6) mX4_finish K 0 [.ref (A 0 0), .ref (A 16 j), .int (nI how)] [] H c n
  have hjl := J.len O.J
  have O1 := ok_ends0 O hj hh
  have J1 := jb_ends0 (j := j) (how := how) J hj hov hh
  have hs := (O.job hj).1
  have hst : stOK how := by rcases hh with rfl | rfl <;> simp [stOK]
  have hfr : ∀ i, s_fr σ (s_se σ j) = some i → i < s_nJ σ := fun i h => (O.2.2.2.2.2.1.1 _ i h).1
  have hdis : ∀ i, i ≠ j → s_hl σ i = true → s_hl σ j = true → s_nd σ i &&& s_nd σ j = 0 := fun i h1 h2 h3 => O.2.2.2.2.2.2.1 i j h1 h2 h3
  have es : endsF σ j how = looksF (ends0 σ j how) := rfl
  have e0 : ends0 σ j how = comesF (unfr (w_hl (leavesF σ j) (upN (s_hl (leavesF σ j)) j false)) j) j how := rfl
  rw [es] at hc hn hK
  generalize ends0 σ j how = τ at *
  obtain ⟨n1, n2, n3, n4, n5, n6, n7⟩ := lf_1 (σ := σ) (j := j)
  simp only [eX4_finish_0, eX4_finish_1, eX4_finish_2, isA_r, isA_n, isI_i, isF_f, isL_l, is1_i, is1_r, is1_n, is1_f, true_and, and_true, List.length_cons, List.length_nil, Nat.reduceAdd, Nat.reduceLeDiff, Nat.reduceSub, Option.some.injEq, exists_eq_left', aft_s, aft_n, ite_true, ite_false, if_true, if_false, Nat.zero_le, Nat.le_refl, reduceCtorEq]
  refine ⟨C.oT, inv0 (k_leave C hj (fun H1 C1 => ?_))⟩
  have hd1 : hdF (leavesF σ j) = hdF σ := hd_c n1 n2 n3
  have j1 : JJ (leavesF σ j) = JJ σ := JJ_e n4
  rw [← hd1] at C1
  rw [← n1] at hj
  rw [← n2, ← n3] at hdis
  rw [← n5, ← n6, ← n1] at hfr
  rw [← n5, ← n7] at hs
  rw [← j1] at hc hn
  have hlen : (s_jn (leavesF σ j)).length < 16384 := by rw [n4]; omega
  clear n1 n2 n3 n4 n5 n6 n7 hd1 j1 es C
  generalize leavesF σ j = σ1 at *
  have fin : ∀ H2, CV E P H0 A (w_hl σ1 (upN (s_hl σ1) j false)) (hdF (w_hl σ1 (upN (s_hl σ1) j false))) wr H2 → Ev E (d + 6) mX4_finish K 23 [.ref (A 0 0), .ref (A 16 j), .int (nI how)] [] H2 c n := by
    intro H2 C2
    obtain ⟨σ2, e2⟩ : ∃ x, x = w_hl σ1 (upN (s_hl σ1) j false) := ⟨_, rfl⟩
    have q1 : s_nJ σ2 = s_nJ σ1 := by rw [e2]; exact g_nJ_hl
    have q2 : s_jn σ2 = s_jn σ1 := by rw [e2]; exact g_jn_hl
    have q3 : s_se σ2 = s_se σ1 := by rw [e2]; exact g_se_hl
    have q4 : s_fr σ2 = s_fr σ1 := by rw [e2]; exact g_fr_hl
    have q5 : s_nS σ2 = s_nS σ1 := by rw [e2]; exact g_nS_hl
    rw [← e2] at C2 e0
    have j2 : JJ σ2 = JJ σ1 := JJ_e q2
    exact l_finish2 C2 (by omega) (by rw [q3, q5]; exact hs) (by rw [q3, q4, q1]; exact hfr) hst e0 O1 J1 (by omega) (by rw [q2]; exact hlen) (by omega) (by omega) hK
  cases hhl : s_hl σ1 j with
  | false =>
    have e3 : (b2 false = 0) = True := eq_true rfl
    simp only [eX4_finish_5, eX4_finish_6, eX4_finish_9, isA_r, isA_n, isI_i, isF_f, isL_l, is1_i, is1_r, is1_n, is1_f, true_and, and_true, List.length_cons, List.length_nil, Nat.reduceAdd, Nat.reduceLeDiff, Nat.reduceSub, Option.some.injEq, exists_eq_left', aft_s, aft_n, ite_true, ite_false, if_true, if_false, Nat.zero_le, Nat.le_refl, reduceCtorEq, ob_of (C1.job hj), jg5, hhl, e3]
    refine fin H1 ?_
    rw [upN_self hhl, w_hl_self]
    exact C1
  | true =>
    have e3 : (b2 true = 0) = False := eq_false (by decide)
    have e4 : (-1 : Int32) = o2 none := rfl
    simp only [eX4_finish_5, eX4_finish_6, eX4_finish_9, eX4_finish_12, eX4_finish_13, eX4_finish_14, eX4_finish_15, isA_r, isA_n, isI_i, isF_f, isL_l, is1_i, is1_r, is1_n, is1_f, true_and, and_true, List.length_cons, List.length_nil, Nat.reduceAdd, Nat.reduceLeDiff, Nat.reduceSub, Option.some.injEq, exists_eq_left', aft_s, aft_n, ite_true, ite_false, if_true, if_false, Nat.zero_le, Nat.le_refl, reduceCtorEq, ob_of (C1.job hj), jg5, hhl, e3]
    rw [e4]
    refine ⟨C1.oT, inv0 (v_setH (x := none) C1 hj (fun H2 C2 => ?_))⟩
    have C3 := C2.phl (v := false) hj
    have e5 : (.int (0 : Int32) : Value) = .int (b2 false) := rfl
    simp only [eX4_finish_18, eX4_finish_19, eX4_finish_20, isA_r, isA_n, isI_i, isF_f, isL_l, is1_i, is1_r, is1_n, is1_f, true_and, and_true, List.length_cons, List.length_nil, Nat.reduceAdd, Nat.reduceLeDiff, Nat.reduceSub, Option.some.injEq, exists_eq_left', aft_s, aft_n, ite_true, ite_false, if_true, if_false, Nat.zero_le, Nat.le_refl, reduceCtorEq, ob_of (C2.job hj), jgl, Nat.reduceLT, ok01_0]
    rw [e5, jf_hl]
    exact fin _ (C3.hoc (fun l hl => hd_end (fun i h1 h2 => hdis i h1 h2 hhl) hhl))
end C8
