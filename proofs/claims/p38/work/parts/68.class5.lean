/-! leaveOrder, lookAtOrder -/
theorem erase_f : ∀ (l : List Nat) (r : Nat), l.Nodup → r < l.length → l.eraseIdx r = l.filter (fun i => i != l.getD r 0) := by
  intro l
  induction l with
  | nil => intro r _ h; simp at h
  | cons a t ih =>
    intro r hnd hr
    obtain ⟨h1, h2⟩ := List.nodup_cons.mp hnd
    cases r with
    | zero =>
      show t = (a :: t).filter (fun i => i != a)
      rw [List.filter_cons_of_neg (by simp)]
      exact (List.filter_eq_self.mpr (fun x hx => by simp; rintro rfl; exact h1 hx)).symm
    | succ r =>
      have hr2 : r < t.length := by simpa using hr
      have hm : t.getD r 0 ∈ t := by
        rw [List.getD_eq_getElem?_getD, List.getElem?_eq_getElem hr2]
        exact List.getElem_mem hr2
      have e : (a :: t).getD (r + 1) 0 = t.getD r 0 := by simp [List.getD_eq_getElem?_getD]
      rw [e, List.filter_cons_of_pos (by simp; rintro rfl; exact h1 hm), List.eraseIdx_cons_succ, ih r h2 hr2]
theorem erase_m {pre r : List Nat} {j : Nat} : (pre ++ j :: r).eraseIdx pre.length = pre ++ r := by
  rw [List.eraseIdx_append_of_length_le (Nat.le_refl _)]; simp
theorem getD_m {pre r : List Nat} {j : Nat} : (pre ++ j :: r).getD pre.length 0 = j := by
  rw [List.getD_eq_getElem?_getD, List.getElem?_append_right (Nat.le_refl _)]; simp
theorem w_od_self {σ : Sg} : w_od σ (s_od σ) = σ := by apply sg_ext <;> simp only [g_nS_nS, g_nS_nJ, g_nS_wk, g_nS_pv, g_nS_dr, g_nS_fr, g_nS_pk, g_nS_hi, g_nS_cm, g_nS_se, g_nS_lf, g_nS_nd, g_nS_st, g_nS_hl, g_nS_od, g_nS_jn, g_nJ_nS, g_nJ_nJ, g_nJ_wk, g_nJ_pv, g_nJ_dr, g_nJ_fr, g_nJ_pk, g_nJ_hi, g_nJ_cm, g_nJ_se, g_nJ_lf, g_nJ_nd, g_nJ_st, g_nJ_hl, g_nJ_od, g_nJ_jn, g_wk_nS, g_wk_nJ, g_wk_wk, g_wk_pv, g_wk_dr, g_wk_fr, g_wk_pk, g_wk_hi, g_wk_cm, g_wk_se, g_wk_lf, g_wk_nd, g_wk_st, g_wk_hl, g_wk_od, g_wk_jn, g_pv_nS, g_pv_nJ, g_pv_wk, g_pv_pv, g_pv_dr, g_pv_fr, g_pv_pk, g_pv_hi, g_pv_cm, g_pv_se, g_pv_lf, g_pv_nd, g_pv_st, g_pv_hl, g_pv_od, g_pv_jn, g_dr_nS, g_dr_nJ, g_dr_wk, g_dr_pv, g_dr_dr, g_dr_fr, g_dr_pk, g_dr_hi, g_dr_cm, g_dr_se, g_dr_lf, g_dr_nd, g_dr_st, g_dr_hl, g_dr_od, g_dr_jn, g_fr_nS, g_fr_nJ, g_fr_wk, g_fr_pv, g_fr_dr, g_fr_fr, g_fr_pk, g_fr_hi, g_fr_cm, g_fr_se, g_fr_lf, g_fr_nd, g_fr_st, g_fr_hl, g_fr_od, g_fr_jn, g_pk_nS, g_pk_nJ, g_pk_wk, g_pk_pv, g_pk_dr, g_pk_fr, g_pk_pk, g_pk_hi, g_pk_cm, g_pk_se, g_pk_lf, g_pk_nd, g_pk_st, g_pk_hl, g_pk_od, g_pk_jn, g_hi_nS, g_hi_nJ, g_hi_wk, g_hi_pv, g_hi_dr, g_hi_fr, g_hi_pk, g_hi_hi, g_hi_cm, g_hi_se, g_hi_lf, g_hi_nd, g_hi_st, g_hi_hl, g_hi_od, g_hi_jn, g_cm_nS, g_cm_nJ, g_cm_wk, g_cm_pv, g_cm_dr, g_cm_fr, g_cm_pk, g_cm_hi, g_cm_cm, g_cm_se, g_cm_lf, g_cm_nd, g_cm_st, g_cm_hl, g_cm_od, g_cm_jn, g_se_nS, g_se_nJ, g_se_wk, g_se_pv, g_se_dr, g_se_fr, g_se_pk, g_se_hi, g_se_cm, g_se_se, g_se_lf, g_se_nd, g_se_st, g_se_hl, g_se_od, g_se_jn, g_lf_nS, g_lf_nJ, g_lf_wk, g_lf_pv, g_lf_dr, g_lf_fr, g_lf_pk, g_lf_hi, g_lf_cm, g_lf_se, g_lf_lf, g_lf_nd, g_lf_st, g_lf_hl, g_lf_od, g_lf_jn, g_nd_nS, g_nd_nJ, g_nd_wk, g_nd_pv, g_nd_dr, g_nd_fr, g_nd_pk, g_nd_hi, g_nd_cm, g_nd_se, g_nd_lf, g_nd_nd, g_nd_st, g_nd_hl, g_nd_od, g_nd_jn, g_st_nS, g_st_nJ, g_st_wk, g_st_pv, g_st_dr, g_st_fr, g_st_pk, g_st_hi, g_st_cm, g_st_se, g_st_lf, g_st_nd, g_st_st, g_st_hl, g_st_od, g_st_jn, g_hl_nS, g_hl_nJ, g_hl_wk, g_hl_pv, g_hl_dr, g_hl_fr, g_hl_pk, g_hl_hi, g_hl_cm, g_hl_se, g_hl_lf, g_hl_nd, g_hl_st, g_hl_hl, g_hl_od, g_hl_jn, g_od_nS, g_od_nJ, g_od_wk, g_od_pv, g_od_dr, g_od_fr, g_od_pk, g_od_hi, g_od_cm, g_od_se, g_od_lf, g_od_nd, g_od_st, g_od_hl, g_od_od, g_od_jn, g_jn_nS, g_jn_nJ, g_jn_wk, g_jn_pv, g_jn_dr, g_jn_fr, g_jn_pk, g_jn_hi, g_jn_cm, g_jn_se, g_jn_lf, g_jn_nd, g_jn_st, g_jn_hl, g_jn_od, g_jn_jn]
theorem bit_ex {a b : Nat} (ha : a ≤ 63) (h : a &&& b ≠ 0) : ∃ l, l < 6 ∧ a.testBit l = true ∧ b.testBit l = true := by
  obtain ⟨l, hl⟩ := Nat.exists_testBit_of_ne_zero h
  rw [Nat.testBit_and, Bool.and_eq_true] at hl
  refine ⟨l, ?_, hl⟩
  rw [← Nat.not_le]
  intro h6
  have := Nat.testBit_lt_two_pow (x := a) (i := l) (by
    have : 2 ^ 6 ≤ 2 ^ l := Nat.pow_le_pow_right (by omega) h6
    omega)
  rw [this] at hl
  cases hl.1
theorem bit_no {a b l : Nat} (h : a &&& b = 0) (h1 : a.testBit l = true) (h2 : b.testBit l = true) : False := by
  have := Nat.testBit_and a b l
  rw [h, h1, h2] at this
  simp at this
theorem hd_i {σ : Sg} {l o : Nat} (ho : o < s_nJ σ) (h : s_hl σ o = true) (hb : bitN (s_nd σ o) l = true) : (hdF σ l).isSome = true := by
  cases hh : hdF σ l with
  | some x => rfl
  | none =>
    have := List.find?_eq_none.mp hh o (List.mem_range.mpr ho)
    rw [h, hb] at this
    exact absurd rfl this
theorem hd_e {σ : Sg} {l o : Nat} (h : hdF σ l = some o) : o < s_nJ σ ∧ s_hl σ o = true ∧ bitN (s_nd σ o) l = true := by
  have h1 := List.find?_some (p := fun j => s_hl σ j && bitN (s_nd σ j) l) h
  have h2 := List.mem_of_find?_eq_some h
  rw [Bool.and_eq_true] at h1
  exact ⟨List.mem_range.mp h2, h1.1, h1.2⟩
theorem hb_hd {σ : Sg} (h : s_nJ σ ≤ 30) : HB (hdF σ) := fun l i e => by have := (hd_e e).1; omega
theorem fr_eq {σ : Sg} {j : Nat} (h63 : ∀ o, o < s_nJ σ → s_nd σ o ≤ 63) (hh : s_hl σ j = false) : frL (hdF σ) (s_nd σ j) = freeJ σ j := by
  rw [Bool.eq_iff_iff]
  unfold frL freeJ
  rw [List.all_eq_true, List.all_eq_true]
  constructor
  · intro h o ho
    have ho := List.mem_range.mp ho
    cases hb : blk σ j o with
    | false => rfl
    | true =>
      unfold blk at hb
      simp only [Bool.and_eq_true, bne_iff_ne, ne_eq] at hb
      obtain ⟨l, hl, b1, b2⟩ := bit_ex (h63 o ho) hb.2
      have := h l (List.mem_range.mpr hl)
      rw [hd_i ho hb.1.2 b1, show bitN (s_nd σ j) l = true from b2] at this
      cases this
  · intro h l hl
    cases hb : bitN (s_nd σ j) l with
    | false => rfl
    | true =>
      cases hd : hdF σ l with
      | none => rfl
      | some o =>
        obtain ⟨o1, o2, o3⟩ := hd_e hd
        have := h o (List.mem_range.mpr o1)
        have hne : o ≠ j := by rintro rfl; rw [hh] at o2; cases o2
        have hblk : blk σ j o = true := by
          unfold blk
          simp only [Bool.and_eq_true, bne_iff_ne, ne_eq]
          exact ⟨⟨hne, o2⟩, fun e => bit_no e o3 hb⟩
        rw [hblk] at this
        cases this
theorem hd_grant {σ : Sg} {j l : Nat} {od : List Nat} (hf : freeJ σ j = true) (hj : j < s_nJ σ) (hh : s_hl σ j = false) : (if bitN (s_nd σ j) l = true then some j else hdF σ l) = hdF (grant σ j od) l := by
  by_cases hb : bitN (s_nd σ j) l = true
  · rw [if_pos hb]
    refine (fd_some (p := fun o => upN (s_hl σ) j true o && bitN (s_nd σ o) l) hj ?_ (fun i hi => ?_)).symm
    · show (upN (s_hl σ) j true j && bitN (s_nd σ j) l) = true
      rw [upN_s, hb]; rfl
    · show (upN (s_hl σ) j true i && bitN (s_nd σ i) l) = false
      rw [upN_n (by omega)]
      cases h1 : s_hl σ i with
      | false => rfl
      | true =>
        cases h2 : bitN (s_nd σ i) l with
        | false => rfl
        | true => exact (bit_no (free_o hf (by omega) (by omega) h1) h2 hb).elim
  · rw [if_neg hb]
    unfold hdF
    congr 1
    funext o
    show _ = (upN (s_hl σ) j true o && bitN (s_nd σ o) l)
    by_cases ho : o = j
    · subst ho
      rw [upN_s, hh]
      cases h : bitN (s_nd σ o) l with
      | false => rfl
      | true => exact absurd h hb
    · rw [upN_n ho]
theorem jl_looksL : ∀ (rest pre : List Nat) (σ : Sg), JJ σ ≤ JJ (looksL rest pre σ) := by
  intro rest
  induction rest with
  | nil => intro pre σ; exact Nat.le_refl _
  | cons j r ih =>
    intro pre σ
    unfold looksL
    cases freeJ σ j with
    | true =>
      refine Nat.le_trans ?_ (ih pre (grant σ j (pre ++ r)))
      refine jcap_mono ?_
      show _ ≤ (s_jn σ ++ [(j, 114)]).length
      rw [List.length_append]; omega
    | false => exact ih (pre ++ [j]) σ
theorem look_j {σ : Sg} {l : List Nat} {f : Nat → Bool} : s_jn (w_hl (w_od σ l) f) = s_jn σ := rfl
theorem look_J {σ : Sg} {l : List Nat} {f : Nat → Bool} : JJ (w_hl (w_od σ l) f) = JJ σ := rfl
theorem look_g {σ : Sg} {l : List Nat} {j : Nat} : comesF (w_hl (w_od σ l) (upN (s_hl (w_od σ l)) j true)) j 114 = grant σ j l := rfl
theorem look_n {σ : Sg} {l : List Nat} {f : Nat → Bool} : s_nJ (w_hl (w_od σ l) f) = s_nJ σ := rfl
theorem look_d {σ : Sg} {l : List Nat} : s_nd (w_od σ l) = s_nd σ := rfl
theorem grant_od {σ : Sg} {l : List Nat} {j : Nat} : s_od (grant σ j l) = l := rfl
section C5
variable {E : EN} {P : Nat → Prop} {H0 : AH} {A : AD} {Z : Nat → Nat} {X : XX} {σ : Sg} {ho : Nat → Option Nat} {wr : Nat → Bool} {H : AH} {d c n : Nat} {K : Out → AH → Prop}
theorem l_leave (C : CV E P H0 A σ ho wr H) {j : Nat} (hj : j < s_nJ σ) (hK : ∀ H', CV E P H0 A (leavesF σ j) ho wr H' → K (.inl none) H') : ∀ k r, k + r = (s_od σ).length → (∀ i, i < r → (s_od σ).getD i 0 ≠ j) → Ev E (d + 4) mX4_leaveOrder K 2 [.ref (A 0 0), .ref (A 16 j), .int (nI r)] [] H c n := by
  have C0 := C
  obtain ⟨Z, X, C, ec⟩ := C
  have hF := C.rl.2.2.2.2.1.2.2
  have hlen := C.od30
  intro k
  induction k with
  | zero =>
    intro r hk h0
    rw [hX4_leaveOrder_2]
    simp only [eX4_leaveOrder_3, eX4_leaveOrder_4, eX4_leaveOrder_7, eX4_leaveOrder_10, eX4_leaveOrder_13, eX4_leaveOrder_14, eX4_leaveOrder_17, eX4_leaveOrder_18, eX4_leaveOrder_21, eX4_leaveOrder_22, eX4_leaveOrder_25, eX4_leaveOrder_26, eX4_leaveOrder_29, eX4_leaveOrder_30, eX4_leaveOrder_33, eX4_leaveOrder_34, eX4_leaveOrder_35, eX4_leaveOrder_38, eX4_leaveOrder_41, isA_r, isA_n, isI_i, isF_f, isL_l, is1_i, is1_r, is1_n, is1_f, true_and, and_true, List.length_cons, List.length_nil, Nat.reduceAdd, Nat.reduceLeDiff, Nat.reduceSub, Option.some.injEq, exists_eq_left', aft_s, aft_n, ite_true, ite_false, if_true, if_false, Nat.zero_le, Nat.le_refl, reduceCtorEq, ob_of C.top, og2]
    refine ⟨⟨_, ob_of C.lsO.1⟩, inv0 (L_size C.lsO ?_)⟩
    have e1 : (nI r < nI (s_od σ).length) = False := eq_false (nI_nlt (by omega) (by omega))
    simp only [eX4_leaveOrder_3, eX4_leaveOrder_4, eX4_leaveOrder_7, eX4_leaveOrder_10, eX4_leaveOrder_13, eX4_leaveOrder_14, eX4_leaveOrder_17, eX4_leaveOrder_18, eX4_leaveOrder_21, eX4_leaveOrder_22, eX4_leaveOrder_25, eX4_leaveOrder_26, eX4_leaveOrder_29, eX4_leaveOrder_30, eX4_leaveOrder_33, eX4_leaveOrder_34, eX4_leaveOrder_35, eX4_leaveOrder_38, eX4_leaveOrder_41, isA_r, isA_n, isI_i, isF_f, isL_l, is1_i, is1_r, is1_n, is1_f, true_and, and_true, List.length_cons, List.length_nil, Nat.reduceAdd, Nat.reduceLeDiff, Nat.reduceSub, Option.some.injEq, exists_eq_left', aft_s, aft_n, ite_true, ite_false, if_true, if_false, Nat.zero_le, Nat.le_refl, reduceCtorEq, e1]
    refine hK H ?_
    have : leavesF σ j = σ := by
      unfold leavesF
      rw [List.filter_eq_self.mpr (fun x hx => ?_)]
      · exact w_od_self
      · obtain ⟨i, hi, rfl⟩ := List.getElem_of_mem hx
        have := h0 i (by omega)
        rw [List.getD_eq_getElem?_getD, List.getElem?_eq_getElem hi] at this
        simpa using this
    rw [this]; exact C0
  | succ k ih =>
    intro r hk h0
    have hr : r < (s_od σ).length := by omega
    rw [hX4_leaveOrder_2]
    simp only [eX4_leaveOrder_3, eX4_leaveOrder_4, eX4_leaveOrder_7, isA_r, isA_n, isI_i, isF_f, isL_l, is1_i, is1_r, is1_n, is1_f, true_and, and_true, List.length_cons, List.length_nil, Nat.reduceAdd, Nat.reduceLeDiff, Nat.reduceSub, Option.some.injEq, exists_eq_left', aft_s, aft_n, ite_true, ite_false, if_true, if_false, Nat.zero_le, Nat.le_refl, reduceCtorEq, ob_of C.top, og2]
    refine ⟨⟨_, ob_of C.lsO.1⟩, inv0 (L_size C.lsO ?_)⟩
    have e1 : (nI r < nI (s_od σ).length) = True := eq_true (nI_lt hr (by omega))
    simp only [eX4_leaveOrder_10, eX4_leaveOrder_13, eX4_leaveOrder_14, eX4_leaveOrder_17, eX4_leaveOrder_18, isA_r, isA_n, isI_i, isF_f, isL_l, is1_i, is1_r, is1_n, is1_f, true_and, and_true, List.length_cons, List.length_nil, Nat.reduceAdd, Nat.reduceLeDiff, Nat.reduceSub, Option.some.injEq, exists_eq_left', aft_s, aft_n, ite_true, ite_false, if_true, if_false, Nat.zero_le, Nat.le_refl, reduceCtorEq, e1, ob_of C.top, og2]
    refine ⟨⟨_, ob_of C.lsO.1⟩, inv0 (L_get C.lsO hr ?_)⟩
    rw [hF r hr]
    have e2 := C.jinj (C.odj hr) hj
    by_cases he : (s_od σ).getD r 0 = j
    · have e3 : (Value.ref (A 16 ((s_od σ).getD r 0)) = Value.ref (A 16 j)) = True := by rw [e2]; exact eq_true he
      simp only [eX4_leaveOrder_21, eX4_leaveOrder_22, eX4_leaveOrder_25, eX4_leaveOrder_26, eX4_leaveOrder_29, eX4_leaveOrder_30, isA_r, isA_n, isI_i, isF_f, isL_l, is1_i, is1_r, is1_n, is1_f, true_and, and_true, List.length_cons, List.length_nil, Nat.reduceAdd, Nat.reduceLeDiff, Nat.reduceSub, Option.some.injEq, exists_eq_left', aft_s, aft_n, ite_true, ite_false, if_true, if_false, Nat.zero_le, Nat.le_refl, reduceCtorEq, va_rf, e3, ob_of C.top, og2]
      refine ⟨⟨_, ob_of C.lsO.1⟩, inv0 (k_oRemove C0 hr (fun H' C' => ?_))⟩
      simp only [eX4_leaveOrder_33, eX4_leaveOrder_34, isA_r, isA_n, isI_i, isF_f, isL_l, is1_i, is1_r, is1_n, is1_f, true_and, and_true, List.length_cons, List.length_nil, Nat.reduceAdd, Nat.reduceLeDiff, Nat.reduceSub, Option.some.injEq, exists_eq_left', aft_s, aft_n, ite_true, ite_false, if_true, if_false, Nat.zero_le, Nat.le_refl, reduceCtorEq]
      refine hK H' ?_
      rw [erase_f _ _ C.wl.2.2.2.1 hr, he] at C'
      exact C'
    · have e3 : (Value.ref (A 16 ((s_od σ).getD r 0)) = Value.ref (A 16 j)) = False := by rw [e2]; exact eq_false he
      simp only [eX4_leaveOrder_21, eX4_leaveOrder_22, eX4_leaveOrder_25, eX4_leaveOrder_26, eX4_leaveOrder_29, eX4_leaveOrder_30, eX4_leaveOrder_33, eX4_leaveOrder_34, eX4_leaveOrder_35, eX4_leaveOrder_38, isA_r, isA_n, isI_i, isF_f, isL_l, is1_i, is1_r, is1_n, is1_f, true_and, and_true, List.length_cons, List.length_nil, Nat.reduceAdd, Nat.reduceLeDiff, Nat.reduceSub, Option.some.injEq, exists_eq_left', aft_s, aft_n, ite_true, ite_false, if_true, if_false, Nat.zero_le, Nat.le_refl, reduceCtorEq, va_rf, e3]
      rw [nI_1]
      refine ih (r + 1) (by omega) (fun i hi => ?_)
      by_cases hir : i = r
      · subst hir; exact he
      · exact h0 i (by omega)
theorem k_leave (C : CV E P H0 A σ ho wr H) {j : Nat} (hj : j < s_nJ σ) (hK : ∀ H', CV E P H0 A (leavesF σ j) ho wr H' → K (.inl none) H') : CRd TTv E (d + 5) mX4_leaveOrder [.ref (A 0 0), .ref (A 16 j)] H c n K := by
  refine crd rfl ?_
  show Ev E (d + 4) mX4_leaveOrder K 0 [.ref (A 0 0), .ref (A 16 j), .retAddr 0] [] H c n
  simp only [eX4_leaveOrder_0, eX4_leaveOrder_1, isA_r, isA_n, isI_i, isF_f, isL_l, is1_i, is1_r, is1_n, is1_f, true_and, and_true, List.length_cons, List.length_nil, Nat.reduceAdd, Nat.reduceLeDiff, Nat.reduceSub, Option.some.injEq, exists_eq_left', aft_s, aft_n, ite_true, ite_false, if_true, if_false, Nat.zero_le, Nat.le_refl, reduceCtorEq]
  exact l_leave C hj hK (s_od σ).length 0 rfl (fun i hi => absurd hi (by omega))
/-! the same, of CV -/
theorem CV.top (C : CV E P H0 A σ ho wr H) : H (A 0 0) = some (.inr (5, ofs A (s_wk σ))) := by obtain ⟨Z, X, C, -⟩ := C; exact C.top
theorem CV.job (C : CV E P H0 A σ ho wr H) {j : Nat} (hj : j < s_nJ σ) : H (A 16 j) = some (.inr (2, jfs A σ wr j)) := by obtain ⟨Z, X, C, -⟩ := C; exact C.job hj
theorem CV.ses (C : CV E P H0 A σ ho wr H) {s : Nat} (hs : s < s_nS σ) : H (A 13 s) = some (.inr (4, sfs A σ s)) := by obtain ⟨Z, X, C, -⟩ := C; exact C.ses hs
theorem CV.his (C : CV E P H0 A σ ho wr H) {s : Nat} (hs : s < s_nS σ) : H (A 14 s) = some (.inr (1, hfs (A 15 s) (s_hi σ s).length)) := by obtain ⟨Z, X, C, -⟩ := C; exact C.his hs
theorem CV.com (C : CV E P H0 A σ ho wr H) : H (A 5 0) = some (.inr (1, hfs (A 6 0) (s_cm σ).length)) := by obtain ⟨Z, X, C, -⟩ := C; exact C.com
theorem CV.wl (C : CV E P H0 A σ ho wr H) : Wl σ := by obtain ⟨Z, X, C, -⟩ := C; exact C.wl
theorem CV.fr (C : CV E P H0 A σ ho wr H) : Fr E P H0 H := by obtain ⟨Z, X, C, -⟩ := C; exact C.fr
theorem CV.J30 (C : CV E P H0 A σ ho wr H) : s_nJ σ ≤ 30 := C.wl.2.1
theorem CV.S4 (C : CV E P H0 A σ ho wr H) : s_nS σ ≤ 4 := C.wl.1
theorem CV.od30 (C : CV E P H0 A σ ho wr H) : (s_od σ).length ≤ 30 := by obtain ⟨Z, X, C, -⟩ := C; exact C.od30
theorem CV.odj (C : CV E P H0 A σ ho wr H) {i : Nat} (hi : i < (s_od σ).length) : (s_od σ).getD i 0 < s_nJ σ := by obtain ⟨Z, X, C, -⟩ := C; exact C.odj hi
theorem CV.jinj (C : CV E P H0 A σ ho wr H) {i j : Nat} (hi : i < s_nJ σ) (hj : j < s_nJ σ) : (Value.ref (A 16 i) = Value.ref (A 16 j)) = (i = j) := by obtain ⟨Z, X, C, -⟩ := C; exact C.jinj hi hj
theorem CV.sinj (C : CV E P H0 A σ ho wr H) {i j : Nat} (hi : i < s_nS σ) (hj : j < s_nS σ) : (Value.ref (A 13 i) = Value.ref (A 13 j)) = (i = j) := by obtain ⟨Z, X, C, -⟩ := C; exact C.sinj hi hj
theorem CV.lO (C : CV E P H0 A σ ho wr H) : ∃ z, ob H (A 3 0) 0 = some z := by obtain ⟨Z, X, C, -⟩ := C; exact ⟨_, ob_of C.lsO.1⟩
theorem CV.lJ (C : CV E P H0 A σ ho wr H) : ∃ z, ob H (A 2 0) 0 = some z := by obtain ⟨Z, X, C, -⟩ := C; exact ⟨_, ob_of C.lsJ.1⟩
theorem CV.lS (C : CV E P H0 A σ ho wr H) : ∃ z, ob H (A 1 0) 0 = some z := by obtain ⟨Z, X, C, -⟩ := C; exact ⟨_, ob_of C.lsS.1⟩
theorem CV.oT (C : CV E P H0 A σ ho wr H) : ∃ z, ob H (A 0 0) 5 = some z := ⟨_, ob_of C.top⟩
theorem CV.pst (C : CV E P H0 A σ ho wr H) {j v : Nat} (hj : j < s_nJ σ) (hv : stOK v) : CV E P H0 A (w_st σ (upN (s_st σ) j v)) ho wr (hset H (A 16 j) (.inr (2, jfs A (w_st σ (upN (s_st σ) j v)) wr j))) := by obtain ⟨Z, X, C, e⟩ := C; exact ⟨Z, X, C.pst hj hv, e⟩
theorem CV.phl (C : CV E P H0 A σ ho wr H) {j : Nat} {v : Bool} (hj : j < s_nJ σ) : CV E P H0 A (w_hl σ (upN (s_hl σ) j v)) ho wr (hset H (A 16 j) (.inr (2, jfs A (w_hl σ (upN (s_hl σ) j v)) wr j))) := by obtain ⟨Z, X, C, e⟩ := C; exact ⟨Z, X, C.phl hj, e⟩
theorem CV.plf (C : CV E P H0 A σ ho wr H) {j v : Nat} (hj : j < s_nJ σ) : CV E P H0 A (w_lf σ (upN (s_lf σ) j v)) ho wr (hset H (A 16 j) (.inr (2, jfs A (w_lf σ (upN (s_lf σ) j v)) wr j))) := by obtain ⟨Z, X, C, e⟩ := C; exact ⟨Z, X, C.plf hj, e⟩
theorem CV.pwr (C : CV E P H0 A σ ho wr H) {j : Nat} {v : Bool} (hj : j < s_nJ σ) : CV E P H0 A σ ho (upN wr j v) (hset H (A 16 j) (.inr (2, jfs A σ (upN wr j v) j))) := by obtain ⟨Z, X, C, e⟩ := C; exact ⟨Z, X, C.pwr hj, e⟩
theorem CV.ppv (C : CV E P H0 A σ ho wr H) {s : Nat} {v : Bool} (hs : s < s_nS σ) : CV E P H0 A (w_pv σ (upN (s_pv σ) s v)) ho wr (hset H (A 13 s) (.inr (4, sfs A (w_pv σ (upN (s_pv σ) s v)) s))) := by obtain ⟨Z, X, C, e⟩ := C; exact ⟨Z, X, C.ppv hs, e⟩
theorem CV.pdr (C : CV E P H0 A σ ho wr H) {s : Nat} {v : Bool} (hs : s < s_nS σ) : CV E P H0 A (w_dr σ (upN (s_dr σ) s v)) ho wr (hset H (A 13 s) (.inr (4, sfs A (w_dr σ (upN (s_dr σ) s v)) s))) := by obtain ⟨Z, X, C, e⟩ := C; exact ⟨Z, X, C.pdr hs, e⟩
theorem CV.pfr (C : CV E P H0 A σ ho wr H) {s : Nat} {v : Option Nat} (hs : s < s_nS σ) : CV E P H0 A (w_fr σ (upN (s_fr σ) s v)) ho wr (hset H (A 13 s) (.inr (4, sfs A (w_fr σ (upN (s_fr σ) s v)) s))) := by obtain ⟨Z, X, C, e⟩ := C; exact ⟨Z, X, C.pfr hs, e⟩
theorem CV.ppk (C : CV E P H0 A σ ho wr H) {s : Nat} {v : Option Nat} (hs : s < s_nS σ) : CV E P H0 A (w_pk σ (upN (s_pk σ) s v)) ho wr (hset H (A 13 s) (.inr (4, sfs A (w_pk σ (upN (s_pk σ) s v)) s))) := by obtain ⟨Z, X, C, e⟩ := C; exact ⟨Z, X, C.ppk hs, e⟩
theorem CV.pwk (C : CV E P H0 A σ ho wr H) {x : Int64} : CV E P H0 A (w_wk σ x) ho wr (hset H (A 0 0) (.inr (5, ofs A x))) := by obtain ⟨Z, X, C, e⟩ := C; exact ⟨Z, X, C.pwk, e⟩
theorem k_oSize (C : CV E P H0 A σ ho wr H) (hK : K (.inl (some (.int (nI (s_od σ).length)))) H) : CRd TTv E (d + 1) mJx4a65c_size_8abf5 [.ref (A 3 0)] H c n K := by obtain ⟨Z, X, C, e⟩ := C; exact L_size C.lsO hK
theorem k_jSize (C : CV E P H0 A σ ho wr H) (hK : K (.inl (some (.int (nI (s_nJ σ))))) H) : CRd TTv E (d + 1) mJx4a65c_size_8abf5 [.ref (A 2 0)] H c n K := by obtain ⟨Z, X, C, e⟩ := C; exact L_size C.lsJ hK
theorem k_sSize (C : CV E P H0 A σ ho wr H) (hK : K (.inl (some (.int (nI (s_nS σ))))) H) : CRd TTv E (d + 1) mJx4a65c_size_8abf5 [.ref (A 1 0)] H c n K := by obtain ⟨Z, X, C, e⟩ := C; exact L_size C.lsS hK
theorem k_oGet (C : CV E P H0 A σ ho wr H) {r : Nat} (hr : r < (s_od σ).length) (hK : K (.inl (some (.ref (A 16 ((s_od σ).getD r 0))))) H) : CRd TTv E (d + 3) mJx4a65c_get_915e3 [.ref (A 3 0), .int (nI r)] H c n K := by
  obtain ⟨Z, X, C, e⟩ := C
  refine L_get C.lsO hr ?_
  rw [C.rl.2.2.2.2.1.2.2 r hr]; exact hK
theorem k_jGet (C : CV E P H0 A σ ho wr H) {r : Nat} (hr : r < s_nJ σ) (hK : K (.inl (some (.ref (A 16 r)))) H) : CRd TTv E (d + 3) mJx4a65c_get_915e3 [.ref (A 2 0), .int (nI r)] H c n K := by
  obtain ⟨Z, X, C, e⟩ := C
  refine L_get C.lsJ hr ?_
  rw [C.rl.2.2.2.2.1.2.1 r hr]; exact hK
theorem k_sGet (C : CV E P H0 A σ ho wr H) {r : Nat} (hr : r < s_nS σ) (hK : K (.inl (some (.ref (A 13 r)))) H) : CRd TTv E (d + 3) mJx4a65c_get_915e3 [.ref (A 1 0), .int (nI r)] H c n K := by
  obtain ⟨Z, X, C, e⟩ := C
  refine L_get C.lsS hr ?_
  rw [C.rl.2.2.2.2.1.1 r hr]; exact hK
theorem v_needs (C : CV E P H0 A σ ho wr H) {j l : Nat} (hj : j < s_nJ σ) (hl : l < 6) (hK : K (.inl (some (.int (b2 (bitN (s_nd σ j) l))))) H) : CRd TTv E (d + 1) mX1_needs [.ref (A 16 j), .int (nI l)] H c n K := by obtain ⟨Z, X, C, e⟩ := C; exact k_needs C hj hl hK
theorem v_free (C : CV E P H0 A σ ho wr H) {j : Nat} (hj : j < s_nJ σ) (hb : HB ho) (hK : K (.inl (some (.int (b2 (frL ho (s_nd σ j)))))) H) : CRd TTv E (d + 2) mX4_locksAreFreeFor [.ref (A 0 0), .ref (A 16 j)] H c n K := by obtain ⟨Z, X, C, e⟩ := C; exact k_free C hj hb hK
theorem v_setH (C : CV E P H0 A σ ho wr H) {j : Nat} (hj : j < s_nJ σ) {x : Option Nat} (hK : ∀ H', CV E P H0 A σ (fun l => if bitN (s_nd σ j) l = true then x else ho l) wr H' → K (.inl none) H') : CRd TTv E (d + 2) mX4_setHolder [.ref (A 0 0), .ref (A 16 j), .int (o2 x)] H c n K := by
  obtain ⟨Z, X, C, e⟩ := C
  exact k_setH C hj (fun X' H' C' ec => hK H' ⟨Z, X', C', by rw [ec]; exact e⟩)
end C5
