/-! what the acts keep -/
theorem st_over {σ : Sg} {i : Nat} : over σ i = (s_st σ i == 100 || s_st σ i == 107) := rfl
theorem Ok.upd {σ τ : Sg} (O : Ok σ) {j ch : Nat} (hj : j < s_nJ σ) (hch : stOK ch)
    (e1 : s_nS τ = s_nS σ) (e2 : s_nJ τ = s_nJ σ) (e3 : s_se τ = s_se σ) (e4 : s_nd τ = s_nd σ) (e5 : s_lf τ = s_lf σ) (e6 : s_hi τ = s_hi σ) (e7 : s_cm τ = s_cm σ) (e8 : s_dr τ = s_dr σ)
    (e9 : s_st τ = upN (s_st σ) j ch) (e10 : s_jn τ = s_jn σ ++ [(j, ch)])
    (hf : ∀ s i, s_fr τ s = some i → s_fr σ s = some i) (hp : ∀ s i, s_pk τ s = some i → s_pk σ s = some i)
    (h1 : (s_od τ).Nodup) (h2 : ∀ i, i ∈ s_od τ ↔ i < s_nJ σ ∧ upN (s_st σ) j ch i = 119)
    (h3 : ∀ i, s_hl τ i = true → i < s_nJ σ ∧ (upN (s_st σ) j ch i == 100 || upN (s_st σ) j ch i == 107) = false ∧ upN (s_st σ) j ch i ≠ 119)
    (h4 : ∀ i, i < s_nJ σ → upN (s_st σ) j ch i = 114 → s_hl τ i = true)
    (h5 : ∀ a b, a ≠ b → s_hl τ a = true → s_hl τ b = true → s_nd σ a &&& s_nd σ b = 0) : Ok τ := by
  obtain ⟨o1, o2, o3, o4, o5, ⟨o6, o7⟩, o8, o9, o10, o11, o12⟩ := O
  refine ⟨by rw [e1, e2]; exact o1, fun i hi => ?_, ⟨h1, fun i => by rw [h2 i, e2, e9]⟩, fun i hi => ?_, fun i hi hs => ?_, ⟨fun s i hi => ?_, fun s i hi => ?_⟩, fun a b hab ha hb => by rw [e4]; exact h5 a b hab ha hb, ?_, ?_, fun i hi => ?_, fun e he => ?_⟩
  · rw [e2] at hi
    obtain ⟨q1, q2, q3, q4⟩ := o2 i hi
    rw [e3, e1, e4, e5, e9]
    refine ⟨q1, q2, ?_, q4⟩
    unfold upN
    split
    · exact hch
    · exact q3
  · rw [st_over, e2, e9]
    exact h3 i hi
  · rw [e2] at hi
    rw [e9] at hs
    exact h4 i hi hs
  · rw [e2, e3]; exact o6 s i (hf s i hi)
  · rw [e2, e3]; exact o7 s i (hp s i hi)
  · rw [e6, e7]; exact o9
  · rw [e1, e8, e6]; exact o10
  · rw [e2] at hi
    rw [e10, e9]
    by_cases hij : i = j
    · subst hij
      refine ⟨s_jn σ, [], ?_, fun e he => absurd he (by simp)⟩
      rw [upN_s]
    · obtain ⟨l, r, hl, hr⟩ := o11 i hi
      refine ⟨l, r ++ [(j, ch)], ?_, fun e he => ?_⟩
      · rw [upN_n hij, hl]; simp
      · rcases List.mem_append.mp he with he | he
        · exact hr e he
        · rw [List.mem_singleton] at he
          rw [he]
          exact fun z => hij z.symm
  · rw [e10] at he
    rw [e2]
    rcases List.mem_append.mp he with he | he
    · exact o12 e he
    · rw [List.mem_singleton] at he
      rw [he]
      exact ⟨hj, hch⟩
theorem free_o {σ : Sg} {j o : Nat} (hf : freeJ σ j = true) (ho : o < s_nJ σ) (hne : o ≠ j) (hh : s_hl σ o = true) : s_nd σ o &&& s_nd σ j = 0 := by
  unfold freeJ at hf
  rw [List.all_eq_true] at hf
  have := hf o (List.mem_range.mpr ho)
  unfold blk at this
  simp [hne, hh] at this
  exact this
theorem Ok.gr {σ : Sg} (O : Ok σ) {j : Nat} {pre r : List Nat} (ho : s_od σ = pre ++ j :: r) (hf : freeJ σ j = true) : Ok (grant σ j (pre ++ r)) := by
  have hnd : (pre ++ j :: r).Nodup := ho ▸ O.2.2.1.1
  have hm : ∀ i, i ∈ pre ++ r ↔ i ≠ j ∧ i ∈ s_od σ := fun i => by
    rw [← filter_out hnd, ho, List.mem_filter]
    simp [and_comm]
  have hjw := (O.2.2.1.2 j).mp (by rw [ho]; simp)
  have hnh : s_hl σ j = false := by
    cases hh : s_hl σ j with
    | false => rfl
    | true => exact absurd hjw.2 (O.2.2.2.1 j hh).2.2
  have g : ∀ {α : Type} (x : Sg → α), (x (grant σ j (pre ++ r)) = x (w_jn (w_st (w_hl (w_od σ (pre ++ r)) (upN (s_hl σ) j true)) (upN (s_st σ) j 114)) (s_jn σ ++ [(j, 114)]))) := fun x => rfl
  refine O.upd (j := j) (ch := 114) hjw.1 (Or.inl rfl) ?_ ?_ ?_ ?_ ?_ ?_ ?_ ?_ ?_ ?_ ?_ ?_ ?_ ?_ ?_ ?_ ?_ <;> simp only [g, g_nS_nS, g_nS_nJ, g_nS_wk, g_nS_pv, g_nS_dr, g_nS_fr, g_nS_pk, g_nS_hi, g_nS_cm, g_nS_se, g_nS_lf, g_nS_nd, g_nS_st, g_nS_hl, g_nS_od, g_nS_jn, g_nJ_nS, g_nJ_nJ, g_nJ_wk, g_nJ_pv, g_nJ_dr, g_nJ_fr, g_nJ_pk, g_nJ_hi, g_nJ_cm, g_nJ_se, g_nJ_lf, g_nJ_nd, g_nJ_st, g_nJ_hl, g_nJ_od, g_nJ_jn, g_wk_nS, g_wk_nJ, g_wk_wk, g_wk_pv, g_wk_dr, g_wk_fr, g_wk_pk, g_wk_hi, g_wk_cm, g_wk_se, g_wk_lf, g_wk_nd, g_wk_st, g_wk_hl, g_wk_od, g_wk_jn, g_pv_nS, g_pv_nJ, g_pv_wk, g_pv_pv, g_pv_dr, g_pv_fr, g_pv_pk, g_pv_hi, g_pv_cm, g_pv_se, g_pv_lf, g_pv_nd, g_pv_st, g_pv_hl, g_pv_od, g_pv_jn, g_dr_nS, g_dr_nJ, g_dr_wk, g_dr_pv, g_dr_dr, g_dr_fr, g_dr_pk, g_dr_hi, g_dr_cm, g_dr_se, g_dr_lf, g_dr_nd, g_dr_st, g_dr_hl, g_dr_od, g_dr_jn, g_fr_nS, g_fr_nJ, g_fr_wk, g_fr_pv, g_fr_dr, g_fr_fr, g_fr_pk, g_fr_hi, g_fr_cm, g_fr_se, g_fr_lf, g_fr_nd, g_fr_st, g_fr_hl, g_fr_od, g_fr_jn, g_pk_nS, g_pk_nJ, g_pk_wk, g_pk_pv, g_pk_dr, g_pk_fr, g_pk_pk, g_pk_hi, g_pk_cm, g_pk_se, g_pk_lf, g_pk_nd, g_pk_st, g_pk_hl, g_pk_od, g_pk_jn, g_hi_nS, g_hi_nJ, g_hi_wk, g_hi_pv, g_hi_dr, g_hi_fr, g_hi_pk, g_hi_hi, g_hi_cm, g_hi_se, g_hi_lf, g_hi_nd, g_hi_st, g_hi_hl, g_hi_od, g_hi_jn, g_cm_nS, g_cm_nJ, g_cm_wk, g_cm_pv, g_cm_dr, g_cm_fr, g_cm_pk, g_cm_hi, g_cm_cm, g_cm_se, g_cm_lf, g_cm_nd, g_cm_st, g_cm_hl, g_cm_od, g_cm_jn, g_se_nS, g_se_nJ, g_se_wk, g_se_pv, g_se_dr, g_se_fr, g_se_pk, g_se_hi, g_se_cm, g_se_se, g_se_lf, g_se_nd, g_se_st, g_se_hl, g_se_od, g_se_jn, g_lf_nS, g_lf_nJ, g_lf_wk, g_lf_pv, g_lf_dr, g_lf_fr, g_lf_pk, g_lf_hi, g_lf_cm, g_lf_se, g_lf_lf, g_lf_nd, g_lf_st, g_lf_hl, g_lf_od, g_lf_jn, g_nd_nS, g_nd_nJ, g_nd_wk, g_nd_pv, g_nd_dr, g_nd_fr, g_nd_pk, g_nd_hi, g_nd_cm, g_nd_se, g_nd_lf, g_nd_nd, g_nd_st, g_nd_hl, g_nd_od, g_nd_jn, g_st_nS, g_st_nJ, g_st_wk, g_st_pv, g_st_dr, g_st_fr, g_st_pk, g_st_hi, g_st_cm, g_st_se, g_st_lf, g_st_nd, g_st_st, g_st_hl, g_st_od, g_st_jn, g_hl_nS, g_hl_nJ, g_hl_wk, g_hl_pv, g_hl_dr, g_hl_fr, g_hl_pk, g_hl_hi, g_hl_cm, g_hl_se, g_hl_lf, g_hl_nd, g_hl_st, g_hl_hl, g_hl_od, g_hl_jn, g_od_nS, g_od_nJ, g_od_wk, g_od_pv, g_od_dr, g_od_fr, g_od_pk, g_od_hi, g_od_cm, g_od_se, g_od_lf, g_od_nd, g_od_st, g_od_hl, g_od_od, g_od_jn, g_jn_nS, g_jn_nJ, g_jn_wk, g_jn_pv, g_jn_dr, g_jn_fr, g_jn_pk, g_jn_hi, g_jn_cm, g_jn_se, g_jn_lf, g_jn_nd, g_jn_st, g_jn_hl, g_jn_od, g_jn_jn]
  · exact fun _ _ h => h
  · exact fun _ _ h => h
  · rw [← filter_out hnd]; exact hnd.filter _
  · intro i
    rw [hm i, O.2.2.1.2 i]
    unfold upN
    by_cases h : i = j
    · simp [h]
    · simp [h]
  · intro i hi
    unfold upN at hi ⊢
    by_cases h : i = j
    · simp only [h, if_true, reduceIte]
      exact ⟨hjw.1, by decide, by decide⟩
    · simp only [h, if_false, reduceIte] at hi ⊢
      exact O.2.2.2.1 i hi
  · intro i hi hs
    unfold upN at hs ⊢
    by_cases h : i = j
    · simp [h]
    · simp only [h, if_false, reduceIte] at hs ⊢
      exact O.2.2.2.2.1 i hi hs
  · intro a b hab ha hb
    unfold upN at ha hb
    by_cases h1 : a = j
    · have h2 : b ≠ j := fun z => hab (h1.trans z.symm)
      simp only [h2, if_false, reduceIte] at hb
      rw [h1, Nat.and_comm]
      exact free_o hf (O.2.2.2.1 b hb).1 h2 hb
    · simp only [h1, if_false, reduceIte] at ha
      by_cases h2 : b = j
      · rw [h2]
        exact free_o hf (O.2.2.2.1 a ha).1 h1 ha
      · simp only [h2, if_false, reduceIte] at hb
        exact O.2.2.2.2.2.2.1 a b hab ha hb
theorem ok_looksL : ∀ (rest pre : List Nat) (σ : Sg), Ok σ → s_od σ = pre ++ rest → Ok (looksL rest pre σ) := by
  intro rest
  induction rest with
  | nil => intro pre σ O _; exact O
  | cons j r ih =>
    intro pre σ O ho
    unfold looksL
    cases hf : freeJ σ j with
    | true => exact ih pre _ (O.gr ho hf) (by unfold grant comesF; simp only [g_nS_nS, g_nS_nJ, g_nS_wk, g_nS_pv, g_nS_dr, g_nS_fr, g_nS_pk, g_nS_hi, g_nS_cm, g_nS_se, g_nS_lf, g_nS_nd, g_nS_st, g_nS_hl, g_nS_od, g_nS_jn, g_nJ_nS, g_nJ_nJ, g_nJ_wk, g_nJ_pv, g_nJ_dr, g_nJ_fr, g_nJ_pk, g_nJ_hi, g_nJ_cm, g_nJ_se, g_nJ_lf, g_nJ_nd, g_nJ_st, g_nJ_hl, g_nJ_od, g_nJ_jn, g_wk_nS, g_wk_nJ, g_wk_wk, g_wk_pv, g_wk_dr, g_wk_fr, g_wk_pk, g_wk_hi, g_wk_cm, g_wk_se, g_wk_lf, g_wk_nd, g_wk_st, g_wk_hl, g_wk_od, g_wk_jn, g_pv_nS, g_pv_nJ, g_pv_wk, g_pv_pv, g_pv_dr, g_pv_fr, g_pv_pk, g_pv_hi, g_pv_cm, g_pv_se, g_pv_lf, g_pv_nd, g_pv_st, g_pv_hl, g_pv_od, g_pv_jn, g_dr_nS, g_dr_nJ, g_dr_wk, g_dr_pv, g_dr_dr, g_dr_fr, g_dr_pk, g_dr_hi, g_dr_cm, g_dr_se, g_dr_lf, g_dr_nd, g_dr_st, g_dr_hl, g_dr_od, g_dr_jn, g_fr_nS, g_fr_nJ, g_fr_wk, g_fr_pv, g_fr_dr, g_fr_fr, g_fr_pk, g_fr_hi, g_fr_cm, g_fr_se, g_fr_lf, g_fr_nd, g_fr_st, g_fr_hl, g_fr_od, g_fr_jn, g_pk_nS, g_pk_nJ, g_pk_wk, g_pk_pv, g_pk_dr, g_pk_fr, g_pk_pk, g_pk_hi, g_pk_cm, g_pk_se, g_pk_lf, g_pk_nd, g_pk_st, g_pk_hl, g_pk_od, g_pk_jn, g_hi_nS, g_hi_nJ, g_hi_wk, g_hi_pv, g_hi_dr, g_hi_fr, g_hi_pk, g_hi_hi, g_hi_cm, g_hi_se, g_hi_lf, g_hi_nd, g_hi_st, g_hi_hl, g_hi_od, g_hi_jn, g_cm_nS, g_cm_nJ, g_cm_wk, g_cm_pv, g_cm_dr, g_cm_fr, g_cm_pk, g_cm_hi, g_cm_cm, g_cm_se, g_cm_lf, g_cm_nd, g_cm_st, g_cm_hl, g_cm_od, g_cm_jn, g_se_nS, g_se_nJ, g_se_wk, g_se_pv, g_se_dr, g_se_fr, g_se_pk, g_se_hi, g_se_cm, g_se_se, g_se_lf, g_se_nd, g_se_st, g_se_hl, g_se_od, g_se_jn, g_lf_nS, g_lf_nJ, g_lf_wk, g_lf_pv, g_lf_dr, g_lf_fr, g_lf_pk, g_lf_hi, g_lf_cm, g_lf_se, g_lf_lf, g_lf_nd, g_lf_st, g_lf_hl, g_lf_od, g_lf_jn, g_nd_nS, g_nd_nJ, g_nd_wk, g_nd_pv, g_nd_dr, g_nd_fr, g_nd_pk, g_nd_hi, g_nd_cm, g_nd_se, g_nd_lf, g_nd_nd, g_nd_st, g_nd_hl, g_nd_od, g_nd_jn, g_st_nS, g_st_nJ, g_st_wk, g_st_pv, g_st_dr, g_st_fr, g_st_pk, g_st_hi, g_st_cm, g_st_se, g_st_lf, g_st_nd, g_st_st, g_st_hl, g_st_od, g_st_jn, g_hl_nS, g_hl_nJ, g_hl_wk, g_hl_pv, g_hl_dr, g_hl_fr, g_hl_pk, g_hl_hi, g_hl_cm, g_hl_se, g_hl_lf, g_hl_nd, g_hl_st, g_hl_hl, g_hl_od, g_hl_jn, g_od_nS, g_od_nJ, g_od_wk, g_od_pv, g_od_dr, g_od_fr, g_od_pk, g_od_hi, g_od_cm, g_od_se, g_od_lf, g_od_nd, g_od_st, g_od_hl, g_od_od, g_od_jn, g_jn_nS, g_jn_nJ, g_jn_wk, g_jn_pv, g_jn_dr, g_jn_fr, g_jn_pk, g_jn_hi, g_jn_cm, g_jn_se, g_jn_lf, g_jn_nd, g_jn_st, g_jn_hl, g_jn_od, g_jn_jn])
    | false => exact ih (pre ++ [j]) σ O (by rw [ho]; simp)
theorem ok_looks {σ : Sg} (O : Ok σ) : Ok (looksF σ) := ok_looksL (s_od σ) [] σ O rfl
