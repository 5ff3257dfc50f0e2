/-! signals, ticks, starts, as the law asks of them -/
section SPEC2
variable {σ : Sg} {fw : Nat → Nat} {T : Nat}
theorem lk_keep {O : Ok σ} {i : Nat} (h : s_st σ i ≠ 119) : s_st (looksF σ) i = s_st σ i := (lk_st O i).resolve_right (fun z => h z.1)
/-- a job of its own keeps its state when another is signalled, unless it waits -/
theorem sig_other {τ : Sg} (O : Ok σ) {s k j i : Nat} (hj : j < s_nJ σ) (hne : i ≠ j) (h : sig1 σ s k j = some τ) : s_st τ i = s_st σ i ∨ (s_st σ i = 119 ∧ s_st τ i = 114) := by
  have key : ∀ (υ : Sg) (ch : Nat), Ok υ → s_st υ = upN (s_st σ) j ch → s_st (looksF υ) i = s_st σ i ∨ (s_st σ i = 119 ∧ s_st (looksF υ) i = 114) := fun υ ch Oυ e => by
    have := lk_st Oυ i
    rw [e, upN_n hne] at this
    exact this
  unfold sig1 at h
  split at h
  · split at h
    · split at h
      · exact absurd h (by simp)
      · rw [Option.some.injEq] at h
        subst h
        exact key (comesF (leavesF σ j) j 115) 115 (ok_stops0 O hj) (by unfold comesF leavesF; simp only [g_nS_nS, g_nS_nJ, g_nS_wk, g_nS_pv, g_nS_dr, g_nS_fr, g_nS_pk, g_nS_hi, g_nS_cm, g_nS_se, g_nS_lf, g_nS_nd, g_nS_st, g_nS_hl, g_nS_od, g_nS_jn, g_nJ_nS, g_nJ_nJ, g_nJ_wk, g_nJ_pv, g_nJ_dr, g_nJ_fr, g_nJ_pk, g_nJ_hi, g_nJ_cm, g_nJ_se, g_nJ_lf, g_nJ_nd, g_nJ_st, g_nJ_hl, g_nJ_od, g_nJ_jn, g_wk_nS, g_wk_nJ, g_wk_wk, g_wk_pv, g_wk_dr, g_wk_fr, g_wk_pk, g_wk_hi, g_wk_cm, g_wk_se, g_wk_lf, g_wk_nd, g_wk_st, g_wk_hl, g_wk_od, g_wk_jn, g_pv_nS, g_pv_nJ, g_pv_wk, g_pv_pv, g_pv_dr, g_pv_fr, g_pv_pk, g_pv_hi, g_pv_cm, g_pv_se, g_pv_lf, g_pv_nd, g_pv_st, g_pv_hl, g_pv_od, g_pv_jn, g_dr_nS, g_dr_nJ, g_dr_wk, g_dr_pv, g_dr_dr, g_dr_fr, g_dr_pk, g_dr_hi, g_dr_cm, g_dr_se, g_dr_lf, g_dr_nd, g_dr_st, g_dr_hl, g_dr_od, g_dr_jn, g_fr_nS, g_fr_nJ, g_fr_wk, g_fr_pv, g_fr_dr, g_fr_fr, g_fr_pk, g_fr_hi, g_fr_cm, g_fr_se, g_fr_lf, g_fr_nd, g_fr_st, g_fr_hl, g_fr_od, g_fr_jn, g_pk_nS, g_pk_nJ, g_pk_wk, g_pk_pv, g_pk_dr, g_pk_fr, g_pk_pk, g_pk_hi, g_pk_cm, g_pk_se, g_pk_lf, g_pk_nd, g_pk_st, g_pk_hl, g_pk_od, g_pk_jn, g_hi_nS, g_hi_nJ, g_hi_wk, g_hi_pv, g_hi_dr, g_hi_fr, g_hi_pk, g_hi_hi, g_hi_cm, g_hi_se, g_hi_lf, g_hi_nd, g_hi_st, g_hi_hl, g_hi_od, g_hi_jn, g_cm_nS, g_cm_nJ, g_cm_wk, g_cm_pv, g_cm_dr, g_cm_fr, g_cm_pk, g_cm_hi, g_cm_cm, g_cm_se, g_cm_lf, g_cm_nd, g_cm_st, g_cm_hl, g_cm_od, g_cm_jn, g_se_nS, g_se_nJ, g_se_wk, g_se_pv, g_se_dr, g_se_fr, g_se_pk, g_se_hi, g_se_cm, g_se_se, g_se_lf, g_se_nd, g_se_st, g_se_hl, g_se_od, g_se_jn, g_lf_nS, g_lf_nJ, g_lf_wk, g_lf_pv, g_lf_dr, g_lf_fr, g_lf_pk, g_lf_hi, g_lf_cm, g_lf_se, g_lf_lf, g_lf_nd, g_lf_st, g_lf_hl, g_lf_od, g_lf_jn, g_nd_nS, g_nd_nJ, g_nd_wk, g_nd_pv, g_nd_dr, g_nd_fr, g_nd_pk, g_nd_hi, g_nd_cm, g_nd_se, g_nd_lf, g_nd_nd, g_nd_st, g_nd_hl, g_nd_od, g_nd_jn, g_st_nS, g_st_nJ, g_st_wk, g_st_pv, g_st_dr, g_st_fr, g_st_pk, g_st_hi, g_st_cm, g_st_se, g_st_lf, g_st_nd, g_st_st, g_st_hl, g_st_od, g_st_jn, g_hl_nS, g_hl_nJ, g_hl_wk, g_hl_pv, g_hl_dr, g_hl_fr, g_hl_pk, g_hl_hi, g_hl_cm, g_hl_se, g_hl_lf, g_hl_nd, g_hl_st, g_hl_hl, g_hl_od, g_hl_jn, g_od_nS, g_od_nJ, g_od_wk, g_od_pv, g_od_dr, g_od_fr, g_od_pk, g_od_hi, g_od_cm, g_od_se, g_od_lf, g_od_nd, g_od_st, g_od_hl, g_od_od, g_od_jn, g_jn_nS, g_jn_nJ, g_jn_wk, g_jn_pv, g_jn_dr, g_jn_fr, g_jn_pk, g_jn_hi, g_jn_cm, g_jn_se, g_jn_lf, g_jn_nd, g_jn_st, g_jn_hl, g_jn_od, g_jn_jn])
    · split at h
      · split at h
        · next hc =>
          rw [Option.some.injEq] at h
          subst h
          obtain ⟨ch, hst⟩ := goes_st (σ := σ) (j := j)
          rw [goesOn_eq]
          exact key (goesOn0 σ j) ch (ok_goesOn0 O hj hc) hst
        · exact absurd h (by simp)
      · split at h
        · rw [Option.some.injEq] at h
          subst h
          exact key (ends0 σ j 107) 107 (ok_ends0 O hj (Or.inr rfl)) ends_st
        · exact absurd h (by simp)
  · exact absurd h (by simp)
/-- what a signal leaves no job of the session in -/
def sgB (k c : Nat) : Prop := if k = 115 then c ≠ 114 ∧ c ≠ 119 else if k = 103 then c ≠ 115 else c = 100 ∨ c = 107
theorem sig_self {τ : Sg} (O : Ok σ) {s k j : Nat} (hj : j < s_nJ σ) (h : sig1 σ s k j = some τ) : sgB k (s_st τ j) := by
  unfold sig1 at h
  unfold sgB
  split at h
  · split at h
    · next hk =>
      rw [if_pos hk]
      split at h
      · exact absurd h (by simp)
      · rw [Option.some.injEq] at h
        subst h
        rw [(st_stop O hj).1]
        omega
    · next hk =>
      rw [if_neg hk]
      split at h
      · next hk2 =>
        rw [if_pos hk2]
        split at h
        · next hc =>
          rw [Option.some.injEq] at h
          subst h
          have O2 := ok_goesOn O hj hc
          cases hh : s_hl σ j with
          | true => rw [(st_goes O hj hc).1 hh]; omega
          | false =>
            rcases (st_goes O hj hc).2 hh with e | ⟨l, e⟩
            · rw [e]; omega
            · rw [((O2.2.2.1.2 j).mp (by rw [e]; simp)).2]; omega
        · exact absurd h (by simp)
      · next hk2 =>
        rw [if_neg hk2]
        split at h
        · rw [Option.some.injEq] at h
          subst h
          rw [(st_ends O hj (Or.inr rfl)).1]
          omega
        · exact absurd h (by simp)
  · exact absurd h (by simp)
theorem sig_none {s k j : Nat} (hs : s_se σ j = s) (h : sig1 σ s k j = none) : sgB k (s_st σ j) := by
  unfold sig1 at h
  unfold sgB
  rw [if_pos hs] at h
  split at h
  · next hk =>
    rw [if_pos hk]
    split at h
    · next hc =>
      unfold cstop at hc
      simpa using hc
    · exact absurd h (by simp)
  · next hk =>
    rw [if_neg hk]
    split at h
    · next hk2 =>
      rw [if_pos hk2]
      split at h
      · exact absurd h (by simp)
      · next hc => exact hc
    · next hk2 =>
      rw [if_neg hk2]
      split at h
      · exact absurd h (by simp)
      · next hc =>
        unfold over at hc
        have hc2 : ¬ s_st σ j = 100 → s_st σ j = 107 := by simpa using hc
        by_cases z : s_st σ j = 100
        · exact Or.inl z
        · exact Or.inr (hc2 z)
theorem sgB_move {k a b : Nat} (hk : k = 115 ∨ k = 103 ∨ k = 107) (h : sgB k a) (hm : b = a ∨ (a = 119 ∧ b = 114)) : sgB k b := by
  rcases hm with rfl | ⟨rfl, rfl⟩
  · exact h
  · rcases hk with rfl | rfl | rfl
    · exact absurd rfl h.2
    · show (114 : Nat) ≠ 115; omega
    · rcases h with h | h <;> exact absurd h (by decide)
theorem sigL_post {s k : Nat} (hk : k = 115 ∨ k = 103 ∨ k = 107) : ∀ (m j : Nat) (σ : Sg) (cnt T : Nat), Ok σ → Jb σ T → m + j = s_nJ σ → cnt ≤ j → (∀ i, i < j → s_se σ i = s → sgB k (s_st σ i)) → Sm σ (sigL s k m j σ cnt).2 ∧ (sigL s k m j σ cnt).1 ≤ s_nJ σ ∧ ∀ i, i < s_nJ σ → s_se σ i = s → sgB k (s_st (sigL s k m j σ cnt).2 i) := by
  intro m
  induction m with
  | zero =>
    intro j σ cnt T O J hm hc hi
    refine ⟨Sm.rfl', ?_, fun i h1 h2 => hi i (by omega) h2⟩
    show cnt ≤ s_nJ σ
    omega
  | succ m ih =>
    intro j σ cnt T O J hm hc hi
    have hj : j < s_nJ σ := by omega
    unfold sigL
    cases h : sig1 σ s k j with
    | none =>
      refine ih (j + 1) σ cnt T O J (by omega) (by omega) (fun i h1 h2 => ?_)
      by_cases hij : i = j
      · rw [hij] at h2 ⊢; exact sig_none h2 h
      · exact hi i (by omega) h2
    | some τ =>
      obtain ⟨O', J', S'⟩ := sig1_keep O J hj h
      have S2 := Sm.of S'
      obtain ⟨g1, g2, g3⟩ := ih (j + 1) τ (cnt + 1) (T + 1) O' J' (by rw [S2.2.1]; omega) (by omega) (fun i h1 h2 => by
        rw [S2.2.2.1] at h2
        by_cases hij : i = j
        · rw [hij]; exact sig_self O hj h
        · exact sgB_move hk (hi i (by omega) h2) (sig_other O hj hij h))
      refine ⟨S2.trans g1, ?_, fun i h1 h2 => g3 i (by rw [S2.2.1]; exact h1) (by rw [S2.2.2.1]; exact h2)⟩
      have e := S2.2.1
      dsimp only
      omega
theorem sm_signal {T : Nat} (G : Good σ T) {v g : Int32} : Sm σ (a_signal σ v g).2.2 := by
  unfold a_signal; split
  · exact Sm.rfl'
  · split
    · exact Sm.rfl'
    · next k hk =>
      have : k = 115 ∨ k = 103 ∨ k = 107 := by
        unfold sgn at hk
        split at hk
        · cases hk; omega
        · split at hk
          · cases hk; omega
          · split at hk
            · cases hk; omega
            · cases hk
      exact (sigL_post this (s_nJ σ) 0 σ 0 T G.1 G.2.1 rfl (Nat.le_refl _) (fun i h _ => absurd h (Nat.not_lt_zero _))).1
theorem p_st_signal {T : Nat} (G : Good σ T) {v : Int32} {k : Nat} (hk : k = 115 ∨ k = 103 ∨ k = 107) : ((hx [-77, -78] (a_signal σ v (nI k)) = -77) ∧ (a_signal σ v (nI k)).2.2 = σ) ∨ ∃ s cnt, s < s_nS σ ∧ v = nI s ∧ cnt ≤ 30 ∧ hx [-77, -78] (a_signal σ v (nI k)) = nI cnt ∧ ∀ i, i < s_nJ σ → s_se σ i = s → sgB k (s_st (a_signal σ v (nI k)).2.2 i) := by
  have h4 := G.1.1.1
  have h30 := G.1.1.2
  have e : sgn (nI k) = some k := by rcases hk with rfl | rfl | rfl <;> rfl
  unfold a_signal
  split
  · exact Or.inl ⟨rfl, rfl⟩
  · next s es =>
    obtain ⟨hs, hv⟩ := ix_some es (by omega)
    rw [e]
    obtain ⟨g1, g2, g3⟩ := sigL_post (s := s) hk (s_nJ σ) 0 σ 0 T G.1 G.2.1 rfl (Nat.le_refl _) (fun i h _ => absurd h (Nat.not_lt_zero _))
    exact Or.inr ⟨s, _, hs, hv, by omega, rfl, g3⟩
/-! ticks -/
theorem sm_tick1 {T : Nat} (O : Ok σ) (J : Jb σ T) (L : Lf σ) {j : Nat} : Sm σ (tick1 σ j).2 := by
  unfold tick1
  split
  · refine Sm.trans (τ := w_wk (w_lf σ (upN (s_lf σ) j 0)) (s_wk σ + 1)) ?_ (Sm.of same_ends)
    refine ⟨?_, ?_, ?_, ?_⟩ <;> simp only [g_nS_nS, g_nS_nJ, g_nS_wk, g_nS_pv, g_nS_dr, g_nS_fr, g_nS_pk, g_nS_hi, g_nS_cm, g_nS_se, g_nS_lf, g_nS_nd, g_nS_st, g_nS_hl, g_nS_od, g_nS_jn, g_nJ_nS, g_nJ_nJ, g_nJ_wk, g_nJ_pv, g_nJ_dr, g_nJ_fr, g_nJ_pk, g_nJ_hi, g_nJ_cm, g_nJ_se, g_nJ_lf, g_nJ_nd, g_nJ_st, g_nJ_hl, g_nJ_od, g_nJ_jn, g_wk_nS, g_wk_nJ, g_wk_wk, g_wk_pv, g_wk_dr, g_wk_fr, g_wk_pk, g_wk_hi, g_wk_cm, g_wk_se, g_wk_lf, g_wk_nd, g_wk_st, g_wk_hl, g_wk_od, g_wk_jn, g_pv_nS, g_pv_nJ, g_pv_wk, g_pv_pv, g_pv_dr, g_pv_fr, g_pv_pk, g_pv_hi, g_pv_cm, g_pv_se, g_pv_lf, g_pv_nd, g_pv_st, g_pv_hl, g_pv_od, g_pv_jn, g_dr_nS, g_dr_nJ, g_dr_wk, g_dr_pv, g_dr_dr, g_dr_fr, g_dr_pk, g_dr_hi, g_dr_cm, g_dr_se, g_dr_lf, g_dr_nd, g_dr_st, g_dr_hl, g_dr_od, g_dr_jn, g_fr_nS, g_fr_nJ, g_fr_wk, g_fr_pv, g_fr_dr, g_fr_fr, g_fr_pk, g_fr_hi, g_fr_cm, g_fr_se, g_fr_lf, g_fr_nd, g_fr_st, g_fr_hl, g_fr_od, g_fr_jn, g_pk_nS, g_pk_nJ, g_pk_wk, g_pk_pv, g_pk_dr, g_pk_fr, g_pk_pk, g_pk_hi, g_pk_cm, g_pk_se, g_pk_lf, g_pk_nd, g_pk_st, g_pk_hl, g_pk_od, g_pk_jn, g_hi_nS, g_hi_nJ, g_hi_wk, g_hi_pv, g_hi_dr, g_hi_fr, g_hi_pk, g_hi_hi, g_hi_cm, g_hi_se, g_hi_lf, g_hi_nd, g_hi_st, g_hi_hl, g_hi_od, g_hi_jn, g_cm_nS, g_cm_nJ, g_cm_wk, g_cm_pv, g_cm_dr, g_cm_fr, g_cm_pk, g_cm_hi, g_cm_cm, g_cm_se, g_cm_lf, g_cm_nd, g_cm_st, g_cm_hl, g_cm_od, g_cm_jn, g_se_nS, g_se_nJ, g_se_wk, g_se_pv, g_se_dr, g_se_fr, g_se_pk, g_se_hi, g_se_cm, g_se_se, g_se_lf, g_se_nd, g_se_st, g_se_hl, g_se_od, g_se_jn, g_lf_nS, g_lf_nJ, g_lf_wk, g_lf_pv, g_lf_dr, g_lf_fr, g_lf_pk, g_lf_hi, g_lf_cm, g_lf_se, g_lf_lf, g_lf_nd, g_lf_st, g_lf_hl, g_lf_od, g_lf_jn, g_nd_nS, g_nd_nJ, g_nd_wk, g_nd_pv, g_nd_dr, g_nd_fr, g_nd_pk, g_nd_hi, g_nd_cm, g_nd_se, g_nd_lf, g_nd_nd, g_nd_st, g_nd_hl, g_nd_od, g_nd_jn, g_st_nS, g_st_nJ, g_st_wk, g_st_pv, g_st_dr, g_st_fr, g_st_pk, g_st_hi, g_st_cm, g_st_se, g_st_lf, g_st_nd, g_st_st, g_st_hl, g_st_od, g_st_jn, g_hl_nS, g_hl_nJ, g_hl_wk, g_hl_pv, g_hl_dr, g_hl_fr, g_hl_pk, g_hl_hi, g_hl_cm, g_hl_se, g_hl_lf, g_hl_nd, g_hl_st, g_hl_hl, g_hl_od, g_hl_jn, g_od_nS, g_od_nJ, g_od_wk, g_od_pv, g_od_dr, g_od_fr, g_od_pk, g_od_hi, g_od_cm, g_od_se, g_od_lf, g_od_nd, g_od_st, g_od_hl, g_od_od, g_od_jn, g_jn_nS, g_jn_nJ, g_jn_wk, g_jn_pv, g_jn_dr, g_jn_fr, g_jn_pk, g_jn_hi, g_jn_cm, g_jn_se, g_jn_lf, g_jn_nd, g_jn_st, g_jn_hl, g_jn_od, g_jn_jn]
  · refine ⟨?_, ?_, ?_, ?_⟩ <;> simp only [g_nS_nS, g_nS_nJ, g_nS_wk, g_nS_pv, g_nS_dr, g_nS_fr, g_nS_pk, g_nS_hi, g_nS_cm, g_nS_se, g_nS_lf, g_nS_nd, g_nS_st, g_nS_hl, g_nS_od, g_nS_jn, g_nJ_nS, g_nJ_nJ, g_nJ_wk, g_nJ_pv, g_nJ_dr, g_nJ_fr, g_nJ_pk, g_nJ_hi, g_nJ_cm, g_nJ_se, g_nJ_lf, g_nJ_nd, g_nJ_st, g_nJ_hl, g_nJ_od, g_nJ_jn, g_wk_nS, g_wk_nJ, g_wk_wk, g_wk_pv, g_wk_dr, g_wk_fr, g_wk_pk, g_wk_hi, g_wk_cm, g_wk_se, g_wk_lf, g_wk_nd, g_wk_st, g_wk_hl, g_wk_od, g_wk_jn, g_pv_nS, g_pv_nJ, g_pv_wk, g_pv_pv, g_pv_dr, g_pv_fr, g_pv_pk, g_pv_hi, g_pv_cm, g_pv_se, g_pv_lf, g_pv_nd, g_pv_st, g_pv_hl, g_pv_od, g_pv_jn, g_dr_nS, g_dr_nJ, g_dr_wk, g_dr_pv, g_dr_dr, g_dr_fr, g_dr_pk, g_dr_hi, g_dr_cm, g_dr_se, g_dr_lf, g_dr_nd, g_dr_st, g_dr_hl, g_dr_od, g_dr_jn, g_fr_nS, g_fr_nJ, g_fr_wk, g_fr_pv, g_fr_dr, g_fr_fr, g_fr_pk, g_fr_hi, g_fr_cm, g_fr_se, g_fr_lf, g_fr_nd, g_fr_st, g_fr_hl, g_fr_od, g_fr_jn, g_pk_nS, g_pk_nJ, g_pk_wk, g_pk_pv, g_pk_dr, g_pk_fr, g_pk_pk, g_pk_hi, g_pk_cm, g_pk_se, g_pk_lf, g_pk_nd, g_pk_st, g_pk_hl, g_pk_od, g_pk_jn, g_hi_nS, g_hi_nJ, g_hi_wk, g_hi_pv, g_hi_dr, g_hi_fr, g_hi_pk, g_hi_hi, g_hi_cm, g_hi_se, g_hi_lf, g_hi_nd, g_hi_st, g_hi_hl, g_hi_od, g_hi_jn, g_cm_nS, g_cm_nJ, g_cm_wk, g_cm_pv, g_cm_dr, g_cm_fr, g_cm_pk, g_cm_hi, g_cm_cm, g_cm_se, g_cm_lf, g_cm_nd, g_cm_st, g_cm_hl, g_cm_od, g_cm_jn, g_se_nS, g_se_nJ, g_se_wk, g_se_pv, g_se_dr, g_se_fr, g_se_pk, g_se_hi, g_se_cm, g_se_se, g_se_lf, g_se_nd, g_se_st, g_se_hl, g_se_od, g_se_jn, g_lf_nS, g_lf_nJ, g_lf_wk, g_lf_pv, g_lf_dr, g_lf_fr, g_lf_pk, g_lf_hi, g_lf_cm, g_lf_se, g_lf_lf, g_lf_nd, g_lf_st, g_lf_hl, g_lf_od, g_lf_jn, g_nd_nS, g_nd_nJ, g_nd_wk, g_nd_pv, g_nd_dr, g_nd_fr, g_nd_pk, g_nd_hi, g_nd_cm, g_nd_se, g_nd_lf, g_nd_nd, g_nd_st, g_nd_hl, g_nd_od, g_nd_jn, g_st_nS, g_st_nJ, g_st_wk, g_st_pv, g_st_dr, g_st_fr, g_st_pk, g_st_hi, g_st_cm, g_st_se, g_st_lf, g_st_nd, g_st_st, g_st_hl, g_st_od, g_st_jn, g_hl_nS, g_hl_nJ, g_hl_wk, g_hl_pv, g_hl_dr, g_hl_fr, g_hl_pk, g_hl_hi, g_hl_cm, g_hl_se, g_hl_lf, g_hl_nd, g_hl_st, g_hl_hl, g_hl_od, g_hl_jn, g_od_nS, g_od_nJ, g_od_wk, g_od_pv, g_od_dr, g_od_fr, g_od_pk, g_od_hi, g_od_cm, g_od_se, g_od_lf, g_od_nd, g_od_st, g_od_hl, g_od_od, g_od_jn, g_jn_nS, g_jn_nJ, g_jn_wk, g_jn_pv, g_jn_dr, g_jn_fr, g_jn_pk, g_jn_hi, g_jn_cm, g_jn_se, g_jn_lf, g_jn_nd, g_jn_st, g_jn_hl, g_jn_od, g_jn_jn]
theorem sm_tickL {ran : Nat → Bool} : ∀ (m j : Nat) (σ : Sg) (cnt T : Nat), Ok σ → Jb σ T → Lf σ → m + j = s_nJ σ → (∀ i, j ≤ i → i < s_nJ σ → ran i = true → s_st σ i = 114) → Sm σ (tickL ran m j σ cnt).2 := by
  intro m
  induction m with
  | zero => intro j σ cnt T _ _ _ _ _; exact Sm.rfl'
  | succ m ih =>
    intro j σ cnt T O J L hm hr
    have hj : j < s_nJ σ := by omega
    unfold tickL
    cases hran : ran j with
    | false => exact ih (j + 1) σ cnt T O J L (by omega) (fun i h1 h2 h3 => hr i (by omega) h2 h3)
    | true =>
      have h114 := hr j (Nat.le_refl _) hj hran
      obtain ⟨O', J', L', e1, e2, e3⟩ := tick1_keep O J L hj h114
      exact (sm_tick1 O J L).trans (ih (j + 1) (tick1 σ j).2 (cnt + (tick1 σ j).1) T O' J' L' (by rw [e1]; omega) (fun i h1 h2 h3 => e3 i (by omega) (hr i (by omega) (by rw [e1] at h2; exact h2) h3)))
theorem sm_many : ∀ (m : Nat) (σ : Sg) (cnt T : Nat), Ok σ → Jb σ T → Lf σ → Sm σ (manyF m σ cnt).2 := by
  intro m
  induction m with
  | zero => intro σ cnt T _ _ _; exact Sm.rfl'
  | succ m ih =>
    intro σ cnt T O J L
    unfold manyF
    obtain ⟨O', J', L', -, -⟩ := ticks_keep O J L
    exact (sm_tickL (ran := runs σ) (s_nJ σ) 0 σ 0 T O J L rfl (fun i _ _ h => by unfold runs at h; simpa using h)).trans (ih (ticksF σ).2 (cnt + (ticksF σ).1) T O' J' L')
theorem sm_tick {T : Nat} (G : Good σ T) {v : Int32} : Sm σ (a_tick σ v).2.2 := by
  unfold a_tick; split
  · exact Sm.rfl'
  · exact sm_many _ σ 0 T G.1 G.2.1 G.2.2
theorem dn_le : dn σ ≤ s_nJ σ := cN_le
theorem p_st_tick {T : Nat} (G : Good σ T) (I : Iv σ fw) {v : Int32} : (hx [-78] (a_tick σ v) = -78 ∧ (a_tick σ v).2.2 = σ) ∨ ∃ cnt, cnt ≤ 30 ∧ hx [-78] (a_tick σ v) = nI cnt ∧ dn (a_tick σ v).2.2 = dn σ + cnt := by
  have h30 := G.1.1.2
  have S := sm_tick G (v := v)
  unfold a_tick at S ⊢
  split
  · exact Or.inl ⟨rfl, rfl⟩
  · next hb =>
    rw [hb] at S
    have := (iv_many v.toNatClampNeg σ 0 T G.1 G.2.1 G.2.2 I).2
    have h2 := dn_le (σ := (manyF v.toNatClampNeg σ 0).2)
    have h3 : s_nJ (manyF v.toNatClampNeg σ 0).2 = s_nJ σ := S.2.1
    refine Or.inr ⟨(manyF v.toNatClampNeg σ 0).1, by omega, rfl, ?_⟩
    show dn (manyF v.toNatClampNeg σ 0).2 = _
    omega
/-- done jobs, session by session, are all the done jobs -/
theorem cN_split {p : Nat → Bool} {se : Nat → Nat} : ∀ {n S : Nat}, (∀ j, j < n → se j < S) → (List.range S).foldl (fun v a => v + cN (fun j => se j == a && p j) n) 0 = cN p n := by
  intro n S h
  have gen : ∀ (L : List Nat) (v : Nat), L.foldl (fun v a => v + cN (fun j => se j == a && p j) n) v = v + (L.map (fun a => cN (fun j => se j == a && p j) n)).sum := by
    intro L
    induction L with
    | nil => intro v; rfl
    | cons a r ih => intro v; simp only [List.foldl_cons, List.map_cons, List.sum_cons]; rw [ih]; omega
  rw [gen, Nat.zero_add]
  induction n with
  | zero =>
    show ((List.range S).map (fun _ => 0)).sum = 0
    induction (List.range S) with
    | nil => rfl
    | cons a r ih => simp only [List.map_cons, List.sum_cons]; rw [ih]
  | succ n ih =>
    rw [cN_s, ← ih (fun j hj => h j (by omega)) (fun L => by
      induction L with
      | nil => intro v; rfl
      | cons a r ih => intro v; simp only [List.foldl_cons, List.map_cons, List.sum_cons]; rw [ih]; omega)]
    have hn := h n (Nat.lt_succ_self n)
    have one : ∀ (L : List Nat), L.Nodup → (L.map (fun a => cN (fun j => se j == a && p j) (n + 1))).sum = (L.map (fun a => cN (fun j => se j == a && p j) n)).sum + (if se n ∈ L ∧ p n = true then 1 else 0) := by
      intro L
      induction L with
      | nil => intro _; simp
      | cons a r ihr =>
        intro hnd
        rw [List.nodup_cons] at hnd
        simp only [List.map_cons, List.sum_cons]
        rw [ihr hnd.2, cN_s]
        by_cases ha : se n = a
        · have hnr : se n ∉ r := by rw [ha]; exact hnd.1
          by_cases hp : p n = true
          · simp [ha, hp, hnd.1]; omega
          · simp [ha, hp]
        · have ha2 : (se n == a) = false := by simpa using ha
          simp only [ha2, Bool.false_and, Bool.false_eq_true, if_false, Nat.add_zero, List.mem_cons, ha, false_or]
          omega
    rw [one _ List.nodup_range]
    simp [hn]
theorem dnS_eq (O : Ok σ) : dnS σ (s_nS σ) = dn σ := by
  have h : ∀ S, dnS σ S = (List.range S).foldl (fun v a => v + cN (fun j => s_se σ j == a && dnF σ j) (s_nJ σ)) 0 := by
    intro S
    induction S with
    | zero => rfl
    | succ S ih =>
      rw [List.range_succ, List.foldl_append]
      show dnS σ S + cN (pcnt σ S 100) (s_nJ σ) = _ + cN (fun j => s_se σ j == S && dnF σ j) (s_nJ σ)
      rw [ih]
      congr 1
      refine cN_congr (fun j hj => ?_)
      show (s_se σ j == S && decide (nI (s_st σ j) = 100)) = (s_se σ j == S && (s_st σ j == 100))
      congr 1
      rcases (O.2.1 j hj).2.2.1 with e | e | e | e | e <;> rw [e] <;> decide
  rw [h]
  exact cN_split (fun j hj => (O.2.1 j hj).1)
end SPEC2
