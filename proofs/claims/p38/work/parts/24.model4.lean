section MD4
variable {E : EN} {d : Nat} {h : AH} {c n : Nat} {K : Out → AH → Prop} {mo : Nat} {ad : Nat → Nat} {th : Nat}
/-- what the walks need of a state -/
def Wf (σ : Sg) (B : Nat) : Prop := s_nJ σ ≤ 30 ∧ (∀ j, j < s_nJ σ → s_nd σ j ≤ 63) ∧ (s_od σ).Nodup ∧ (∀ j ∈ s_od σ, j < s_nJ σ) ∧ (s_jn σ).length ≤ B
theorem Wf.len {σ : Sg} {B : Nat} (W : Wf σ B) : (s_od σ).length ≤ 30 := Nat.le_trans (nodup_len W.2.2.1 W.2.2.2.1) W.1
theorem filter_out {pre r : List Nat} {j : Nat} (h : (pre ++ j :: r).Nodup) : (pre ++ j :: r).filter (fun i => i != j) = pre ++ r := by
  rw [List.nodup_append] at h
  obtain ⟨h1, h2, h3⟩ := h
  rw [List.nodup_cons] at h2
  rw [List.filter_append, List.filter_cons]
  have e1 : pre.filter (fun i => i != j) = pre := List.filter_eq_self.mpr (fun x hx => by simpa using h3 x hx j List.mem_cons_self)
  have e2 : r.filter (fun i => i != j) = r := List.filter_eq_self.mpr (fun x hx => by
    have : x ≠ j := fun z => h2.1 (z ▸ hx)
    simpa using this)
  rw [e1, e2]
  simp
theorem Wf.grant {σ : Sg} {B j : Nat} {pre r : List Nat} (W : Wf σ B) (ho : s_od σ = pre ++ j :: r) : Wf (grant σ j (pre ++ r)) (B + 1) := by
  obtain ⟨h1, h2, h3, h4, h5⟩ := W
  rw [ho] at h3 h4
  refine ⟨h1, h2, ?_, fun i hi => h4 i ?_, ?_⟩
  · show (pre ++ r).Nodup
    rw [← filter_out h3]
    exact h3.filter _
  · have hi : i ∈ pre ++ r := hi
    rcases List.mem_append.mp hi with hi | hi
    · exact List.mem_append_left _ hi
    · exact List.mem_append_right _ (List.mem_cons_of_mem _ hi)
  · show (s_jn σ ++ [(j, 114)]).length ≤ B + 1
    rw [List.length_append]; exact Nat.succ_le_succ h5
theorem grant_eq {σ : Sg} {j : Nat} {pre r : List Nat} (h : (s_od σ).Nodup) (ho : s_od σ = pre ++ j :: r) : comesF (leavesF (w_hl σ (upN (s_hl σ) j true)) j) j 114 = grant σ j (pre ++ r) := by
  have e : leavesF (w_hl σ (upN (s_hl σ) j true)) j = w_hl (w_od σ (pre ++ r)) (upN (s_hl σ) j true) := by
    show w_od (w_hl σ (upN (s_hl σ) j true)) ((s_od σ).filter (fun i => i != j)) = _
    rw [ho, filter_out (by rw [← ho]; exact h)]
    unfold w_od w_hl
    simp only [s_nS, s_nJ, s_wk, s_pv, s_dr, s_fr, s_pk, s_hi, s_cm, s_se, s_lf, s_nd, s_st, s_hl, s_od, s_jn]
  rw [e]
  unfold grant
  rfl
theorem lk_pre {σ : Sg} {j B : Nat} {f : Nat → Bool} (hj : j < s_nJ σ) (h1 : s_nJ σ ≤ 30) (h2 : (s_jn σ).length ≤ B) (h3 : B < 32000) : j < s_nJ (leavesF (w_hl σ f) j) ∧ s_nJ (leavesF (w_hl σ f) j) ≤ 30 ∧ (s_jn (leavesF (w_hl σ f) j)).length < 32000 := by
  unfold leavesF
  rw [g_nJ_od, g_nJ_hl, g_jn_od, g_jn_hl]
  exact ⟨hj, h1, Nat.lt_of_le_of_lt h2 h3⟩
end MD4
