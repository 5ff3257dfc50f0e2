theorem tickL_keep {ran : Nat → Bool} : ∀ (m j : Nat) (σ : Sg) (cnt T : Nat), Ok σ → Jb σ T → Lf σ → m + j = s_nJ σ → (∀ i, j ≤ i → i < s_nJ σ → ran i = true → s_st σ i = 114) → Ok (tickL ran m j σ cnt).2 ∧ Jb (tickL ran m j σ cnt).2 T ∧ Lf (tickL ran m j σ cnt).2 ∧ s_nJ (tickL ran m j σ cnt).2 = s_nJ σ ∧ s_nS (tickL ran m j σ cnt).2 = s_nS σ := by
  intro m
  induction m with
  | zero => intro j σ cnt T O J L _ _; exact ⟨O, J, L, rfl, rfl⟩
  | succ m ih =>
    intro j σ cnt T O J L hm hr
    unfold tickL
    cases hrn : ran j with
    | false => exact ih (j + 1) σ cnt T O J L (by omega) (fun i hi => hr i (by omega))
    | true =>
      have hlt : j < s_nJ σ := by omega
      obtain ⟨O', J', L', n1, n2, hs'⟩ := tick1_keep O J L hlt (hr j (Nat.le_refl j) hlt hrn)
      have := ih (j + 1) (tick1 σ j).2 (cnt + (tick1 σ j).1) T O' J' L' (by rw [n1]; omega) (fun i hi hi2 hri => hs' i (by omega) (hr i (by omega) (by rw [n1] at hi2; exact hi2) hri))
      rw [n1, n2] at this
      exact this
theorem ticks_keep {σ : Sg} {T : Nat} (O : Ok σ) (J : Jb σ T) (L : Lf σ) : Ok (ticksF σ).2 ∧ Jb (ticksF σ).2 T ∧ Lf (ticksF σ).2 ∧ s_nJ (ticksF σ).2 = s_nJ σ ∧ s_nS (ticksF σ).2 = s_nS σ :=
  tickL_keep (s_nJ σ) 0 σ 0 T O J L (by omega) (fun i _ _ h => by unfold runs at h; simpa using h)
def manyF : Nat → Sg → Nat → Nat × Sg
  | 0, σ, n => (n, σ)
  | m + 1, σ, n => manyF m (ticksF σ).2 (n + (ticksF σ).1)
def badT (v : Int32) : Bool := decide (v < 1) || decide (60 < v)
def a_tick (σ : Sg) (v : Int32) : SP := match badT v with
  | true => (1, 0, σ)
  | false => (0, nI (manyF v.toNatClampNeg σ 0).1, (manyF v.toNatClampNeg σ 0).2)
section MD20
variable {E : EN} {d : Nat} {h : AH} {c n : Nat} {K : Out → AH → Prop} {mo : Nat} {ad : Nat → Nat} {M : MS} {σ : Sg} {th : Nat}
theorem t_in {v : Int32} (h1 : ¬ v < 1) (h2 : ¬ 60 < v) : ∃ k : Nat, k ≤ 60 ∧ v = nI k := by
  rw [Int32.lt_iff_toInt_lt] at h1 h2
  have e1 : (1 : Int32).toInt = 1 := by decide
  have e2 : (60 : Int32).toInt = 60 := by decide
  have e0 : (0 : Int32).toInt = 0 := by decide
  rw [e1] at h1
  rw [e2] at h2
  obtain ⟨k, hk, he⟩ := nI_of (x := v) (by rw [Int32.lt_iff_toInt_lt]; omega)
  subst he
  rw [nI_toInt hk] at h1 h2
  exact ⟨k, by omega, rfl⟩
end MD20
