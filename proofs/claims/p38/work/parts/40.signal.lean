def sig1 (σ : Sg) (s k j : Nat) : Option Sg :=
  if s_se σ j = s then (if k = 115 then (if cstop σ j = false then none else some (stopsF σ j)) else if k = 103 then (if s_st σ j = 115 then some (goesOnF σ j) else none) else (if over σ j = false then some (endsF σ j 107) else none)) else none
def sigL (s k : Nat) : Nat → Nat → Sg → Nat → Nat × Sg
  | 0, _, σ, n => (n, σ)
  | m + 1, j, σ, n => match sig1 σ s k j with
    | none => sigL s k m (j + 1) σ n
    | some τ => sigL s k m (j + 1) τ (n + 1)
theorem z1 : ((115 : Int32) = 103) = False := eq_false (by decide)
theorem z2 : ((115 : Int32) = 107) = False := eq_false (by decide)
theorem z3 : ((103 : Int32) = 115) = False := eq_false (by decide)
theorem z4 : ((103 : Int32) = 107) = False := eq_false (by decide)
theorem z5 : ((107 : Int32) = 115) = False := eq_false (by decide)
theorem z6 : ((107 : Int32) = 103) = False := eq_false (by decide)
theorem cstop_over {σ : Sg} {j : Nat} (h : cstop σ j = true) : over σ j = false := by
  unfold cstop at h
  unfold over
  simp at h
  rcases h with h | h <;> rw [h] <;> rfl
section MD16
variable {E : EN} {d : Nat} {h : AH} {c n : Nat} {K : Out → AH → Prop} {mo : Nat} {ad : Nat → Nat}
/-- what one job's turn keeps -/
theorem sig1_keep {σ τ : Sg} (O : Ok σ) {s k j T : Nat} (J : Jb σ T) (hj : j < s_nJ σ) (h : sig1 σ s k j = some τ) : Ok τ ∧ Jb τ (T + 1) ∧ Same σ τ := by
  have up : ∀ {υ : Sg}, Jb υ T → Jb υ (T + 1) := fun {υ} h => by unfold Jb at h ⊢; omega
  unfold sig1 at h
  split at h
  · split at h
    · split at h
      · exact absurd h (by simp)
      · next hc =>
        rw [Option.some.injEq] at h
        subst h
        exact ⟨ok_stops O hj, jb_stops O J hj (cstop_over (by simpa using hc)), same_stops⟩
    · split at h
      · split at h
        · next hc =>
          rw [Option.some.injEq] at h
          subst h
          exact ⟨ok_goesOn O hj hc, jb_goesOn O J hj hc, same_goesOn⟩
        · exact absurd h (by simp)
      · split at h
        · next hc =>
          rw [Option.some.injEq] at h
          subst h
          exact ⟨ok_ends O hj (Or.inr rfl), up (jb_ends O J hj hc (Or.inr rfl)), same_ends⟩
        · exact absurd h (by simp)
  · exact absurd h (by simp)
end MD16
