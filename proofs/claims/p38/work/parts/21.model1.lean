theorem ok01_0 : ok01 (.int 0) = true := rfl
theorem ok01_1 : ok01 (.int 1) = true := rfl
theorem nI_m1 {n : Nat} (h : n < 2 ^ 30) : (nI n - 1).toInt = (n : Int) - 1 := by
  have := pk_sub_toInt (a := n) (b := 1) h (by decide)
  exact this
theorem in_case {v : Int32} {n : Nat} (hn : n < 2 ^ 30) : (∃ j : Nat, j < n ∧ v = nI j ∧ ¬ v < 0 ∧ ¬ nI n - 1 < v) ∨ ((∀ j : Nat, j < n → v ≠ nI j) ∧ (v < 0 ∨ (¬ v < 0 ∧ nI n - 1 < v))) := by
  by_cases h0 : v < 0
  · refine Or.inr ⟨fun j hj he => ?_, Or.inl h0⟩
    subst he
    exact nI_pos (by omega) h0
  · obtain ⟨j, hj, rfl⟩ := nI_of h0
    by_cases hlt : j < n
    · refine Or.inl ⟨j, hlt, rfl, h0, ?_⟩
      rw [Int32.lt_iff_toInt_lt, nI_m1 hn, nI_toInt hj]
      omega
    · refine Or.inr ⟨fun i hi he => ?_, Or.inr ⟨h0, ?_⟩⟩
      · have := (nI_eq hj (by omega)).mp he
        omega
      · rw [Int32.lt_iff_toInt_lt, nI_m1 hn, nI_toInt hj]
        omega
section MD1
variable {E : EN} {d : Nat} {h : AH} {c n : Nat} {K : Out → AH → Prop} {mo : Nat} {ad : Nat → Nat} {M : MS} {σ : Sg} {th : Nat}
end MD1
