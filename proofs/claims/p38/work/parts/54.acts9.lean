theorem ix_lt {v : Int32} {n j : Nat} (h : ix v n = some j) : j < n := by
  unfold ix at h
  split at h
  · exact absurd h (by simp)
  · split at h
    · next hlt =>
      rw [Option.some.injEq] at h
      omega
    · exact absurd h (by simp)
theorem a_start_keep {σ : Sg} {T : Nat} (G : Good σ T) {v x w l : Int32} {f : Bool} : Good (a_start σ v x w l f).2.2 (T + 30) := by
  have hJ := G.1.J
  have G0 : Good σ (T + 30) := G.up (by omega)
  unfold a_start
  cases hs : ix v (s_nS σ) with
  | none => exact G0
  | some s =>
    dsimp only
    cases hx : ix x 100 with
    | none => exact G0
    | some x' =>
      dsimp only
      split
      · exact G0
      · next hw =>
        cases hl : ix l 64 with
        | none => exact G0
        | some l' =>
          dsimp only
          split
          · exact G0
          · split
            · exact G0
            · next h30 =>
              obtain ⟨k, hk50, hk1, rfl⟩ := w_in (w := w) (fun z => hw (Or.inl z)) (fun z => hw (Or.inr z))
              rw [nI_clamp (show k < 2 ^ 31 by omega)]
              exact Good.up (T := T + 1) (started_good G (ix_lt hs) (ix_lt hx) hk1 hk50 (by have := ix_lt hl; omega) (by omega)) (by omega)
