theorem many_keep : ∀ (m : Nat) (σ : Sg) (cnt T : Nat), Ok σ → Jb σ T → Lf σ → Ok (manyF m σ cnt).2 ∧ Jb (manyF m σ cnt).2 T ∧ Lf (manyF m σ cnt).2 := by
  intro m
  induction m with
  | zero => intro σ cnt T O J L; exact ⟨O, J, L⟩
  | succ m ih =>
    intro σ cnt T O J L
    obtain ⟨O', J', L', _, _⟩ := ticks_keep O J L
    exact ih _ _ T O' J' L'
def Good (σ : Sg) (T : Nat) : Prop := Ok σ ∧ Jb σ T ∧ Lf σ
theorem Good.up {σ : Sg} {T T' : Nat} (G : Good σ T) (h : T ≤ T') : Good σ T' := ⟨G.1, by have := G.2.1; unfold Jb at this ⊢; omega, G.2.2⟩
theorem a_tick_keep {σ : Sg} {T : Nat} (G : Good σ T) {v : Int32} : Good (a_tick σ v).2.2 (T + 30) := by
  unfold a_tick
  cases badT v with
  | true => exact G.up (by omega)
  | false => exact Good.up (many_keep _ σ 0 T G.1 G.2.1 G.2.2) (by omega)
theorem a_stop_keep {σ : Sg} {T : Nat} (G : Good σ T) {v : Int32} : Good (a_stop σ v).2.2 (T + 30) := by
  unfold a_stop
  rcases pk_ix v (n := s_nJ σ) (by have := G.1.J; omega) with h0 | h0 | ⟨j, hj, rfl⟩
  · rw [ix_n (fun j hj he => by rw [he] at h0; exact nI_pos (by have := G.1.J; omega) h0)]; exact G.up (by omega)
  · rw [ix_n (fun j hj he => by rw [he] at h0; exact nI_ge hj (by have := G.1.J; omega) h0)]; exact G.up (by omega)
  · rw [ix_s hj (by have := G.1.J; omega)]
    dsimp only
    split
    · exact G.up (by omega)
    · next hc =>
      have hov := cstop_over (by simpa using hc)
      exact Good.up (T := T + 1) ⟨ok_stops G.1 hj, jb_stops G.1 G.2.1 hj hov, lf_stops G.1 G.2.2 hj hov⟩ (by omega)
theorem a_goOn_keep {σ : Sg} {T : Nat} (G : Good σ T) {v : Int32} : Good (a_goOn σ v).2.2 (T + 30) := by
  unfold a_goOn
  rcases pk_ix v (n := s_nJ σ) (by have := G.1.J; omega) with h0 | h0 | ⟨j, hj, rfl⟩
  · rw [ix_n (fun j hj he => by rw [he] at h0; exact nI_pos (by have := G.1.J; omega) h0)]; exact G.up (by omega)
  · rw [ix_n (fun j hj he => by rw [he] at h0; exact nI_ge hj (by have := G.1.J; omega) h0)]; exact G.up (by omega)
  · rw [ix_s hj (by have := G.1.J; omega)]
    dsimp only
    split
    · next hc => exact Good.up (T := T + 1) ⟨ok_goesOn G.1 hj hc, jb_goesOn G.1 G.2.1 hj hc, lf_goesOn G.1 G.2.2 hj hc⟩ (by omega)
    · exact G.up (by omega)
theorem a_end_keep {σ : Sg} {T : Nat} (G : Good σ T) {v : Int32} : Good (a_end σ v).2.2 (T + 30) := by
  unfold a_end
  rcases pk_ix v (n := s_nJ σ) (by have := G.1.J; omega) with h0 | h0 | ⟨j, hj, rfl⟩
  · rw [ix_n (fun j hj he => by rw [he] at h0; exact nI_pos (by have := G.1.J; omega) h0)]; exact G.up (by omega)
  · rw [ix_n (fun j hj he => by rw [he] at h0; exact nI_ge hj (by have := G.1.J; omega) h0)]; exact G.up (by omega)
  · rw [ix_s hj (by have := G.1.J; omega)]
    dsimp only
    split
    · next hc => exact Good.up (T := T) ⟨ok_ends G.1 hj (Or.inr rfl), jb_ends G.1 G.2.1 hj hc (Or.inr rfl), lf_ends G.1 G.2.2 hj hc (Or.inr rfl)⟩ (by omega)
    · exact G.up (by omega)
theorem a_signal_keep {σ : Sg} {T : Nat} (G : Good σ T) {v g : Int32} : Good (a_signal σ v g).2.2 (T + 30) := by
  have hJ := G.1.J
  unfold a_signal
  rcases pk_ix v (n := s_nS σ) (by have := G.1.S; omega) with h0 | h0 | ⟨s, hs, rfl⟩
  · rw [ix_n (fun j hj he => by rw [he] at h0; exact nI_pos (by have := G.1.S; omega) h0)]; exact G.up (by omega)
  · rw [ix_n (fun j hj he => by rw [he] at h0; exact nI_ge hj (by have := G.1.S; omega) h0)]; exact G.up (by omega)
  · rw [ix_s hs (by have := G.1.S; omega)]
    dsimp only
    cases sgn g with
    | none => exact G.up (by omega)
    | some k => exact Good.up (sigL_keep (s := s) (k := k) (s_nJ σ) 0 σ 0 T G.1 G.2.1 G.2.2 (by omega)) (by omega)
