theorem i10 : ((1 : Int32) = 0) = False := eq_false (by decide)
theorem i00 : ((0 : Int32) = 0) = True := eq_self _
def ix (v : Int32) (n : Nat) : Option Nat := if v < 0 then none else if v.toNatClampNeg < n then some v.toNatClampNeg else none
theorem ix_s {s n : Nat} (h : s < n) (hn : n < 2 ^ 31) : ix (nI s) n = some s := by
  unfold ix
  rw [if_neg (nI_pos (by omega)), nI_clamp (by omega), if_pos h]
theorem ix_n {v : Int32} {n : Nat} (h : ∀ j, j < n → v ≠ nI j) : ix v n = none := by
  unfold ix
  split
  · rfl
  · next h0 =>
    obtain ⟨j, hj, rfl⟩ := nI_of h0
    rw [nI_clamp hj]
    split
    · next hlt => exact absurd rfl (h j hlt)
    · rfl
abbrev SP : Type := Nat × Int32 × Sg
/-- the state between two calls -/
def Ok (σ : Sg) : Prop :=
  (s_nS σ ≤ 4 ∧ s_nJ σ ≤ 30) ∧
  (∀ j, j < s_nJ σ → s_se σ j < s_nS σ ∧ s_nd σ j ≤ 63 ∧ stOK (s_st σ j) ∧ s_lf σ j ≤ 50) ∧
  ((s_od σ).Nodup ∧ (∀ j, j ∈ s_od σ ↔ j < s_nJ σ ∧ s_st σ j = 119)) ∧
  (∀ j, s_hl σ j = true → j < s_nJ σ ∧ over σ j = false ∧ s_st σ j ≠ 119) ∧
  (∀ j, j < s_nJ σ → s_st σ j = 114 → s_hl σ j = true) ∧
  ((∀ s j, s_fr σ s = some j → j < s_nJ σ ∧ s_se σ j = s) ∧ (∀ s j, s_pk σ s = some j → j < s_nJ σ ∧ s_se σ j = s)) ∧
  (∀ i j, i ≠ j → s_hl σ i = true → s_hl σ j = true → s_nd σ i &&& s_nd σ j = 0) ∧
  ((∀ s, (s_hi σ s).length ≤ 8 ∧ ∀ x ∈ s_hi σ s, x < 100) ∧ (s_cm σ).length ≤ 12 ∧ (s_cm σ).Nodup ∧ ∀ x ∈ s_cm σ, x < 100) ∧
  (∀ s, s_nS σ ≤ s → s_dr σ s = false ∧ s_hi σ s = []) ∧
  ((∀ j, j < s_nJ σ → ∃ l r, s_jn σ = l ++ (j, s_st σ j) :: r ∧ ∀ e ∈ r, e.1 ≠ j) ∧ (∀ e ∈ s_jn σ, e.1 < s_nJ σ ∧ stOK e.2))
theorem Ok.S {σ : Sg} (O : Ok σ) : s_nS σ ≤ 4 := O.1.1
theorem Ok.J {σ : Sg} (O : Ok σ) : s_nJ σ ≤ 30 := O.1.2
theorem Ok.job {σ : Sg} (O : Ok σ) {j : Nat} (h : j < s_nJ σ) : s_se σ j < s_nS σ ∧ s_nd σ j ≤ 63 ∧ stOK (s_st σ j) ∧ s_lf σ j ≤ 50 := O.2.1 j h
theorem Ok.fr {σ : Sg} (O : Ok σ) {s j : Nat} (h : s_fr σ s = some j) : j < 30 := Nat.lt_of_lt_of_le (O.2.2.2.2.2.1.1 s j h).1 O.J
theorem Ok.pk {σ : Sg} (O : Ok σ) {s j : Nat} (h : s_pk σ s = some j) : j < 30 := Nat.lt_of_lt_of_le (O.2.2.2.2.2.1.2 s j h).1 O.J
theorem Ok.wf {σ : Sg} (O : Ok σ) {B : Nat} (h : (s_jn σ).length ≤ B) : Wf σ B := ⟨O.J, fun _ hj => (O.job hj).2.1, O.2.2.1.1, fun j hj => ((O.2.2.1.2 j).mp hj).1, h⟩
theorem Ok.odlen {σ : Sg} (O : Ok σ) : (s_od σ).length ≤ 30 := (O.wf (B := (s_jn σ).length) (Nat.le_refl _)).len
theorem st_ch {c : Nat} (h : stOK c) : (nI c).toUInt32 % 65536 = (nI c).toUInt32 ∧ (nI c).toUInt32.toInt32 = nI c ∧ ok16 (.int (nI c)) = true := by
  rcases h with rfl | rfl | rfl | rfl | rfl <;> decide
theorem st_c1 {c : Nat} (h : stOK c) : ((nI c).toUInt32 % 65536).toInt32 = nI c := by rw [(st_ch h).1]; exact (st_ch h).2.1
theorem ch_0 : (((0 : Int32).toUInt32 % 65536).toInt32) = 0 := by decide
theorem ok16_0 : ok16 (.int 0) = true := by decide
theorem st_100 {c : Nat} (h : stOK c) : (nI c = 100) ↔ c = 100 := by rcases h with rfl | rfl | rfl | rfl | rfl <;> decide
theorem st_107 {c : Nat} (h : stOK c) : (nI c = 107) ↔ c = 107 := by rcases h with rfl | rfl | rfl | rfl | rfl <;> decide
theorem st_114 {c : Nat} (h : stOK c) : (nI c = 114) ↔ c = 114 := by rcases h with rfl | rfl | rfl | rfl | rfl <;> decide
theorem st_115 {c : Nat} (h : stOK c) : (nI c = 115) ↔ c = 115 := by rcases h with rfl | rfl | rfl | rfl | rfl <;> decide
theorem st_119 {c : Nat} (h : stOK c) : (nI c = 119) ↔ c = 119 := by rcases h with rfl | rfl | rfl | rfl | rfl <;> decide
theorem o2_m1 {x : Option Nat} (hx : ∀ i, x = some i → i < 30) : (o2 x = -1) ↔ x = none := by
  cases x with
  | none => exact ⟨fun _ => rfl, fun _ => rfl⟩
  | some i =>
    have hi := hx i rfl
    refine ⟨fun h => ?_, fun h => absurd h (by simp)⟩
    have h : nI i = -1 := h
    have h2 := nI_pos (n := i) (by omega)
    rw [h] at h2
    exact absurd (by decide) h2
/-! what each query answers: code, value, state -/
def q_kept (σ : Sg) (v : Int32) : SP := match ix v (s_nS σ) with
  | none => (1, 0, σ)
  | some s => (0, nI (s_hi σ s).length, σ)
def q_isAttached (σ : Sg) (v : Int32) : SP := match ix v (s_nS σ) with
  | none => (1, 0, σ)
  | some s => (0, b2 (!s_dr σ s), σ)
def q_state (σ : Sg) (v : Int32) : SP := match ix v (s_nJ σ) with
  | none => (1, 0, σ)
  | some j => (0, nI (s_st σ j), σ)
def q_toDo (σ : Sg) (v : Int32) : SP := match ix v (s_nJ σ) with
  | none => (1, 0, σ)
  | some j => (0, nI (s_lf σ j), σ)
def q_sessionOf (σ : Sg) (v : Int32) : SP := match ix v (s_nJ σ) with
  | none => (1, 0, σ)
  | some j => (0, nI (s_se σ j), σ)
def q_holds (σ : Sg) (v : Int32) : SP := match ix v (s_nJ σ) with
  | none => (1, 0, σ)
  | some j => (0, b2 (s_hl σ j), σ)
def q_front (σ : Sg) (v : Int32) : SP := match ix v (s_nS σ) with
  | none => (1, 0, σ)
  | some s => match s_fr σ s with
    | none => (2, 0, σ)
    | some j => (0, nI j, σ)
def q_toBack (σ : Sg) (v : Int32) : SP := match ix v (s_nS σ) with
  | none => (1, 0, σ)
  | some s => match s_fr σ s with
    | none => (2, 0, σ)
    | some j => (0, nI j, w_fr σ (upN (s_fr σ) s none))
def q_setPrivate (σ : Sg) (v : Int32) (p : Bool) : SP := match ix v (s_nS σ) with
  | none => (1, 0, σ)
  | some s => (0, b2 (s_pv σ s), w_pv σ (upN (s_pv σ) s p))
def q_waitingAt (σ : Sg) (v : Int32) : SP := match ix v (s_od σ).length with
  | none => (1, 0, σ)
  | some k => (0, nI ((s_od σ).getD k 0), σ)
def q_entryJob (σ : Sg) (v : Int32) : SP := match ix v (s_jn σ).length with
  | none => (1, 0, σ)
  | some k => (0, nI ((s_jn σ).getD k (0, 0)).1, σ)
def q_entryState (σ : Sg) (v : Int32) : SP := match ix v (s_jn σ).length with
  | none => (1, 0, σ)
  | some k => (0, nI ((s_jn σ).getD k (0, 0)).2, σ)
def q_commonAt (σ : Sg) (v : Int32) : SP := match ix v (s_cm σ).length with
  | none => (1, 0, σ)
  | some k => (0, nI ((s_cm σ).getD ((s_cm σ).length - 1 - k) 0), σ)
def q_commandAt (σ : Sg) (v w : Int32) : SP := match ix v (s_nS σ) with
  | none => (1, 0, σ)
  | some s => match ix w (s_hi σ s).length with
    | none => (2, 0, σ)
    | some k => (0, nI ((s_hi σ s).getD ((s_hi σ s).length - 1 - k) 0), σ)
section MD6
variable {E : EN} {d : Nat} {h : AH} {c n : Nat} {K : Out → AH → Prop} {mo : Nat} {ad : Nat → Nat} {M : MS} {σ : Sg} {th : Nat}
end MD6
