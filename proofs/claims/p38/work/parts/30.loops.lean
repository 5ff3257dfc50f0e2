def cN (p : Nat → Bool) (n : Nat) : Nat := (List.range n).countP p
theorem cN_0 {p : Nat → Bool} : cN p 0 = 0 := rfl
theorem cN_s {p : Nat → Bool} {n : Nat} : cN p (n + 1) = cN p n + (if p n = true then 1 else 0) := by
  unfold cN
  rw [List.range_succ, List.countP_append]
  simp [List.countP_cons]
theorem cN_le {p : Nat → Bool} {n : Nat} : cN p n ≤ n := by
  unfold cN
  have := List.countP_le_length (p := p) (l := List.range n)
  simpa using this
def bitN (m l : Nat) : Bool := m.testBit l
theorem bit_all : ∀ m : Fin 64, ∀ l : Fin 6, (((nI m.1 >>> (nI l.1 &&& 31)) &&& 1 = 1) ↔ bitN m.1 l.1 = true) := by decide +kernel
theorem bit_iff {m l : Nat} (hm : m ≤ 63) (hl : l < 6) : ((nI m >>> (nI l &&& 31)) &&& 1 = 1) ↔ bitN m l = true := bit_all ⟨m, by omega⟩ ⟨l, hl⟩
def hdF (σ : Sg) (l : Nat) : Option Nat := (List.range (s_nJ σ)).find? (fun j => s_hl σ j && bitN (s_nd σ j) l)
theorem fd_some {p : Nat → Bool} {n j : Nat} (hj : j < n) (h1 : p j = true) (h0 : ∀ i, i < j → p i = false) : (List.range n).find? p = some j := by
  rw [List.find?_range_eq_some]
  exact ⟨h1, List.mem_range.mpr hj, fun i hi => by rw [h0 i hi]; rfl⟩
theorem fd_none {p : Nat → Bool} {n : Nat} (h0 : ∀ i, i < n → p i = false) : (List.range n).find? p = none := by
  rw [List.find?_eq_none]
  intro x hx
  rw [h0 x (List.mem_range.mp hx)]
  decide
def pcnt (σ : Sg) (s : Nat) (x : Int32) (j : Nat) : Bool := s_se σ j == s && decide (nI (s_st σ j) = x)
def q_count (σ : Sg) (v x : Int32) : SP := match ix v (s_nS σ) with
  | none => (1, 0, σ)
  | some s => if isLet x = false then (2, 0, σ) else (0, nI (cN (pcnt σ s x) (s_nJ σ)), σ)
def q_holder (σ : Sg) (v : Int32) : SP := match ix v 6 with
  | none => (1, 0, σ)
  | some l => (0, o2 (hdF σ l), σ)
def q_blockers (σ : Sg) (v : Int32) : SP := match ix v (s_nJ σ) with
  | none => (1, 0, σ)
  | some j => if s_st σ j = 119 then (0, nI (cN (blk σ j) (s_nJ σ)), σ) else (2, 0, σ)
section MD10
variable {E : EN} {d : Nat} {h : AH} {c n : Nat} {K : Out → AH → Prop} {mo : Nat} {ad : Nat → Nat} {M : MS} {σ : Sg} {th : Nat}
end MD10
