def inR (a b : Int32) (x : Nat) : Bool := decide (¬ nI x < a) && decide (¬ b < nI x)
def lastIn (a b : Int32) (l : List Nat) : Option Nat := l.reverse.find? (inR a b)
theorem lastIn_s {a b : Int32} {l : List Nat} {i : Nat} (h : i < l.length) : lastIn a b (l.take (i + 1)) = if inR a b (l.getD i 0) = true then some (l.getD i 0) else lastIn a b (l.take i) := by
  unfold lastIn
  have htk : l.take (i + 1) = l.take i ++ [l.getD i 0] := by
    rw [List.take_add_one, List.getElem?_eq_getElem h, List.getD_eq_getElem?_getD, List.getElem?_eq_getElem h]
    rfl
  rw [htk, List.reverse_append, List.reverse_singleton, List.singleton_append, List.find?_cons]
  cases inR a b (l.getD i 0) <;> rfl
def sres2 (σ : Sg) (a b : Int32) : SP := match lastIn a b (s_cm σ) with
  | some x => (0, nI x, σ)
  | none => (3, 0, σ)
def sres (σ : Sg) (s : Nat) (a b : Int32) : SP := match lastIn a b (s_hi σ s) with
  | some x => (0, nI x, σ)
  | none => if s_pv σ s = false then sres2 σ a b else (3, 0, σ)
def badR (a b : Int32) : Bool := decide (a < 0) || decide (b < a) || decide (99 < b)
theorem badR_t {a b : Int32} (h : a < 0 ∨ b < a ∨ 99 < b) : badR a b = true := by
  unfold badR
  rcases h with h | h | h <;> simp [h]
theorem badR_f {a b : Int32} (h1 : ¬ a < 0) (h2 : ¬ b < a) (h3 : ¬ 99 < b) : badR a b = false := by
  unfold badR
  simp [h1, h2, h3]
def a_search (σ : Sg) (v a b : Int32) : SP := match ix v (s_nS σ) with
  | none => (1, 0, σ)
  | some s => match badR a b with
    | true => (2, 0, σ)
    | false => sres σ s a b
theorem m1_s {i : Nat} : nI i + (-1) = nI i - 1 := by
  rw [Int32.sub_eq_add_neg]
theorem m1_z : nI 0 - 1 < 0 := by decide
theorem m1_n {i : Nat} (h : i < 2 ^ 31) : ¬ nI (i + 1) - 1 < 0 := by rw [nI_pred]; exact nI_pos h
section MD14
variable {E : EN} {d : Nat} {h : AH} {c n : Nat} {K : Out → AH → Prop} {mo : Nat} {ad : Nat → Nat} {M : MS} {σ : Sg} {th : Nat}
end MD14
