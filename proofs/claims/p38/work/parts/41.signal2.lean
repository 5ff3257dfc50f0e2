def sgn (g : Int32) : Option Nat := if g = 115 then some 115 else if g = 103 then some 103 else if g = 107 then some 107 else none
def a_signal (σ : Sg) (v g : Int32) : SP := match ix v (s_nS σ) with
  | none => (1, 0, σ)
  | some s => match sgn g with
    | none => (2, 0, σ)
    | some k => (0, nI (sigL s k (s_nJ σ) 0 σ 0).1, (sigL s k (s_nJ σ) 0 σ 0).2)
section MD17
variable {E : EN} {d : Nat} {h : AH} {c n : Nat} {K : Out → AH → Prop} {mo : Nat} {ad : Nat → Nat} {M : MS} {σ : Sg} {th : Nat}
end MD17
/-! a row of bits -/
theorem fa_or (a b : Nat) : nI a ||| nI b = nI (a ||| b) := by
  apply Int32.toBitVec_inj.1
  show BitVec.ofNat 32 a ||| BitVec.ofNat 32 b = BitVec.ofNat 32 (a ||| b)
  apply BitVec.eq_of_getLsbD_eq
  intro i hi
  simp [hi]
theorem sh_all : ∀ j : Fin 30, (1 : Int32) <<< (nI j.1 &&& 31) = nI (2 ^ j.1) := by decide +kernel
theorem sh_1 {j : Nat} (h : j < 30) : (1 : Int32) <<< (nI j &&& 31) = nI (2 ^ j) := sh_all ⟨j, h⟩
/-- bit j, as the mask that the program makes of it -/
theorem or_bit {a j : Nat} {p : Nat → Bool} (h : ∀ i, a.testBit i = (decide (i < j) && p i)) (hp : p j = true) (i : Nat) : (a ||| 2 ^ j).testBit i = (decide (i < j + 1) && p i) := by
  rw [Nat.testBit_or, h i, Nat.testBit_two_pow]
  by_cases h1 : j = i
  · subst h1; simp [hp]
  · by_cases h2 : i < j
    · simp [h1, h2, show i < j + 1 by omega]
    · simp [h1, h2, show ¬ i < j + 1 by omega]
theorem no_bit {a j : Nat} {p : Nat → Bool} (h : ∀ i, a.testBit i = (decide (i < j) && p i)) (hp : p j = false) (i : Nat) : a.testBit i = (decide (i < j + 1) && p i) := by
  rw [h i]
  by_cases h1 : i = j
  · subst h1; simp [hp]
  · by_cases h2 : i < j
    · simp [h2, show i < j + 1 by omega]
    · simp [h2, show ¬ i < j + 1 by omega]
