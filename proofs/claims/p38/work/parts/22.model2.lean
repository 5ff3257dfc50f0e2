/-! the dynamics, as functions of the state -/
theorem fa_and (a b : Nat) : nI a &&& nI b = nI (a &&& b) := by
  apply Int32.toBitVec_inj.1
  show BitVec.ofNat 32 a &&& BitVec.ofNat 32 b = BitVec.ofNat 32 (a &&& b)
  apply BitVec.eq_of_getLsbD_eq
  intro i hi
  simp [hi]
def blk (σ : Sg) (j o : Nat) : Bool := o != j && s_hl σ o && (s_nd σ o &&& s_nd σ j) != 0
def freeJ (σ : Sg) (j : Nat) : Bool := (List.range (s_nJ σ)).all (fun o => !blk σ j o)
def comesF (σ : Sg) (j ch : Nat) : Sg := w_jn (w_st σ (upN (s_st σ) j ch)) (s_jn σ ++ [(j, ch)])
def leavesF (σ : Sg) (j : Nat) : Sg := w_od σ ((s_od σ).filter (fun i => i != j))
def grant (σ : Sg) (j : Nat) (l : List Nat) : Sg := comesF (w_hl (w_od σ l) (upN (s_hl σ) j true)) j 114
def looksL : List Nat → List Nat → Sg → Sg
  | [], _, σ => σ
  | j :: r, pre, σ => match freeJ σ j with
    | true => looksL r pre (grant σ j (pre ++ r))
    | false => looksL r (pre ++ [j]) σ
def looksF (σ : Sg) : Sg := looksL (s_od σ) [] σ
def over (σ : Sg) (j : Nat) : Bool := s_st σ j == 100 || s_st σ j == 107
def stOK (c : Nat) : Prop := c = 114 ∨ c = 119 ∨ c = 115 ∨ c = 100 ∨ c = 107
/-- what holds between the calls -/
def Bas (σ : Sg) : Prop := s_nS σ ≤ 4 ∧ s_nJ σ ≤ 30 ∧ (∀ j, j < s_nJ σ → s_se σ j < s_nS σ ∧ s_nd σ j ≤ 63 ∧ stOK (s_st σ j) ∧ s_lf σ j ≤ 50) ∧ (s_od σ).Nodup ∧ (∀ j ∈ s_od σ, j < s_nJ σ) ∧ (s_od σ).length ≤ 30
theorem nodup_len {l : List Nat} {n : Nat} (h : l.Nodup) (hb : ∀ j ∈ l, j < n) : l.length ≤ n := by
  have h1 := List.Nodup.length_le_of_subset h (l₂ := List.range n) (fun x hx => List.mem_range.mpr (hb x hx))
  simpa using h1
section MD2
variable {E : EN} {d : Nat} {h : AH} {c n : Nat} {K : Out → AH → Prop} {mo : Nat} {ad : Nat → Nat} {M : MS} {σ : Sg} {th : Nat}
end MD2
