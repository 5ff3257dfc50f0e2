theorem smod_all : ∀ j : Fin 30, (nI j.1 &&& 31).toBitVec.smod 32 = BitVec.ofNat 32 j.1 := by decide +kernel
theorem sh_bit {a j : Nat} (hj : j < 30) : ((nI a >>> (nI j &&& 31)) &&& 1 = 0) ↔ a.testBit j = false := by
  have e : ((nI a >>> (nI j &&& 31)) &&& 1).toBitVec = (BitVec.ofNat 32 a).sshiftRight j &&& 1#32 := by
    show (BitVec.sshiftRight' (BitVec.ofNat 32 a) ((nI j &&& 31).toBitVec.smod 32)) &&& 1#32 = _
    rw [smod_all ⟨j, hj⟩]
    unfold BitVec.sshiftRight'
    rw [BitVec.toNat_ofNat, Nat.mod_eq_of_lt (by omega)]
  rw [← Int32.toBitVec_inj, e, BitVec.and_one_eq_setWidth_ofBool_getLsbD, BitVec.getLsbD_sshiftRight]
  have hb : (BitVec.ofNat 32 a).getLsbD j = a.testBit j := by
    rw [BitVec.getLsbD_ofNat]
    simp [show j < 32 by omega]
  simp only [Nat.add_zero, show j < 32 by omega, show ¬ 32 ≤ 0 by omega, decide_false, Bool.not_false, Bool.true_and, if_true, reduceIte, hb]
  cases a.testBit j <;> decide
/-- one job's turn in a tick -/
def tick1 (σ : Sg) (j : Nat) : Nat × Sg :=
  if s_lf σ j = 1 then (1, endsF (w_wk (w_lf σ (upN (s_lf σ) j 0)) (s_wk σ + 1)) j 100) else (0, w_wk (w_lf σ (upN (s_lf σ) j (s_lf σ j - 1))) (s_wk σ + 1))
def tickL (ran : Nat → Bool) : Nat → Nat → Sg → Nat → Nat × Sg
  | 0, _, σ, n => (n, σ)
  | m + 1, j, σ, n => match ran j with
    | false => tickL ran m (j + 1) σ n
    | true => tickL ran m (j + 1) (tick1 σ j).2 (n + (tick1 σ j).1)
def runs (σ : Sg) (j : Nat) : Bool := s_st σ j == 114
def ticksF (σ : Sg) : Nat × Sg := tickL (runs σ) (s_nJ σ) 0 σ 0
/-- each job that is not over has work left -/
def Lf (σ : Sg) : Prop := ∀ j, j < s_nJ σ → over σ j = false → 1 ≤ s_lf σ j
section MD18
variable {E : EN} {d : Nat} {h : AH} {c n : Nat} {K : Out → AH → Prop} {mo : Nat} {ad : Nat → Nat} {M : MS} {σ : Sg} {th : Nat}
end MD18
