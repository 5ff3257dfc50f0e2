theorem smod_all : ∀ j : Fin 30, (nI j.1 &&& 31).toBitVec.smod 32 = BitVec.ofNat 32 j.1 := by decide +kernel
theorem sh_bit {a j : Nat} (hj : j < 30) : ((nI a >>> (nI j &&& 31)) &&& 1 = 0) ↔ a.testBit j = false := by
  have e : ((nI a >>> (nI j &&& 31)) &&& 1).toBitVec = (BitVec.ofNat 32 a).sshiftRight j &&& 1#32 := by
    show (BitVec.sshiftRight' (BitVec.ofNat 32 a) ((nI j &&& 31).toBitVec.smod 32)) &&& 1#32 = _
    rw [smod_all ⟨j, hj⟩]
    unfold BitVec.sshiftRight'
    rw [BitVec.toNat_ofNat, Nat.mod_eq_of_lt (by omega)]
  rw [← Int32.toBitVec_inj, e, BitVec.and_one_eq_setWidth_ofBool_getLsbD, BitVec.getLsbD_sshiftRight]
  have hb : (BitVec.ofNat 32 a).getLsbD j = a.testBit j := by
    rw [BitVec.getLsbD_ofNat]
    simp [show j < 32 by omega]
  simp only [Nat.add_zero, show j < 32 by omega, show ¬ 32 ≤ 0 by omega, decide_false, Bool.not_false, Bool.true_and, if_true, reduceIte, hb]
  cases a.testBit j <;> decide
/-- one job's turn in a tick -/
def tick1 (σ : Sg) (j : Nat) : Nat × Sg :=
  if s_lf σ j = 1 then (1, endsF (w_wk (w_lf σ (upN (s_lf σ) j 0)) (s_wk σ + 1)) j 100) else (0, w_wk (w_lf σ (upN (s_lf σ) j (s_lf σ j - 1))) (s_wk σ + 1))
def tickL (ran : Nat → Bool) : Nat → Nat → Sg → Nat → Nat × Sg
  | 0, _, σ, n => (n, σ)
  | m + 1, j, σ, n => match ran j with
    | false => tickL ran m (j + 1) σ n
    | true => tickL ran m (j + 1) (tick1 σ j).2 (n + (tick1 σ j).1)
def runs (σ : Sg) (j : Nat) : Bool := s_st σ j == 114
def ticksF (σ : Sg) : Nat × Sg := tickL (runs σ) (s_nJ σ) 0 σ 0
/-- each job that is not over has work left -/
def Lf (σ : Sg) : Prop := ∀ j, j < s_nJ σ → over σ j = false → 1 ≤ s_lf σ j
section MD18
variable {E : EN} {d : Nat} {h : AH} {c n : Nat} {K : Out → AH → Prop} {mo : Nat} {ad : Nat → Nat} {M : MS} {σ : Sg} {th : Nat}
theorem l_ran (A : ADok mo ad) (R : RM σ th M) (O : Ok σ) : ∀ (m j a : Nat), m + j = s_nJ σ → (∀ i, a.testBit i = (decide (i < j) && runs σ i)) → (∀ b, (∀ i, b.testBit i = (decide (i < s_nJ σ) && runs σ i)) → Ev E d mX5_ticks K 43 [.ref mo, .int 0, .int (nI b), .int 0] [] (mv h mo ad M) c n) →
    Ev E d mX5_ticks K 6 [.ref mo, .int 0, .int (nI a), .int (nI j)] [] (mv h mo ad M) c n := by
  have hJ := O.J
  intro m
  induction m with
  | zero =>
    intro j a hj ha hk
    have hj : j = s_nJ σ := by omega
    subst hj
    rw [hX5_ticks_6]
    simp only [eX5_ticks_7, eX5_ticks_8, isA_r, isA_n, isI_i, isF_f, isL_l, is1_i, is1_r, is1_n, is1_f, true_and, and_true, List.length_cons, List.length_nil, Nat.reduceAdd, Nat.reduceLeDiff, Nat.reduceSub, Option.some.injEq, exists_eq_left', aft_s, aft_n, ite_true, ite_false, if_true, if_false, Nat.zero_le, Nat.le_refl, reduceCtorEq, mv_ob, mr0 A, mw0 A, ms0 A, mr1 A, mw1 A, ms1 A, mr2 A, mw2 A, ms2 A, mr3 A, mw3 A, ms3 A, mr4 A, mw4 A, ms4 A, mr5 A, mw5 A, ms5 A, mr6 A, mw6 A, ms6 A, mr7 A, mw7 A, ms7 A, mr8 A, mw8 A, ms8 A, mr9 A, mw9 A, ms9 A, mr10 A, mw10 A, ms10 A, mr11 A, mw11 A, ms11 A, mr12 A, mw12 A, ms12 A, mr13 A, mw13 A, ms13 A, mr14 A, mw14 A, ms14 A, mf0, mf1, mf2, mf3, mf4, mf5, mf6, mg0, mg1, mg2, mg3, mg4, mg5, mg6, mg7, mg8, mg9, mg10, mg11, mg12, mg13, mg14, mg15, mg16, mg17, mg18, mg19, mg20, mg21, mgl, Nat.reduceLT, va_up_self, R.1.2.2.1]
    rw [eX5_ticks_11, if_neg (nI_nlt (Nat.le_refl (s_nJ σ)) (by omega))]
    simp only [eX5_ticks_41, eX5_ticks_42, isA_r, isA_n, isI_i, isF_f, isL_l, is1_i, is1_r, is1_n, is1_f, true_and, and_true, List.length_cons, List.length_nil, Nat.reduceAdd, Nat.reduceLeDiff, Nat.reduceSub, Option.some.injEq, exists_eq_left', aft_s, aft_n, ite_true, ite_false, if_true, if_false, Nat.zero_le, Nat.le_refl, reduceCtorEq]
    exact hk a ha
  | succ m ih =>
    intro j a hj ha hk
    have hlt : j < s_nJ σ := by omega
    have e1 : (nI j).toNatClampNeg = j := nI_clamp (by omega)
    have b10 := R.2.2.2.2.2.2.2.2.2.2.2.1 j hlt
    have h114 := st_114 (O.job hlt).2.2.1
    rw [hX5_ticks_6]
    simp only [eX5_ticks_7, eX5_ticks_8, isA_r, isA_n, isI_i, isF_f, isL_l, is1_i, is1_r, is1_n, is1_f, true_and, and_true, List.length_cons, List.length_nil, Nat.reduceAdd, Nat.reduceLeDiff, Nat.reduceSub, Option.some.injEq, exists_eq_left', aft_s, aft_n, ite_true, ite_false, if_true, if_false, Nat.zero_le, Nat.le_refl, reduceCtorEq, mv_ob, mr0 A, mw0 A, ms0 A, mr1 A, mw1 A, ms1 A, mr2 A, mw2 A, ms2 A, mr3 A, mw3 A, ms3 A, mr4 A, mw4 A, ms4 A, mr5 A, mw5 A, ms5 A, mr6 A, mw6 A, ms6 A, mr7 A, mw7 A, ms7 A, mr8 A, mw8 A, ms8 A, mr9 A, mw9 A, ms9 A, mr10 A, mw10 A, ms10 A, mr11 A, mw11 A, ms11 A, mr12 A, mw12 A, ms12 A, mr13 A, mw13 A, ms13 A, mr14 A, mw14 A, ms14 A, mf0, mf1, mf2, mf3, mf4, mf5, mf6, mg0, mg1, mg2, mg3, mg4, mg5, mg6, mg7, mg8, mg9, mg10, mg11, mg12, mg13, mg14, mg15, mg16, mg17, mg18, mg19, mg20, mg21, mgl, Nat.reduceLT, va_up_self, R.1.2.2.1]
    rw [eX5_ticks_11, if_pos (nI_lt hlt (by omega))]
    simp only [eX5_ticks_14, eX5_ticks_15, eX5_ticks_16, eX5_ticks_19, eX5_ticks_20, eX5_ticks_21, isA_r, isA_n, isI_i, isF_f, isL_l, is1_i, is1_r, is1_n, is1_f, true_and, and_true, List.length_cons, List.length_nil, Nat.reduceAdd, Nat.reduceLeDiff, Nat.reduceSub, Option.some.injEq, exists_eq_left', aft_s, aft_n, ite_true, ite_false, if_true, if_false, Nat.zero_le, Nat.le_refl, reduceCtorEq, mv_ob, mr0 A, mw0 A, ms0 A, mr1 A, mw1 A, ms1 A, mr2 A, mw2 A, ms2 A, mr3 A, mw3 A, ms3 A, mr4 A, mw4 A, ms4 A, mr5 A, mw5 A, ms5 A, mr6 A, mw6 A, ms6 A, mr7 A, mw7 A, ms7 A, mr8 A, mw8 A, ms8 A, mr9 A, mw9 A, ms9 A, mr10 A, mw10 A, ms10 A, mr11 A, mw11 A, ms11 A, mr12 A, mw12 A, ms12 A, mr13 A, mw13 A, ms13 A, mr14 A, mw14 A, ms14 A, mf0, mf1, mf2, mf3, mf4, mf5, mf6, mg0, mg1, mg2, mg3, mg4, mg5, mg6, mg7, mg8, mg9, mg10, mg11, mg12, mg13, mg14, mg15, mg16, mg17, mg18, mg19, mg20, mg21, mgl, Nat.reduceLT, va_up_self, inB_nI (show j < 30 by omega) (by decide), e1, b10]
    rw [eX5_ticks_23]
    by_cases hc : s_st σ j = 114
    · rw [if_pos (h114.mpr hc)]
      simp only [eX5_ticks_26, eX5_ticks_27, eX5_ticks_28, eX5_ticks_29, eX5_ticks_32, eX5_ticks_33, eX5_ticks_34, eX5_ticks_35, eX5_ticks_38, isA_r, isA_n, isI_i, isF_f, isL_l, is1_i, is1_r, is1_n, is1_f, true_and, and_true, List.length_cons, List.length_nil, Nat.reduceAdd, Nat.reduceLeDiff, Nat.reduceSub, Option.some.injEq, exists_eq_left', aft_s, aft_n, ite_true, ite_false, if_true, if_false, Nat.zero_le, Nat.le_refl, reduceCtorEq, sh_1 (show j < 30 by omega), fa_or, nI_1]
      exact ih (j + 1) _ (by omega) (or_bit ha (by unfold runs; rw [hc]; rfl)) hk
    · rw [if_neg (fun z => hc (h114.mp z))]
      have h0 : nI a ||| 0 = nI a := by
        rw [show (0 : Int32) = nI 0 from rfl, fa_or]
        simp
      simp only [eX5_ticks_32, eX5_ticks_33, eX5_ticks_34, eX5_ticks_35, eX5_ticks_38, isA_r, isA_n, isI_i, isF_f, isL_l, is1_i, is1_r, is1_n, is1_f, true_and, and_true, List.length_cons, List.length_nil, Nat.reduceAdd, Nat.reduceLeDiff, Nat.reduceSub, Option.some.injEq, exists_eq_left', aft_s, aft_n, ite_true, ite_false, if_true, if_false, Nat.zero_le, Nat.le_refl, reduceCtorEq, h0, nI_1]
      exact ih (j + 1) a (by omega) (no_bit ha (by unfold runs; simpa using hc)) hk
end MD18
