def sgn (g : Int32) : Option Nat := if g = 115 then some 115 else if g = 103 then some 103 else if g = 107 then some 107 else none
def a_signal (σ : Sg) (v g : Int32) : SP := match ix v (s_nS σ) with
  | none => (1, 0, σ)
  | some s => match sgn g with
    | none => (2, 0, σ)
    | some k => (0, nI (sigL s k (s_nJ σ) 0 σ 0).1, (sigL s k (s_nJ σ) 0 σ 0).2)
section MD17
variable {E : EN} {d : Nat} {h : AH} {c n : Nat} {K : Out → AH → Prop} {mo : Nat} {ad : Nat → Nat} {M : MS} {σ : Sg} {th : Nat}
theorem c_signal (A : ADok mo ad) (R : RM σ th M) (O : Ok σ) {T : Nat} (J : Jb σ T) (hT : T < 30900) {v g : Int32} (hk : ∀ M', RM (a_signal σ v g).2.2 (a_signal σ v g).1 M' → K (.inl (some (.int (a_signal σ v g).2.1))) (mv h mo ad M')) : CRd TTv E (d + 4) mX5_signal [.ref mo, .int v, .int g] (mv h mo ad M) c n K := by
  refine crd rfl ?_
  show Ev E (d + 3) mX5_signal K 0 [.ref mo, .int v, .int g, .retAddr 0, .retAddr 0] [] _ c n
  have hS := O.S
  have hJ := O.J
  simp only [eX5_signal_0, eX5_signal_1, eX5_signal_2, isA_r, isA_n, isI_i, isF_f, isL_l, is1_i, is1_r, is1_n, is1_f, true_and, and_true, List.length_cons, List.length_nil, Nat.reduceAdd, Nat.reduceLeDiff, Nat.reduceSub, Option.some.injEq, exists_eq_left', aft_s, aft_n, ite_true, ite_false, if_true, if_false, Nat.zero_le, Nat.le_refl, reduceCtorEq, mv_ob, mr0 A, mw0 A, ms0 A, mr1 A, mw1 A, ms1 A, mr2 A, mw2 A, ms2 A, mr3 A, mw3 A, ms3 A, mr4 A, mw4 A, ms4 A, mr5 A, mw5 A, ms5 A, mr6 A, mw6 A, ms6 A, mr7 A, mw7 A, ms7 A, mr8 A, mw8 A, ms8 A, mr9 A, mw9 A, ms9 A, mr10 A, mw10 A, ms10 A, mr11 A, mw11 A, ms11 A, mr12 A, mw12 A, ms12 A, mr13 A, mw13 A, ms13 A, mr14 A, mw14 A, ms14 A, mf0, mf1, mf2, mf3, mf4, mf5, mf6, mg0, mg1, mg2, mg3, mg4, mg5, mg6, mg7, mg8, mg9, mg10, mg11, mg12, mg13, mg14, mg15, mg16, mg17, mg18, mg19, mg20, mg21, mgl, Nat.reduceLT, va_up_self, exists_eq']
  refine inv0 (c_isSession R O.S (fun s hs hv M1 R1 => ?_) (fun hne M1 R1 => ?_))
  · subst hv
    simp only [a_signal, ix_s hs (show s_nS σ < 2 ^ 31 by omega)] at hk
    have go : ∀ k, (k = 115 ∨ k = 103 ∨ k = 107) → g = nI k → sgn g = some k → Ev E (d + 3) mX5_signal K 34 [.ref mo, .int (nI s), .int g, .retAddr 0, .retAddr 0] [] (mv h mo ad M1) c n := by
      intro k hk3 hg hsg
      rw [hsg] at hk
      subst hg
      simp only [eX5_signal_34, eX5_signal_35, eX5_signal_36, eX5_signal_37, isA_r, isA_n, isI_i, isF_f, isL_l, is1_i, is1_r, is1_n, is1_f, true_and, and_true, List.length_cons, List.length_nil, Nat.reduceAdd, Nat.reduceLeDiff, Nat.reduceSub, Option.some.injEq, exists_eq_left', aft_s, aft_n, ite_true, ite_false, if_true, if_false, Nat.zero_le, Nat.le_refl, reduceCtorEq]
      exact l_signal A hk3 (s_nJ σ) 0 σ 0 T M1 R1 O J (by omega) (by omega) hs hk
    simp only [eX5_signal_5, eX5_signal_8, eX5_signal_9, eX5_signal_10, eX5_signal_11, isA_r, isA_n, isI_i, isF_f, isL_l, is1_i, is1_r, is1_n, is1_f, true_and, and_true, List.length_cons, List.length_nil, Nat.reduceAdd, Nat.reduceLeDiff, Nat.reduceSub, Option.some.injEq, exists_eq_left', aft_s, aft_n, ite_true, ite_false, if_true, if_false, Nat.zero_le, Nat.le_refl, reduceCtorEq, i10]
    rw [eX5_signal_13]
    by_cases g1 : g = 115
    · rw [if_pos g1]
      exact go 115 (Or.inl rfl) g1 (if_pos g1)
    · rw [if_neg g1]
      simp only [eX5_signal_16, eX5_signal_17, isA_r, isA_n, isI_i, isF_f, isL_l, is1_i, is1_r, is1_n, is1_f, true_and, and_true, List.length_cons, List.length_nil, Nat.reduceAdd, Nat.reduceLeDiff, Nat.reduceSub, Option.some.injEq, exists_eq_left', aft_s, aft_n, ite_true, ite_false, if_true, if_false, Nat.zero_le, Nat.le_refl, reduceCtorEq]
      rw [eX5_signal_19]
      by_cases g2 : g = 103
      · rw [if_pos g2]
        exact go 103 (Or.inr (Or.inl rfl)) g2 (by unfold sgn; rw [if_neg g1, if_pos g2])
      · rw [if_neg g2]
        simp only [eX5_signal_22, eX5_signal_23, isA_r, isA_n, isI_i, isF_f, isL_l, is1_i, is1_r, is1_n, is1_f, true_and, and_true, List.length_cons, List.length_nil, Nat.reduceAdd, Nat.reduceLeDiff, Nat.reduceSub, Option.some.injEq, exists_eq_left', aft_s, aft_n, ite_true, ite_false, if_true, if_false, Nat.zero_le, Nat.le_refl, reduceCtorEq]
        rw [eX5_signal_25]
        by_cases g3 : g = 107
        · rw [if_pos g3]
          exact go 107 (Or.inr (Or.inr rfl)) g3 (by unfold sgn; rw [if_neg g1, if_neg g2, if_pos g3])
        · rw [if_neg g3]
          rw [show sgn g = none by unfold sgn; rw [if_neg g1, if_neg g2, if_neg g3]] at hk
          simp only [eX5_signal_28, eX5_signal_29, eX5_signal_30, eX5_signal_33, isA_r, isA_n, isI_i, isF_f, isL_l, is1_i, is1_r, is1_n, is1_f, true_and, and_true, List.length_cons, List.length_nil, Nat.reduceAdd, Nat.reduceLeDiff, Nat.reduceSub, Option.some.injEq, exists_eq_left', aft_s, aft_n, ite_true, ite_false, if_true, if_false, Nat.zero_le, Nat.le_refl, reduceCtorEq, mv_ob, mr0 A, mw0 A, ms0 A, mr1 A, mw1 A, ms1 A, mr2 A, mw2 A, ms2 A, mr3 A, mw3 A, ms3 A, mr4 A, mw4 A, ms4 A, mr5 A, mw5 A, ms5 A, mr6 A, mw6 A, ms6 A, mr7 A, mw7 A, ms7 A, mr8 A, mw8 A, ms8 A, mr9 A, mw9 A, ms9 A, mr10 A, mw10 A, ms10 A, mr11 A, mw11 A, ms11 A, mr12 A, mw12 A, ms12 A, mr13 A, mw13 A, ms13 A, mr14 A, mw14 A, ms14 A, mf0, mf1, mf2, mf3, mf4, mf5, mf6, mg0, mg1, mg2, mg3, mg4, mg5, mg6, mg7, mg8, mg9, mg10, mg11, mg12, mg13, mg14, mg15, mg16, mg17, mg18, mg19, mg20, mg21, mgl, Nat.reduceLT, va_up_self, exists_eq']
          refine inv0 (c_fails ?_)
          simp only [eX5_signal_28, eX5_signal_29, eX5_signal_30, eX5_signal_33, isA_r, isA_n, isI_i, isF_f, isL_l, is1_i, is1_r, is1_n, is1_f, true_and, and_true, List.length_cons, List.length_nil, Nat.reduceAdd, Nat.reduceLeDiff, Nat.reduceSub, Option.some.injEq, exists_eq_left', aft_s, aft_n, ite_true, ite_false, if_true, if_false, Nat.zero_le, Nat.le_refl, reduceCtorEq]
          exact hk _ (R1.t 2)
  · simp only [a_signal, ix_n hne] at hk
    simp only [eX5_signal_5, eX5_signal_8, eX5_signal_9, isA_r, isA_n, isI_i, isF_f, isL_l, is1_i, is1_r, is1_n, is1_f, true_and, and_true, List.length_cons, List.length_nil, Nat.reduceAdd, Nat.reduceLeDiff, Nat.reduceSub, Option.some.injEq, exists_eq_left', aft_s, aft_n, ite_true, ite_false, if_true, if_false, Nat.zero_le, Nat.le_refl, reduceCtorEq, mv_ob, mr0 A, mw0 A, ms0 A, mr1 A, mw1 A, ms1 A, mr2 A, mw2 A, ms2 A, mr3 A, mw3 A, ms3 A, mr4 A, mw4 A, ms4 A, mr5 A, mw5 A, ms5 A, mr6 A, mw6 A, ms6 A, mr7 A, mw7 A, ms7 A, mr8 A, mw8 A, ms8 A, mr9 A, mw9 A, ms9 A, mr10 A, mw10 A, ms10 A, mr11 A, mw11 A, ms11 A, mr12 A, mw12 A, ms12 A, mr13 A, mw13 A, ms13 A, mr14 A, mw14 A, ms14 A, mf0, mf1, mf2, mf3, mf4, mf5, mf6, mg0, mg1, mg2, mg3, mg4, mg5, mg6, mg7, mg8, mg9, mg10, mg11, mg12, mg13, mg14, mg15, mg16, mg17, mg18, mg19, mg20, mg21, mgl, Nat.reduceLT, va_up_self, i00, i10]
    exact hk M1 R1
end MD17
/-! a row of bits -/
theorem fa_or (a b : Nat) : nI a ||| nI b = nI (a ||| b) := by
  apply Int32.toBitVec_inj.1
  show BitVec.ofNat 32 a ||| BitVec.ofNat 32 b = BitVec.ofNat 32 (a ||| b)
  apply BitVec.eq_of_getLsbD_eq
  intro i hi
  simp [hi]
theorem sh_all : ∀ j : Fin 30, (1 : Int32) <<< (nI j.1 &&& 31) = nI (2 ^ j.1) := by decide +kernel
theorem sh_1 {j : Nat} (h : j < 30) : (1 : Int32) <<< (nI j &&& 31) = nI (2 ^ j) := sh_all ⟨j, h⟩
/-- bit j, as the mask that the program makes of it -/
theorem or_bit {a j : Nat} {p : Nat → Bool} (h : ∀ i, a.testBit i = (decide (i < j) && p i)) (hp : p j = true) (i : Nat) : (a ||| 2 ^ j).testBit i = (decide (i < j + 1) && p i) := by
  rw [Nat.testBit_or, h i, Nat.testBit_two_pow]
  by_cases h1 : j = i
  · subst h1; simp [hp]
  · by_cases h2 : i < j
    · simp [h1, h2, show i < j + 1 by omega]
    · simp [h1, h2, show ¬ i < j + 1 by omega]
theorem no_bit {a j : Nat} {p : Nat → Bool} (h : ∀ i, a.testBit i = (decide (i < j) && p i)) (hp : p j = false) (i : Nat) : a.testBit i = (decide (i < j + 1) && p i) := by
  rw [h i]
  by_cases h1 : i = j
  · subst h1; simp [hp]
  · by_cases h2 : i < j
    · simp [h2, show i < j + 1 by omega]
    · simp [h2, show ¬ i < j + 1 by omega]
