def inR (a b : Int32) (x : Nat) : Bool := decide (¬ nI x < a) && decide (¬ b < nI x)
def lastIn (a b : Int32) (l : List Nat) : Option Nat := l.reverse.find? (inR a b)
theorem lastIn_s {a b : Int32} {l : List Nat} {i : Nat} (h : i < l.length) : lastIn a b (l.take (i + 1)) = if inR a b (l.getD i 0) = true then some (l.getD i 0) else lastIn a b (l.take i) := by
  unfold lastIn
  have htk : l.take (i + 1) = l.take i ++ [l.getD i 0] := by
    rw [List.take_add_one, List.getElem?_eq_getElem h, List.getD_eq_getElem?_getD, List.getElem?_eq_getElem h]
    rfl
  rw [htk, List.reverse_append, List.reverse_singleton, List.singleton_append, List.find?_cons]
  cases inR a b (l.getD i 0) <;> rfl
def sres2 (σ : Sg) (a b : Int32) : SP := match lastIn a b (s_cm σ) with
  | some x => (0, nI x, σ)
  | none => (3, 0, σ)
def sres (σ : Sg) (s : Nat) (a b : Int32) : SP := match lastIn a b (s_hi σ s) with
  | some x => (0, nI x, σ)
  | none => if s_pv σ s = false then sres2 σ a b else (3, 0, σ)
def badR (a b : Int32) : Bool := decide (a < 0) || decide (b < a) || decide (99 < b)
theorem badR_t {a b : Int32} (h : a < 0 ∨ b < a ∨ 99 < b) : badR a b = true := by
  unfold badR
  rcases h with h | h | h <;> simp [h]
theorem badR_f {a b : Int32} (h1 : ¬ a < 0) (h2 : ¬ b < a) (h3 : ¬ 99 < b) : badR a b = false := by
  unfold badR
  simp [h1, h2, h3]
def a_search (σ : Sg) (v a b : Int32) : SP := match ix v (s_nS σ) with
  | none => (1, 0, σ)
  | some s => match badR a b with
    | true => (2, 0, σ)
    | false => sres σ s a b
theorem m1_s {i : Nat} : nI i + (-1) = nI i - 1 := by
  rw [Int32.sub_eq_add_neg]
theorem m1_z : nI 0 - 1 < 0 := by decide
theorem m1_n {i : Nat} (h : i < 2 ^ 31) : ¬ nI (i + 1) - 1 < 0 := by rw [nI_pred]; exact nI_pos h
section MD14
variable {E : EN} {d : Nat} {h : AH} {c n : Nat} {K : Out → AH → Prop} {mo : Nat} {ad : Nat → Nat} {M : MS} {σ : Sg} {th : Nat}
theorem l_search2 (A : ADok mo ad) (R : RM σ th M) (O : Ok σ) {s : Nat} {a b : Int32} (hs : s < s_nS σ) (hp : s_pv σ s = false) : ∀ i, i ≤ (s_cm σ).length → (∀ x, lastIn a b ((s_cm σ).take i) = some x → K (.inl (some (.int (nI x)))) (mv h mo ad M)) → (lastIn a b ((s_cm σ).take i) = none → K (.inl (some (.int 0))) (mv h mo ad (va_up M.1 0 3, M.2.1, M.2.2))) →
    Ev E (d + 1) mX5_search K 93 [.ref mo, .int (nI s), .int a, .int b, .int (nI i - 1)] [] (mv h mo ad M) c n := by
  have hS := O.S
  have hC := O.2.2.2.2.2.2.2.1.2.1
  have es : (nI s).toNatClampNeg = s := nI_clamp (by omega)
  have b0 := R.2.1 s (by omega)
  intro i
  induction i with
  | zero =>
    intro _ h1 h2
    rw [hX5_search_93]
    simp only [eX5_search_95, eX5_search_136, eX5_search_137, eX5_search_138, eX5_search_141, isA_r, isA_n, isI_i, isF_f, isL_l, is1_i, is1_r, is1_n, is1_f, true_and, and_true, List.length_cons, List.length_nil, Nat.reduceAdd, Nat.reduceLeDiff, Nat.reduceSub, Option.some.injEq, exists_eq_left', aft_s, aft_n, ite_true, ite_false, if_true, if_false, Nat.zero_le, Nat.le_refl, reduceCtorEq, mv_ob, mr0 A, mw0 A, ms0 A, mr1 A, mw1 A, ms1 A, mr2 A, mw2 A, ms2 A, mr3 A, mw3 A, ms3 A, mr4 A, mw4 A, ms4 A, mr5 A, mw5 A, ms5 A, mr6 A, mw6 A, ms6 A, mr7 A, mw7 A, ms7 A, mr8 A, mw8 A, ms8 A, mr9 A, mw9 A, ms9 A, mr10 A, mw10 A, ms10 A, mr11 A, mw11 A, ms11 A, mr12 A, mw12 A, ms12 A, mr13 A, mw13 A, ms13 A, mr14 A, mw14 A, ms14 A, mf0, mf1, mf2, mf3, mf4, mf5, mf6, mg0, mg1, mg2, mg3, mg4, mg5, mg6, mg7, mg8, mg9, mg10, mg11, mg12, mg13, mg14, mg15, mg16, mg17, mg18, mg19, mg20, mg21, mgl, Nat.reduceLT, va_up_self, if_pos m1_z, exists_eq']
    refine inv0 (c_fails ?_)
    simp only [eX5_search_136, eX5_search_137, eX5_search_138, eX5_search_141, isA_r, isA_n, isI_i, isF_f, isL_l, is1_i, is1_r, is1_n, is1_f, true_and, and_true, List.length_cons, List.length_nil, Nat.reduceAdd, Nat.reduceLeDiff, Nat.reduceSub, Option.some.injEq, exists_eq_left', aft_s, aft_n, ite_true, ite_false, if_true, if_false, Nat.zero_le, Nat.le_refl, reduceCtorEq]
    exact h2 rfl
  | succ i ih =>
    intro hi h1 h2
    have e1 : (nI i).toNatClampNeg = i := nI_clamp (by omega)
    have b6 := R.2.2.2.2.2.2.2.1 i (by omega)
    rw [lastIn_s (by omega)] at h1 h2
    rw [hX5_search_93]
    simp only [eX5_search_95, eX5_search_98, eX5_search_99, eX5_search_102, eX5_search_103, eX5_search_104, eX5_search_107, eX5_search_108, eX5_search_111, eX5_search_113, eX5_search_114, eX5_search_115, eX5_search_116, eX5_search_119, eX5_search_122, eX5_search_123, eX5_search_126, eX5_search_128, eX5_search_129, eX5_search_130, eX5_search_133, isA_r, isA_n, isI_i, isF_f, isL_l, is1_i, is1_r, is1_n, is1_f, true_and, and_true, List.length_cons, List.length_nil, Nat.reduceAdd, Nat.reduceLeDiff, Nat.reduceSub, Option.some.injEq, exists_eq_left', aft_s, aft_n, ite_true, ite_false, if_true, if_false, Nat.zero_le, Nat.le_refl, reduceCtorEq, mv_ob, mr0 A, mw0 A, ms0 A, mr1 A, mw1 A, ms1 A, mr2 A, mw2 A, ms2 A, mr3 A, mw3 A, ms3 A, mr4 A, mw4 A, ms4 A, mr5 A, mw5 A, ms5 A, mr6 A, mw6 A, ms6 A, mr7 A, mw7 A, ms7 A, mr8 A, mw8 A, ms8 A, mr9 A, mw9 A, ms9 A, mr10 A, mw10 A, ms10 A, mr11 A, mw11 A, ms11 A, mr12 A, mw12 A, ms12 A, mr13 A, mw13 A, ms13 A, mr14 A, mw14 A, ms14 A, mf0, mf1, mf2, mf3, mf4, mf5, mf6, mg0, mg1, mg2, mg3, mg4, mg5, mg6, mg7, mg8, mg9, mg10, mg11, mg12, mg13, mg14, mg15, mg16, mg17, mg18, mg19, mg20, mg21, mgl, Nat.reduceLT, va_up_self, if_neg (nI_pos (show i < 2 ^ 31 by omega)), inB_nI (show s < 4 by omega) (by decide), es, b0, b2_0, hp, nI_pred, inB_nI (show i < 13 by omega) (by decide), e1, b6]
    refine inv0 (c_in ?_)
    have no : inR a b ((s_cm σ).getD i 0) = false → Ev E (d + 1) mX5_search K 93 [.ref mo, .int (nI s), .int a, .int b, .int (nI i + (-1))] [] (mv h mo ad M) c n := by
      intro hf
      rw [hf] at h1 h2
      rw [m1_s]
      exact ih (by omega) h1 h2
    by_cases g1 : nI ((s_cm σ).getD i 0) < a
    · rw [if_pos g1]
      simp only [eX5_search_119, eX5_search_122, eX5_search_123, eX5_search_126, eX5_search_128, eX5_search_129, eX5_search_130, eX5_search_133, isA_r, isA_n, isI_i, isF_f, isL_l, is1_i, is1_r, is1_n, is1_f, true_and, and_true, List.length_cons, List.length_nil, Nat.reduceAdd, Nat.reduceLeDiff, Nat.reduceSub, Option.some.injEq, exists_eq_left', aft_s, aft_n, ite_true, ite_false, if_true, if_false, Nat.zero_le, Nat.le_refl, reduceCtorEq, i00]
      exact no (by unfold inR; simp only [g1]; rfl)
    · rw [if_neg g1]
      by_cases g2 : b < nI ((s_cm σ).getD i 0)
      · rw [if_pos g2]
        simp only [eX5_search_119, eX5_search_122, eX5_search_123, eX5_search_126, eX5_search_128, eX5_search_129, eX5_search_130, eX5_search_133, isA_r, isA_n, isI_i, isF_f, isL_l, is1_i, is1_r, is1_n, is1_f, true_and, and_true, List.length_cons, List.length_nil, Nat.reduceAdd, Nat.reduceLeDiff, Nat.reduceSub, Option.some.injEq, exists_eq_left', aft_s, aft_n, ite_true, ite_false, if_true, if_false, Nat.zero_le, Nat.le_refl, reduceCtorEq, i00]
        exact no (by unfold inR; simp only [g2]; simp)
      · rw [if_neg g2]
        have hy : inR a b ((s_cm σ).getD i 0) = true := by unfold inR; simp only [g1, g2]; rfl
        rw [hy] at h1
        simp only [eX5_search_119, eX5_search_122, eX5_search_123, eX5_search_126, eX5_search_128, eX5_search_129, eX5_search_130, eX5_search_133, isA_r, isA_n, isI_i, isF_f, isL_l, is1_i, is1_r, is1_n, is1_f, true_and, and_true, List.length_cons, List.length_nil, Nat.reduceAdd, Nat.reduceLeDiff, Nat.reduceSub, Option.some.injEq, exists_eq_left', aft_s, aft_n, ite_true, ite_false, if_true, if_false, Nat.zero_le, Nat.le_refl, reduceCtorEq, mv_ob, mr0 A, mw0 A, ms0 A, mr1 A, mw1 A, ms1 A, mr2 A, mw2 A, ms2 A, mr3 A, mw3 A, ms3 A, mr4 A, mw4 A, ms4 A, mr5 A, mw5 A, ms5 A, mr6 A, mw6 A, ms6 A, mr7 A, mw7 A, ms7 A, mr8 A, mw8 A, ms8 A, mr9 A, mw9 A, ms9 A, mr10 A, mw10 A, ms10 A, mr11 A, mw11 A, ms11 A, mr12 A, mw12 A, ms12 A, mr13 A, mw13 A, ms13 A, mr14 A, mw14 A, ms14 A, mf0, mf1, mf2, mf3, mf4, mf5, mf6, mg0, mg1, mg2, mg3, mg4, mg5, mg6, mg7, mg8, mg9, mg10, mg11, mg12, mg13, mg14, mg15, mg16, mg17, mg18, mg19, mg20, mg21, mgl, Nat.reduceLT, va_up_self, i10, inB_nI (show i < 13 by omega) (by decide), nI_pred, e1, b6]
        exact h1 _ rfl
theorem l_search1 (A : ADok mo ad) (R : RM σ th M) (O : Ok σ) {s : Nat} {a b : Int32} (hs : s < s_nS σ) : ∀ i, i ≤ (s_hi σ s).length → (∀ x, lastIn a b ((s_hi σ s).take i) = some x → K (.inl (some (.int (nI x)))) (mv h mo ad M)) → (lastIn a b ((s_hi σ s).take i) = none → Ev E (d + 1) mX5_search K 93 [.ref mo, .int (nI s), .int a, .int b, .int (nI (s_cm σ).length - 1)] [] (mv h mo ad M) c n) →
    Ev E (d + 1) mX5_search K 41 [.ref mo, .int (nI s), .int a, .int b, .int (nI i - 1)] [] (mv h mo ad M) c n := by
  have hS := O.S
  have hC := (O.2.2.2.2.2.2.2.1.1 s).1
  have x0 : (8 : Int32) * nI s = nI (8 * s) := pk_mul 8 s
  intro i
  induction i with
  | zero =>
    intro _ h1 h2
    rw [hX5_search_41]
    simp only [eX5_search_43, eX5_search_85, eX5_search_86, eX5_search_89, eX5_search_90, eX5_search_91, isA_r, isA_n, isI_i, isF_f, isL_l, is1_i, is1_r, is1_n, is1_f, true_and, and_true, List.length_cons, List.length_nil, Nat.reduceAdd, Nat.reduceLeDiff, Nat.reduceSub, Option.some.injEq, exists_eq_left', aft_s, aft_n, ite_true, ite_false, if_true, if_false, Nat.zero_le, Nat.le_refl, reduceCtorEq, mv_ob, mr0 A, mw0 A, ms0 A, mr1 A, mw1 A, ms1 A, mr2 A, mw2 A, ms2 A, mr3 A, mw3 A, ms3 A, mr4 A, mw4 A, ms4 A, mr5 A, mw5 A, ms5 A, mr6 A, mw6 A, ms6 A, mr7 A, mw7 A, ms7 A, mr8 A, mw8 A, ms8 A, mr9 A, mw9 A, ms9 A, mr10 A, mw10 A, ms10 A, mr11 A, mw11 A, ms11 A, mr12 A, mw12 A, ms12 A, mr13 A, mw13 A, ms13 A, mr14 A, mw14 A, ms14 A, mf0, mf1, mf2, mf3, mf4, mf5, mf6, mg0, mg1, mg2, mg3, mg4, mg5, mg6, mg7, mg8, mg9, mg10, mg11, mg12, mg13, mg14, mg15, mg16, mg17, mg18, mg19, mg20, mg21, mgl, Nat.reduceLT, va_up_self, if_pos m1_z, R.1.2.2.2.2.1]
    exact h2 rfl
  | succ i ih =>
    intro hi h1 h2
    have e1 : (nI (8 * s + i)).toNatClampNeg = 8 * s + i := nI_clamp (by omega)
    have b5 := R.2.2.2.2.2.2.1 s (by omega) i (by omega)
    rw [lastIn_s (by omega)] at h1 h2
    rw [hX5_search_41]
    simp only [eX5_search_43, eX5_search_46, eX5_search_47, eX5_search_50, eX5_search_52, eX5_search_53, eX5_search_54, eX5_search_56, eX5_search_57, eX5_search_58, eX5_search_59, eX5_search_60, eX5_search_63, eX5_search_66, eX5_search_67, eX5_search_70, eX5_search_72, eX5_search_73, eX5_search_74, eX5_search_76, eX5_search_77, eX5_search_78, eX5_search_79, eX5_search_82, isA_r, isA_n, isI_i, isF_f, isL_l, is1_i, is1_r, is1_n, is1_f, true_and, and_true, List.length_cons, List.length_nil, Nat.reduceAdd, Nat.reduceLeDiff, Nat.reduceSub, Option.some.injEq, exists_eq_left', aft_s, aft_n, ite_true, ite_false, if_true, if_false, Nat.zero_le, Nat.le_refl, reduceCtorEq, mv_ob, mr0 A, mw0 A, ms0 A, mr1 A, mw1 A, ms1 A, mr2 A, mw2 A, ms2 A, mr3 A, mw3 A, ms3 A, mr4 A, mw4 A, ms4 A, mr5 A, mw5 A, ms5 A, mr6 A, mw6 A, ms6 A, mr7 A, mw7 A, ms7 A, mr8 A, mw8 A, ms8 A, mr9 A, mw9 A, ms9 A, mr10 A, mw10 A, ms10 A, mr11 A, mw11 A, ms11 A, mr12 A, mw12 A, ms12 A, mr13 A, mw13 A, ms13 A, mr14 A, mw14 A, ms14 A, mf0, mf1, mf2, mf3, mf4, mf5, mf6, mg0, mg1, mg2, mg3, mg4, mg5, mg6, mg7, mg8, mg9, mg10, mg11, mg12, mg13, mg14, mg15, mg16, mg17, mg18, mg19, mg20, mg21, mgl, Nat.reduceLT, va_up_self, if_neg (nI_pos (show i < 2 ^ 31 by omega)), x0, nI_pred, nI_add, inB_nI (show 8 * s + i < 32 by omega) (by decide), e1, b5]
    refine inv0 (c_in ?_)
    have no : inR a b ((s_hi σ s).getD i 0) = false → Ev E (d + 1) mX5_search K 41 [.ref mo, .int (nI s), .int a, .int b, .int (nI i + (-1))] [] (mv h mo ad M) c n := by
      intro hf
      rw [hf] at h1 h2
      rw [m1_s]
      exact ih (by omega) h1 h2
    by_cases g1 : nI ((s_hi σ s).getD i 0) < a
    · rw [if_pos g1]
      simp only [eX5_search_63, eX5_search_66, eX5_search_67, eX5_search_70, eX5_search_72, eX5_search_73, eX5_search_74, eX5_search_76, eX5_search_77, eX5_search_78, eX5_search_79, eX5_search_82, isA_r, isA_n, isI_i, isF_f, isL_l, is1_i, is1_r, is1_n, is1_f, true_and, and_true, List.length_cons, List.length_nil, Nat.reduceAdd, Nat.reduceLeDiff, Nat.reduceSub, Option.some.injEq, exists_eq_left', aft_s, aft_n, ite_true, ite_false, if_true, if_false, Nat.zero_le, Nat.le_refl, reduceCtorEq, i00]
      exact no (by unfold inR; simp only [g1]; rfl)
    · rw [if_neg g1]
      by_cases g2 : b < nI ((s_hi σ s).getD i 0)
      · rw [if_pos g2]
        simp only [eX5_search_63, eX5_search_66, eX5_search_67, eX5_search_70, eX5_search_72, eX5_search_73, eX5_search_74, eX5_search_76, eX5_search_77, eX5_search_78, eX5_search_79, eX5_search_82, isA_r, isA_n, isI_i, isF_f, isL_l, is1_i, is1_r, is1_n, is1_f, true_and, and_true, List.length_cons, List.length_nil, Nat.reduceAdd, Nat.reduceLeDiff, Nat.reduceSub, Option.some.injEq, exists_eq_left', aft_s, aft_n, ite_true, ite_false, if_true, if_false, Nat.zero_le, Nat.le_refl, reduceCtorEq, i00]
        exact no (by unfold inR; simp only [g2]; simp)
      · rw [if_neg g2]
        have hy : inR a b ((s_hi σ s).getD i 0) = true := by unfold inR; simp only [g1, g2]; rfl
        rw [hy] at h1
        simp only [eX5_search_63, eX5_search_66, eX5_search_67, eX5_search_70, eX5_search_72, eX5_search_73, eX5_search_74, eX5_search_76, eX5_search_77, eX5_search_78, eX5_search_79, eX5_search_82, isA_r, isA_n, isI_i, isF_f, isL_l, is1_i, is1_r, is1_n, is1_f, true_and, and_true, List.length_cons, List.length_nil, Nat.reduceAdd, Nat.reduceLeDiff, Nat.reduceSub, Option.some.injEq, exists_eq_left', aft_s, aft_n, ite_true, ite_false, if_true, if_false, Nat.zero_le, Nat.le_refl, reduceCtorEq, mv_ob, mr0 A, mw0 A, ms0 A, mr1 A, mw1 A, ms1 A, mr2 A, mw2 A, ms2 A, mr3 A, mw3 A, ms3 A, mr4 A, mw4 A, ms4 A, mr5 A, mw5 A, ms5 A, mr6 A, mw6 A, ms6 A, mr7 A, mw7 A, ms7 A, mr8 A, mw8 A, ms8 A, mr9 A, mw9 A, ms9 A, mr10 A, mw10 A, ms10 A, mr11 A, mw11 A, ms11 A, mr12 A, mw12 A, ms12 A, mr13 A, mw13 A, ms13 A, mr14 A, mw14 A, ms14 A, mf0, mf1, mf2, mf3, mf4, mf5, mf6, mg0, mg1, mg2, mg3, mg4, mg5, mg6, mg7, mg8, mg9, mg10, mg11, mg12, mg13, mg14, mg15, mg16, mg17, mg18, mg19, mg20, mg21, mgl, Nat.reduceLT, va_up_self, i10, x0, nI_pred, nI_add, inB_nI (show 8 * s + i < 32 by omega) (by decide), e1, b5]
        exact h1 _ rfl
theorem l_searchP (A : ADok mo ad) (R : RM σ th M) (O : Ok σ) {s : Nat} {a b : Int32} (hs : s < s_nS σ) (hp : s_pv σ s = true) : ∀ i, i ≤ (s_cm σ).length → K (.inl (some (.int 0))) (mv h mo ad (va_up M.1 0 3, M.2.1, M.2.2)) →
    Ev E (d + 1) mX5_search K 93 [.ref mo, .int (nI s), .int a, .int b, .int (nI i - 1)] [] (mv h mo ad M) c n := by
  have hS := O.S
  have hC := O.2.2.2.2.2.2.2.1.2.1
  have es : (nI s).toNatClampNeg = s := nI_clamp (by omega)
  have b0 := R.2.1 s (by omega)
  intro i hi h2
  rw [hX5_search_93]
  cases i with
  | zero =>
    simp only [eX5_search_95, eX5_search_136, eX5_search_137, eX5_search_138, eX5_search_141, isA_r, isA_n, isI_i, isF_f, isL_l, is1_i, is1_r, is1_n, is1_f, true_and, and_true, List.length_cons, List.length_nil, Nat.reduceAdd, Nat.reduceLeDiff, Nat.reduceSub, Option.some.injEq, exists_eq_left', aft_s, aft_n, ite_true, ite_false, if_true, if_false, Nat.zero_le, Nat.le_refl, reduceCtorEq, mv_ob, mr0 A, mw0 A, ms0 A, mr1 A, mw1 A, ms1 A, mr2 A, mw2 A, ms2 A, mr3 A, mw3 A, ms3 A, mr4 A, mw4 A, ms4 A, mr5 A, mw5 A, ms5 A, mr6 A, mw6 A, ms6 A, mr7 A, mw7 A, ms7 A, mr8 A, mw8 A, ms8 A, mr9 A, mw9 A, ms9 A, mr10 A, mw10 A, ms10 A, mr11 A, mw11 A, ms11 A, mr12 A, mw12 A, ms12 A, mr13 A, mw13 A, ms13 A, mr14 A, mw14 A, ms14 A, mf0, mf1, mf2, mf3, mf4, mf5, mf6, mg0, mg1, mg2, mg3, mg4, mg5, mg6, mg7, mg8, mg9, mg10, mg11, mg12, mg13, mg14, mg15, mg16, mg17, mg18, mg19, mg20, mg21, mgl, Nat.reduceLT, va_up_self, if_pos m1_z, exists_eq']
    refine inv0 (c_fails ?_)
    simp only [eX5_search_136, eX5_search_137, eX5_search_138, eX5_search_141, isA_r, isA_n, isI_i, isF_f, isL_l, is1_i, is1_r, is1_n, is1_f, true_and, and_true, List.length_cons, List.length_nil, Nat.reduceAdd, Nat.reduceLeDiff, Nat.reduceSub, Option.some.injEq, exists_eq_left', aft_s, aft_n, ite_true, ite_false, if_true, if_false, Nat.zero_le, Nat.le_refl, reduceCtorEq]
    exact h2
  | succ i =>
    simp only [eX5_search_95, eX5_search_98, eX5_search_99, eX5_search_102, eX5_search_103, eX5_search_104, eX5_search_107, eX5_search_136, eX5_search_137, eX5_search_138, eX5_search_141, isA_r, isA_n, isI_i, isF_f, isL_l, is1_i, is1_r, is1_n, is1_f, true_and, and_true, List.length_cons, List.length_nil, Nat.reduceAdd, Nat.reduceLeDiff, Nat.reduceSub, Option.some.injEq, exists_eq_left', aft_s, aft_n, ite_true, ite_false, if_true, if_false, Nat.zero_le, Nat.le_refl, reduceCtorEq, mv_ob, mr0 A, mw0 A, ms0 A, mr1 A, mw1 A, ms1 A, mr2 A, mw2 A, ms2 A, mr3 A, mw3 A, ms3 A, mr4 A, mw4 A, ms4 A, mr5 A, mw5 A, ms5 A, mr6 A, mw6 A, ms6 A, mr7 A, mw7 A, ms7 A, mr8 A, mw8 A, ms8 A, mr9 A, mw9 A, ms9 A, mr10 A, mw10 A, ms10 A, mr11 A, mw11 A, ms11 A, mr12 A, mw12 A, ms12 A, mr13 A, mw13 A, ms13 A, mr14 A, mw14 A, ms14 A, mf0, mf1, mf2, mf3, mf4, mf5, mf6, mg0, mg1, mg2, mg3, mg4, mg5, mg6, mg7, mg8, mg9, mg10, mg11, mg12, mg13, mg14, mg15, mg16, mg17, mg18, mg19, mg20, mg21, mgl, Nat.reduceLT, va_up_self, if_neg (nI_pos (show i < 2 ^ 31 by omega)), inB_nI (show s < 4 by omega) (by decide), es, b0, b2_0, hp, nI_pred, Bool.true_eq_false, exists_eq']
    refine inv0 (c_fails ?_)
    simp only [eX5_search_136, eX5_search_137, eX5_search_138, eX5_search_141, isA_r, isA_n, isI_i, isF_f, isL_l, is1_i, is1_r, is1_n, is1_f, true_and, and_true, List.length_cons, List.length_nil, Nat.reduceAdd, Nat.reduceLeDiff, Nat.reduceSub, Option.some.injEq, exists_eq_left', aft_s, aft_n, ite_true, ite_false, if_true, if_false, Nat.zero_le, Nat.le_refl, reduceCtorEq]
    exact h2
theorem l_search (A : ADok mo ad) (R1 : RM σ 0 M) (O : Ok σ) {s : Nat} {a b : Int32} (hs : s < s_nS σ) (hk : ∀ M', RM (sres σ s a b).2.2 (sres σ s a b).1 M' → K (.inl (some (.int (sres σ s a b).2.1))) (mv h mo ad M')) :
    Ev E (d + 1) mX5_search K 41 [.ref mo, .int (nI s), .int a, .int b, .int (nI (s_hi σ s).length - 1)] [] (mv h mo ad M) c n := by
  unfold sres at hk
  refine l_search1 A R1 O hs (s_hi σ s).length (Nat.le_refl _) (fun x hx => ?_) (fun hx => ?_)
  · rw [List.take_length] at hx
    rw [hx] at hk
    exact hk _ R1
  · rw [List.take_length] at hx
    rw [hx] at hk
    dsimp only at hk
    by_cases hp : s_pv σ s = false
    · rw [if_pos hp] at hk
      unfold sres2 at hk
      refine l_search2 A R1 O hs hp (s_cm σ).length (Nat.le_refl _) (fun x hx => ?_) (fun hx => ?_)
      · rw [List.take_length] at hx
        rw [hx] at hk
        exact hk _ R1
      · rw [List.take_length] at hx
        rw [hx] at hk
        exact hk _ (R1.t 3)
    · rw [if_neg hp] at hk
      exact l_searchP A R1 O hs (by simpa using hp) (s_cm σ).length (Nat.le_refl _) (hk _ (R1.t 3))
theorem c_search (A : ADok mo ad) (R : RM σ th M) (O : Ok σ) {v a b : Int32} (hk : ∀ M', RM (a_search σ v a b).2.2 (a_search σ v a b).1 M' → K (.inl (some (.int (a_search σ v a b).2.1))) (mv h mo ad M')) : CRd TTv E (d + 4) mX5_search [.ref mo, .int v, .int a, .int b] (mv h mo ad M) c n K := by
  refine crd rfl ?_
  show Ev E (d + 3) mX5_search K 0 [.ref mo, .int v, .int a, .int b, .retAddr 0] [] _ c n
  have hS := O.S
  simp only [eX5_search_0, eX5_search_1, eX5_search_2, eX5_search_5, eX5_search_8, eX5_search_9, eX5_search_10, eX5_search_11, eX5_search_14, eX5_search_15, eX5_search_16, eX5_search_19, eX5_search_20, eX5_search_22, eX5_search_25, eX5_search_26, eX5_search_27, eX5_search_30, eX5_search_31, eX5_search_32, eX5_search_35, eX5_search_36, eX5_search_37, eX5_search_38, eX5_search_39, isA_r, isA_n, isI_i, isF_f, isL_l, is1_i, is1_r, is1_n, is1_f, true_and, and_true, List.length_cons, List.length_nil, Nat.reduceAdd, Nat.reduceLeDiff, Nat.reduceSub, Option.some.injEq, exists_eq_left', aft_s, aft_n, ite_true, ite_false, if_true, if_false, Nat.zero_le, Nat.le_refl, reduceCtorEq, mv_ob, mr0 A, mw0 A, ms0 A, mr1 A, mw1 A, ms1 A, mr2 A, mw2 A, ms2 A, mr3 A, mw3 A, ms3 A, mr4 A, mw4 A, ms4 A, mr5 A, mw5 A, ms5 A, mr6 A, mw6 A, ms6 A, mr7 A, mw7 A, ms7 A, mr8 A, mw8 A, ms8 A, mr9 A, mw9 A, ms9 A, mr10 A, mw10 A, ms10 A, mr11 A, mw11 A, ms11 A, mr12 A, mw12 A, ms12 A, mr13 A, mw13 A, ms13 A, mr14 A, mw14 A, ms14 A, mf0, mf1, mf2, mf3, mf4, mf5, mf6, mg0, mg1, mg2, mg3, mg4, mg5, mg6, mg7, mg8, mg9, mg10, mg11, mg12, mg13, mg14, mg15, mg16, mg17, mg18, mg19, mg20, mg21, mgl, Nat.reduceLT, va_up_self, exists_eq']
  refine inv0 (c_isSession R O.S (fun s hs hv M1 R1 => ?_) (fun hne M1 R1 => ?_))
  · subst hv
    have es : (nI s).toNatClampNeg = s := nI_clamp (by omega)
    have b4 := R1.2.2.2.2.2.1 s (by omega)
    simp only [a_search, ix_s hs (show s_nS σ < 2 ^ 31 by omega)] at hk
    have bad : (a < 0 ∨ b < a ∨ 99 < b) → Inv TTv E (d + 3) mX5_search mX5_fails K 27 [.ref mo, .int (nI s), .int a, .int b, .retAddr 0] [] [.ref mo, .int 2] (mv h mo ad M1) c n := by
      intro hb
      rw [badR_t hb] at hk
      refine inv0 (c_fails ?_)
      simp only [eX5_search_0, eX5_search_1, eX5_search_2, eX5_search_5, eX5_search_8, eX5_search_9, eX5_search_10, eX5_search_11, eX5_search_14, eX5_search_15, eX5_search_16, eX5_search_19, eX5_search_20, eX5_search_22, eX5_search_25, eX5_search_26, eX5_search_27, eX5_search_30, eX5_search_31, eX5_search_32, eX5_search_35, eX5_search_36, eX5_search_37, eX5_search_38, eX5_search_39, isA_r, isA_n, isI_i, isF_f, isL_l, is1_i, is1_r, is1_n, is1_f, true_and, and_true, List.length_cons, List.length_nil, Nat.reduceAdd, Nat.reduceLeDiff, Nat.reduceSub, Option.some.injEq, exists_eq_left', aft_s, aft_n, ite_true, ite_false, if_true, if_false, Nat.zero_le, Nat.le_refl, reduceCtorEq]
      exact hk _ (R1.t 2)
    simp only [eX5_search_5, eX5_search_8, eX5_search_9, eX5_search_10, isA_r, isA_n, isI_i, isF_f, isL_l, is1_i, is1_r, is1_n, is1_f, true_and, and_true, List.length_cons, List.length_nil, Nat.reduceAdd, Nat.reduceLeDiff, Nat.reduceSub, Option.some.injEq, exists_eq_left', aft_s, aft_n, ite_true, ite_false, if_true, if_false, Nat.zero_le, Nat.le_refl, reduceCtorEq, i10]
    rw [eX5_search_11]
    by_cases g1 : a < 0
    · rw [if_pos g1]
      simp only [eX5_search_25, eX5_search_26, eX5_search_27, eX5_search_30, isA_r, isA_n, isI_i, isF_f, isL_l, is1_i, is1_r, is1_n, is1_f, true_and, and_true, List.length_cons, List.length_nil, Nat.reduceAdd, Nat.reduceLeDiff, Nat.reduceSub, Option.some.injEq, exists_eq_left', aft_s, aft_n, ite_true, ite_false, if_true, if_false, Nat.zero_le, Nat.le_refl, reduceCtorEq, mv_ob, mr0 A, mw0 A, ms0 A, mr1 A, mw1 A, ms1 A, mr2 A, mw2 A, ms2 A, mr3 A, mw3 A, ms3 A, mr4 A, mw4 A, ms4 A, mr5 A, mw5 A, ms5 A, mr6 A, mw6 A, ms6 A, mr7 A, mw7 A, ms7 A, mr8 A, mw8 A, ms8 A, mr9 A, mw9 A, ms9 A, mr10 A, mw10 A, ms10 A, mr11 A, mw11 A, ms11 A, mr12 A, mw12 A, ms12 A, mr13 A, mw13 A, ms13 A, mr14 A, mw14 A, ms14 A, mf0, mf1, mf2, mf3, mf4, mf5, mf6, mg0, mg1, mg2, mg3, mg4, mg5, mg6, mg7, mg8, mg9, mg10, mg11, mg12, mg13, mg14, mg15, mg16, mg17, mg18, mg19, mg20, mg21, mgl, Nat.reduceLT, va_up_self, exists_eq']
      exact bad (Or.inl g1)
    · rw [if_neg g1]
      simp only [eX5_search_14, eX5_search_15, isA_r, isA_n, isI_i, isF_f, isL_l, is1_i, is1_r, is1_n, is1_f, true_and, and_true, List.length_cons, List.length_nil, Nat.reduceAdd, Nat.reduceLeDiff, Nat.reduceSub, Option.some.injEq, exists_eq_left', aft_s, aft_n, ite_true, ite_false, if_true, if_false, Nat.zero_le, Nat.le_refl, reduceCtorEq]
      rw [eX5_search_16]
      by_cases g2 : b < a
      · rw [if_pos g2]
        simp only [eX5_search_25, eX5_search_26, eX5_search_27, eX5_search_30, isA_r, isA_n, isI_i, isF_f, isL_l, is1_i, is1_r, is1_n, is1_f, true_and, and_true, List.length_cons, List.length_nil, Nat.reduceAdd, Nat.reduceLeDiff, Nat.reduceSub, Option.some.injEq, exists_eq_left', aft_s, aft_n, ite_true, ite_false, if_true, if_false, Nat.zero_le, Nat.le_refl, reduceCtorEq, mv_ob, mr0 A, mw0 A, ms0 A, mr1 A, mw1 A, ms1 A, mr2 A, mw2 A, ms2 A, mr3 A, mw3 A, ms3 A, mr4 A, mw4 A, ms4 A, mr5 A, mw5 A, ms5 A, mr6 A, mw6 A, ms6 A, mr7 A, mw7 A, ms7 A, mr8 A, mw8 A, ms8 A, mr9 A, mw9 A, ms9 A, mr10 A, mw10 A, ms10 A, mr11 A, mw11 A, ms11 A, mr12 A, mw12 A, ms12 A, mr13 A, mw13 A, ms13 A, mr14 A, mw14 A, ms14 A, mf0, mf1, mf2, mf3, mf4, mf5, mf6, mg0, mg1, mg2, mg3, mg4, mg5, mg6, mg7, mg8, mg9, mg10, mg11, mg12, mg13, mg14, mg15, mg16, mg17, mg18, mg19, mg20, mg21, mgl, Nat.reduceLT, va_up_self, exists_eq']
        exact bad (Or.inr (Or.inl g2))
      · rw [if_neg g2]
        simp only [eX5_search_19, eX5_search_20, isA_r, isA_n, isI_i, isF_f, isL_l, is1_i, is1_r, is1_n, is1_f, true_and, and_true, List.length_cons, List.length_nil, Nat.reduceAdd, Nat.reduceLeDiff, Nat.reduceSub, Option.some.injEq, exists_eq_left', aft_s, aft_n, ite_true, ite_false, if_true, if_false, Nat.zero_le, Nat.le_refl, reduceCtorEq]
        rw [eX5_search_22]
        by_cases g3 : 99 < b
        · rw [if_pos g3]
          simp only [eX5_search_25, eX5_search_26, eX5_search_27, eX5_search_30, isA_r, isA_n, isI_i, isF_f, isL_l, is1_i, is1_r, is1_n, is1_f, true_and, and_true, List.length_cons, List.length_nil, Nat.reduceAdd, Nat.reduceLeDiff, Nat.reduceSub, Option.some.injEq, exists_eq_left', aft_s, aft_n, ite_true, ite_false, if_true, if_false, Nat.zero_le, Nat.le_refl, reduceCtorEq, mv_ob, mr0 A, mw0 A, ms0 A, mr1 A, mw1 A, ms1 A, mr2 A, mw2 A, ms2 A, mr3 A, mw3 A, ms3 A, mr4 A, mw4 A, ms4 A, mr5 A, mw5 A, ms5 A, mr6 A, mw6 A, ms6 A, mr7 A, mw7 A, ms7 A, mr8 A, mw8 A, ms8 A, mr9 A, mw9 A, ms9 A, mr10 A, mw10 A, ms10 A, mr11 A, mw11 A, ms11 A, mr12 A, mw12 A, ms12 A, mr13 A, mw13 A, ms13 A, mr14 A, mw14 A, ms14 A, mf0, mf1, mf2, mf3, mf4, mf5, mf6, mg0, mg1, mg2, mg3, mg4, mg5, mg6, mg7, mg8, mg9, mg10, mg11, mg12, mg13, mg14, mg15, mg16, mg17, mg18, mg19, mg20, mg21, mgl, Nat.reduceLT, va_up_self, exists_eq']
          exact bad (Or.inr (Or.inr g3))
        · rw [if_neg g3]
          simp only [eX5_search_31, eX5_search_32, eX5_search_35, eX5_search_36, eX5_search_37, eX5_search_38, eX5_search_39, isA_r, isA_n, isI_i, isF_f, isL_l, is1_i, is1_r, is1_n, is1_f, true_and, and_true, List.length_cons, List.length_nil, Nat.reduceAdd, Nat.reduceLeDiff, Nat.reduceSub, Option.some.injEq, exists_eq_left', aft_s, aft_n, ite_true, ite_false, if_true, if_false, Nat.zero_le, Nat.le_refl, reduceCtorEq, mv_ob, mr0 A, mw0 A, ms0 A, mr1 A, mw1 A, ms1 A, mr2 A, mw2 A, ms2 A, mr3 A, mw3 A, ms3 A, mr4 A, mw4 A, ms4 A, mr5 A, mw5 A, ms5 A, mr6 A, mw6 A, ms6 A, mr7 A, mw7 A, ms7 A, mr8 A, mw8 A, ms8 A, mr9 A, mw9 A, ms9 A, mr10 A, mw10 A, ms10 A, mr11 A, mw11 A, ms11 A, mr12 A, mw12 A, ms12 A, mr13 A, mw13 A, ms13 A, mr14 A, mw14 A, ms14 A, mf0, mf1, mf2, mf3, mf4, mf5, mf6, mg0, mg1, mg2, mg3, mg4, mg5, mg6, mg7, mg8, mg9, mg10, mg11, mg12, mg13, mg14, mg15, mg16, mg17, mg18, mg19, mg20, mg21, mgl, Nat.reduceLT, va_up_self, inB_nI (show s < 4 by omega) (by decide), es, b4]
          rw [badR_f g1 g2 g3] at hk
          exact l_search (d := d + 2) A R1 O hs hk
  · simp only [a_search, ix_n hne] at hk
    simp only [eX5_search_0, eX5_search_1, eX5_search_2, eX5_search_5, eX5_search_8, eX5_search_9, eX5_search_10, eX5_search_11, eX5_search_14, eX5_search_15, eX5_search_16, eX5_search_19, eX5_search_20, eX5_search_22, eX5_search_25, eX5_search_26, eX5_search_27, eX5_search_30, eX5_search_31, eX5_search_32, eX5_search_35, eX5_search_36, eX5_search_37, eX5_search_38, eX5_search_39, isA_r, isA_n, isI_i, isF_f, isL_l, is1_i, is1_r, is1_n, is1_f, true_and, and_true, List.length_cons, List.length_nil, Nat.reduceAdd, Nat.reduceLeDiff, Nat.reduceSub, Option.some.injEq, exists_eq_left', aft_s, aft_n, ite_true, ite_false, if_true, if_false, Nat.zero_le, Nat.le_refl, reduceCtorEq, mv_ob, mr0 A, mw0 A, ms0 A, mr1 A, mw1 A, ms1 A, mr2 A, mw2 A, ms2 A, mr3 A, mw3 A, ms3 A, mr4 A, mw4 A, ms4 A, mr5 A, mw5 A, ms5 A, mr6 A, mw6 A, ms6 A, mr7 A, mw7 A, ms7 A, mr8 A, mw8 A, ms8 A, mr9 A, mw9 A, ms9 A, mr10 A, mw10 A, ms10 A, mr11 A, mw11 A, ms11 A, mr12 A, mw12 A, ms12 A, mr13 A, mw13 A, ms13 A, mr14 A, mw14 A, ms14 A, mf0, mf1, mf2, mf3, mf4, mf5, mf6, mg0, mg1, mg2, mg3, mg4, mg5, mg6, mg7, mg8, mg9, mg10, mg11, mg12, mg13, mg14, mg15, mg16, mg17, mg18, mg19, mg20, mg21, mgl, Nat.reduceLT, va_up_self, i00, i10]
    exact hk M1 R1
end MD14
