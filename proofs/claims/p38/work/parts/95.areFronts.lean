/-! areFronts answers true -/
theorem cnt_all {σ : Sg} (O : Ok σ) {a : Nat} : ∀ {n : Nat}, n ≤ s_nJ σ → cN (pcnt σ a 114) n + cN (pcnt σ a 119) n + cN (pcnt σ a 115) n + cN (pcnt σ a 100) n + cN (pcnt σ a 107) n = cN (fun j => s_se σ j == a) n
  | 0, _ => rfl
  | n + 1, h => by
    have ih := cnt_all O (a := a) (n := n) (by omega)
    rw [cN_s, cN_s, cN_s, cN_s, cN_s, cN_s]
    have hp : ∀ x : Int32, pcnt σ a x n = (s_se σ n == a && decide (nI (s_st σ n) = x)) := fun x => rfl
    rw [hp, hp, hp, hp, hp]
    cases hs : s_se σ n == a with
    | false => simp only [Bool.false_and, Bool.false_eq_true, if_false, Nat.add_zero]; exact ih
    | true =>
      rcases (O.2.1 n (by omega)).2.2.1 with h1 | h1 | h1 | h1 | h1
      all_goals (rw [h1]; simp only [n_114_114, n_114_119, n_114_115, n_114_100, n_114_107, n_114_0, n_114_103, n_119_114, n_119_119, n_119_115, n_119_100, n_119_107, n_119_0, n_119_103, n_115_114, n_115_119, n_115_115, n_115_100, n_115_107, n_115_0, n_115_103, n_100_114, n_100_119, n_100_115, n_100_100, n_100_107, n_100_0, n_100_103, n_107_114, n_107_119, n_107_115, n_107_100, n_107_107, n_107_0, n_107_103, decide_true, decide_false, Bool.true_and, if_true, Bool.false_eq_true, if_false, Nat.add_zero]; omega)
theorem cm_ne {σ : Sg} (O : Ok σ) {i k : Nat} (hi : i < k) (hk : k < (s_cm σ).length) : (nI ((s_cm σ).getD ((s_cm σ).length - 1 - k) 0) = nI ((s_cm σ).getD ((s_cm σ).length - 1 - i) 0)) = False := by
  obtain ⟨-, h1, h2, h3⟩ := O.2.2.2.2.2.2.2.1
  have b1 : (s_cm σ).length - 1 - k < (s_cm σ).length := by omega
  have b2' : (s_cm σ).length - 1 - i < (s_cm σ).length := by omega
  have e1 : (s_cm σ).getD ((s_cm σ).length - 1 - k) 0 = (s_cm σ)[(s_cm σ).length - 1 - k] := by rw [List.getD_eq_getElem?_getD, List.getElem?_eq_getElem b1]; rfl
  have e2 : (s_cm σ).getD ((s_cm σ).length - 1 - i) 0 = (s_cm σ)[(s_cm σ).length - 1 - i] := by rw [List.getD_eq_getElem?_getD, List.getElem?_eq_getElem b2']; rfl
  rw [e1, e2]
  have g1 := h3 _ (List.getElem_mem b1)
  have g2 := h3 _ (List.getElem_mem b2')
  refine eq_false (fun z => ?_)
  have z := (nI_eq (by omega) (by omega)).mp z
  exact List.pairwise_iff_getElem.mp h2 _ _ b1 b2' (by omega) z
section AFR
variable {E : EN} {P : Nat → Prop} {H0 : AH} {x ao : Nat} {σ : Sg} {fO : Nat → Int32} {T : Nat} {H : AH} {d c n : Nat} {K : Out → AH → Prop}
def AF (P : Nat → Prop) (H0 : AH) (ao : Nat) (σ : Sg) (fO : Nat → Int32) : Prop := (P ao ∧ H0 ao = some (arI 30 fO)) ∧ ∀ j, j < s_nJ σ → fO j = nI (s_se σ j)
theorem AF.o (A : AF P H0 ao σ fO) (C : CW E P H0 x σ H) : H ao = some (arI 30 fO) := by rw [C.at A.1.1]; exact A.1.2
abbrev afL (x S J ao : Nat) (i : Nat) (a6 a7 : Value) : List Value := [.ref x, .int (nI S), .int (nI J), .ref ao, .int 1, .int (nI i), a6, a7]
theorem af1 (O : Ok σ) (A : AF P H0 ao σ fO) (F : ∀ s j, s_fr σ s = some j → over σ j = false)
    (hK : ∀ H' c' n' a5 a6 a7, CW E P H0 x σ H' → 540 ≤ c' → 3240 ≤ n' → Ev E (d + 13) mL_areFronts K 173 (afL x (s_nS σ) (s_nJ σ) ao a5 a6 a7) [] H' c' n') :
    ∀ (m a : Nat) (H : AH) (c n : Nat) (a6 a7 : Value), m + a = s_nS σ → CW E P H0 x σ H → 24 * m + 540 ≤ c → 144 * m + 3240 ≤ n → Ev E (d + 13) mL_areFronts K 19 (afL x (s_nS σ) (s_nJ σ) ao a a6 a7) [] H c n := by
  have h4 := O.1.1
  have h30 := O.1.2
  intro m
  induction m with
  | zero =>
    intro a H c n a6 a7 hm C hc hn
    have e1 : (nI a < nI (s_nS σ)) = False := eq_false (nI_nlt (by omega) (by omega))
    rw [hL_areFronts_19]
    simp only [eL_areFronts_21, eL_areFronts_22, isA_r, isA_n, isI_i, isF_f, isL_l, is1_i, is1_r, is1_n, is1_f, true_and, and_true, List.length_cons, List.length_nil, Nat.reduceAdd, Nat.reduceLeDiff, Nat.reduceSub, Option.some.injEq, exists_eq_left', aft_s, aft_n, ite_true, ite_false, if_true, if_false, Nat.zero_le, Nat.le_refl, reduceCtorEq, e1]
    exact hK H c n a a6 a7 C (by omega) (by omega)
  | succ m ih =>
    intro a H c n a6 a7 hm C hc hn
    have ha : a < s_nS σ := by omega
    have e1 : (nI a < nI (s_nS σ)) = True := eq_true (nI_lt ha (by omega))
    have hl8 := (O.2.2.2.2.2.2.2.1.1 a).1
    rw [hL_areFronts_19]
    simp only [eL_areFronts_21, eL_areFronts_22, eL_areFronts_25, eL_areFronts_26, eL_areFronts_28, isA_r, isA_n, isI_i, isF_f, isL_l, is1_i, is1_r, is1_n, is1_f, true_and, and_true, List.length_cons, List.length_nil, Nat.reduceAdd, Nat.reduceLeDiff, Nat.reduceSub, Option.some.injEq, exists_eq_left', aft_s, aft_n, ite_true, ite_false, if_true, if_false, Nat.zero_le, Nat.le_refl, reduceCtorEq, e1]
    refine invk 2 12 (by omega) (by omega) (h_front C O (by omega) (by omega) (fun H1 C1 => ?_))
    simp only [eL_areFronts_31, eL_areFronts_33, eL_areFronts_34, eL_areFronts_36, eL_areFronts_38, isA_r, isA_n, isI_i, isF_f, isL_l, is1_i, is1_r, is1_n, is1_f, true_and, and_true, List.length_cons, List.length_nil, Nat.reduceAdd, Nat.reduceLeDiff, Nat.reduceSub, Option.some.injEq, exists_eq_left', aft_s, aft_n, ite_true, ite_false, if_true, if_false, Nat.zero_le, Nat.le_refl, reduceCtorEq, v_front ha h4]
    refine invk 2 12 (by omega) (by omega) (h_count C1 O (by omega) (by omega) (fun H2 C2 => ?_))
    simp only [eL_areFronts_41, eL_areFronts_42, eL_areFronts_44, eL_areFronts_46, isA_r, isA_n, isI_i, isF_f, isL_l, is1_i, is1_r, is1_n, is1_f, true_and, and_true, List.length_cons, List.length_nil, Nat.reduceAdd, Nat.reduceLeDiff, Nat.reduceSub, Option.some.injEq, exists_eq_left', aft_s, aft_n, ite_true, ite_false, if_true, if_false, Nat.zero_le, Nat.le_refl, reduceCtorEq, v_count (g := 114) ha h4 rfl]
    refine invk 2 12 (by omega) (by omega) (h_count C2 O (by omega) (by omega) (fun H3 C3 => ?_))
    simp only [eL_areFronts_49, eL_areFronts_50, eL_areFronts_51, eL_areFronts_53, eL_areFronts_55, isA_r, isA_n, isI_i, isF_f, isL_l, is1_i, is1_r, is1_n, is1_f, true_and, and_true, List.length_cons, List.length_nil, Nat.reduceAdd, Nat.reduceLeDiff, Nat.reduceSub, Option.some.injEq, exists_eq_left', aft_s, aft_n, ite_true, ite_false, if_true, if_false, Nat.zero_le, Nat.le_refl, reduceCtorEq, v_count (g := 119) ha h4 rfl, nI_add]
    refine invk 2 12 (by omega) (by omega) (h_count C3 O (by omega) (by omega) (fun H4 C4 => ?_))
    simp only [eL_areFronts_58, eL_areFronts_59, eL_areFronts_60, eL_areFronts_62, eL_areFronts_64, isA_r, isA_n, isI_i, isF_f, isL_l, is1_i, is1_r, is1_n, is1_f, true_and, and_true, List.length_cons, List.length_nil, Nat.reduceAdd, Nat.reduceLeDiff, Nat.reduceSub, Option.some.injEq, exists_eq_left', aft_s, aft_n, ite_true, ite_false, if_true, if_false, Nat.zero_le, Nat.le_refl, reduceCtorEq, v_count (g := 115) ha h4 rfl, nI_add]
    refine invk 2 12 (by omega) (by omega) (h_count C4 O (by omega) (by omega) (fun H5 C5 => ?_))
    simp only [eL_areFronts_67, eL_areFronts_68, eL_areFronts_69, eL_areFronts_71, eL_areFronts_73, isA_r, isA_n, isI_i, isF_f, isL_l, is1_i, is1_r, is1_n, is1_f, true_and, and_true, List.length_cons, List.length_nil, Nat.reduceAdd, Nat.reduceLeDiff, Nat.reduceSub, Option.some.injEq, exists_eq_left', aft_s, aft_n, ite_true, ite_false, if_true, if_false, Nat.zero_le, Nat.le_refl, reduceCtorEq, v_count (g := 100) ha h4 rfl, nI_add]
    refine invk 2 12 (by omega) (by omega) (h_count C5 O (by omega) (by omega) (fun H6 C6 => ?_))
    simp only [eL_areFronts_76, eL_areFronts_77, eL_areFronts_79, eL_areFronts_81, eL_areFronts_82, eL_areFronts_84, isA_r, isA_n, isI_i, isF_f, isL_l, is1_i, is1_r, is1_n, is1_f, true_and, and_true, List.length_cons, List.length_nil, Nat.reduceAdd, Nat.reduceLeDiff, Nat.reduceSub, Option.some.injEq, exists_eq_left', aft_s, aft_n, ite_true, ite_false, if_true, if_false, Nat.zero_le, Nat.le_refl, reduceCtorEq, v_count (g := 107) ha h4 rfl, nI_add, cnt_all O (Nat.le_refl _)]
    refine invk 2 12 (by omega) (by omega) (h_kept C6 O (by omega) (by omega) (fun H7 C7 => ?_))
    have e2 : (8 < nI (s_hi σ a).length) = False := eq_false (nI_nlt (b := (s_hi σ a).length) (a := 8) (by omega) (by omega))
    simp only [eL_areFronts_87, eL_areFronts_89, eL_areFronts_92, eL_areFronts_93, eL_areFronts_95, eL_areFronts_96, eL_areFronts_98, isA_r, isA_n, isI_i, isF_f, isL_l, is1_i, is1_r, is1_n, is1_f, true_and, and_true, List.length_cons, List.length_nil, Nat.reduceAdd, Nat.reduceLeDiff, Nat.reduceSub, Option.some.injEq, exists_eq_left', aft_s, aft_n, ite_true, ite_false, if_true, if_false, Nat.zero_le, Nat.le_refl, reduceCtorEq, v_kept ha h4, e2]
    refine invk 2 12 (by omega) (by omega) (h_kept C7 O (by omega) (by omega) (fun H8 C8 => ?_))
    simp only [eL_areFronts_101, isA_r, isA_n, isI_i, isF_f, isL_l, is1_i, is1_r, is1_n, is1_f, true_and, and_true, List.length_cons, List.length_nil, Nat.reduceAdd, Nat.reduceLeDiff, Nat.reduceSub, Option.some.injEq, exists_eq_left', aft_s, aft_n, ite_true, ite_false, if_true, if_false, Nat.zero_le, Nat.le_refl, reduceCtorEq, v_kept ha h4]
    refine invk 2 12 (by omega) (by omega) (h_commandAt C8 O (by omega) (by omega) (fun H9 C9 => ?_))
    simp only [eL_areFronts_104, eL_areFronts_106, eL_areFronts_109, eL_areFronts_111, eL_areFronts_112, eL_areFronts_113, eL_areFronts_115, isA_r, isA_n, isI_i, isF_f, isL_l, is1_i, is1_r, is1_n, is1_f, true_and, and_true, List.length_cons, List.length_nil, Nat.reduceAdd, Nat.reduceLeDiff, Nat.reduceSub, Option.some.injEq, exists_eq_left', aft_s, aft_n, ite_true, ite_false, if_true, if_false, Nat.zero_le, Nat.le_refl, reduceCtorEq, v_cEnd ha h4 hl8, eq_self]
    refine inv0 (k_ofS (A.o C9) h30 (by omega) (fun j hj => ⟨A.2 j hj, by have := (O.2.1 j hj).1; omega⟩) ?_)
    cases hf : s_fr σ a with
    | none =>
      have e3 : (frI none = -75) = True := eq_true rfl
      simp only [eL_areFronts_118, eL_areFronts_121, eL_areFronts_123, eL_areFronts_125, eL_areFronts_128, eL_areFronts_129, eL_areFronts_131, eL_areFronts_132, eL_areFronts_134, eL_areFronts_137, eL_areFronts_138, eL_areFronts_140, eL_areFronts_143, eL_areFronts_145, eL_areFronts_148, eL_areFronts_149, eL_areFronts_151, eL_areFronts_154, eL_areFronts_156, eL_areFronts_159, eL_areFronts_160, eL_areFronts_163, eL_areFronts_164, eL_areFronts_165, eL_areFronts_167, eL_areFronts_170, isA_r, isA_n, isI_i, isF_f, isL_l, is1_i, is1_r, is1_n, is1_f, true_and, and_true, List.length_cons, List.length_nil, Nat.reduceAdd, Nat.reduceLeDiff, Nat.reduceSub, Option.some.injEq, exists_eq_left', aft_s, aft_n, ite_true, ite_false, if_true, if_false, Nat.zero_le, Nat.le_refl, reduceCtorEq, eq_self, e3, and_11, nI_1]
      exact ih (a + 1) H9 _ _ _ _ (by omega) C9 (by omega) (by omega)
    | some j =>
      obtain ⟨hj, hse⟩ := O.2.2.2.2.2.1.1 a j hf
      have hov := F a j hf
      have e3 : frI (some j) = nI j := rfl
      have e4 : (nI j = -75) = False := eq_false (fun z => nI_pos (n := j) (by omega) (by rw [z]; decide))
      have e5 : inB (nI j) 30 = true := inB_nI (by omega) (by omega)
      have e6 : (nI j).toNatClampNeg = j := nI_clamp (by omega)
      have e7 : fO j = nI a := by rw [A.2 j hj, hse]
      have e8 := rdI_of (E := E) (A.o C9)
      simp only [eL_areFronts_118, eL_areFronts_121, eL_areFronts_123, eL_areFronts_125, eL_areFronts_128, eL_areFronts_129, eL_areFronts_131, eL_areFronts_132, eL_areFronts_134, eL_areFronts_137, eL_areFronts_138, eL_areFronts_140, isA_r, isA_n, isI_i, isF_f, isL_l, is1_i, is1_r, is1_n, is1_f, true_and, and_true, List.length_cons, List.length_nil, Nat.reduceAdd, Nat.reduceLeDiff, Nat.reduceSub, Option.some.injEq, exists_eq_left', aft_s, aft_n, ite_true, ite_false, if_true, if_false, Nat.zero_le, Nat.le_refl, reduceCtorEq, eq_self, e3, e4, e5, e6, e7, e8]
      refine invk 2 12 (by omega) (by omega) (h_state C9 O (by omega) (by omega) (fun H10 C10 => ?_))
      have e9 : (nI (s_st σ j) = 100) = False := eq_false (fun z => by
        have := (nI_eq (a := s_st σ j) (b := 100) (by rcases (O.2.1 j hj).2.2.1 with h | h | h | h | h <;> omega) (by omega)).mp z
        unfold over at hov
        rw [this] at hov
        cases hov)
      have e10 : (nI (s_st σ j) = 107) = False := eq_false (fun z => by
        have := (nI_eq (a := s_st σ j) (b := 107) (by rcases (O.2.1 j hj).2.2.1 with h | h | h | h | h <;> omega) (by omega)).mp z
        unfold over at hov
        rw [this] at hov
        cases hov)
      simp only [eL_areFronts_143, eL_areFronts_145, eL_areFronts_148, eL_areFronts_149, eL_areFronts_151, isA_r, isA_n, isI_i, isF_f, isL_l, is1_i, is1_r, is1_n, is1_f, true_and, and_true, List.length_cons, List.length_nil, Nat.reduceAdd, Nat.reduceLeDiff, Nat.reduceSub, Option.some.injEq, exists_eq_left', aft_s, aft_n, ite_true, ite_false, if_true, if_false, Nat.zero_le, Nat.le_refl, reduceCtorEq, v_state hj h30, e9]
      refine invk 2 12 (by omega) (by omega) (h_state C10 O (by omega) (by omega) (fun H11 C11 => ?_))
      simp only [eL_areFronts_154, eL_areFronts_156, eL_areFronts_159, eL_areFronts_160, eL_areFronts_163, eL_areFronts_164, eL_areFronts_165, eL_areFronts_167, eL_areFronts_170, isA_r, isA_n, isI_i, isF_f, isL_l, is1_i, is1_r, is1_n, is1_f, true_and, and_true, List.length_cons, List.length_nil, Nat.reduceAdd, Nat.reduceLeDiff, Nat.reduceSub, Option.some.injEq, exists_eq_left', aft_s, aft_n, ite_true, ite_false, if_true, if_false, Nat.zero_le, Nat.le_refl, reduceCtorEq, v_state hj h30, e10, and_11, nI_1]
      exact ih (a + 1) H11 _ _ _ _ (by omega) C11 (by omega) (by omega)
/-- the common commands, pair by pair -/
theorem af3 (O : Ok σ) {S J k : Nat} (hk : k < (s_cm σ).length)
    (hK : ∀ H' c' n' a6 a7, CW E P H0 x σ H' → c ≤ c' + 48 → n ≤ n' + 288 → Ev E (d + 13) mL_areFronts K 226 (afL x S J ao k a6 a7) [] H' c' n') :
    ∀ (m i : Nat) (H : AH) (c1 n1 : Nat) (a7 : Value), m + i = k → CW E P H0 x σ H → c + 4 * m ≤ c1 + 48 → n + 24 * m ≤ n1 + 288 → 4 * m ≤ c1 → 24 * m ≤ n1 → Ev E (d + 13) mL_areFronts K 188 (afL x S J ao k (.int (nI i)) a7) [] H c1 n1 := by
  obtain ⟨-, h1, h2, h3⟩ := O.2.2.2.2.2.2.2.1
  intro m
  induction m with
  | zero =>
    intro i H c1 n1 a7 hm C hc hn _ _
    have e1 : (nI i < nI k) = False := eq_false (nI_nlt (by omega) (by omega))
    rw [hL_areFronts_188]
    simp only [eL_areFronts_190, eL_areFronts_192, isA_r, isA_n, isI_i, isF_f, isL_l, is1_i, is1_r, is1_n, is1_f, true_and, and_true, List.length_cons, List.length_nil, Nat.reduceAdd, Nat.reduceLeDiff, Nat.reduceSub, Option.some.injEq, exists_eq_left', aft_s, aft_n, ite_true, ite_false, if_true, if_false, Nat.zero_le, Nat.le_refl, reduceCtorEq, e1]
    exact hK H c1 n1 _ a7 C (by omega) (by omega)
  | succ m ih =>
    intro i H c1 n1 a7 hm C hc hn hc2 hn2
    have hi : i < k := by omega
    have e1 : (nI i < nI k) = True := eq_true (nI_lt hi (by omega))
    rw [hL_areFronts_188]
    simp only [eL_areFronts_190, eL_areFronts_192, eL_areFronts_195, eL_areFronts_197, eL_areFronts_198, eL_areFronts_200, isA_r, isA_n, isI_i, isF_f, isL_l, is1_i, is1_r, is1_n, is1_f, true_and, and_true, List.length_cons, List.length_nil, Nat.reduceAdd, Nat.reduceLeDiff, Nat.reduceSub, Option.some.injEq, exists_eq_left', aft_s, aft_n, ite_true, ite_false, if_true, if_false, Nat.zero_le, Nat.le_refl, reduceCtorEq, e1]
    refine invk 2 12 (by omega) (by omega) (h_commonAt C O (by omega) (by omega) (fun H1 C1 => ?_))
    simp only [eL_areFronts_203, eL_areFronts_204, eL_areFronts_206, isA_r, isA_n, isI_i, isF_f, isL_l, is1_i, is1_r, is1_n, is1_f, true_and, and_true, List.length_cons, List.length_nil, Nat.reduceAdd, Nat.reduceLeDiff, Nat.reduceSub, Option.some.injEq, exists_eq_left', aft_s, aft_n, ite_true, ite_false, if_true, if_false, Nat.zero_le, Nat.le_refl, reduceCtorEq, v_cAt hk h1]
    refine invk 2 12 (by omega) (by omega) (h_commonAt C1 O (by omega) (by omega) (fun H2 C2 => ?_))
    simp only [eL_areFronts_209, eL_areFronts_212, eL_areFronts_213, eL_areFronts_216, eL_areFronts_217, eL_areFronts_218, eL_areFronts_220, eL_areFronts_223, isA_r, isA_n, isI_i, isF_f, isL_l, is1_i, is1_r, is1_n, is1_f, true_and, and_true, List.length_cons, List.length_nil, Nat.reduceAdd, Nat.reduceLeDiff, Nat.reduceSub, Option.some.injEq, exists_eq_left', aft_s, aft_n, ite_true, ite_false, if_true, if_false, Nat.zero_le, Nat.le_refl, reduceCtorEq, v_cAt (show i < (s_cm σ).length by omega) h1, cm_ne O hi hk, and_11, nI_1]
    exact ih (i + 1) H2 _ _ _ (by omega) C2 (by omega) (by omega) (by omega) (by omega)
theorem af2 (O : Ok σ) {S J : Nat}
    (hK : ∀ H' c' n' a5 a6 a7, CW E P H0 x σ H' → 2 ≤ c' → 12 ≤ n' → Ev E (d + 13) mL_areFronts K 232 (afL x S J ao a5 a6 a7) [] H' c' n') :
    ∀ (m k : Nat) (H : AH) (c n : Nat) (a6 a7 : Value), (s_cm σ).length ≤ m + k → 1 ≤ k → m + k ≤ 12 → CW E P H0 x σ H → 48 * m + 2 ≤ c → 288 * m + 12 ≤ n → Ev E (d + 13) mL_areFronts K 176 (afL x S J ao k a6 a7) [] H c n := by
  obtain ⟨-, h1, h2, h3⟩ := O.2.2.2.2.2.2.2.1
  intro m
  induction m with
  | zero =>
    intro k H c n a6 a7 hm hk1 hk12 C hc hn
    have e1 : (nI k < nI (s_cm σ).length) = False := eq_false (nI_nlt (by omega) (by omega))
    rw [hL_areFronts_176]
    simp only [eL_areFronts_178, eL_areFronts_179, isA_r, isA_n, isI_i, isF_f, isL_l, is1_i, is1_r, is1_n, is1_f, true_and, and_true, List.length_cons, List.length_nil, Nat.reduceAdd, Nat.reduceLeDiff, Nat.reduceSub, Option.some.injEq, exists_eq_left', aft_s, aft_n, ite_true, ite_false, if_true, if_false, Nat.zero_le, Nat.le_refl, reduceCtorEq]
    refine ⟨C.xo, inv0 (p_common C ?_)⟩
    simp only [eL_areFronts_182, isA_r, isA_n, isI_i, isF_f, isL_l, is1_i, is1_r, is1_n, is1_f, true_and, and_true, List.length_cons, List.length_nil, Nat.reduceAdd, Nat.reduceLeDiff, Nat.reduceSub, Option.some.injEq, exists_eq_left', aft_s, aft_n, ite_true, ite_false, if_true, if_false, Nat.zero_le, Nat.le_refl, reduceCtorEq, e1]
    exact hK H c n k a6 a7 C (by omega) (by omega)
  | succ m ih =>
    intro k H c n a6 a7 hm hk1 hk12 C hc hn
    rw [hL_areFronts_176]
    simp only [eL_areFronts_178, eL_areFronts_179, isA_r, isA_n, isI_i, isF_f, isL_l, is1_i, is1_r, is1_n, is1_f, true_and, and_true, List.length_cons, List.length_nil, Nat.reduceAdd, Nat.reduceLeDiff, Nat.reduceSub, Option.some.injEq, exists_eq_left', aft_s, aft_n, ite_true, ite_false, if_true, if_false, Nat.zero_le, Nat.le_refl, reduceCtorEq]
    refine ⟨C.xo, inv0 (p_common C ?_)⟩
    by_cases hk : k < (s_cm σ).length
    · have e1 : (nI k < nI (s_cm σ).length) = True := eq_true (nI_lt hk (by omega))
      simp only [eL_areFronts_182, eL_areFronts_185, eL_areFronts_186, isA_r, isA_n, isI_i, isF_f, isL_l, is1_i, is1_r, is1_n, is1_f, true_and, and_true, List.length_cons, List.length_nil, Nat.reduceAdd, Nat.reduceLeDiff, Nat.reduceSub, Option.some.injEq, exists_eq_left', aft_s, aft_n, ite_true, ite_false, if_true, if_false, Nat.zero_le, Nat.le_refl, reduceCtorEq, e1]
      refine af3 (c := c) (n := n) O hk (fun H' c' n' a6 a7 C' g1 g2 => ?_) k 0 H c n a7 rfl C (by omega) (by omega) (by omega) (by omega)
      simp only [eL_areFronts_226, eL_areFronts_229, isA_r, isA_n, isI_i, isF_f, isL_l, is1_i, is1_r, is1_n, is1_f, true_and, and_true, List.length_cons, List.length_nil, Nat.reduceAdd, Nat.reduceLeDiff, Nat.reduceSub, Option.some.injEq, exists_eq_left', aft_s, aft_n, ite_true, ite_false, if_true, if_false, Nat.zero_le, Nat.le_refl, reduceCtorEq, nI_1]
      exact ih (k + 1) H' c' n' a6 a7 (by omega) (by omega) (by omega) C' (by omega) (by omega)
    · have e1 : (nI k < nI (s_cm σ).length) = False := eq_false (nI_nlt (by omega) (by omega))
      simp only [eL_areFronts_182, isA_r, isA_n, isI_i, isF_f, isL_l, is1_i, is1_r, is1_n, is1_f, true_and, and_true, List.length_cons, List.length_nil, Nat.reduceAdd, Nat.reduceLeDiff, Nat.reduceSub, Option.some.injEq, exists_eq_left', aft_s, aft_n, ite_true, ite_false, if_true, if_false, Nat.zero_le, Nat.le_refl, reduceCtorEq, e1]
      exact hK H c n k a6 a7 C (by omega) (by omega)
theorem k_areFronts (C : CW E P H0 x σ H) (O : Ok σ) (A : AF P H0 ao σ fO) (F : ∀ s j, s_fr σ s = some j → over σ j = false) (hc : 700 ≤ c) (hn : 4200 ≤ n) (hK : ∀ H', CW E P H0 x σ H' → K (.inl (some (.int 1))) H') : CRd TTv E (d + 14) mL_areFronts [.ref x, .int (nI (s_nS σ)), .int (nI (s_nJ σ)), .ref ao] H c n K := by
  refine crd rfl ?_
  show Ev E (d + 13) mL_areFronts K 0 [.ref x, .int (nI (s_nS σ)), .int (nI (s_nJ σ)), .ref ao, .retAddr 0, .retAddr 0, .retAddr 0, .retAddr 0] [] H c n
  obtain ⟨-, h1, h2, h3⟩ := O.2.2.2.2.2.2.2.1
  have h4 := O.1.1
  simp only [eL_areFronts_0, eL_areFronts_1, isA_r, isA_n, isI_i, isF_f, isL_l, is1_i, is1_r, is1_n, is1_f, true_and, and_true, List.length_cons, List.length_nil, Nat.reduceAdd, Nat.reduceLeDiff, Nat.reduceSub, Option.some.injEq, exists_eq_left', aft_s, aft_n, ite_true, ite_false, if_true, if_false, Nat.zero_le, Nat.le_refl, reduceCtorEq]
  refine ⟨C.xo, inv0 (p_common C ?_)⟩
  have e1 : (12 < nI (s_cm σ).length) = False := eq_false (nI_nlt (b := (s_cm σ).length) (a := 12) (by omega) (by omega))
  simp only [eL_areFronts_4, eL_areFronts_6, eL_areFronts_9, eL_areFronts_10, eL_areFronts_13, eL_areFronts_14, eL_areFronts_16, eL_areFronts_17, isA_r, isA_n, isI_i, isF_f, isL_l, is1_i, is1_r, is1_n, is1_f, true_and, and_true, List.length_cons, List.length_nil, Nat.reduceAdd, Nat.reduceLeDiff, Nat.reduceSub, Option.some.injEq, exists_eq_left', aft_s, aft_n, ite_true, ite_false, if_true, if_false, Nat.zero_le, Nat.le_refl, reduceCtorEq, e1]
  refine af1 O A F (fun H1 c1 n1 a5 a6 a7 C1 hc1 hn1 => ?_) (s_nS σ) 0 H c n (.retAddr 0) (.retAddr 0) rfl C (by omega) (by omega)
  simp only [eL_areFronts_173, eL_areFronts_174, isA_r, isA_n, isI_i, isF_f, isL_l, is1_i, is1_r, is1_n, is1_f, true_and, and_true, List.length_cons, List.length_nil, Nat.reduceAdd, Nat.reduceLeDiff, Nat.reduceSub, Option.some.injEq, exists_eq_left', aft_s, aft_n, ite_true, ite_false, if_true, if_false, Nat.zero_le, Nat.le_refl, reduceCtorEq]
  refine af2 O (fun H2 c2 n2 a5 a6 a7 C2 hc2 hn2 => ?_) 11 1 H1 c1 n1 a6 a7 (by omega) (by omega) (by omega) C1 (by omega) (by omega)
  simp only [eL_areFronts_232, eL_areFronts_234, eL_areFronts_237, eL_areFronts_238, eL_areFronts_239, isA_r, isA_n, isI_i, isF_f, isL_l, is1_i, is1_r, is1_n, is1_f, true_and, and_true, List.length_cons, List.length_nil, Nat.reduceAdd, Nat.reduceLeDiff, Nat.reduceSub, Option.some.injEq, exists_eq_left', aft_s, aft_n, ite_true, ite_false, if_true, if_false, Nat.zero_le, Nat.le_refl, reduceCtorEq, i1_0]
  refine ⟨C2.xo, inv0 (p_common C2 ?_)⟩
  simp only [eL_areFronts_242, isA_r, isA_n, isI_i, isF_f, isL_l, is1_i, is1_r, is1_n, is1_f, true_and, and_true, List.length_cons, List.length_nil, Nat.reduceAdd, Nat.reduceLeDiff, Nat.reduceSub, Option.some.injEq, exists_eq_left', aft_s, aft_n, ite_true, ite_false, if_true, if_false, Nat.zero_le, Nat.le_refl, reduceCtorEq]
  refine invk 2 12 (by omega) (by omega) (h_commonAt C2 O (by omega) (by omega) (fun H3 C3 => ?_))
  simp only [eL_areFronts_245, eL_areFronts_247, eL_areFronts_250, eL_areFronts_251, eL_areFronts_254, eL_areFronts_255, isA_r, isA_n, isI_i, isF_f, isL_l, is1_i, is1_r, is1_n, is1_f, true_and, and_true, List.length_cons, List.length_nil, Nat.reduceAdd, Nat.reduceLeDiff, Nat.reduceSub, Option.some.injEq, exists_eq_left', aft_s, aft_n, ite_true, ite_false, if_true, if_false, Nat.zero_le, Nat.le_refl, reduceCtorEq, v_cmEnd h1, eq_self, ok01_1]
  exact hK H3 C3
end AFR
