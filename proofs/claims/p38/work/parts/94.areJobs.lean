/-! areJobs answers true -/
section AJS
variable {E : EN} {P : Nat → Prop} {H0 : AH} {x aw al : Nat} {σ : Sg} {fw : Nat → Nat} {fW fL : Nat → Int32} {T : Nat} {H : AH} {d c n : Nat} {K : Out → AH → Prop}
def AJ (P : Nat → Prop) (H0 : AH) (aw al : Nat) (σ : Sg) (fw : Nat → Nat) (fW fL : Nat → Int32) : Prop := (P aw ∧ H0 aw = some (arI 30 fW)) ∧ (P al ∧ H0 al = some (arI 30 fL)) ∧ ∀ j, j < s_nJ σ → fW j = nI (fw j) ∧ fL j = nI (s_nd σ j)
theorem AJ.w (A : AJ P H0 aw al σ fw fW fL) (C : CW E P H0 x σ H) : rdI E H aw 0 = some (30, fW) := rdI_of (by rw [C.at A.1.1]; exact A.1.2)
theorem AJ.l (A : AJ P H0 aw al σ fw fW fL) (C : CW E P H0 x σ H) : rdI E H al 0 = some (30, fL) := rdI_of (by rw [C.at A.2.1.1]; exact A.2.1.2)
abbrev ajL (x J aw al tk wt dn : Nat) (wk : Int64) (j : Nat) (a11 a12 : Value) : List Value := [.ref x, .int (nI J), .ref aw, .ref al, .int (nI tk), .int (nI wt), .int (nI dn), .long wk, .retAddr 0, .int 1, .int (nI j), a11, a12]
theorem aj1_114_t (C : CW E P H0 x σ H) (O : Ok σ) (A : AJ P H0 aw al σ fw fW fL) (hjn : (s_jn σ).length ≤ 16384) {j : Nat} {a11 a12 : Value} (hj : j < s_nJ σ) (hst : s_st σ j = 114) (hhl : s_hl σ j = true) (hlf : (nI (s_lf σ j) = 0) = False) (hw : s_lf σ j ≤ fw j ∧ fw j ≤ 50) (hc : 12 ≤ c) (hn : 72 ≤ n)
    (hK : ∀ H' c' n' a11 a12, CW E P H0 x σ H' → c ≤ c' + 12 → n ≤ n' + 72 → Ev E (d + 13) mL_areJobs K 18 (ajL x (s_nJ σ) aw al (tkN σ (j + 1)) (cN (wtF σ) (j + 1)) (cN (dnF σ) (j + 1)) (lN (swk (s_lf σ) fw (j + 1))) (j + 1) a11 a12) [] H' c' n') :
    Ev E (d + 13) mL_areJobs K 18 (ajL x (s_nJ σ) aw al (tkN σ j) (cN (wtF σ) j) (cN (dnF σ) j) (lN (swk (s_lf σ) fw j)) j a11 a12) [] H c n := by
  have h30 := O.1.2
  have e1 : (nI j < nI (s_nJ σ)) = True := eq_true (nI_lt hj (by omega))
  have e2 : inB (nI j) 30 = true := inB_nI (by omega) (by omega)
  have e3 : (nI j).toNatClampNeg = j := nI_clamp (by omega)
  have e4 := (A.2.2 j hj).1
  have e5 := (A.2.2 j hj).2
  have e6 : (nI (s_lf σ j) < 0) = False := eq_false (nI_pos (by omega))
  have ew : cN (wtF σ) (j + 1) = cN (wtF σ) j := by rw [cN_s, if_neg (by unfold wtF; rw [hst]; decide), Nat.add_zero]
  have ed : cN (dnF σ) (j + 1) = cN (dnF σ) j := by rw [cN_s, if_neg (by unfold dnF; rw [hst]; decide), Nat.add_zero]
  have et : tkN σ (j + 1) = tkN σ j ||| s_nd σ j := if_pos hhl
  have es : swk (s_lf σ) fw (j + 1) = swk (s_lf σ) fw j + (fw j - s_lf σ j) := rfl
  rw [ew, ed, et, es] at hK
  rw [hL_areJobs_18]
  simp only [eL_areJobs_20, eL_areJobs_21, eL_areJobs_24, eL_areJobs_25, eL_areJobs_27, isA_r, isA_n, isI_i, isF_f, isL_l, is1_i, is1_r, is1_n, is1_f, true_and, and_true, List.length_cons, List.length_nil, Nat.reduceAdd, Nat.reduceLeDiff, Nat.reduceSub, Option.some.injEq, exists_eq_left', aft_s, aft_n, ite_true, ite_false, if_true, if_false, Nat.zero_le, Nat.le_refl, reduceCtorEq, e1]
  refine invk 2 12 (by omega) (by omega) (h_state C O (by omega) (by omega) (fun H1 C1 => ?_))
  simp only [eL_areJobs_30, eL_areJobs_31, eL_areJobs_33, eL_areJobs_34, eL_areJobs_36, isA_r, isA_n, isI_i, isF_f, isL_l, is1_i, is1_r, is1_n, is1_f, true_and, and_true, List.length_cons, List.length_nil, Nat.reduceAdd, Nat.reduceLeDiff, Nat.reduceSub, Option.some.injEq, exists_eq_left', aft_s, aft_n, ite_true, ite_false, if_true, if_false, Nat.zero_le, Nat.le_refl, reduceCtorEq, v_state hj h30, hst, ch_114]
  refine invk 2 12 (by omega) (by omega) (h_holds C1 O (by omega) (by omega) (fun H2 C2 => ?_))
  simp only [eL_areJobs_39, eL_areJobs_40, eL_areJobs_43, eL_areJobs_44, eL_areJobs_47, eL_areJobs_48, eL_areJobs_50, eL_areJobs_52, eL_areJobs_54, eL_areJobs_56, eL_areJobs_59, eL_areJobs_60, eL_areJobs_63, eL_areJobs_64, eL_areJobs_65, eL_areJobs_67, eL_areJobs_69, eL_areJobs_71, eL_areJobs_73, eL_areJobs_76, eL_areJobs_77, eL_areJobs_80, eL_areJobs_81, eL_areJobs_82, eL_areJobs_84, eL_areJobs_86, eL_areJobs_87, eL_areJobs_89, eL_areJobs_90, eL_areJobs_91, eL_areJobs_93, isA_r, isA_n, isI_i, isF_f, isL_l, is1_i, is1_r, is1_n, is1_f, true_and, and_true, List.length_cons, List.length_nil, Nat.reduceAdd, Nat.reduceLeDiff, Nat.reduceSub, Option.some.injEq, exists_eq_left', aft_s, aft_n, ite_true, ite_false, if_true, if_false, Nat.zero_le, Nat.le_refl, reduceCtorEq, v_holds hj h30, hhl, bt_1, n_114_114, n_114_119, n_114_115, n_114_100, n_114_107, n_114_0, n_114_103, n_119_114, n_119_119, n_119_115, n_119_100, n_119_107, n_119_0, n_119_103, n_115_114, n_115_119, n_115_115, n_115_100, n_115_107, n_115_0, n_115_103, n_100_114, n_100_119, n_100_115, n_100_100, n_100_107, n_100_0, n_100_103, n_107_114, n_107_119, n_107_115, n_107_100, n_107_107, n_107_0, n_107_103, A.w C2, e2, e3, e4, nI_1, Int32.add_zero]
  refine invk 2 12 (by omega) (by omega) (h_toDo C2 O (by omega) (by omega) (fun H3 C3 => ?_))
  simp only [eL_areJobs_96, eL_areJobs_97, eL_areJobs_98, eL_areJobs_99, eL_areJobs_101, eL_areJobs_103, eL_areJobs_105, eL_areJobs_106, eL_areJobs_108, isA_r, isA_n, isI_i, isF_f, isL_l, is1_i, is1_r, is1_n, is1_f, true_and, and_true, List.length_cons, List.length_nil, Nat.reduceAdd, Nat.reduceLeDiff, Nat.reduceSub, Option.some.injEq, exists_eq_left', aft_s, aft_n, ite_true, ite_false, if_true, if_false, Nat.zero_le, Nat.le_refl, reduceCtorEq, v_toDo hj h30, pk_sub hw.1, nI_l (show fw j - s_lf σ j < 2 ^ 31 by omega), lN_add]
  refine invk 2 12 (by omega) (by omega) (h_stateByJournal C3 O hjn (by omega) (by omega) (fun H4 C4 => ?_))
  simp only [eL_areJobs_111, eL_areJobs_114, eL_areJobs_115, eL_areJobs_117, isA_r, isA_n, isI_i, isF_f, isL_l, is1_i, is1_r, is1_n, is1_f, true_and, and_true, List.length_cons, List.length_nil, Nat.reduceAdd, Nat.reduceLeDiff, Nat.reduceSub, Option.some.injEq, exists_eq_left', aft_s, aft_n, ite_true, ite_false, if_true, if_false, Nat.zero_le, Nat.le_refl, reduceCtorEq, v_state hj h30, hst, eq_self]
  refine invk 2 12 (by omega) (by omega) (h_toDo C4 O (by omega) (by omega) (fun H5 C5 => ?_))
  simp only [eL_areJobs_120, eL_areJobs_123, eL_areJobs_125, eL_areJobs_127, eL_areJobs_130, eL_areJobs_131, eL_areJobs_134, eL_areJobs_135, eL_areJobs_136, eL_areJobs_138, isA_r, isA_n, isI_i, isF_f, isL_l, is1_i, is1_r, is1_n, is1_f, true_and, and_true, List.length_cons, List.length_nil, Nat.reduceAdd, Nat.reduceLeDiff, Nat.reduceSub, Option.some.injEq, exists_eq_left', aft_s, aft_n, ite_true, ite_false, if_true, if_false, Nat.zero_le, Nat.le_refl, reduceCtorEq, v_toDo hj h30, e6, n_114_114, n_114_119, n_114_115, n_114_100, n_114_107, n_114_0, n_114_103, n_119_114, n_119_119, n_119_115, n_119_100, n_119_107, n_119_0, n_119_103, n_115_114, n_115_119, n_115_115, n_115_100, n_115_107, n_115_0, n_115_103, n_100_114, n_100_119, n_100_115, n_100_100, n_100_107, n_100_0, n_100_103, n_107_114, n_107_119, n_107_115, n_107_100, n_107_107, n_107_0, n_107_103]
  refine invk 2 12 (by omega) (by omega) (h_toDo C5 O (by omega) (by omega) (fun H6 C6 => ?_))
  simp only [eL_areJobs_141, eL_areJobs_144, eL_areJobs_145, eL_areJobs_148, eL_areJobs_149, eL_areJobs_152, eL_areJobs_154, eL_areJobs_156, eL_areJobs_159, eL_areJobs_161, eL_areJobs_164, eL_areJobs_167, eL_areJobs_169, eL_areJobs_171, eL_areJobs_174, eL_areJobs_176, eL_areJobs_179, eL_areJobs_180, eL_areJobs_183, eL_areJobs_184, eL_areJobs_185, eL_areJobs_187, eL_areJobs_189, eL_areJobs_192, eL_areJobs_194, eL_areJobs_196, eL_areJobs_197, eL_areJobs_199, eL_areJobs_200, eL_areJobs_201, eL_areJobs_204, eL_areJobs_205, eL_areJobs_208, eL_areJobs_209, eL_areJobs_210, eL_areJobs_212, eL_areJobs_214, eL_areJobs_215, eL_areJobs_217, eL_areJobs_218, eL_areJobs_219, eL_areJobs_221, eL_areJobs_224, isA_r, isA_n, isI_i, isF_f, isL_l, is1_i, is1_r, is1_n, is1_f, true_and, and_true, List.length_cons, List.length_nil, Nat.reduceAdd, Nat.reduceLeDiff, Nat.reduceSub, Option.some.injEq, exists_eq_left', aft_s, aft_n, ite_true, ite_false, if_true, if_false, Nat.zero_le, Nat.le_refl, reduceCtorEq, v_toDo hj h30, hlf, n_114_114, n_114_119, n_114_115, n_114_100, n_114_107, n_114_0, n_114_103, n_119_114, n_119_119, n_119_115, n_119_100, n_119_107, n_119_0, n_119_103, n_115_114, n_115_119, n_115_115, n_115_100, n_115_107, n_115_0, n_115_103, n_100_114, n_100_119, n_100_115, n_100_100, n_100_107, n_100_0, n_100_103, n_107_114, n_107_119, n_107_115, n_107_100, n_107_107, n_107_0, n_107_103, i1_0, i0_1, eq_self, and_11, A.l C6, e2, e3, e5, fa_and, tk_and O hhl, nI_0, fa_or, nI_1]
  exact hK H6 _ _ _ _ C6 (by omega) (by omega)
theorem aj1_119_f (C : CW E P H0 x σ H) (O : Ok σ) (A : AJ P H0 aw al σ fw fW fL) (hjn : (s_jn σ).length ≤ 16384) {j : Nat} {a11 a12 : Value} (hj : j < s_nJ σ) (hst : s_st σ j = 119) (hhl : s_hl σ j = false) (hlf : (nI (s_lf σ j) = 0) = False) (hw : s_lf σ j ≤ fw j ∧ fw j ≤ 50) (hc : 12 ≤ c) (hn : 72 ≤ n)
    (hK : ∀ H' c' n' a11 a12, CW E P H0 x σ H' → c ≤ c' + 12 → n ≤ n' + 72 → Ev E (d + 13) mL_areJobs K 18 (ajL x (s_nJ σ) aw al (tkN σ (j + 1)) (cN (wtF σ) (j + 1)) (cN (dnF σ) (j + 1)) (lN (swk (s_lf σ) fw (j + 1))) (j + 1) a11 a12) [] H' c' n') :
    Ev E (d + 13) mL_areJobs K 18 (ajL x (s_nJ σ) aw al (tkN σ j) (cN (wtF σ) j) (cN (dnF σ) j) (lN (swk (s_lf σ) fw j)) j a11 a12) [] H c n := by
  have h30 := O.1.2
  have e1 : (nI j < nI (s_nJ σ)) = True := eq_true (nI_lt hj (by omega))
  have e2 : inB (nI j) 30 = true := inB_nI (by omega) (by omega)
  have e3 : (nI j).toNatClampNeg = j := nI_clamp (by omega)
  have e4 := (A.2.2 j hj).1
  have e5 := (A.2.2 j hj).2
  have e6 : (nI (s_lf σ j) < 0) = False := eq_false (nI_pos (by omega))
  have ew : cN (wtF σ) (j + 1) = cN (wtF σ) j + 1 := by rw [cN_s, if_pos (by unfold wtF; rw [hst]; rfl)]
  have ed : cN (dnF σ) (j + 1) = cN (dnF σ) j := by rw [cN_s, if_neg (by unfold dnF; rw [hst]; decide), Nat.add_zero]
  have et : tkN σ (j + 1) = tkN σ j := if_neg (by rw [hhl]; decide)
  have es : swk (s_lf σ) fw (j + 1) = swk (s_lf σ) fw j + (fw j - s_lf σ j) := rfl
  rw [ew, ed, et, es] at hK
  rw [hL_areJobs_18]
  simp only [eL_areJobs_20, eL_areJobs_21, eL_areJobs_24, eL_areJobs_25, eL_areJobs_27, isA_r, isA_n, isI_i, isF_f, isL_l, is1_i, is1_r, is1_n, is1_f, true_and, and_true, List.length_cons, List.length_nil, Nat.reduceAdd, Nat.reduceLeDiff, Nat.reduceSub, Option.some.injEq, exists_eq_left', aft_s, aft_n, ite_true, ite_false, if_true, if_false, Nat.zero_le, Nat.le_refl, reduceCtorEq, e1]
  refine invk 2 12 (by omega) (by omega) (h_state C O (by omega) (by omega) (fun H1 C1 => ?_))
  simp only [eL_areJobs_30, eL_areJobs_31, eL_areJobs_33, eL_areJobs_34, eL_areJobs_36, isA_r, isA_n, isI_i, isF_f, isL_l, is1_i, is1_r, is1_n, is1_f, true_and, and_true, List.length_cons, List.length_nil, Nat.reduceAdd, Nat.reduceLeDiff, Nat.reduceSub, Option.some.injEq, exists_eq_left', aft_s, aft_n, ite_true, ite_false, if_true, if_false, Nat.zero_le, Nat.le_refl, reduceCtorEq, v_state hj h30, hst, ch_119]
  refine invk 2 12 (by omega) (by omega) (h_holds C1 O (by omega) (by omega) (fun H2 C2 => ?_))
  simp only [eL_areJobs_39, eL_areJobs_40, eL_areJobs_43, eL_areJobs_44, eL_areJobs_47, eL_areJobs_48, eL_areJobs_50, eL_areJobs_52, eL_areJobs_54, eL_areJobs_56, eL_areJobs_59, eL_areJobs_60, eL_areJobs_63, eL_areJobs_64, eL_areJobs_65, eL_areJobs_67, eL_areJobs_69, eL_areJobs_71, eL_areJobs_73, eL_areJobs_76, eL_areJobs_77, eL_areJobs_80, eL_areJobs_81, eL_areJobs_82, eL_areJobs_84, eL_areJobs_86, eL_areJobs_87, eL_areJobs_89, eL_areJobs_90, eL_areJobs_91, eL_areJobs_93, isA_r, isA_n, isI_i, isF_f, isL_l, is1_i, is1_r, is1_n, is1_f, true_and, and_true, List.length_cons, List.length_nil, Nat.reduceAdd, Nat.reduceLeDiff, Nat.reduceSub, Option.some.injEq, exists_eq_left', aft_s, aft_n, ite_true, ite_false, if_true, if_false, Nat.zero_le, Nat.le_refl, reduceCtorEq, v_holds hj h30, hhl, bf_1, n_114_114, n_114_119, n_114_115, n_114_100, n_114_107, n_114_0, n_114_103, n_119_114, n_119_119, n_119_115, n_119_100, n_119_107, n_119_0, n_119_103, n_115_114, n_115_119, n_115_115, n_115_100, n_115_107, n_115_0, n_115_103, n_100_114, n_100_119, n_100_115, n_100_100, n_100_107, n_100_0, n_100_103, n_107_114, n_107_119, n_107_115, n_107_100, n_107_107, n_107_0, n_107_103, A.w C2, e2, e3, e4, nI_1, Int32.add_zero]
  refine invk 2 12 (by omega) (by omega) (h_toDo C2 O (by omega) (by omega) (fun H3 C3 => ?_))
  simp only [eL_areJobs_96, eL_areJobs_97, eL_areJobs_98, eL_areJobs_99, eL_areJobs_101, eL_areJobs_103, eL_areJobs_105, eL_areJobs_106, eL_areJobs_108, isA_r, isA_n, isI_i, isF_f, isL_l, is1_i, is1_r, is1_n, is1_f, true_and, and_true, List.length_cons, List.length_nil, Nat.reduceAdd, Nat.reduceLeDiff, Nat.reduceSub, Option.some.injEq, exists_eq_left', aft_s, aft_n, ite_true, ite_false, if_true, if_false, Nat.zero_le, Nat.le_refl, reduceCtorEq, v_toDo hj h30, pk_sub hw.1, nI_l (show fw j - s_lf σ j < 2 ^ 31 by omega), lN_add]
  refine invk 2 12 (by omega) (by omega) (h_stateByJournal C3 O hjn (by omega) (by omega) (fun H4 C4 => ?_))
  simp only [eL_areJobs_111, eL_areJobs_114, eL_areJobs_115, eL_areJobs_117, isA_r, isA_n, isI_i, isF_f, isL_l, is1_i, is1_r, is1_n, is1_f, true_and, and_true, List.length_cons, List.length_nil, Nat.reduceAdd, Nat.reduceLeDiff, Nat.reduceSub, Option.some.injEq, exists_eq_left', aft_s, aft_n, ite_true, ite_false, if_true, if_false, Nat.zero_le, Nat.le_refl, reduceCtorEq, v_state hj h30, hst, eq_self]
  refine invk 2 12 (by omega) (by omega) (h_toDo C4 O (by omega) (by omega) (fun H5 C5 => ?_))
  simp only [eL_areJobs_120, eL_areJobs_123, eL_areJobs_125, eL_areJobs_127, eL_areJobs_130, eL_areJobs_131, eL_areJobs_134, eL_areJobs_135, eL_areJobs_136, eL_areJobs_138, isA_r, isA_n, isI_i, isF_f, isL_l, is1_i, is1_r, is1_n, is1_f, true_and, and_true, List.length_cons, List.length_nil, Nat.reduceAdd, Nat.reduceLeDiff, Nat.reduceSub, Option.some.injEq, exists_eq_left', aft_s, aft_n, ite_true, ite_false, if_true, if_false, Nat.zero_le, Nat.le_refl, reduceCtorEq, v_toDo hj h30, e6, n_114_114, n_114_119, n_114_115, n_114_100, n_114_107, n_114_0, n_114_103, n_119_114, n_119_119, n_119_115, n_119_100, n_119_107, n_119_0, n_119_103, n_115_114, n_115_119, n_115_115, n_115_100, n_115_107, n_115_0, n_115_103, n_100_114, n_100_119, n_100_115, n_100_100, n_100_107, n_100_0, n_100_103, n_107_114, n_107_119, n_107_115, n_107_100, n_107_107, n_107_0, n_107_103]
  refine invk 2 12 (by omega) (by omega) (h_toDo C5 O (by omega) (by omega) (fun H6 C6 => ?_))
  simp only [eL_areJobs_141, eL_areJobs_144, eL_areJobs_145, eL_areJobs_148, eL_areJobs_149, eL_areJobs_152, eL_areJobs_154, eL_areJobs_156, eL_areJobs_159, eL_areJobs_161, eL_areJobs_164, eL_areJobs_167, eL_areJobs_169, eL_areJobs_171, eL_areJobs_174, eL_areJobs_176, eL_areJobs_179, eL_areJobs_180, eL_areJobs_183, eL_areJobs_184, eL_areJobs_185, eL_areJobs_187, eL_areJobs_189, eL_areJobs_192, eL_areJobs_194, eL_areJobs_196, eL_areJobs_197, eL_areJobs_199, eL_areJobs_200, eL_areJobs_201, eL_areJobs_204, eL_areJobs_205, eL_areJobs_208, eL_areJobs_209, eL_areJobs_210, eL_areJobs_212, eL_areJobs_214, eL_areJobs_215, eL_areJobs_217, eL_areJobs_218, eL_areJobs_219, eL_areJobs_221, eL_areJobs_224, isA_r, isA_n, isI_i, isF_f, isL_l, is1_i, is1_r, is1_n, is1_f, true_and, and_true, List.length_cons, List.length_nil, Nat.reduceAdd, Nat.reduceLeDiff, Nat.reduceSub, Option.some.injEq, exists_eq_left', aft_s, aft_n, ite_true, ite_false, if_true, if_false, Nat.zero_le, Nat.le_refl, reduceCtorEq, v_toDo hj h30, hlf, n_114_114, n_114_119, n_114_115, n_114_100, n_114_107, n_114_0, n_114_103, n_119_114, n_119_119, n_119_115, n_119_100, n_119_107, n_119_0, n_119_103, n_115_114, n_115_119, n_115_115, n_115_100, n_115_107, n_115_0, n_115_103, n_100_114, n_100_119, n_100_115, n_100_100, n_100_107, n_100_0, n_100_103, n_107_114, n_107_119, n_107_115, n_107_100, n_107_107, n_107_0, n_107_103, i1_0, i0_1, eq_self, and_11, A.l C6, e2, e3, e5, fa_and, nI_0, fa_or, nI_1]
  exact hK H6 _ _ _ _ C6 (by omega) (by omega)
theorem aj1_115_t (C : CW E P H0 x σ H) (O : Ok σ) (A : AJ P H0 aw al σ fw fW fL) (hjn : (s_jn σ).length ≤ 16384) {j : Nat} {a11 a12 : Value} (hj : j < s_nJ σ) (hst : s_st σ j = 115) (hhl : s_hl σ j = true) (hlf : (nI (s_lf σ j) = 0) = False) (hw : s_lf σ j ≤ fw j ∧ fw j ≤ 50) (hc : 12 ≤ c) (hn : 72 ≤ n)
    (hK : ∀ H' c' n' a11 a12, CW E P H0 x σ H' → c ≤ c' + 12 → n ≤ n' + 72 → Ev E (d + 13) mL_areJobs K 18 (ajL x (s_nJ σ) aw al (tkN σ (j + 1)) (cN (wtF σ) (j + 1)) (cN (dnF σ) (j + 1)) (lN (swk (s_lf σ) fw (j + 1))) (j + 1) a11 a12) [] H' c' n') :
    Ev E (d + 13) mL_areJobs K 18 (ajL x (s_nJ σ) aw al (tkN σ j) (cN (wtF σ) j) (cN (dnF σ) j) (lN (swk (s_lf σ) fw j)) j a11 a12) [] H c n := by
  have h30 := O.1.2
  have e1 : (nI j < nI (s_nJ σ)) = True := eq_true (nI_lt hj (by omega))
  have e2 : inB (nI j) 30 = true := inB_nI (by omega) (by omega)
  have e3 : (nI j).toNatClampNeg = j := nI_clamp (by omega)
  have e4 := (A.2.2 j hj).1
  have e5 := (A.2.2 j hj).2
  have e6 : (nI (s_lf σ j) < 0) = False := eq_false (nI_pos (by omega))
  have ew : cN (wtF σ) (j + 1) = cN (wtF σ) j := by rw [cN_s, if_neg (by unfold wtF; rw [hst]; decide), Nat.add_zero]
  have ed : cN (dnF σ) (j + 1) = cN (dnF σ) j := by rw [cN_s, if_neg (by unfold dnF; rw [hst]; decide), Nat.add_zero]
  have et : tkN σ (j + 1) = tkN σ j ||| s_nd σ j := if_pos hhl
  have es : swk (s_lf σ) fw (j + 1) = swk (s_lf σ) fw j + (fw j - s_lf σ j) := rfl
  rw [ew, ed, et, es] at hK
  rw [hL_areJobs_18]
  simp only [eL_areJobs_20, eL_areJobs_21, eL_areJobs_24, eL_areJobs_25, eL_areJobs_27, isA_r, isA_n, isI_i, isF_f, isL_l, is1_i, is1_r, is1_n, is1_f, true_and, and_true, List.length_cons, List.length_nil, Nat.reduceAdd, Nat.reduceLeDiff, Nat.reduceSub, Option.some.injEq, exists_eq_left', aft_s, aft_n, ite_true, ite_false, if_true, if_false, Nat.zero_le, Nat.le_refl, reduceCtorEq, e1]
  refine invk 2 12 (by omega) (by omega) (h_state C O (by omega) (by omega) (fun H1 C1 => ?_))
  simp only [eL_areJobs_30, eL_areJobs_31, eL_areJobs_33, eL_areJobs_34, eL_areJobs_36, isA_r, isA_n, isI_i, isF_f, isL_l, is1_i, is1_r, is1_n, is1_f, true_and, and_true, List.length_cons, List.length_nil, Nat.reduceAdd, Nat.reduceLeDiff, Nat.reduceSub, Option.some.injEq, exists_eq_left', aft_s, aft_n, ite_true, ite_false, if_true, if_false, Nat.zero_le, Nat.le_refl, reduceCtorEq, v_state hj h30, hst, ch_115]
  refine invk 2 12 (by omega) (by omega) (h_holds C1 O (by omega) (by omega) (fun H2 C2 => ?_))
  simp only [eL_areJobs_39, eL_areJobs_40, eL_areJobs_43, eL_areJobs_44, eL_areJobs_47, eL_areJobs_48, eL_areJobs_50, eL_areJobs_52, eL_areJobs_54, eL_areJobs_56, eL_areJobs_59, eL_areJobs_60, eL_areJobs_63, eL_areJobs_64, eL_areJobs_65, eL_areJobs_67, eL_areJobs_69, eL_areJobs_71, eL_areJobs_73, eL_areJobs_76, eL_areJobs_77, eL_areJobs_80, eL_areJobs_81, eL_areJobs_82, eL_areJobs_84, eL_areJobs_86, eL_areJobs_87, eL_areJobs_89, eL_areJobs_90, eL_areJobs_91, eL_areJobs_93, isA_r, isA_n, isI_i, isF_f, isL_l, is1_i, is1_r, is1_n, is1_f, true_and, and_true, List.length_cons, List.length_nil, Nat.reduceAdd, Nat.reduceLeDiff, Nat.reduceSub, Option.some.injEq, exists_eq_left', aft_s, aft_n, ite_true, ite_false, if_true, if_false, Nat.zero_le, Nat.le_refl, reduceCtorEq, v_holds hj h30, hhl, bt_1, n_114_114, n_114_119, n_114_115, n_114_100, n_114_107, n_114_0, n_114_103, n_119_114, n_119_119, n_119_115, n_119_100, n_119_107, n_119_0, n_119_103, n_115_114, n_115_119, n_115_115, n_115_100, n_115_107, n_115_0, n_115_103, n_100_114, n_100_119, n_100_115, n_100_100, n_100_107, n_100_0, n_100_103, n_107_114, n_107_119, n_107_115, n_107_100, n_107_107, n_107_0, n_107_103, A.w C2, e2, e3, e4, nI_1, Int32.add_zero]
  refine invk 2 12 (by omega) (by omega) (h_toDo C2 O (by omega) (by omega) (fun H3 C3 => ?_))
  simp only [eL_areJobs_96, eL_areJobs_97, eL_areJobs_98, eL_areJobs_99, eL_areJobs_101, eL_areJobs_103, eL_areJobs_105, eL_areJobs_106, eL_areJobs_108, isA_r, isA_n, isI_i, isF_f, isL_l, is1_i, is1_r, is1_n, is1_f, true_and, and_true, List.length_cons, List.length_nil, Nat.reduceAdd, Nat.reduceLeDiff, Nat.reduceSub, Option.some.injEq, exists_eq_left', aft_s, aft_n, ite_true, ite_false, if_true, if_false, Nat.zero_le, Nat.le_refl, reduceCtorEq, v_toDo hj h30, pk_sub hw.1, nI_l (show fw j - s_lf σ j < 2 ^ 31 by omega), lN_add]
  refine invk 2 12 (by omega) (by omega) (h_stateByJournal C3 O hjn (by omega) (by omega) (fun H4 C4 => ?_))
  simp only [eL_areJobs_111, eL_areJobs_114, eL_areJobs_115, eL_areJobs_117, isA_r, isA_n, isI_i, isF_f, isL_l, is1_i, is1_r, is1_n, is1_f, true_and, and_true, List.length_cons, List.length_nil, Nat.reduceAdd, Nat.reduceLeDiff, Nat.reduceSub, Option.some.injEq, exists_eq_left', aft_s, aft_n, ite_true, ite_false, if_true, if_false, Nat.zero_le, Nat.le_refl, reduceCtorEq, v_state hj h30, hst, eq_self]
  refine invk 2 12 (by omega) (by omega) (h_toDo C4 O (by omega) (by omega) (fun H5 C5 => ?_))
  simp only [eL_areJobs_120, eL_areJobs_123, eL_areJobs_125, eL_areJobs_127, eL_areJobs_130, eL_areJobs_131, eL_areJobs_134, eL_areJobs_135, eL_areJobs_136, eL_areJobs_138, isA_r, isA_n, isI_i, isF_f, isL_l, is1_i, is1_r, is1_n, is1_f, true_and, and_true, List.length_cons, List.length_nil, Nat.reduceAdd, Nat.reduceLeDiff, Nat.reduceSub, Option.some.injEq, exists_eq_left', aft_s, aft_n, ite_true, ite_false, if_true, if_false, Nat.zero_le, Nat.le_refl, reduceCtorEq, v_toDo hj h30, e6, n_114_114, n_114_119, n_114_115, n_114_100, n_114_107, n_114_0, n_114_103, n_119_114, n_119_119, n_119_115, n_119_100, n_119_107, n_119_0, n_119_103, n_115_114, n_115_119, n_115_115, n_115_100, n_115_107, n_115_0, n_115_103, n_100_114, n_100_119, n_100_115, n_100_100, n_100_107, n_100_0, n_100_103, n_107_114, n_107_119, n_107_115, n_107_100, n_107_107, n_107_0, n_107_103]
  refine invk 2 12 (by omega) (by omega) (h_toDo C5 O (by omega) (by omega) (fun H6 C6 => ?_))
  simp only [eL_areJobs_141, eL_areJobs_144, eL_areJobs_145, eL_areJobs_148, eL_areJobs_149, eL_areJobs_152, eL_areJobs_154, eL_areJobs_156, eL_areJobs_159, eL_areJobs_161, eL_areJobs_164, eL_areJobs_167, eL_areJobs_169, eL_areJobs_171, eL_areJobs_174, eL_areJobs_176, eL_areJobs_179, eL_areJobs_180, eL_areJobs_183, eL_areJobs_184, eL_areJobs_185, eL_areJobs_187, eL_areJobs_189, eL_areJobs_192, eL_areJobs_194, eL_areJobs_196, eL_areJobs_197, eL_areJobs_199, eL_areJobs_200, eL_areJobs_201, eL_areJobs_204, eL_areJobs_205, eL_areJobs_208, eL_areJobs_209, eL_areJobs_210, eL_areJobs_212, eL_areJobs_214, eL_areJobs_215, eL_areJobs_217, eL_areJobs_218, eL_areJobs_219, eL_areJobs_221, eL_areJobs_224, isA_r, isA_n, isI_i, isF_f, isL_l, is1_i, is1_r, is1_n, is1_f, true_and, and_true, List.length_cons, List.length_nil, Nat.reduceAdd, Nat.reduceLeDiff, Nat.reduceSub, Option.some.injEq, exists_eq_left', aft_s, aft_n, ite_true, ite_false, if_true, if_false, Nat.zero_le, Nat.le_refl, reduceCtorEq, v_toDo hj h30, hlf, n_114_114, n_114_119, n_114_115, n_114_100, n_114_107, n_114_0, n_114_103, n_119_114, n_119_119, n_119_115, n_119_100, n_119_107, n_119_0, n_119_103, n_115_114, n_115_119, n_115_115, n_115_100, n_115_107, n_115_0, n_115_103, n_100_114, n_100_119, n_100_115, n_100_100, n_100_107, n_100_0, n_100_103, n_107_114, n_107_119, n_107_115, n_107_100, n_107_107, n_107_0, n_107_103, i1_0, i0_1, eq_self, and_11, A.l C6, e2, e3, e5, fa_and, tk_and O hhl, nI_0, fa_or, nI_1]
  exact hK H6 _ _ _ _ C6 (by omega) (by omega)
theorem aj1_115_f (C : CW E P H0 x σ H) (O : Ok σ) (A : AJ P H0 aw al σ fw fW fL) (hjn : (s_jn σ).length ≤ 16384) {j : Nat} {a11 a12 : Value} (hj : j < s_nJ σ) (hst : s_st σ j = 115) (hhl : s_hl σ j = false) (hlf : (nI (s_lf σ j) = 0) = False) (hw : s_lf σ j ≤ fw j ∧ fw j ≤ 50) (hc : 12 ≤ c) (hn : 72 ≤ n)
    (hK : ∀ H' c' n' a11 a12, CW E P H0 x σ H' → c ≤ c' + 12 → n ≤ n' + 72 → Ev E (d + 13) mL_areJobs K 18 (ajL x (s_nJ σ) aw al (tkN σ (j + 1)) (cN (wtF σ) (j + 1)) (cN (dnF σ) (j + 1)) (lN (swk (s_lf σ) fw (j + 1))) (j + 1) a11 a12) [] H' c' n') :
    Ev E (d + 13) mL_areJobs K 18 (ajL x (s_nJ σ) aw al (tkN σ j) (cN (wtF σ) j) (cN (dnF σ) j) (lN (swk (s_lf σ) fw j)) j a11 a12) [] H c n := by
  have h30 := O.1.2
  have e1 : (nI j < nI (s_nJ σ)) = True := eq_true (nI_lt hj (by omega))
  have e2 : inB (nI j) 30 = true := inB_nI (by omega) (by omega)
  have e3 : (nI j).toNatClampNeg = j := nI_clamp (by omega)
  have e4 := (A.2.2 j hj).1
  have e5 := (A.2.2 j hj).2
  have e6 : (nI (s_lf σ j) < 0) = False := eq_false (nI_pos (by omega))
  have ew : cN (wtF σ) (j + 1) = cN (wtF σ) j := by rw [cN_s, if_neg (by unfold wtF; rw [hst]; decide), Nat.add_zero]
  have ed : cN (dnF σ) (j + 1) = cN (dnF σ) j := by rw [cN_s, if_neg (by unfold dnF; rw [hst]; decide), Nat.add_zero]
  have et : tkN σ (j + 1) = tkN σ j := if_neg (by rw [hhl]; decide)
  have es : swk (s_lf σ) fw (j + 1) = swk (s_lf σ) fw j + (fw j - s_lf σ j) := rfl
  rw [ew, ed, et, es] at hK
  rw [hL_areJobs_18]
  simp only [eL_areJobs_20, eL_areJobs_21, eL_areJobs_24, eL_areJobs_25, eL_areJobs_27, isA_r, isA_n, isI_i, isF_f, isL_l, is1_i, is1_r, is1_n, is1_f, true_and, and_true, List.length_cons, List.length_nil, Nat.reduceAdd, Nat.reduceLeDiff, Nat.reduceSub, Option.some.injEq, exists_eq_left', aft_s, aft_n, ite_true, ite_false, if_true, if_false, Nat.zero_le, Nat.le_refl, reduceCtorEq, e1]
  refine invk 2 12 (by omega) (by omega) (h_state C O (by omega) (by omega) (fun H1 C1 => ?_))
  simp only [eL_areJobs_30, eL_areJobs_31, eL_areJobs_33, eL_areJobs_34, eL_areJobs_36, isA_r, isA_n, isI_i, isF_f, isL_l, is1_i, is1_r, is1_n, is1_f, true_and, and_true, List.length_cons, List.length_nil, Nat.reduceAdd, Nat.reduceLeDiff, Nat.reduceSub, Option.some.injEq, exists_eq_left', aft_s, aft_n, ite_true, ite_false, if_true, if_false, Nat.zero_le, Nat.le_refl, reduceCtorEq, v_state hj h30, hst, ch_115]
  refine invk 2 12 (by omega) (by omega) (h_holds C1 O (by omega) (by omega) (fun H2 C2 => ?_))
  simp only [eL_areJobs_39, eL_areJobs_40, eL_areJobs_43, eL_areJobs_44, eL_areJobs_47, eL_areJobs_48, eL_areJobs_50, eL_areJobs_52, eL_areJobs_54, eL_areJobs_56, eL_areJobs_59, eL_areJobs_60, eL_areJobs_63, eL_areJobs_64, eL_areJobs_65, eL_areJobs_67, eL_areJobs_69, eL_areJobs_71, eL_areJobs_73, eL_areJobs_76, eL_areJobs_77, eL_areJobs_80, eL_areJobs_81, eL_areJobs_82, eL_areJobs_84, eL_areJobs_86, eL_areJobs_87, eL_areJobs_89, eL_areJobs_90, eL_areJobs_91, eL_areJobs_93, isA_r, isA_n, isI_i, isF_f, isL_l, is1_i, is1_r, is1_n, is1_f, true_and, and_true, List.length_cons, List.length_nil, Nat.reduceAdd, Nat.reduceLeDiff, Nat.reduceSub, Option.some.injEq, exists_eq_left', aft_s, aft_n, ite_true, ite_false, if_true, if_false, Nat.zero_le, Nat.le_refl, reduceCtorEq, v_holds hj h30, hhl, bf_1, n_114_114, n_114_119, n_114_115, n_114_100, n_114_107, n_114_0, n_114_103, n_119_114, n_119_119, n_119_115, n_119_100, n_119_107, n_119_0, n_119_103, n_115_114, n_115_119, n_115_115, n_115_100, n_115_107, n_115_0, n_115_103, n_100_114, n_100_119, n_100_115, n_100_100, n_100_107, n_100_0, n_100_103, n_107_114, n_107_119, n_107_115, n_107_100, n_107_107, n_107_0, n_107_103, A.w C2, e2, e3, e4, nI_1, Int32.add_zero]
  refine invk 2 12 (by omega) (by omega) (h_toDo C2 O (by omega) (by omega) (fun H3 C3 => ?_))
  simp only [eL_areJobs_96, eL_areJobs_97, eL_areJobs_98, eL_areJobs_99, eL_areJobs_101, eL_areJobs_103, eL_areJobs_105, eL_areJobs_106, eL_areJobs_108, isA_r, isA_n, isI_i, isF_f, isL_l, is1_i, is1_r, is1_n, is1_f, true_and, and_true, List.length_cons, List.length_nil, Nat.reduceAdd, Nat.reduceLeDiff, Nat.reduceSub, Option.some.injEq, exists_eq_left', aft_s, aft_n, ite_true, ite_false, if_true, if_false, Nat.zero_le, Nat.le_refl, reduceCtorEq, v_toDo hj h30, pk_sub hw.1, nI_l (show fw j - s_lf σ j < 2 ^ 31 by omega), lN_add]
  refine invk 2 12 (by omega) (by omega) (h_stateByJournal C3 O hjn (by omega) (by omega) (fun H4 C4 => ?_))
  simp only [eL_areJobs_111, eL_areJobs_114, eL_areJobs_115, eL_areJobs_117, isA_r, isA_n, isI_i, isF_f, isL_l, is1_i, is1_r, is1_n, is1_f, true_and, and_true, List.length_cons, List.length_nil, Nat.reduceAdd, Nat.reduceLeDiff, Nat.reduceSub, Option.some.injEq, exists_eq_left', aft_s, aft_n, ite_true, ite_false, if_true, if_false, Nat.zero_le, Nat.le_refl, reduceCtorEq, v_state hj h30, hst, eq_self]
  refine invk 2 12 (by omega) (by omega) (h_toDo C4 O (by omega) (by omega) (fun H5 C5 => ?_))
  simp only [eL_areJobs_120, eL_areJobs_123, eL_areJobs_125, eL_areJobs_127, eL_areJobs_130, eL_areJobs_131, eL_areJobs_134, eL_areJobs_135, eL_areJobs_136, eL_areJobs_138, isA_r, isA_n, isI_i, isF_f, isL_l, is1_i, is1_r, is1_n, is1_f, true_and, and_true, List.length_cons, List.length_nil, Nat.reduceAdd, Nat.reduceLeDiff, Nat.reduceSub, Option.some.injEq, exists_eq_left', aft_s, aft_n, ite_true, ite_false, if_true, if_false, Nat.zero_le, Nat.le_refl, reduceCtorEq, v_toDo hj h30, e6, n_114_114, n_114_119, n_114_115, n_114_100, n_114_107, n_114_0, n_114_103, n_119_114, n_119_119, n_119_115, n_119_100, n_119_107, n_119_0, n_119_103, n_115_114, n_115_119, n_115_115, n_115_100, n_115_107, n_115_0, n_115_103, n_100_114, n_100_119, n_100_115, n_100_100, n_100_107, n_100_0, n_100_103, n_107_114, n_107_119, n_107_115, n_107_100, n_107_107, n_107_0, n_107_103]
  refine invk 2 12 (by omega) (by omega) (h_toDo C5 O (by omega) (by omega) (fun H6 C6 => ?_))
  simp only [eL_areJobs_141, eL_areJobs_144, eL_areJobs_145, eL_areJobs_148, eL_areJobs_149, eL_areJobs_152, eL_areJobs_154, eL_areJobs_156, eL_areJobs_159, eL_areJobs_161, eL_areJobs_164, eL_areJobs_167, eL_areJobs_169, eL_areJobs_171, eL_areJobs_174, eL_areJobs_176, eL_areJobs_179, eL_areJobs_180, eL_areJobs_183, eL_areJobs_184, eL_areJobs_185, eL_areJobs_187, eL_areJobs_189, eL_areJobs_192, eL_areJobs_194, eL_areJobs_196, eL_areJobs_197, eL_areJobs_199, eL_areJobs_200, eL_areJobs_201, eL_areJobs_204, eL_areJobs_205, eL_areJobs_208, eL_areJobs_209, eL_areJobs_210, eL_areJobs_212, eL_areJobs_214, eL_areJobs_215, eL_areJobs_217, eL_areJobs_218, eL_areJobs_219, eL_areJobs_221, eL_areJobs_224, isA_r, isA_n, isI_i, isF_f, isL_l, is1_i, is1_r, is1_n, is1_f, true_and, and_true, List.length_cons, List.length_nil, Nat.reduceAdd, Nat.reduceLeDiff, Nat.reduceSub, Option.some.injEq, exists_eq_left', aft_s, aft_n, ite_true, ite_false, if_true, if_false, Nat.zero_le, Nat.le_refl, reduceCtorEq, v_toDo hj h30, hlf, n_114_114, n_114_119, n_114_115, n_114_100, n_114_107, n_114_0, n_114_103, n_119_114, n_119_119, n_119_115, n_119_100, n_119_107, n_119_0, n_119_103, n_115_114, n_115_119, n_115_115, n_115_100, n_115_107, n_115_0, n_115_103, n_100_114, n_100_119, n_100_115, n_100_100, n_100_107, n_100_0, n_100_103, n_107_114, n_107_119, n_107_115, n_107_100, n_107_107, n_107_0, n_107_103, i1_0, i0_1, eq_self, and_11, A.l C6, e2, e3, e5, fa_and, nI_0, fa_or, nI_1]
  exact hK H6 _ _ _ _ C6 (by omega) (by omega)
theorem aj1_100_f (C : CW E P H0 x σ H) (O : Ok σ) (A : AJ P H0 aw al σ fw fW fL) (hjn : (s_jn σ).length ≤ 16384) {j : Nat} {a11 a12 : Value} (hj : j < s_nJ σ) (hst : s_st σ j = 100) (hhl : s_hl σ j = false) (hlf : (nI (s_lf σ j) = 0) = True) (hw : s_lf σ j ≤ fw j ∧ fw j ≤ 50) (hc : 12 ≤ c) (hn : 72 ≤ n)
    (hK : ∀ H' c' n' a11 a12, CW E P H0 x σ H' → c ≤ c' + 12 → n ≤ n' + 72 → Ev E (d + 13) mL_areJobs K 18 (ajL x (s_nJ σ) aw al (tkN σ (j + 1)) (cN (wtF σ) (j + 1)) (cN (dnF σ) (j + 1)) (lN (swk (s_lf σ) fw (j + 1))) (j + 1) a11 a12) [] H' c' n') :
    Ev E (d + 13) mL_areJobs K 18 (ajL x (s_nJ σ) aw al (tkN σ j) (cN (wtF σ) j) (cN (dnF σ) j) (lN (swk (s_lf σ) fw j)) j a11 a12) [] H c n := by
  have h30 := O.1.2
  have e1 : (nI j < nI (s_nJ σ)) = True := eq_true (nI_lt hj (by omega))
  have e2 : inB (nI j) 30 = true := inB_nI (by omega) (by omega)
  have e3 : (nI j).toNatClampNeg = j := nI_clamp (by omega)
  have e4 := (A.2.2 j hj).1
  have e5 := (A.2.2 j hj).2
  have e6 : (nI (s_lf σ j) < 0) = False := eq_false (nI_pos (by omega))
  have ew : cN (wtF σ) (j + 1) = cN (wtF σ) j := by rw [cN_s, if_neg (by unfold wtF; rw [hst]; decide), Nat.add_zero]
  have ed : cN (dnF σ) (j + 1) = cN (dnF σ) j + 1 := by rw [cN_s, if_pos (by unfold dnF; rw [hst]; rfl)]
  have et : tkN σ (j + 1) = tkN σ j := if_neg (by rw [hhl]; decide)
  have es : swk (s_lf σ) fw (j + 1) = swk (s_lf σ) fw j + (fw j - s_lf σ j) := rfl
  rw [ew, ed, et, es] at hK
  rw [hL_areJobs_18]
  simp only [eL_areJobs_20, eL_areJobs_21, eL_areJobs_24, eL_areJobs_25, eL_areJobs_27, isA_r, isA_n, isI_i, isF_f, isL_l, is1_i, is1_r, is1_n, is1_f, true_and, and_true, List.length_cons, List.length_nil, Nat.reduceAdd, Nat.reduceLeDiff, Nat.reduceSub, Option.some.injEq, exists_eq_left', aft_s, aft_n, ite_true, ite_false, if_true, if_false, Nat.zero_le, Nat.le_refl, reduceCtorEq, e1]
  refine invk 2 12 (by omega) (by omega) (h_state C O (by omega) (by omega) (fun H1 C1 => ?_))
  simp only [eL_areJobs_30, eL_areJobs_31, eL_areJobs_33, eL_areJobs_34, eL_areJobs_36, isA_r, isA_n, isI_i, isF_f, isL_l, is1_i, is1_r, is1_n, is1_f, true_and, and_true, List.length_cons, List.length_nil, Nat.reduceAdd, Nat.reduceLeDiff, Nat.reduceSub, Option.some.injEq, exists_eq_left', aft_s, aft_n, ite_true, ite_false, if_true, if_false, Nat.zero_le, Nat.le_refl, reduceCtorEq, v_state hj h30, hst, ch_100]
  refine invk 2 12 (by omega) (by omega) (h_holds C1 O (by omega) (by omega) (fun H2 C2 => ?_))
  simp only [eL_areJobs_39, eL_areJobs_40, eL_areJobs_43, eL_areJobs_44, eL_areJobs_47, eL_areJobs_48, eL_areJobs_50, eL_areJobs_52, eL_areJobs_54, eL_areJobs_56, eL_areJobs_59, eL_areJobs_60, eL_areJobs_63, eL_areJobs_64, eL_areJobs_65, eL_areJobs_67, eL_areJobs_69, eL_areJobs_71, eL_areJobs_73, eL_areJobs_76, eL_areJobs_77, eL_areJobs_80, eL_areJobs_81, eL_areJobs_82, eL_areJobs_84, eL_areJobs_86, eL_areJobs_87, eL_areJobs_89, eL_areJobs_90, eL_areJobs_91, eL_areJobs_93, isA_r, isA_n, isI_i, isF_f, isL_l, is1_i, is1_r, is1_n, is1_f, true_and, and_true, List.length_cons, List.length_nil, Nat.reduceAdd, Nat.reduceLeDiff, Nat.reduceSub, Option.some.injEq, exists_eq_left', aft_s, aft_n, ite_true, ite_false, if_true, if_false, Nat.zero_le, Nat.le_refl, reduceCtorEq, v_holds hj h30, hhl, bf_1, n_114_114, n_114_119, n_114_115, n_114_100, n_114_107, n_114_0, n_114_103, n_119_114, n_119_119, n_119_115, n_119_100, n_119_107, n_119_0, n_119_103, n_115_114, n_115_119, n_115_115, n_115_100, n_115_107, n_115_0, n_115_103, n_100_114, n_100_119, n_100_115, n_100_100, n_100_107, n_100_0, n_100_103, n_107_114, n_107_119, n_107_115, n_107_100, n_107_107, n_107_0, n_107_103, A.w C2, e2, e3, e4, nI_1, Int32.add_zero]
  refine invk 2 12 (by omega) (by omega) (h_toDo C2 O (by omega) (by omega) (fun H3 C3 => ?_))
  simp only [eL_areJobs_96, eL_areJobs_97, eL_areJobs_98, eL_areJobs_99, eL_areJobs_101, eL_areJobs_103, eL_areJobs_105, eL_areJobs_106, eL_areJobs_108, isA_r, isA_n, isI_i, isF_f, isL_l, is1_i, is1_r, is1_n, is1_f, true_and, and_true, List.length_cons, List.length_nil, Nat.reduceAdd, Nat.reduceLeDiff, Nat.reduceSub, Option.some.injEq, exists_eq_left', aft_s, aft_n, ite_true, ite_false, if_true, if_false, Nat.zero_le, Nat.le_refl, reduceCtorEq, v_toDo hj h30, pk_sub hw.1, nI_l (show fw j - s_lf σ j < 2 ^ 31 by omega), lN_add]
  refine invk 2 12 (by omega) (by omega) (h_stateByJournal C3 O hjn (by omega) (by omega) (fun H4 C4 => ?_))
  simp only [eL_areJobs_111, eL_areJobs_114, eL_areJobs_115, eL_areJobs_117, isA_r, isA_n, isI_i, isF_f, isL_l, is1_i, is1_r, is1_n, is1_f, true_and, and_true, List.length_cons, List.length_nil, Nat.reduceAdd, Nat.reduceLeDiff, Nat.reduceSub, Option.some.injEq, exists_eq_left', aft_s, aft_n, ite_true, ite_false, if_true, if_false, Nat.zero_le, Nat.le_refl, reduceCtorEq, v_state hj h30, hst, eq_self]
  refine invk 2 12 (by omega) (by omega) (h_toDo C4 O (by omega) (by omega) (fun H5 C5 => ?_))
  simp only [eL_areJobs_120, eL_areJobs_123, eL_areJobs_125, eL_areJobs_127, eL_areJobs_130, eL_areJobs_131, eL_areJobs_134, eL_areJobs_135, eL_areJobs_136, eL_areJobs_138, isA_r, isA_n, isI_i, isF_f, isL_l, is1_i, is1_r, is1_n, is1_f, true_and, and_true, List.length_cons, List.length_nil, Nat.reduceAdd, Nat.reduceLeDiff, Nat.reduceSub, Option.some.injEq, exists_eq_left', aft_s, aft_n, ite_true, ite_false, if_true, if_false, Nat.zero_le, Nat.le_refl, reduceCtorEq, v_toDo hj h30, e6, n_114_114, n_114_119, n_114_115, n_114_100, n_114_107, n_114_0, n_114_103, n_119_114, n_119_119, n_119_115, n_119_100, n_119_107, n_119_0, n_119_103, n_115_114, n_115_119, n_115_115, n_115_100, n_115_107, n_115_0, n_115_103, n_100_114, n_100_119, n_100_115, n_100_100, n_100_107, n_100_0, n_100_103, n_107_114, n_107_119, n_107_115, n_107_100, n_107_107, n_107_0, n_107_103]
  refine invk 2 12 (by omega) (by omega) (h_toDo C5 O (by omega) (by omega) (fun H6 C6 => ?_))
  simp only [eL_areJobs_141, eL_areJobs_144, eL_areJobs_145, eL_areJobs_148, eL_areJobs_149, eL_areJobs_152, eL_areJobs_154, eL_areJobs_156, eL_areJobs_159, eL_areJobs_161, eL_areJobs_164, eL_areJobs_167, eL_areJobs_169, eL_areJobs_171, eL_areJobs_174, eL_areJobs_176, eL_areJobs_179, eL_areJobs_180, eL_areJobs_183, eL_areJobs_184, eL_areJobs_185, eL_areJobs_187, eL_areJobs_189, eL_areJobs_192, eL_areJobs_194, eL_areJobs_196, eL_areJobs_197, eL_areJobs_199, eL_areJobs_200, eL_areJobs_201, eL_areJobs_204, eL_areJobs_205, eL_areJobs_208, eL_areJobs_209, eL_areJobs_210, eL_areJobs_212, eL_areJobs_214, eL_areJobs_215, eL_areJobs_217, eL_areJobs_218, eL_areJobs_219, eL_areJobs_221, eL_areJobs_224, isA_r, isA_n, isI_i, isF_f, isL_l, is1_i, is1_r, is1_n, is1_f, true_and, and_true, List.length_cons, List.length_nil, Nat.reduceAdd, Nat.reduceLeDiff, Nat.reduceSub, Option.some.injEq, exists_eq_left', aft_s, aft_n, ite_true, ite_false, if_true, if_false, Nat.zero_le, Nat.le_refl, reduceCtorEq, v_toDo hj h30, hlf, n_114_114, n_114_119, n_114_115, n_114_100, n_114_107, n_114_0, n_114_103, n_119_114, n_119_119, n_119_115, n_119_100, n_119_107, n_119_0, n_119_103, n_115_114, n_115_119, n_115_115, n_115_100, n_115_107, n_115_0, n_115_103, n_100_114, n_100_119, n_100_115, n_100_100, n_100_107, n_100_0, n_100_103, n_107_114, n_107_119, n_107_115, n_107_100, n_107_107, n_107_0, n_107_103, i1_0, i0_1, eq_self, and_11, A.l C6, e2, e3, e5, fa_and, nI_0, fa_or, nI_1]
  exact hK H6 _ _ _ _ C6 (by omega) (by omega)
theorem aj1_107_f (C : CW E P H0 x σ H) (O : Ok σ) (A : AJ P H0 aw al σ fw fW fL) (hjn : (s_jn σ).length ≤ 16384) {j : Nat} {a11 a12 : Value} (hj : j < s_nJ σ) (hst : s_st σ j = 107) (hhl : s_hl σ j = false) (hlf : (nI (s_lf σ j) = 0) = False) (hw : s_lf σ j ≤ fw j ∧ fw j ≤ 50) (hc : 12 ≤ c) (hn : 72 ≤ n)
    (hK : ∀ H' c' n' a11 a12, CW E P H0 x σ H' → c ≤ c' + 12 → n ≤ n' + 72 → Ev E (d + 13) mL_areJobs K 18 (ajL x (s_nJ σ) aw al (tkN σ (j + 1)) (cN (wtF σ) (j + 1)) (cN (dnF σ) (j + 1)) (lN (swk (s_lf σ) fw (j + 1))) (j + 1) a11 a12) [] H' c' n') :
    Ev E (d + 13) mL_areJobs K 18 (ajL x (s_nJ σ) aw al (tkN σ j) (cN (wtF σ) j) (cN (dnF σ) j) (lN (swk (s_lf σ) fw j)) j a11 a12) [] H c n := by
  have h30 := O.1.2
  have e1 : (nI j < nI (s_nJ σ)) = True := eq_true (nI_lt hj (by omega))
  have e2 : inB (nI j) 30 = true := inB_nI (by omega) (by omega)
  have e3 : (nI j).toNatClampNeg = j := nI_clamp (by omega)
  have e4 := (A.2.2 j hj).1
  have e5 := (A.2.2 j hj).2
  have e6 : (nI (s_lf σ j) < 0) = False := eq_false (nI_pos (by omega))
  have ew : cN (wtF σ) (j + 1) = cN (wtF σ) j := by rw [cN_s, if_neg (by unfold wtF; rw [hst]; decide), Nat.add_zero]
  have ed : cN (dnF σ) (j + 1) = cN (dnF σ) j := by rw [cN_s, if_neg (by unfold dnF; rw [hst]; decide), Nat.add_zero]
  have et : tkN σ (j + 1) = tkN σ j := if_neg (by rw [hhl]; decide)
  have es : swk (s_lf σ) fw (j + 1) = swk (s_lf σ) fw j + (fw j - s_lf σ j) := rfl
  rw [ew, ed, et, es] at hK
  rw [hL_areJobs_18]
  simp only [eL_areJobs_20, eL_areJobs_21, eL_areJobs_24, eL_areJobs_25, eL_areJobs_27, isA_r, isA_n, isI_i, isF_f, isL_l, is1_i, is1_r, is1_n, is1_f, true_and, and_true, List.length_cons, List.length_nil, Nat.reduceAdd, Nat.reduceLeDiff, Nat.reduceSub, Option.some.injEq, exists_eq_left', aft_s, aft_n, ite_true, ite_false, if_true, if_false, Nat.zero_le, Nat.le_refl, reduceCtorEq, e1]
  refine invk 2 12 (by omega) (by omega) (h_state C O (by omega) (by omega) (fun H1 C1 => ?_))
  simp only [eL_areJobs_30, eL_areJobs_31, eL_areJobs_33, eL_areJobs_34, eL_areJobs_36, isA_r, isA_n, isI_i, isF_f, isL_l, is1_i, is1_r, is1_n, is1_f, true_and, and_true, List.length_cons, List.length_nil, Nat.reduceAdd, Nat.reduceLeDiff, Nat.reduceSub, Option.some.injEq, exists_eq_left', aft_s, aft_n, ite_true, ite_false, if_true, if_false, Nat.zero_le, Nat.le_refl, reduceCtorEq, v_state hj h30, hst, ch_107]
  refine invk 2 12 (by omega) (by omega) (h_holds C1 O (by omega) (by omega) (fun H2 C2 => ?_))
  simp only [eL_areJobs_39, eL_areJobs_40, eL_areJobs_43, eL_areJobs_44, eL_areJobs_47, eL_areJobs_48, eL_areJobs_50, eL_areJobs_52, eL_areJobs_54, eL_areJobs_56, eL_areJobs_59, eL_areJobs_60, eL_areJobs_63, eL_areJobs_64, eL_areJobs_65, eL_areJobs_67, eL_areJobs_69, eL_areJobs_71, eL_areJobs_73, eL_areJobs_76, eL_areJobs_77, eL_areJobs_80, eL_areJobs_81, eL_areJobs_82, eL_areJobs_84, eL_areJobs_86, eL_areJobs_87, eL_areJobs_89, eL_areJobs_90, eL_areJobs_91, eL_areJobs_93, isA_r, isA_n, isI_i, isF_f, isL_l, is1_i, is1_r, is1_n, is1_f, true_and, and_true, List.length_cons, List.length_nil, Nat.reduceAdd, Nat.reduceLeDiff, Nat.reduceSub, Option.some.injEq, exists_eq_left', aft_s, aft_n, ite_true, ite_false, if_true, if_false, Nat.zero_le, Nat.le_refl, reduceCtorEq, v_holds hj h30, hhl, bf_1, n_114_114, n_114_119, n_114_115, n_114_100, n_114_107, n_114_0, n_114_103, n_119_114, n_119_119, n_119_115, n_119_100, n_119_107, n_119_0, n_119_103, n_115_114, n_115_119, n_115_115, n_115_100, n_115_107, n_115_0, n_115_103, n_100_114, n_100_119, n_100_115, n_100_100, n_100_107, n_100_0, n_100_103, n_107_114, n_107_119, n_107_115, n_107_100, n_107_107, n_107_0, n_107_103, A.w C2, e2, e3, e4, nI_1, Int32.add_zero]
  refine invk 2 12 (by omega) (by omega) (h_toDo C2 O (by omega) (by omega) (fun H3 C3 => ?_))
  simp only [eL_areJobs_96, eL_areJobs_97, eL_areJobs_98, eL_areJobs_99, eL_areJobs_101, eL_areJobs_103, eL_areJobs_105, eL_areJobs_106, eL_areJobs_108, isA_r, isA_n, isI_i, isF_f, isL_l, is1_i, is1_r, is1_n, is1_f, true_and, and_true, List.length_cons, List.length_nil, Nat.reduceAdd, Nat.reduceLeDiff, Nat.reduceSub, Option.some.injEq, exists_eq_left', aft_s, aft_n, ite_true, ite_false, if_true, if_false, Nat.zero_le, Nat.le_refl, reduceCtorEq, v_toDo hj h30, pk_sub hw.1, nI_l (show fw j - s_lf σ j < 2 ^ 31 by omega), lN_add]
  refine invk 2 12 (by omega) (by omega) (h_stateByJournal C3 O hjn (by omega) (by omega) (fun H4 C4 => ?_))
  simp only [eL_areJobs_111, eL_areJobs_114, eL_areJobs_115, eL_areJobs_117, isA_r, isA_n, isI_i, isF_f, isL_l, is1_i, is1_r, is1_n, is1_f, true_and, and_true, List.length_cons, List.length_nil, Nat.reduceAdd, Nat.reduceLeDiff, Nat.reduceSub, Option.some.injEq, exists_eq_left', aft_s, aft_n, ite_true, ite_false, if_true, if_false, Nat.zero_le, Nat.le_refl, reduceCtorEq, v_state hj h30, hst, eq_self]
  refine invk 2 12 (by omega) (by omega) (h_toDo C4 O (by omega) (by omega) (fun H5 C5 => ?_))
  simp only [eL_areJobs_120, eL_areJobs_123, eL_areJobs_125, eL_areJobs_127, eL_areJobs_130, eL_areJobs_131, eL_areJobs_134, eL_areJobs_135, eL_areJobs_136, eL_areJobs_138, isA_r, isA_n, isI_i, isF_f, isL_l, is1_i, is1_r, is1_n, is1_f, true_and, and_true, List.length_cons, List.length_nil, Nat.reduceAdd, Nat.reduceLeDiff, Nat.reduceSub, Option.some.injEq, exists_eq_left', aft_s, aft_n, ite_true, ite_false, if_true, if_false, Nat.zero_le, Nat.le_refl, reduceCtorEq, v_toDo hj h30, e6, n_114_114, n_114_119, n_114_115, n_114_100, n_114_107, n_114_0, n_114_103, n_119_114, n_119_119, n_119_115, n_119_100, n_119_107, n_119_0, n_119_103, n_115_114, n_115_119, n_115_115, n_115_100, n_115_107, n_115_0, n_115_103, n_100_114, n_100_119, n_100_115, n_100_100, n_100_107, n_100_0, n_100_103, n_107_114, n_107_119, n_107_115, n_107_100, n_107_107, n_107_0, n_107_103]
  refine invk 2 12 (by omega) (by omega) (h_toDo C5 O (by omega) (by omega) (fun H6 C6 => ?_))
  simp only [eL_areJobs_141, eL_areJobs_144, eL_areJobs_145, eL_areJobs_148, eL_areJobs_149, eL_areJobs_152, eL_areJobs_154, eL_areJobs_156, eL_areJobs_159, eL_areJobs_161, eL_areJobs_164, eL_areJobs_167, eL_areJobs_169, eL_areJobs_171, eL_areJobs_174, eL_areJobs_176, eL_areJobs_179, eL_areJobs_180, eL_areJobs_183, eL_areJobs_184, eL_areJobs_185, eL_areJobs_187, eL_areJobs_189, eL_areJobs_192, eL_areJobs_194, eL_areJobs_196, eL_areJobs_197, eL_areJobs_199, eL_areJobs_200, eL_areJobs_201, eL_areJobs_204, eL_areJobs_205, eL_areJobs_208, eL_areJobs_209, eL_areJobs_210, eL_areJobs_212, eL_areJobs_214, eL_areJobs_215, eL_areJobs_217, eL_areJobs_218, eL_areJobs_219, eL_areJobs_221, eL_areJobs_224, isA_r, isA_n, isI_i, isF_f, isL_l, is1_i, is1_r, is1_n, is1_f, true_and, and_true, List.length_cons, List.length_nil, Nat.reduceAdd, Nat.reduceLeDiff, Nat.reduceSub, Option.some.injEq, exists_eq_left', aft_s, aft_n, ite_true, ite_false, if_true, if_false, Nat.zero_le, Nat.le_refl, reduceCtorEq, v_toDo hj h30, hlf, n_114_114, n_114_119, n_114_115, n_114_100, n_114_107, n_114_0, n_114_103, n_119_114, n_119_119, n_119_115, n_119_100, n_119_107, n_119_0, n_119_103, n_115_114, n_115_119, n_115_115, n_115_100, n_115_107, n_115_0, n_115_103, n_100_114, n_100_119, n_100_115, n_100_100, n_100_107, n_100_0, n_100_103, n_107_114, n_107_119, n_107_115, n_107_100, n_107_107, n_107_0, n_107_103, i1_0, i0_1, eq_self, and_11, A.l C6, e2, e3, e5, fa_and, nI_0, fa_or, nI_1]
  exact hK H6 _ _ _ _ C6 (by omega) (by omega)
/-- the walk over the jobs -/
theorem aj1 (O : Ok σ) (A : AJ P H0 aw al σ fw fW fL) (I : Iv σ fw) (hjn : (s_jn σ).length ≤ 16384)
    (hK : ∀ H' c' n' a11 a12, CW E P H0 x σ H' → 240 ≤ c' → 1400 ≤ n' → Ev E (d + 13) mL_areJobs K 227 (ajL x (s_nJ σ) aw al (tkN σ (s_nJ σ)) (cN (wtF σ) (s_nJ σ)) (cN (dnF σ) (s_nJ σ)) (lN (swk (s_lf σ) fw (s_nJ σ))) (s_nJ σ) a11 a12) [] H' c' n') :
    ∀ (m j : Nat) (H : AH) (c n : Nat) (a11 a12 : Value), m + j = s_nJ σ → CW E P H0 x σ H → 12 * m + 240 ≤ c → 72 * m + 1400 ≤ n → Ev E (d + 13) mL_areJobs K 18 (ajL x (s_nJ σ) aw al (tkN σ j) (cN (wtF σ) j) (cN (dnF σ) j) (lN (swk (s_lf σ) fw j)) j a11 a12) [] H c n := by
  intro m
  induction m with
  | zero =>
    intro j H c n a11 a12 hm C hc hn
    have hj : j = s_nJ σ := by omega
    subst hj
    have h30 := O.1.2
    have e1 : (nI (s_nJ σ) < nI (s_nJ σ)) = False := eq_false (nI_nlt (Nat.le_refl _) (by omega))
    rw [hL_areJobs_18]
    simp only [eL_areJobs_20, eL_areJobs_21, isA_r, isA_n, isI_i, isF_f, isL_l, is1_i, is1_r, is1_n, is1_f, true_and, and_true, List.length_cons, List.length_nil, Nat.reduceAdd, Nat.reduceLeDiff, Nat.reduceSub, Option.some.injEq, exists_eq_left', aft_s, aft_n, ite_true, ite_false, if_true, if_false, Nat.zero_le, Nat.le_refl, reduceCtorEq, e1]
    exact hK H c n a11 a12 C (by omega) (by omega)
  | succ m ih =>
    intro j H c n a11 a12 hm C hc hn
    have hj : j < s_nJ σ := by omega
    have hK2 : ∀ H' c' n' a11 a12, CW E P H0 x σ H' → c ≤ c' + 12 → n ≤ n' + 72 → Ev E (d + 13) mL_areJobs K 18 (ajL x (s_nJ σ) aw al (tkN σ (j + 1)) (cN (wtF σ) (j + 1)) (cN (dnF σ) (j + 1)) (lN (swk (s_lf σ) fw (j + 1))) (j + 1) a11 a12) [] H' c' n' := fun H' c' n' a11 a12 C' h1 h2 => ih (j + 1) H' c' n' a11 a12 (by omega) C' (by omega) (by omega)
    have hw := I.1.2.1.2 j hj
    have hd := I.1.1 j hj
    have o4 := O.2.2.2.1 j
    have lf1 : s_lf σ j ≤ 50 := by omega
    have nz : s_st σ j ≠ 100 → (nI (s_lf σ j) = 0) = False := fun h => eq_false (nI_ne0 (by omega) (by omega))
    have nh : s_hl σ j ≠ true → s_hl σ j = false := fun h => by simpa using h
    rcases (O.2.1 j hj).2.2.1 with h | h | h | h | h
    · exact aj1_114_t C O A hjn hj h (O.2.2.2.2.1 j hj h) (nz (by omega)) hw (by omega) (by omega) hK2
    · exact aj1_119_f C O A hjn hj h (nh (fun z => (o4 z).2.2 h)) (nz (by omega)) hw (by omega) (by omega) hK2
    · cases hh : s_hl σ j with
      | true => exact aj1_115_t C O A hjn hj h hh (nz (by omega)) hw (by omega) (by omega) hK2
      | false => exact aj1_115_f C O A hjn hj h hh (nz (by omega)) hw (by omega) (by omega) hK2
    · refine aj1_100_f C O A hjn hj h (nh (fun z => ?_)) (eq_true (by rw [hd.mp h]; rfl)) hw (by omega) (by omega) hK2
      have := (o4 z).2.1
      unfold over at this
      rw [h] at this
      cases this
    · refine aj1_107_f C O A hjn hj h (nh (fun z => ?_)) (nz (by omega)) hw (by omega) (by omega) hK2
      have := (o4 z).2.1
      unfold over at this
      rw [h] at this
      cases this
/-- the walk over the locks -/
theorem aj2 (O : Ok σ) (A : AJ P H0 aw al σ fw fW fL) {wt dn : Nat} {wk : Int64}
    (hK : ∀ H' c' n' a10 a11 a12, CW E P H0 x σ H' → 190 ≤ c' → 1180 ≤ n' → Ev E (d + 13) mL_areJobs K 329 (ajL x (s_nJ σ) aw al (tkN σ (s_nJ σ)) wt dn wk a10 a11 a12) [] H' c' n') :
    ∀ (m l : Nat) (H : AH) (c n : Nat) (a11 a12 : Value), m + l = 6 → CW E P H0 x σ H → 6 * m + 190 ≤ c → 36 * m + 1180 ≤ n → Ev E (d + 13) mL_areJobs K 230 (ajL x (s_nJ σ) aw al (tkN σ (s_nJ σ)) wt dn wk l a11 a12) [] H c n := by
  intro m
  induction m with
  | zero =>
    intro l H c n a11 a12 hm C hc hn
    have hj : l = 6 := by omega
    subst hj
    have e1 : (nI 6 < 6) = False := eq_false (by decide)
    rw [hL_areJobs_230]
    simp only [eL_areJobs_232, eL_areJobs_234, isA_r, isA_n, isI_i, isF_f, isL_l, is1_i, is1_r, is1_n, is1_f, true_and, and_true, List.length_cons, List.length_nil, Nat.reduceAdd, Nat.reduceLeDiff, Nat.reduceSub, Option.some.injEq, exists_eq_left', aft_s, aft_n, ite_true, ite_false, if_true, if_false, Nat.zero_le, Nat.le_refl, reduceCtorEq, e1]
    exact hK H c n 6 a11 a12 C (by omega) (by omega)
  | succ m ih =>
    intro l H c n a11 a12 hm C hc hn
    have hl : l < 6 := by omega
    have h30 := O.1.2
    have e1 : (nI l < 6) = True := eq_true (nI_lt (b := 6) (by omega) (by omega))
    rw [hL_areJobs_230]
    simp only [eL_areJobs_232, eL_areJobs_234, eL_areJobs_237, eL_areJobs_238, eL_areJobs_240, isA_r, isA_n, isI_i, isF_f, isL_l, is1_i, is1_r, is1_n, is1_f, true_and, and_true, List.length_cons, List.length_nil, Nat.reduceAdd, Nat.reduceLeDiff, Nat.reduceSub, Option.some.injEq, exists_eq_left', aft_s, aft_n, ite_true, ite_false, if_true, if_false, Nat.zero_le, Nat.le_refl, reduceCtorEq, e1]
    refine invk 2 12 (by omega) (by omega) (h_holder C O (by omega) (by omega) (fun H1 C1 => ?_))
    simp only [eL_areJobs_243, eL_areJobs_245, eL_areJobs_247, eL_areJobs_249, eL_areJobs_250, eL_areJobs_252, isA_r, isA_n, isI_i, isF_f, isL_l, is1_i, is1_r, is1_n, is1_f, true_and, and_true, List.length_cons, List.length_nil, Nat.reduceAdd, Nat.reduceLeDiff, Nat.reduceSub, Option.some.injEq, exists_eq_left', aft_s, aft_n, ite_true, ite_false, if_true, if_false, Nat.zero_le, Nat.le_refl, reduceCtorEq, v_holder hl]
    refine invk 2 12 (by omega) (by omega) (h_holderByJobs C1 O (by omega) (by omega) (fun H2 C2 => ?_))
    cases hd : hdF σ l with
    | none =>
      have e2 : (o2 none < 0) = True := eq_true (by decide)
      have e3 := hd_n hd
      simp only [eL_areJobs_255, eL_areJobs_258, eL_areJobs_260, eL_areJobs_263, eL_areJobs_264, eL_areJobs_267, eL_areJobs_268, eL_areJobs_270, eL_areJobs_272, eL_areJobs_273, eL_areJobs_274, eL_areJobs_275, eL_areJobs_276, eL_areJobs_279, eL_areJobs_280, eL_areJobs_283, eL_areJobs_284, eL_areJobs_287, eL_areJobs_289, eL_areJobs_292, eL_areJobs_293, eL_areJobs_295, eL_areJobs_296, eL_areJobs_298, eL_areJobs_299, eL_areJobs_300, eL_areJobs_301, eL_areJobs_302, eL_areJobs_305, eL_areJobs_306, eL_areJobs_308, eL_areJobs_311, eL_areJobs_312, eL_areJobs_315, eL_areJobs_316, eL_areJobs_319, eL_areJobs_320, eL_areJobs_321, eL_areJobs_323, eL_areJobs_326, isA_r, isA_n, isI_i, isF_f, isL_l, is1_i, is1_r, is1_n, is1_f, true_and, and_true, List.length_cons, List.length_nil, Nat.reduceAdd, Nat.reduceLeDiff, Nat.reduceSub, Option.some.injEq, exists_eq_left', aft_s, aft_n, ite_true, ite_false, if_true, if_false, Nat.zero_le, Nat.le_refl, reduceCtorEq, v_holder hl, hd, e2, eq_self, sh_b2 (a := tkN σ (s_nJ σ)) (j := l) (by omega), e3, bf_1, and_11, nI_1]
      exact ih (l + 1) H2 _ _ _ _ (by omega) C2 (by omega) (by omega)
    | some h =>
      obtain ⟨g1, g2, g3⟩ := hd_s hd
      have e2 : (nI h < 0) = False := eq_false (nI_pos (by omega))
      have e3 := hd_t hd
      have e4 : inB (nI h) 30 = true := inB_nI (by omega) (by omega)
      have e5 : (nI h).toNatClampNeg = h := nI_clamp (by omega)
      have e6 := (A.2.2 h g1).2
      have e7 : o2 (some h) = nI h := rfl
      simp only [eL_areJobs_255, eL_areJobs_258, eL_areJobs_260, eL_areJobs_263, eL_areJobs_264, eL_areJobs_267, eL_areJobs_268, eL_areJobs_270, eL_areJobs_272, eL_areJobs_273, eL_areJobs_274, eL_areJobs_275, eL_areJobs_276, eL_areJobs_279, eL_areJobs_280, eL_areJobs_283, eL_areJobs_284, eL_areJobs_287, eL_areJobs_289, eL_areJobs_292, eL_areJobs_293, eL_areJobs_295, eL_areJobs_296, eL_areJobs_298, eL_areJobs_299, eL_areJobs_300, eL_areJobs_301, eL_areJobs_302, eL_areJobs_305, eL_areJobs_306, eL_areJobs_308, isA_r, isA_n, isI_i, isF_f, isL_l, is1_i, is1_r, is1_n, is1_f, true_and, and_true, List.length_cons, List.length_nil, Nat.reduceAdd, Nat.reduceLeDiff, Nat.reduceSub, Option.some.injEq, exists_eq_left', aft_s, aft_n, ite_true, ite_false, if_true, if_false, Nat.zero_le, Nat.le_refl, reduceCtorEq, v_holder hl, hd, e7, e2, eq_self, sh_b2 (a := tkN σ (s_nJ σ)) (j := l) (by omega), e3, bt_1, A.l C2, e4, e5, e6, sh_b2 (a := s_nd σ h) (j := l) (by omega), g3]
      refine invk 2 12 (by omega) (by omega) (h_holds C2 O (by omega) (by omega) (fun H3 C3 => ?_))
      simp only [eL_areJobs_311, eL_areJobs_312, eL_areJobs_315, eL_areJobs_316, eL_areJobs_319, eL_areJobs_320, eL_areJobs_321, eL_areJobs_323, eL_areJobs_326, isA_r, isA_n, isI_i, isF_f, isL_l, is1_i, is1_r, is1_n, is1_f, true_and, and_true, List.length_cons, List.length_nil, Nat.reduceAdd, Nat.reduceLeDiff, Nat.reduceSub, Option.some.injEq, exists_eq_left', aft_s, aft_n, ite_true, ite_false, if_true, if_false, Nat.zero_le, Nat.le_refl, reduceCtorEq, v_holds g1 h30, g2, bt_1, and_11, nI_1]
      exact ih (l + 1) H3 _ _ _ _ (by omega) C3 (by omega) (by omega)
/-- the walk over those that wait -/
theorem aj3 (O : Ok σ) (A : AJ P H0 aw al σ fw fW fL) (B : Bl σ) {dn : Nat} {wk : Int64}
    (hK : ∀ H' c' n' a10 a11 a12, CW E P H0 x σ H' → 10 ≤ c' → 100 ≤ n' → Ev E (d + 13) mL_areJobs K 398 (ajL x (s_nJ σ) aw al (tkN σ (s_nJ σ)) (s_od σ).length dn wk a10 a11 a12) [] H' c' n') :
    ∀ (m r : Nat) (H : AH) (c n : Nat) (a11 a12 : Value), m + r = (s_od σ).length → CW E P H0 x σ H → 6 * m + 10 ≤ c → 36 * m + 100 ≤ n → Ev E (d + 13) mL_areJobs K 332 (ajL x (s_nJ σ) aw al (tkN σ (s_nJ σ)) (s_od σ).length dn wk r a11 a12) [] H c n := by
  have ho := od_le O
  have h30 := O.1.2
  intro m
  induction m with
  | zero =>
    intro r H c n a11 a12 hm C hc hn
    have hj : r = (s_od σ).length := by omega
    have e1 : (nI r < nI (s_od σ).length) = False := eq_false (nI_nlt (by omega) (by omega))
    rw [hL_areJobs_332]
    simp only [eL_areJobs_334, eL_areJobs_336, isA_r, isA_n, isI_i, isF_f, isL_l, is1_i, is1_r, is1_n, is1_f, true_and, and_true, List.length_cons, List.length_nil, Nat.reduceAdd, Nat.reduceLeDiff, Nat.reduceSub, Option.some.injEq, exists_eq_left', aft_s, aft_n, ite_true, ite_false, if_true, if_false, Nat.zero_le, Nat.le_refl, reduceCtorEq, e1]
    exact hK H c n r a11 a12 C (by omega) (by omega)
  | succ m ih =>
    intro r H c n a11 a12 hm C hc hn
    have hr : r < (s_od σ).length := by omega
    have e1 : (nI r < nI (s_od σ).length) = True := eq_true (nI_lt hr (by omega))
    have hmem : (s_od σ).getD r 0 ∈ s_od σ := by
      rw [List.getD_eq_getElem?_getD, List.getElem?_eq_getElem hr]
      exact List.getElem_mem hr
    rw [hL_areJobs_332]
    simp only [eL_areJobs_334, eL_areJobs_336, eL_areJobs_339, eL_areJobs_340, eL_areJobs_342, isA_r, isA_n, isI_i, isF_f, isL_l, is1_i, is1_r, is1_n, is1_f, true_and, and_true, List.length_cons, List.length_nil, Nat.reduceAdd, Nat.reduceLeDiff, Nat.reduceSub, Option.some.injEq, exists_eq_left', aft_s, aft_n, ite_true, ite_false, if_true, if_false, Nat.zero_le, Nat.le_refl, reduceCtorEq, e1]
    refine invk 2 12 (by omega) (by omega) (h_waitingAt C O (by omega) (by omega) (fun H1 C1 => ?_))
    rw [v_wAt hr ho]
    generalize (s_od σ).getD r 0 = j at hmem
    obtain ⟨hj, hst⟩ := (O.2.2.1.2 j).mp hmem
    obtain ⟨b1, b2'⟩ := bl_od B hmem
    have hcn := cN_le (p := blk σ j) (n := s_nJ σ)
    have n63 := (O.2.1 j hj).2.1
    have e2 : (nI j < 0) = False := eq_false (nI_pos (by omega))
    have e4 : inB (nI j) 30 = true := inB_nI (by omega) (by omega)
    have e5 : (nI j).toNatClampNeg = j := nI_clamp (by omega)
    have e6 := (A.2.2 j hj).2
    have l63 : s_nd σ j &&& tkN σ (s_nJ σ) ≤ 63 := Nat.le_trans Nat.and_le_left n63
    have e7 : (nI (s_nd σ j &&& tkN σ (s_nJ σ)) = 0) = False := eq_false (nI_ne0 (by omega) (by omega))
    have e8 : (0 < nI (cN (blk σ j) (s_nJ σ))) = True := eq_true (nI_lt (a := 0) (by omega) (by omega))
    simp only [eL_areJobs_345, eL_areJobs_347, eL_areJobs_349, eL_areJobs_351, eL_areJobs_354, eL_areJobs_355, eL_areJobs_357, isA_r, isA_n, isI_i, isF_f, isL_l, is1_i, is1_r, is1_n, is1_f, true_and, and_true, List.length_cons, List.length_nil, Nat.reduceAdd, Nat.reduceLeDiff, Nat.reduceSub, Option.some.injEq, exists_eq_left', aft_s, aft_n, ite_true, ite_false, if_true, if_false, Nat.zero_le, Nat.le_refl, reduceCtorEq, e2]
    refine invk 2 12 (by omega) (by omega) (h_state C1 O (by omega) (by omega) (fun H2 C2 => ?_))
    simp only [eL_areJobs_360, eL_areJobs_362, eL_areJobs_365, eL_areJobs_366, eL_areJobs_368, eL_areJobs_369, eL_areJobs_371, eL_areJobs_372, eL_areJobs_375, eL_areJobs_376, eL_areJobs_378, isA_r, isA_n, isI_i, isF_f, isL_l, is1_i, is1_r, is1_n, is1_f, true_and, and_true, List.length_cons, List.length_nil, Nat.reduceAdd, Nat.reduceLeDiff, Nat.reduceSub, Option.some.injEq, exists_eq_left', aft_s, aft_n, ite_true, ite_false, if_true, if_false, Nat.zero_le, Nat.le_refl, reduceCtorEq, v_state hj h30, hst, n_114_114, n_114_119, n_114_115, n_114_100, n_114_107, n_114_0, n_114_103, n_119_114, n_119_119, n_119_115, n_119_100, n_119_107, n_119_0, n_119_103, n_115_114, n_115_119, n_115_115, n_115_100, n_115_107, n_115_0, n_115_103, n_100_114, n_100_119, n_100_115, n_100_100, n_100_107, n_100_0, n_100_103, n_107_114, n_107_119, n_107_115, n_107_100, n_107_107, n_107_0, n_107_103, A.l C2, e4, e5, e6, fa_and, e7]
    refine invk 2 12 (by omega) (by omega) (h_blockers C2 O (by omega) (by omega) (fun H3 C3 => ?_))
    simp only [eL_areJobs_381, eL_areJobs_384, eL_areJobs_385, eL_areJobs_388, eL_areJobs_389, eL_areJobs_390, eL_areJobs_392, eL_areJobs_395, isA_r, isA_n, isI_i, isF_f, isL_l, is1_i, is1_r, is1_n, is1_f, true_and, and_true, List.length_cons, List.length_nil, Nat.reduceAdd, Nat.reduceLeDiff, Nat.reduceSub, Option.some.injEq, exists_eq_left', aft_s, aft_n, ite_true, ite_false, if_true, if_false, Nat.zero_le, Nat.le_refl, reduceCtorEq, v_blk hj h30 hst, e8, and_11, nI_1]
    exact ih (r + 1) H3 _ _ _ _ (by omega) C3 (by omega) (by omega)
theorem k_areJobs (C : CW E P H0 x σ H) (O : Ok σ) (A : AJ P H0 aw al σ fw fW fL) (I : Iv σ fw) (hjn : (s_jn σ).length ≤ 16384) (hc : 700 ≤ c) (hn : 4200 ≤ n) (hK : ∀ H', CW E P H0 x σ H' → K (.inl (some (.int 1))) H') : CRd TTv E (d + 14) mL_areJobs [.ref x, .int (nI (s_nJ σ)), .ref aw, .ref al] H c n K := by
  refine crd rfl ?_
  show Ev E (d + 13) mL_areJobs K 0 [.ref x, .int (nI (s_nJ σ)), .ref aw, .ref al, .retAddr 0, .retAddr 0, .retAddr 0, .retAddr 0, .retAddr 0, .retAddr 0, .retAddr 0, .retAddr 0, .retAddr 0] [] H c n
  have h30 := O.1.2
  have ho := od_le O
  simp only [eL_areJobs_0, eL_areJobs_1, eL_areJobs_3, eL_areJobs_4, eL_areJobs_6, eL_areJobs_7, eL_areJobs_9, eL_areJobs_10, eL_areJobs_12, eL_areJobs_13, eL_areJobs_15, eL_areJobs_16, isA_r, isA_n, isI_i, isF_f, isL_l, is1_i, is1_r, is1_n, is1_f, true_and, and_true, List.length_cons, List.length_nil, Nat.reduceAdd, Nat.reduceLeDiff, Nat.reduceSub, Option.some.injEq, exists_eq_left', aft_s, aft_n, ite_true, ite_false, if_true, if_false, Nat.zero_le, Nat.le_refl, reduceCtorEq]
  refine aj1 O A I hjn (fun H1 c1 n1 a11 a12 C1 hc1 hn1 => ?_) (s_nJ σ) 0 H c n (.retAddr 0) (.retAddr 0) rfl C (by omega) (by omega)
  simp only [eL_areJobs_227, eL_areJobs_228, isA_r, isA_n, isI_i, isF_f, isL_l, is1_i, is1_r, is1_n, is1_f, true_and, and_true, List.length_cons, List.length_nil, Nat.reduceAdd, Nat.reduceLeDiff, Nat.reduceSub, Option.some.injEq, exists_eq_left', aft_s, aft_n, ite_true, ite_false, if_true, if_false, Nat.zero_le, Nat.le_refl, reduceCtorEq]
  refine aj2 O A (fun H2 c2 n2 a10 a11 a12 C2 hc2 hn2 => ?_) 6 0 H1 c1 n1 a11 a12 rfl C1 (by omega) (by omega)
  simp only [eL_areJobs_329, eL_areJobs_330, isA_r, isA_n, isI_i, isF_f, isL_l, is1_i, is1_r, is1_n, is1_f, true_and, and_true, List.length_cons, List.length_nil, Nat.reduceAdd, Nat.reduceLeDiff, Nat.reduceSub, Option.some.injEq, exists_eq_left', aft_s, aft_n, ite_true, ite_false, if_true, if_false, Nat.zero_le, Nat.le_refl, reduceCtorEq]
  rw [od_cnt O]
  refine aj3 O A I.2 (fun H3 c3 n3 a10 a11 a12 C3 hc3 hn3 => ?_) (s_od σ).length 0 H2 c2 n2 a11 a12 rfl C2 (by omega) (by omega)
  simp only [eL_areJobs_398, eL_areJobs_400, eL_areJobs_403, eL_areJobs_405, eL_areJobs_406, isA_r, isA_n, isI_i, isF_f, isL_l, is1_i, is1_r, is1_n, is1_f, true_and, and_true, List.length_cons, List.length_nil, Nat.reduceAdd, Nat.reduceLeDiff, Nat.reduceSub, Option.some.injEq, exists_eq_left', aft_s, aft_n, ite_true, ite_false, if_true, if_false, Nat.zero_le, Nat.le_refl, reduceCtorEq, i1_0]
  refine ⟨C3.xo, inv0 (p_waiting C3 ?_)⟩
  simp only [eL_areJobs_409, eL_areJobs_412, eL_areJobs_413, eL_areJobs_415, isA_r, isA_n, isI_i, isF_f, isL_l, is1_i, is1_r, is1_n, is1_f, true_and, and_true, List.length_cons, List.length_nil, Nat.reduceAdd, Nat.reduceLeDiff, Nat.reduceSub, Option.some.injEq, exists_eq_left', aft_s, aft_n, ite_true, ite_false, if_true, if_false, Nat.zero_le, Nat.le_refl, reduceCtorEq, eq_self]
  refine invk 2 12 (by omega) (by omega) (h_waitingAt C3 O (by omega) (by omega) (fun H4 C4 => ?_))
  simp only [eL_areJobs_418, eL_areJobs_420, eL_areJobs_423, eL_areJobs_425, eL_areJobs_426, isA_r, isA_n, isI_i, isF_f, isL_l, is1_i, is1_r, is1_n, is1_f, true_and, and_true, List.length_cons, List.length_nil, Nat.reduceAdd, Nat.reduceLeDiff, Nat.reduceSub, Option.some.injEq, exists_eq_left', aft_s, aft_n, ite_true, ite_false, if_true, if_false, Nat.zero_le, Nat.le_refl, reduceCtorEq, v_wEnd ho, eq_self]
  refine ⟨C4.xo, inv0 (p_worked C4 ?_)⟩
  have ewk : lN (swk (s_lf σ) fw (s_nJ σ)) = s_wk σ := I.1.2.1.1.symm
  simp only [eL_areJobs_429, eL_areJobs_430, eL_areJobs_433, eL_areJobs_434, isA_r, isA_n, isI_i, isF_f, isL_l, is1_i, is1_r, is1_n, is1_f, true_and, and_true, List.length_cons, List.length_nil, Nat.reduceAdd, Nat.reduceLeDiff, Nat.reduceSub, Option.some.injEq, exists_eq_left', aft_s, aft_n, ite_true, ite_false, if_true, if_false, Nat.zero_le, Nat.le_refl, reduceCtorEq, ewk, lg_self, eq_self]
  refine invk 2 12 (by omega) (by omega) (h_doneShare C4 (by omega) (by omega) ?_)
  by_cases h0 : s_nJ σ = 0
  · have e0 : (nI (s_nJ σ) = 0) = True := eq_true (by rw [h0]; rfl)
    rw [if_pos h0]
    simp only [eL_areJobs_437, eL_areJobs_438, eL_areJobs_441, eL_areJobs_443, eL_areJobs_446, eL_areJobs_448, eL_areJobs_449, eL_areJobs_450, eL_areJobs_451, eL_areJobs_452, eL_areJobs_453, eL_areJobs_456, eL_areJobs_457, eL_areJobs_460, eL_areJobs_461, isA_r, isA_n, isI_i, isF_f, isL_l, is1_i, is1_r, is1_n, is1_f, true_and, and_true, List.length_cons, List.length_nil, Nat.reduceAdd, Nat.reduceLeDiff, Nat.reduceSub, Option.some.injEq, exists_eq_left', aft_s, aft_n, ite_true, ite_false, if_true, if_false, Nat.zero_le, Nat.le_refl, reduceCtorEq, e0, fcmp_0, eq_self, ok01_1]
    exact hK H4 C4
  · have e0 : (nI (s_nJ σ) = 0) = False := eq_false (nI_ne0 (by omega) (by omega))
    have hcn := cN_le (p := dnF σ) (n := s_nJ σ)
    have e2 := fdiv_ok (a := cN (dnF σ) (s_nJ σ)) (b := s_nJ σ) (by omega) h30 h0
    have e3 := (fcmp_all ⟨cN (dnF σ) (s_nJ σ), by omega⟩ ⟨s_nJ σ, by omega⟩).resolve_left h0
    rw [if_neg h0]
    unfold shF
    simp only [eL_areJobs_437, eL_areJobs_438, eL_areJobs_441, eL_areJobs_443, eL_areJobs_446, eL_areJobs_448, eL_areJobs_449, eL_areJobs_450, eL_areJobs_451, eL_areJobs_452, eL_areJobs_453, eL_areJobs_456, eL_areJobs_457, eL_areJobs_460, eL_areJobs_461, isA_r, isA_n, isI_i, isF_f, isL_l, is1_i, is1_r, is1_n, is1_f, true_and, and_true, List.length_cons, List.length_nil, Nat.reduceAdd, Nat.reduceLeDiff, Nat.reduceSub, Option.some.injEq, exists_eq_left', aft_s, aft_n, ite_true, ite_false, if_true, if_false, Nat.zero_le, Nat.le_refl, reduceCtorEq, e0, e2, e3, eq_self, ok01_1]
    exact hK H4 C4
end AJS
