/-! isJournal answers true -/
theorem lastS_ok : ∀ {l : List (Nat × Nat)} {a j : Nat}, (a = 0 ∨ stOK a) → (∀ e ∈ l, stOK e.2) → (l.foldl (fun a e => if e.1 = j then e.2 else a) a = 0 ∨ stOK (l.foldl (fun a e => if e.1 = j then e.2 else a) a))
  | [], _, _, h, _ => h
  | e :: r, a, j, h, hr => by
    show (r.foldl _ (if e.1 = j then e.2 else a) = 0 ∨ stOK (r.foldl _ (if e.1 = j then e.2 else a)))
    refine lastS_ok ?_ (fun e' he' => hr e' (List.mem_cons_of_mem _ he'))
    split
    · exact Or.inr (hr e List.mem_cons_self)
    · exact h
theorem take_s {l : List (Nat × Nat)} {k : Nat} (hk : k < l.length) : l.take (k + 1) = l.take k ++ [l.getD k (0, 0)] := by
  rw [List.take_add_one, List.getElem?_eq_getElem hk, List.getD_eq_getElem?_getD, List.getElem?_eq_getElem hk]
  rfl
/-- which pairs may stand -/
theorem nx_cases {o n : Nat} (h : nxT o n = true) (hn : stOK n) (ho : o = 0 ∨ stOK o) : (n = 119 ∧ o = 0) ∨ (n = 119 ∧ o = 115) ∨ (n = 114 ∧ o = 119) ∨ (n = 114 ∧ o = 115) ∨ (n = 115 ∧ o = 114) ∨ (n = 115 ∧ o = 119) ∨ (n = 100 ∧ o = 114) ∨ (n = 107 ∧ o = 114) ∨ (n = 107 ∧ o = 119) ∨ (n = 107 ∧ o = 115) := by
  rcases hn with rfl | rfl | rfl | rfl | rfl <;> rcases ho with rfl | rfl | rfl | rfl | rfl | rfl <;> first | (exfalso; revert h; decide) | simp
section IJN
variable {E : EN} {P : Nat → Prop} {x : Nat} {σ : Sg} {T : Nat} {d : Nat} {K : Out → AH → Prop}
abbrev ijL (x J q : Nat) (k : Nat) (a5 a6 a7 : Value) : List Value := [.ref x, .int (nI J), .ref q, .int 1, .int (nI k), a5, a6, a7]
abbrev acC (f : Nat → Int32) : AC := .inl (5, 30, .inl f)
theorem ok16_n {k : Nat} (h : k < 65536) : ok16 (.int (nI k)) = true := by
  unfold ok16
  dsimp only
  rw [nI_toInt (by omega)]
  simp
  omega
theorem ij_119_0 {H0 H : AH} {q e k : Nat} {f : Nat → Int32} {c n : Nat} {a6 a7 : Value} (e1 : rwI H q 5 = some (30, f)) (e2 : rdI E H q 5 = some (30, f)) (he : e < 30) (hf : f e = nI 0)
    (hK : Ev E (d + 13) mL_isJournal K 10 (ijL x (s_nJ σ) q (k + 1) (.int (nI e)) (.int (nI 119)) (.int (nI 0))) [] (hset H q (acC (upd f e (nI 119)))) c n) :
    Ev E (d + 13) mL_isJournal K 33 [.ref x, .int (nI (s_nJ σ)), .ref q, .int 1, .int (nI k), .int (nI e), a6, a7] [.int (nI 119)] H c n := by
  have e3 : inB (nI e) 30 = true := inB_nI (by omega) (by omega)
  have e4 : (nI e).toNatClampNeg = e := nI_clamp (by omega)
  have e5 : ok16 (.int (nI 119)) = true := ok16_n (by omega)
  simp only [eL_isJournal_33, eL_isJournal_34, eL_isJournal_36, eL_isJournal_37, eL_isJournal_39, eL_isJournal_40, eL_isJournal_42, eL_isJournal_43, eL_isJournal_45, eL_isJournal_47, eL_isJournal_50, eL_isJournal_52, eL_isJournal_55, eL_isJournal_57, eL_isJournal_59, eL_isJournal_62, eL_isJournal_63, eL_isJournal_66, eL_isJournal_67, eL_isJournal_70, eL_isJournal_72, eL_isJournal_74, eL_isJournal_77, eL_isJournal_79, eL_isJournal_81, eL_isJournal_84, eL_isJournal_86, eL_isJournal_88, eL_isJournal_91, eL_isJournal_92, eL_isJournal_95, eL_isJournal_96, eL_isJournal_99, eL_isJournal_101, eL_isJournal_103, eL_isJournal_106, eL_isJournal_108, eL_isJournal_110, eL_isJournal_113, eL_isJournal_115, eL_isJournal_117, eL_isJournal_120, eL_isJournal_121, eL_isJournal_124, eL_isJournal_125, eL_isJournal_128, eL_isJournal_130, eL_isJournal_132, eL_isJournal_135, eL_isJournal_137, eL_isJournal_139, eL_isJournal_142, eL_isJournal_143, eL_isJournal_146, eL_isJournal_147, eL_isJournal_150, eL_isJournal_152, eL_isJournal_154, eL_isJournal_157, eL_isJournal_159, eL_isJournal_162, eL_isJournal_164, eL_isJournal_166, eL_isJournal_169, eL_isJournal_171, eL_isJournal_173, eL_isJournal_176, eL_isJournal_177, eL_isJournal_180, eL_isJournal_181, eL_isJournal_182, eL_isJournal_183, eL_isJournal_184, eL_isJournal_186, eL_isJournal_188, eL_isJournal_189, eL_isJournal_192, isA_r, isA_n, isI_i, isF_f, isL_l, is1_i, is1_r, is1_n, is1_f, true_and, and_true, List.length_cons, List.length_nil, Nat.reduceAdd, Nat.reduceLeDiff, Nat.reduceSub, Option.some.injEq, exists_eq_left', aft_s, aft_n, ite_true, ite_false, if_true, if_false, Nat.zero_le, Nat.le_refl, reduceCtorEq, ch_119, e1, e2, e3, e4, e5, hf, n_114_114, n_114_119, n_114_115, n_114_100, n_114_107, n_114_0, n_114_103, n_119_114, n_119_119, n_119_115, n_119_100, n_119_107, n_119_0, n_119_103, n_115_114, n_115_119, n_115_115, n_115_100, n_115_107, n_115_0, n_115_103, n_100_114, n_100_119, n_100_115, n_100_100, n_100_107, n_100_0, n_100_103, n_107_114, n_107_119, n_107_115, n_107_100, n_107_107, n_107_0, n_107_103, nI_0, eq_self, and_11, nI_1, exists_eq_left']
  exact hK
theorem ij_119_115 {H0 H : AH} {q e k : Nat} {f : Nat → Int32} {c n : Nat} {a6 a7 : Value} (e1 : rwI H q 5 = some (30, f)) (e2 : rdI E H q 5 = some (30, f)) (he : e < 30) (hf : f e = nI 115)
    (hK : Ev E (d + 13) mL_isJournal K 10 (ijL x (s_nJ σ) q (k + 1) (.int (nI e)) (.int (nI 119)) (.int (nI 115))) [] (hset H q (acC (upd f e (nI 119)))) c n) :
    Ev E (d + 13) mL_isJournal K 33 [.ref x, .int (nI (s_nJ σ)), .ref q, .int 1, .int (nI k), .int (nI e), a6, a7] [.int (nI 119)] H c n := by
  have e3 : inB (nI e) 30 = true := inB_nI (by omega) (by omega)
  have e4 : (nI e).toNatClampNeg = e := nI_clamp (by omega)
  have e5 : ok16 (.int (nI 119)) = true := ok16_n (by omega)
  simp only [eL_isJournal_33, eL_isJournal_34, eL_isJournal_36, eL_isJournal_37, eL_isJournal_39, eL_isJournal_40, eL_isJournal_42, eL_isJournal_43, eL_isJournal_45, eL_isJournal_47, eL_isJournal_50, eL_isJournal_52, eL_isJournal_55, eL_isJournal_57, eL_isJournal_59, eL_isJournal_62, eL_isJournal_63, eL_isJournal_66, eL_isJournal_67, eL_isJournal_70, eL_isJournal_72, eL_isJournal_74, eL_isJournal_77, eL_isJournal_79, eL_isJournal_81, eL_isJournal_84, eL_isJournal_86, eL_isJournal_88, eL_isJournal_91, eL_isJournal_92, eL_isJournal_95, eL_isJournal_96, eL_isJournal_99, eL_isJournal_101, eL_isJournal_103, eL_isJournal_106, eL_isJournal_108, eL_isJournal_110, eL_isJournal_113, eL_isJournal_115, eL_isJournal_117, eL_isJournal_120, eL_isJournal_121, eL_isJournal_124, eL_isJournal_125, eL_isJournal_128, eL_isJournal_130, eL_isJournal_132, eL_isJournal_135, eL_isJournal_137, eL_isJournal_139, eL_isJournal_142, eL_isJournal_143, eL_isJournal_146, eL_isJournal_147, eL_isJournal_150, eL_isJournal_152, eL_isJournal_154, eL_isJournal_157, eL_isJournal_159, eL_isJournal_162, eL_isJournal_164, eL_isJournal_166, eL_isJournal_169, eL_isJournal_171, eL_isJournal_173, eL_isJournal_176, eL_isJournal_177, eL_isJournal_180, eL_isJournal_181, eL_isJournal_182, eL_isJournal_183, eL_isJournal_184, eL_isJournal_186, eL_isJournal_188, eL_isJournal_189, eL_isJournal_192, isA_r, isA_n, isI_i, isF_f, isL_l, is1_i, is1_r, is1_n, is1_f, true_and, and_true, List.length_cons, List.length_nil, Nat.reduceAdd, Nat.reduceLeDiff, Nat.reduceSub, Option.some.injEq, exists_eq_left', aft_s, aft_n, ite_true, ite_false, if_true, if_false, Nat.zero_le, Nat.le_refl, reduceCtorEq, ch_119, e1, e2, e3, e4, e5, hf, n_114_114, n_114_119, n_114_115, n_114_100, n_114_107, n_114_0, n_114_103, n_119_114, n_119_119, n_119_115, n_119_100, n_119_107, n_119_0, n_119_103, n_115_114, n_115_119, n_115_115, n_115_100, n_115_107, n_115_0, n_115_103, n_100_114, n_100_119, n_100_115, n_100_100, n_100_107, n_100_0, n_100_103, n_107_114, n_107_119, n_107_115, n_107_100, n_107_107, n_107_0, n_107_103, and_11, nI_1, exists_eq_left']
  exact hK
theorem ij_114_119 {H0 H : AH} {q e k : Nat} {f : Nat → Int32} {c n : Nat} {a6 a7 : Value} (e1 : rwI H q 5 = some (30, f)) (e2 : rdI E H q 5 = some (30, f)) (he : e < 30) (hf : f e = nI 119)
    (hK : Ev E (d + 13) mL_isJournal K 10 (ijL x (s_nJ σ) q (k + 1) (.int (nI e)) (.int (nI 114)) (.int (nI 119))) [] (hset H q (acC (upd f e (nI 114)))) c n) :
    Ev E (d + 13) mL_isJournal K 33 [.ref x, .int (nI (s_nJ σ)), .ref q, .int 1, .int (nI k), .int (nI e), a6, a7] [.int (nI 114)] H c n := by
  have e3 : inB (nI e) 30 = true := inB_nI (by omega) (by omega)
  have e4 : (nI e).toNatClampNeg = e := nI_clamp (by omega)
  have e5 : ok16 (.int (nI 114)) = true := ok16_n (by omega)
  simp only [eL_isJournal_33, eL_isJournal_34, eL_isJournal_36, eL_isJournal_37, eL_isJournal_39, eL_isJournal_40, eL_isJournal_42, eL_isJournal_43, eL_isJournal_45, eL_isJournal_47, eL_isJournal_50, eL_isJournal_52, eL_isJournal_55, eL_isJournal_57, eL_isJournal_59, eL_isJournal_62, eL_isJournal_63, eL_isJournal_66, eL_isJournal_67, eL_isJournal_70, eL_isJournal_72, eL_isJournal_74, eL_isJournal_77, eL_isJournal_79, eL_isJournal_81, eL_isJournal_84, eL_isJournal_86, eL_isJournal_88, eL_isJournal_91, eL_isJournal_92, eL_isJournal_95, eL_isJournal_96, eL_isJournal_99, eL_isJournal_101, eL_isJournal_103, eL_isJournal_106, eL_isJournal_108, eL_isJournal_110, eL_isJournal_113, eL_isJournal_115, eL_isJournal_117, eL_isJournal_120, eL_isJournal_121, eL_isJournal_124, eL_isJournal_125, eL_isJournal_128, eL_isJournal_130, eL_isJournal_132, eL_isJournal_135, eL_isJournal_137, eL_isJournal_139, eL_isJournal_142, eL_isJournal_143, eL_isJournal_146, eL_isJournal_147, eL_isJournal_150, eL_isJournal_152, eL_isJournal_154, eL_isJournal_157, eL_isJournal_159, eL_isJournal_162, eL_isJournal_164, eL_isJournal_166, eL_isJournal_169, eL_isJournal_171, eL_isJournal_173, eL_isJournal_176, eL_isJournal_177, eL_isJournal_180, eL_isJournal_181, eL_isJournal_182, eL_isJournal_183, eL_isJournal_184, eL_isJournal_186, eL_isJournal_188, eL_isJournal_189, eL_isJournal_192, isA_r, isA_n, isI_i, isF_f, isL_l, is1_i, is1_r, is1_n, is1_f, true_and, and_true, List.length_cons, List.length_nil, Nat.reduceAdd, Nat.reduceLeDiff, Nat.reduceSub, Option.some.injEq, exists_eq_left', aft_s, aft_n, ite_true, ite_false, if_true, if_false, Nat.zero_le, Nat.le_refl, reduceCtorEq, ch_114, e1, e2, e3, e4, e5, hf, n_114_114, n_114_119, n_114_115, n_114_100, n_114_107, n_114_0, n_114_103, n_119_114, n_119_119, n_119_115, n_119_100, n_119_107, n_119_0, n_119_103, n_115_114, n_115_119, n_115_115, n_115_100, n_115_107, n_115_0, n_115_103, n_100_114, n_100_119, n_100_115, n_100_100, n_100_107, n_100_0, n_100_103, n_107_114, n_107_119, n_107_115, n_107_100, n_107_107, n_107_0, n_107_103, and_11, nI_1, exists_eq_left']
  exact hK
theorem ij_114_115 {H0 H : AH} {q e k : Nat} {f : Nat → Int32} {c n : Nat} {a6 a7 : Value} (e1 : rwI H q 5 = some (30, f)) (e2 : rdI E H q 5 = some (30, f)) (he : e < 30) (hf : f e = nI 115)
    (hK : Ev E (d + 13) mL_isJournal K 10 (ijL x (s_nJ σ) q (k + 1) (.int (nI e)) (.int (nI 114)) (.int (nI 115))) [] (hset H q (acC (upd f e (nI 114)))) c n) :
    Ev E (d + 13) mL_isJournal K 33 [.ref x, .int (nI (s_nJ σ)), .ref q, .int 1, .int (nI k), .int (nI e), a6, a7] [.int (nI 114)] H c n := by
  have e3 : inB (nI e) 30 = true := inB_nI (by omega) (by omega)
  have e4 : (nI e).toNatClampNeg = e := nI_clamp (by omega)
  have e5 : ok16 (.int (nI 114)) = true := ok16_n (by omega)
  simp only [eL_isJournal_33, eL_isJournal_34, eL_isJournal_36, eL_isJournal_37, eL_isJournal_39, eL_isJournal_40, eL_isJournal_42, eL_isJournal_43, eL_isJournal_45, eL_isJournal_47, eL_isJournal_50, eL_isJournal_52, eL_isJournal_55, eL_isJournal_57, eL_isJournal_59, eL_isJournal_62, eL_isJournal_63, eL_isJournal_66, eL_isJournal_67, eL_isJournal_70, eL_isJournal_72, eL_isJournal_74, eL_isJournal_77, eL_isJournal_79, eL_isJournal_81, eL_isJournal_84, eL_isJournal_86, eL_isJournal_88, eL_isJournal_91, eL_isJournal_92, eL_isJournal_95, eL_isJournal_96, eL_isJournal_99, eL_isJournal_101, eL_isJournal_103, eL_isJournal_106, eL_isJournal_108, eL_isJournal_110, eL_isJournal_113, eL_isJournal_115, eL_isJournal_117, eL_isJournal_120, eL_isJournal_121, eL_isJournal_124, eL_isJournal_125, eL_isJournal_128, eL_isJournal_130, eL_isJournal_132, eL_isJournal_135, eL_isJournal_137, eL_isJournal_139, eL_isJournal_142, eL_isJournal_143, eL_isJournal_146, eL_isJournal_147, eL_isJournal_150, eL_isJournal_152, eL_isJournal_154, eL_isJournal_157, eL_isJournal_159, eL_isJournal_162, eL_isJournal_164, eL_isJournal_166, eL_isJournal_169, eL_isJournal_171, eL_isJournal_173, eL_isJournal_176, eL_isJournal_177, eL_isJournal_180, eL_isJournal_181, eL_isJournal_182, eL_isJournal_183, eL_isJournal_184, eL_isJournal_186, eL_isJournal_188, eL_isJournal_189, eL_isJournal_192, isA_r, isA_n, isI_i, isF_f, isL_l, is1_i, is1_r, is1_n, is1_f, true_and, and_true, List.length_cons, List.length_nil, Nat.reduceAdd, Nat.reduceLeDiff, Nat.reduceSub, Option.some.injEq, exists_eq_left', aft_s, aft_n, ite_true, ite_false, if_true, if_false, Nat.zero_le, Nat.le_refl, reduceCtorEq, ch_114, e1, e2, e3, e4, e5, hf, n_114_114, n_114_119, n_114_115, n_114_100, n_114_107, n_114_0, n_114_103, n_119_114, n_119_119, n_119_115, n_119_100, n_119_107, n_119_0, n_119_103, n_115_114, n_115_119, n_115_115, n_115_100, n_115_107, n_115_0, n_115_103, n_100_114, n_100_119, n_100_115, n_100_100, n_100_107, n_100_0, n_100_103, n_107_114, n_107_119, n_107_115, n_107_100, n_107_107, n_107_0, n_107_103, and_11, nI_1, exists_eq_left']
  exact hK
theorem ij_115_114 {H0 H : AH} {q e k : Nat} {f : Nat → Int32} {c n : Nat} {a6 a7 : Value} (e1 : rwI H q 5 = some (30, f)) (e2 : rdI E H q 5 = some (30, f)) (he : e < 30) (hf : f e = nI 114)
    (hK : Ev E (d + 13) mL_isJournal K 10 (ijL x (s_nJ σ) q (k + 1) (.int (nI e)) (.int (nI 115)) (.int (nI 114))) [] (hset H q (acC (upd f e (nI 115)))) c n) :
    Ev E (d + 13) mL_isJournal K 33 [.ref x, .int (nI (s_nJ σ)), .ref q, .int 1, .int (nI k), .int (nI e), a6, a7] [.int (nI 115)] H c n := by
  have e3 : inB (nI e) 30 = true := inB_nI (by omega) (by omega)
  have e4 : (nI e).toNatClampNeg = e := nI_clamp (by omega)
  have e5 : ok16 (.int (nI 115)) = true := ok16_n (by omega)
  simp only [eL_isJournal_33, eL_isJournal_34, eL_isJournal_36, eL_isJournal_37, eL_isJournal_39, eL_isJournal_40, eL_isJournal_42, eL_isJournal_43, eL_isJournal_45, eL_isJournal_47, eL_isJournal_50, eL_isJournal_52, eL_isJournal_55, eL_isJournal_57, eL_isJournal_59, eL_isJournal_62, eL_isJournal_63, eL_isJournal_66, eL_isJournal_67, eL_isJournal_70, eL_isJournal_72, eL_isJournal_74, eL_isJournal_77, eL_isJournal_79, eL_isJournal_81, eL_isJournal_84, eL_isJournal_86, eL_isJournal_88, eL_isJournal_91, eL_isJournal_92, eL_isJournal_95, eL_isJournal_96, eL_isJournal_99, eL_isJournal_101, eL_isJournal_103, eL_isJournal_106, eL_isJournal_108, eL_isJournal_110, eL_isJournal_113, eL_isJournal_115, eL_isJournal_117, eL_isJournal_120, eL_isJournal_121, eL_isJournal_124, eL_isJournal_125, eL_isJournal_128, eL_isJournal_130, eL_isJournal_132, eL_isJournal_135, eL_isJournal_137, eL_isJournal_139, eL_isJournal_142, eL_isJournal_143, eL_isJournal_146, eL_isJournal_147, eL_isJournal_150, eL_isJournal_152, eL_isJournal_154, eL_isJournal_157, eL_isJournal_159, eL_isJournal_162, eL_isJournal_164, eL_isJournal_166, eL_isJournal_169, eL_isJournal_171, eL_isJournal_173, eL_isJournal_176, eL_isJournal_177, eL_isJournal_180, eL_isJournal_181, eL_isJournal_182, eL_isJournal_183, eL_isJournal_184, eL_isJournal_186, eL_isJournal_188, eL_isJournal_189, eL_isJournal_192, isA_r, isA_n, isI_i, isF_f, isL_l, is1_i, is1_r, is1_n, is1_f, true_and, and_true, List.length_cons, List.length_nil, Nat.reduceAdd, Nat.reduceLeDiff, Nat.reduceSub, Option.some.injEq, exists_eq_left', aft_s, aft_n, ite_true, ite_false, if_true, if_false, Nat.zero_le, Nat.le_refl, reduceCtorEq, ch_115, e1, e2, e3, e4, e5, hf, n_114_114, n_114_119, n_114_115, n_114_100, n_114_107, n_114_0, n_114_103, n_119_114, n_119_119, n_119_115, n_119_100, n_119_107, n_119_0, n_119_103, n_115_114, n_115_119, n_115_115, n_115_100, n_115_107, n_115_0, n_115_103, n_100_114, n_100_119, n_100_115, n_100_100, n_100_107, n_100_0, n_100_103, n_107_114, n_107_119, n_107_115, n_107_100, n_107_107, n_107_0, n_107_103, and_11, nI_1, exists_eq_left']
  exact hK
theorem ij_115_119 {H0 H : AH} {q e k : Nat} {f : Nat → Int32} {c n : Nat} {a6 a7 : Value} (e1 : rwI H q 5 = some (30, f)) (e2 : rdI E H q 5 = some (30, f)) (he : e < 30) (hf : f e = nI 119)
    (hK : Ev E (d + 13) mL_isJournal K 10 (ijL x (s_nJ σ) q (k + 1) (.int (nI e)) (.int (nI 115)) (.int (nI 119))) [] (hset H q (acC (upd f e (nI 115)))) c n) :
    Ev E (d + 13) mL_isJournal K 33 [.ref x, .int (nI (s_nJ σ)), .ref q, .int 1, .int (nI k), .int (nI e), a6, a7] [.int (nI 115)] H c n := by
  have e3 : inB (nI e) 30 = true := inB_nI (by omega) (by omega)
  have e4 : (nI e).toNatClampNeg = e := nI_clamp (by omega)
  have e5 : ok16 (.int (nI 115)) = true := ok16_n (by omega)
  simp only [eL_isJournal_33, eL_isJournal_34, eL_isJournal_36, eL_isJournal_37, eL_isJournal_39, eL_isJournal_40, eL_isJournal_42, eL_isJournal_43, eL_isJournal_45, eL_isJournal_47, eL_isJournal_50, eL_isJournal_52, eL_isJournal_55, eL_isJournal_57, eL_isJournal_59, eL_isJournal_62, eL_isJournal_63, eL_isJournal_66, eL_isJournal_67, eL_isJournal_70, eL_isJournal_72, eL_isJournal_74, eL_isJournal_77, eL_isJournal_79, eL_isJournal_81, eL_isJournal_84, eL_isJournal_86, eL_isJournal_88, eL_isJournal_91, eL_isJournal_92, eL_isJournal_95, eL_isJournal_96, eL_isJournal_99, eL_isJournal_101, eL_isJournal_103, eL_isJournal_106, eL_isJournal_108, eL_isJournal_110, eL_isJournal_113, eL_isJournal_115, eL_isJournal_117, eL_isJournal_120, eL_isJournal_121, eL_isJournal_124, eL_isJournal_125, eL_isJournal_128, eL_isJournal_130, eL_isJournal_132, eL_isJournal_135, eL_isJournal_137, eL_isJournal_139, eL_isJournal_142, eL_isJournal_143, eL_isJournal_146, eL_isJournal_147, eL_isJournal_150, eL_isJournal_152, eL_isJournal_154, eL_isJournal_157, eL_isJournal_159, eL_isJournal_162, eL_isJournal_164, eL_isJournal_166, eL_isJournal_169, eL_isJournal_171, eL_isJournal_173, eL_isJournal_176, eL_isJournal_177, eL_isJournal_180, eL_isJournal_181, eL_isJournal_182, eL_isJournal_183, eL_isJournal_184, eL_isJournal_186, eL_isJournal_188, eL_isJournal_189, eL_isJournal_192, isA_r, isA_n, isI_i, isF_f, isL_l, is1_i, is1_r, is1_n, is1_f, true_and, and_true, List.length_cons, List.length_nil, Nat.reduceAdd, Nat.reduceLeDiff, Nat.reduceSub, Option.some.injEq, exists_eq_left', aft_s, aft_n, ite_true, ite_false, if_true, if_false, Nat.zero_le, Nat.le_refl, reduceCtorEq, ch_115, e1, e2, e3, e4, e5, hf, n_114_114, n_114_119, n_114_115, n_114_100, n_114_107, n_114_0, n_114_103, n_119_114, n_119_119, n_119_115, n_119_100, n_119_107, n_119_0, n_119_103, n_115_114, n_115_119, n_115_115, n_115_100, n_115_107, n_115_0, n_115_103, n_100_114, n_100_119, n_100_115, n_100_100, n_100_107, n_100_0, n_100_103, n_107_114, n_107_119, n_107_115, n_107_100, n_107_107, n_107_0, n_107_103, and_11, nI_1, exists_eq_left']
  exact hK
theorem ij_100_114 {H0 H : AH} {q e k : Nat} {f : Nat → Int32} {c n : Nat} {a6 a7 : Value} (e1 : rwI H q 5 = some (30, f)) (e2 : rdI E H q 5 = some (30, f)) (he : e < 30) (hf : f e = nI 114)
    (hK : Ev E (d + 13) mL_isJournal K 10 (ijL x (s_nJ σ) q (k + 1) (.int (nI e)) (.int (nI 100)) (.int (nI 114))) [] (hset H q (acC (upd f e (nI 100)))) c n) :
    Ev E (d + 13) mL_isJournal K 33 [.ref x, .int (nI (s_nJ σ)), .ref q, .int 1, .int (nI k), .int (nI e), a6, a7] [.int (nI 100)] H c n := by
  have e3 : inB (nI e) 30 = true := inB_nI (by omega) (by omega)
  have e4 : (nI e).toNatClampNeg = e := nI_clamp (by omega)
  have e5 : ok16 (.int (nI 100)) = true := ok16_n (by omega)
  simp only [eL_isJournal_33, eL_isJournal_34, eL_isJournal_36, eL_isJournal_37, eL_isJournal_39, eL_isJournal_40, eL_isJournal_42, eL_isJournal_43, eL_isJournal_45, eL_isJournal_47, eL_isJournal_50, eL_isJournal_52, eL_isJournal_55, eL_isJournal_57, eL_isJournal_59, eL_isJournal_62, eL_isJournal_63, eL_isJournal_66, eL_isJournal_67, eL_isJournal_70, eL_isJournal_72, eL_isJournal_74, eL_isJournal_77, eL_isJournal_79, eL_isJournal_81, eL_isJournal_84, eL_isJournal_86, eL_isJournal_88, eL_isJournal_91, eL_isJournal_92, eL_isJournal_95, eL_isJournal_96, eL_isJournal_99, eL_isJournal_101, eL_isJournal_103, eL_isJournal_106, eL_isJournal_108, eL_isJournal_110, eL_isJournal_113, eL_isJournal_115, eL_isJournal_117, eL_isJournal_120, eL_isJournal_121, eL_isJournal_124, eL_isJournal_125, eL_isJournal_128, eL_isJournal_130, eL_isJournal_132, eL_isJournal_135, eL_isJournal_137, eL_isJournal_139, eL_isJournal_142, eL_isJournal_143, eL_isJournal_146, eL_isJournal_147, eL_isJournal_150, eL_isJournal_152, eL_isJournal_154, eL_isJournal_157, eL_isJournal_159, eL_isJournal_162, eL_isJournal_164, eL_isJournal_166, eL_isJournal_169, eL_isJournal_171, eL_isJournal_173, eL_isJournal_176, eL_isJournal_177, eL_isJournal_180, eL_isJournal_181, eL_isJournal_182, eL_isJournal_183, eL_isJournal_184, eL_isJournal_186, eL_isJournal_188, eL_isJournal_189, eL_isJournal_192, isA_r, isA_n, isI_i, isF_f, isL_l, is1_i, is1_r, is1_n, is1_f, true_and, and_true, List.length_cons, List.length_nil, Nat.reduceAdd, Nat.reduceLeDiff, Nat.reduceSub, Option.some.injEq, exists_eq_left', aft_s, aft_n, ite_true, ite_false, if_true, if_false, Nat.zero_le, Nat.le_refl, reduceCtorEq, ch_100, e1, e2, e3, e4, e5, hf, n_114_114, n_114_119, n_114_115, n_114_100, n_114_107, n_114_0, n_114_103, n_119_114, n_119_119, n_119_115, n_119_100, n_119_107, n_119_0, n_119_103, n_115_114, n_115_119, n_115_115, n_115_100, n_115_107, n_115_0, n_115_103, n_100_114, n_100_119, n_100_115, n_100_100, n_100_107, n_100_0, n_100_103, n_107_114, n_107_119, n_107_115, n_107_100, n_107_107, n_107_0, n_107_103, and_11, nI_1, exists_eq_left']
  exact hK
theorem ij_107_114 {H0 H : AH} {q e k : Nat} {f : Nat → Int32} {c n : Nat} {a6 a7 : Value} (e1 : rwI H q 5 = some (30, f)) (e2 : rdI E H q 5 = some (30, f)) (he : e < 30) (hf : f e = nI 114)
    (hK : Ev E (d + 13) mL_isJournal K 10 (ijL x (s_nJ σ) q (k + 1) (.int (nI e)) (.int (nI 107)) (.int (nI 114))) [] (hset H q (acC (upd f e (nI 107)))) c n) :
    Ev E (d + 13) mL_isJournal K 33 [.ref x, .int (nI (s_nJ σ)), .ref q, .int 1, .int (nI k), .int (nI e), a6, a7] [.int (nI 107)] H c n := by
  have e3 : inB (nI e) 30 = true := inB_nI (by omega) (by omega)
  have e4 : (nI e).toNatClampNeg = e := nI_clamp (by omega)
  have e5 : ok16 (.int (nI 107)) = true := ok16_n (by omega)
  simp only [eL_isJournal_33, eL_isJournal_34, eL_isJournal_36, eL_isJournal_37, eL_isJournal_39, eL_isJournal_40, eL_isJournal_42, eL_isJournal_43, eL_isJournal_45, eL_isJournal_47, eL_isJournal_50, eL_isJournal_52, eL_isJournal_55, eL_isJournal_57, eL_isJournal_59, eL_isJournal_62, eL_isJournal_63, eL_isJournal_66, eL_isJournal_67, eL_isJournal_70, eL_isJournal_72, eL_isJournal_74, eL_isJournal_77, eL_isJournal_79, eL_isJournal_81, eL_isJournal_84, eL_isJournal_86, eL_isJournal_88, eL_isJournal_91, eL_isJournal_92, eL_isJournal_95, eL_isJournal_96, eL_isJournal_99, eL_isJournal_101, eL_isJournal_103, eL_isJournal_106, eL_isJournal_108, eL_isJournal_110, eL_isJournal_113, eL_isJournal_115, eL_isJournal_117, eL_isJournal_120, eL_isJournal_121, eL_isJournal_124, eL_isJournal_125, eL_isJournal_128, eL_isJournal_130, eL_isJournal_132, eL_isJournal_135, eL_isJournal_137, eL_isJournal_139, eL_isJournal_142, eL_isJournal_143, eL_isJournal_146, eL_isJournal_147, eL_isJournal_150, eL_isJournal_152, eL_isJournal_154, eL_isJournal_157, eL_isJournal_159, eL_isJournal_162, eL_isJournal_164, eL_isJournal_166, eL_isJournal_169, eL_isJournal_171, eL_isJournal_173, eL_isJournal_176, eL_isJournal_177, eL_isJournal_180, eL_isJournal_181, eL_isJournal_182, eL_isJournal_183, eL_isJournal_184, eL_isJournal_186, eL_isJournal_188, eL_isJournal_189, eL_isJournal_192, isA_r, isA_n, isI_i, isF_f, isL_l, is1_i, is1_r, is1_n, is1_f, true_and, and_true, List.length_cons, List.length_nil, Nat.reduceAdd, Nat.reduceLeDiff, Nat.reduceSub, Option.some.injEq, exists_eq_left', aft_s, aft_n, ite_true, ite_false, if_true, if_false, Nat.zero_le, Nat.le_refl, reduceCtorEq, ch_107, e1, e2, e3, e4, e5, hf, n_114_114, n_114_119, n_114_115, n_114_100, n_114_107, n_114_0, n_114_103, n_119_114, n_119_119, n_119_115, n_119_100, n_119_107, n_119_0, n_119_103, n_115_114, n_115_119, n_115_115, n_115_100, n_115_107, n_115_0, n_115_103, n_100_114, n_100_119, n_100_115, n_100_100, n_100_107, n_100_0, n_100_103, n_107_114, n_107_119, n_107_115, n_107_100, n_107_107, n_107_0, n_107_103, and_11, nI_1, exists_eq_left']
  exact hK
theorem ij_107_119 {H0 H : AH} {q e k : Nat} {f : Nat → Int32} {c n : Nat} {a6 a7 : Value} (e1 : rwI H q 5 = some (30, f)) (e2 : rdI E H q 5 = some (30, f)) (he : e < 30) (hf : f e = nI 119)
    (hK : Ev E (d + 13) mL_isJournal K 10 (ijL x (s_nJ σ) q (k + 1) (.int (nI e)) (.int (nI 107)) (.int (nI 119))) [] (hset H q (acC (upd f e (nI 107)))) c n) :
    Ev E (d + 13) mL_isJournal K 33 [.ref x, .int (nI (s_nJ σ)), .ref q, .int 1, .int (nI k), .int (nI e), a6, a7] [.int (nI 107)] H c n := by
  have e3 : inB (nI e) 30 = true := inB_nI (by omega) (by omega)
  have e4 : (nI e).toNatClampNeg = e := nI_clamp (by omega)
  have e5 : ok16 (.int (nI 107)) = true := ok16_n (by omega)
  simp only [eL_isJournal_33, eL_isJournal_34, eL_isJournal_36, eL_isJournal_37, eL_isJournal_39, eL_isJournal_40, eL_isJournal_42, eL_isJournal_43, eL_isJournal_45, eL_isJournal_47, eL_isJournal_50, eL_isJournal_52, eL_isJournal_55, eL_isJournal_57, eL_isJournal_59, eL_isJournal_62, eL_isJournal_63, eL_isJournal_66, eL_isJournal_67, eL_isJournal_70, eL_isJournal_72, eL_isJournal_74, eL_isJournal_77, eL_isJournal_79, eL_isJournal_81, eL_isJournal_84, eL_isJournal_86, eL_isJournal_88, eL_isJournal_91, eL_isJournal_92, eL_isJournal_95, eL_isJournal_96, eL_isJournal_99, eL_isJournal_101, eL_isJournal_103, eL_isJournal_106, eL_isJournal_108, eL_isJournal_110, eL_isJournal_113, eL_isJournal_115, eL_isJournal_117, eL_isJournal_120, eL_isJournal_121, eL_isJournal_124, eL_isJournal_125, eL_isJournal_128, eL_isJournal_130, eL_isJournal_132, eL_isJournal_135, eL_isJournal_137, eL_isJournal_139, eL_isJournal_142, eL_isJournal_143, eL_isJournal_146, eL_isJournal_147, eL_isJournal_150, eL_isJournal_152, eL_isJournal_154, eL_isJournal_157, eL_isJournal_159, eL_isJournal_162, eL_isJournal_164, eL_isJournal_166, eL_isJournal_169, eL_isJournal_171, eL_isJournal_173, eL_isJournal_176, eL_isJournal_177, eL_isJournal_180, eL_isJournal_181, eL_isJournal_182, eL_isJournal_183, eL_isJournal_184, eL_isJournal_186, eL_isJournal_188, eL_isJournal_189, eL_isJournal_192, isA_r, isA_n, isI_i, isF_f, isL_l, is1_i, is1_r, is1_n, is1_f, true_and, and_true, List.length_cons, List.length_nil, Nat.reduceAdd, Nat.reduceLeDiff, Nat.reduceSub, Option.some.injEq, exists_eq_left', aft_s, aft_n, ite_true, ite_false, if_true, if_false, Nat.zero_le, Nat.le_refl, reduceCtorEq, ch_107, e1, e2, e3, e4, e5, hf, n_114_114, n_114_119, n_114_115, n_114_100, n_114_107, n_114_0, n_114_103, n_119_114, n_119_119, n_119_115, n_119_100, n_119_107, n_119_0, n_119_103, n_115_114, n_115_119, n_115_115, n_115_100, n_115_107, n_115_0, n_115_103, n_100_114, n_100_119, n_100_115, n_100_100, n_100_107, n_100_0, n_100_103, n_107_114, n_107_119, n_107_115, n_107_100, n_107_107, n_107_0, n_107_103, and_11, nI_1, exists_eq_left']
  exact hK
theorem ij_107_115 {H0 H : AH} {q e k : Nat} {f : Nat → Int32} {c n : Nat} {a6 a7 : Value} (e1 : rwI H q 5 = some (30, f)) (e2 : rdI E H q 5 = some (30, f)) (he : e < 30) (hf : f e = nI 115)
    (hK : Ev E (d + 13) mL_isJournal K 10 (ijL x (s_nJ σ) q (k + 1) (.int (nI e)) (.int (nI 107)) (.int (nI 115))) [] (hset H q (acC (upd f e (nI 107)))) c n) :
    Ev E (d + 13) mL_isJournal K 33 [.ref x, .int (nI (s_nJ σ)), .ref q, .int 1, .int (nI k), .int (nI e), a6, a7] [.int (nI 107)] H c n := by
  have e3 : inB (nI e) 30 = true := inB_nI (by omega) (by omega)
  have e4 : (nI e).toNatClampNeg = e := nI_clamp (by omega)
  have e5 : ok16 (.int (nI 107)) = true := ok16_n (by omega)
  simp only [eL_isJournal_33, eL_isJournal_34, eL_isJournal_36, eL_isJournal_37, eL_isJournal_39, eL_isJournal_40, eL_isJournal_42, eL_isJournal_43, eL_isJournal_45, eL_isJournal_47, eL_isJournal_50, eL_isJournal_52, eL_isJournal_55, eL_isJournal_57, eL_isJournal_59, eL_isJournal_62, eL_isJournal_63, eL_isJournal_66, eL_isJournal_67, eL_isJournal_70, eL_isJournal_72, eL_isJournal_74, eL_isJournal_77, eL_isJournal_79, eL_isJournal_81, eL_isJournal_84, eL_isJournal_86, eL_isJournal_88, eL_isJournal_91, eL_isJournal_92, eL_isJournal_95, eL_isJournal_96, eL_isJournal_99, eL_isJournal_101, eL_isJournal_103, eL_isJournal_106, eL_isJournal_108, eL_isJournal_110, eL_isJournal_113, eL_isJournal_115, eL_isJournal_117, eL_isJournal_120, eL_isJournal_121, eL_isJournal_124, eL_isJournal_125, eL_isJournal_128, eL_isJournal_130, eL_isJournal_132, eL_isJournal_135, eL_isJournal_137, eL_isJournal_139, eL_isJournal_142, eL_isJournal_143, eL_isJournal_146, eL_isJournal_147, eL_isJournal_150, eL_isJournal_152, eL_isJournal_154, eL_isJournal_157, eL_isJournal_159, eL_isJournal_162, eL_isJournal_164, eL_isJournal_166, eL_isJournal_169, eL_isJournal_171, eL_isJournal_173, eL_isJournal_176, eL_isJournal_177, eL_isJournal_180, eL_isJournal_181, eL_isJournal_182, eL_isJournal_183, eL_isJournal_184, eL_isJournal_186, eL_isJournal_188, eL_isJournal_189, eL_isJournal_192, isA_r, isA_n, isI_i, isF_f, isL_l, is1_i, is1_r, is1_n, is1_f, true_and, and_true, List.length_cons, List.length_nil, Nat.reduceAdd, Nat.reduceLeDiff, Nat.reduceSub, Option.some.injEq, exists_eq_left', aft_s, aft_n, ite_true, ite_false, if_true, if_false, Nat.zero_le, Nat.le_refl, reduceCtorEq, ch_107, e1, e2, e3, e4, e5, hf, n_114_114, n_114_119, n_114_115, n_114_100, n_114_107, n_114_0, n_114_103, n_119_114, n_119_119, n_119_115, n_119_100, n_119_107, n_119_0, n_119_103, n_115_114, n_115_119, n_115_115, n_115_100, n_115_107, n_115_0, n_115_103, n_100_114, n_100_119, n_100_115, n_100_100, n_100_107, n_100_0, n_100_103, n_107_114, n_107_119, n_107_115, n_107_100, n_107_107, n_107_0, n_107_103, and_11, nI_1, exists_eq_left']
  exact hK
theorem ij1 (O : Ok σ) (J : JV σ) (hjn : (s_jn σ).length ≤ 16384) {q : Nat} (hq : P q)
    (hK : ∀ H' c' n' f a5 a6 a7, CW E P H' x σ H' → H' q = some (acC f) → (∀ j, j < s_nJ σ → f j = nI (s_st σ j)) → 70 ≤ c' → 400 ≤ n' → Ev E (d + 13) mL_isJournal K 195 (ijL x (s_nJ σ) q (s_jn σ).length a5 a6 a7) [] H' c' n') :
    ∀ (m k : Nat) (H : AH) (f : Nat → Int32) (c n : Nat) (a5 a6 a7 : Value), m + k = (s_jn σ).length → CW E P H x σ H → H q = some (acC f) → (∀ j, j < 30 → f j = nI (lastS ((s_jn σ).take k) j)) → 4 * m + 70 ≤ c → 24 * m + 400 ≤ n → Ev E (d + 13) mL_isJournal K 10 (ijL x (s_nJ σ) q k a5 a6 a7) [] H c n := by
  have h30 := O.1.2
  intro m
  induction m with
  | zero =>
    intro k H f c n a5 a6 a7 hm C hH hf hc hn
    have hk : k = (s_jn σ).length := by omega
    subst hk
    have e1 : (nI (s_jn σ).length < nI (s_jn σ).length) = False := eq_false (nI_nlt (Nat.le_refl _) (by omega))
    rw [hL_isJournal_10]
    simp only [eL_isJournal_12, eL_isJournal_13, isA_r, isA_n, isI_i, isF_f, isL_l, is1_i, is1_r, is1_n, is1_f, true_and, and_true, List.length_cons, List.length_nil, Nat.reduceAdd, Nat.reduceLeDiff, Nat.reduceSub, Option.some.injEq, exists_eq_left', aft_s, aft_n, ite_true, ite_false, if_true, if_false, Nat.zero_le, Nat.le_refl, reduceCtorEq]
    refine ⟨C.xo, inv0 (p_entries C ?_)⟩
    simp only [eL_isJournal_16, isA_r, isA_n, isI_i, isF_f, isL_l, is1_i, is1_r, is1_n, is1_f, true_and, and_true, List.length_cons, List.length_nil, Nat.reduceAdd, Nat.reduceLeDiff, Nat.reduceSub, Option.some.injEq, exists_eq_left', aft_s, aft_n, ite_true, ite_false, if_true, if_false, Nat.zero_le, Nat.le_refl, reduceCtorEq, e1]
    refine hK H c n f a5 a6 a7 C hH (fun j hj => ?_) (by omega) (by omega)
    rw [hf j (by omega), List.take_length, J.2 j, if_pos hj]
  | succ m ih =>
    intro k H f c n a5 a6 a7 hm C hH hf hc hn
    have hk : k < (s_jn σ).length := by omega
    have e1 : (nI k < nI (s_jn σ).length) = True := eq_true (nI_lt hk (by omega))
    have hmem : (s_jn σ).getD k (0, 0) ∈ s_jn σ := by
      rw [List.getD_eq_getElem?_getD, List.getElem?_eq_getElem hk]
      exact List.getElem_mem hk
    have hok := O.2.2.2.2.2.2.2.2.2.2 _ hmem
    have hnx := J.1 k hk
    have hts := take_s hk
    rw [hL_isJournal_10]
    simp only [eL_isJournal_12, eL_isJournal_13, isA_r, isA_n, isI_i, isF_f, isL_l, is1_i, is1_r, is1_n, is1_f, true_and, and_true, List.length_cons, List.length_nil, Nat.reduceAdd, Nat.reduceLeDiff, Nat.reduceSub, Option.some.injEq, exists_eq_left', aft_s, aft_n, ite_true, ite_false, if_true, if_false, Nat.zero_le, Nat.le_refl, reduceCtorEq]
    refine ⟨C.xo, inv0 (p_entries C ?_)⟩
    simp only [eL_isJournal_16, eL_isJournal_19, eL_isJournal_20, eL_isJournal_22, isA_r, isA_n, isI_i, isF_f, isL_l, is1_i, is1_r, is1_n, is1_f, true_and, and_true, List.length_cons, List.length_nil, Nat.reduceAdd, Nat.reduceLeDiff, Nat.reduceSub, Option.some.injEq, exists_eq_left', aft_s, aft_n, ite_true, ite_false, if_true, if_false, Nat.zero_le, Nat.le_refl, reduceCtorEq, e1]
    refine invk 2 12 (by omega) (by omega) (h_entryJob C O hjn (by omega) (by omega) (fun H1 C1 => ?_))
    simp only [eL_isJournal_25, eL_isJournal_27, eL_isJournal_28, eL_isJournal_30, isA_r, isA_n, isI_i, isF_f, isL_l, is1_i, is1_r, is1_n, is1_f, true_and, and_true, List.length_cons, List.length_nil, Nat.reduceAdd, Nat.reduceLeDiff, Nat.reduceSub, Option.some.injEq, exists_eq_left', aft_s, aft_n, ite_true, ite_false, if_true, if_false, Nat.zero_le, Nat.le_refl, reduceCtorEq, v_eJ hk hjn]
    refine invk 2 12 (by omega) (by omega) (h_entryState C1 O hjn (by omega) (by omega) (fun H2 C2 => ?_))
    rw [v_eS hk hjn]
    generalize (s_jn σ).getD k (0, 0) = e at hmem hok hnx hts
    obtain ⟨ej, es⟩ := e
    dsimp only at hok hnx
    have hq2 : H2 q = some (acC f) := by rw [C2.at hq]; exact hH
    have e2 : rwI H2 q 5 = some (30, f) := rwI_H hq2
    have e3 : rdI E H2 q 5 = some (30, f) := rdI_H hq2
    have hfe := hf ej (by omega)
    have hlo := lastS_ok (l := (s_jn σ).take k) (a := 0) (j := ej) (Or.inl rfl) (fun e he => (O.2.2.2.2.2.2.2.2.2.2 e (List.mem_of_mem_take he)).2)
    have go : ∀ a6 a7, Ev E (d + 13) mL_isJournal K 10 (ijL x (s_nJ σ) q (k + 1) (.int (nI ej)) a6 a7) [] (hset H2 q (acC (upd f ej (nI es)))) (c - 2 - 2) (n - 12 - 12) := fun a6 a7 => by
      refine ih (k + 1) _ (upd f ej (nI es)) _ _ _ a6 a7 (by omega) (C2.put hq) hs_e (fun j hj => ?_) (by omega) (by omega)
      rw [hts, lastS_app]
      by_cases h : ej = j
      · rw [if_pos h, ← h, pk_us]
      · rw [if_neg h, pk_un (fun z => h z.symm)]
        exact hf j hj
    rcases nx_cases hnx hok.2 hlo with ⟨h1, h2⟩ | ⟨h1, h2⟩ | ⟨h1, h2⟩ | ⟨h1, h2⟩ | ⟨h1, h2⟩ | ⟨h1, h2⟩ | ⟨h1, h2⟩ | ⟨h1, h2⟩ | ⟨h1, h2⟩ | ⟨h1, h2⟩
    · rw [h2] at hfe
      rw [h1] at go ⊢
      simp only [aft_s]
      exact ij_119_0 (H0 := H2) e2 e3 (by omega) hfe (go _ _)
    · rw [h2] at hfe
      rw [h1] at go ⊢
      simp only [aft_s]
      exact ij_119_115 (H0 := H2) e2 e3 (by omega) hfe (go _ _)
    · rw [h2] at hfe
      rw [h1] at go ⊢
      simp only [aft_s]
      exact ij_114_119 (H0 := H2) e2 e3 (by omega) hfe (go _ _)
    · rw [h2] at hfe
      rw [h1] at go ⊢
      simp only [aft_s]
      exact ij_114_115 (H0 := H2) e2 e3 (by omega) hfe (go _ _)
    · rw [h2] at hfe
      rw [h1] at go ⊢
      simp only [aft_s]
      exact ij_115_114 (H0 := H2) e2 e3 (by omega) hfe (go _ _)
    · rw [h2] at hfe
      rw [h1] at go ⊢
      simp only [aft_s]
      exact ij_115_119 (H0 := H2) e2 e3 (by omega) hfe (go _ _)
    · rw [h2] at hfe
      rw [h1] at go ⊢
      simp only [aft_s]
      exact ij_100_114 (H0 := H2) e2 e3 (by omega) hfe (go _ _)
    · rw [h2] at hfe
      rw [h1] at go ⊢
      simp only [aft_s]
      exact ij_107_114 (H0 := H2) e2 e3 (by omega) hfe (go _ _)
    · rw [h2] at hfe
      rw [h1] at go ⊢
      simp only [aft_s]
      exact ij_107_119 (H0 := H2) e2 e3 (by omega) hfe (go _ _)
    · rw [h2] at hfe
      rw [h1] at go ⊢
      simp only [aft_s]
      exact ij_107_115 (H0 := H2) e2 e3 (by omega) hfe (go _ _)
theorem ij2 (O : Ok σ) {q : Nat} (hq : P q) {H0 : AH} {f : Nat → Int32} (hH : H0 q = some (acC f)) (hf : ∀ j, j < s_nJ σ → f j = nI (s_st σ j))
    (hK : ∀ H' c' n' a4 a5 a6 a7, CW E P H0 x σ H' → 10 ≤ c' → 40 ≤ n' → Ev E (d + 13) mL_isJournal K 231 (ijL x (s_nJ σ) q a4 a5 a6 a7) [] H' c' n') :
    ∀ (m j : Nat) (H : AH) (c n : Nat) (a5 a6 a7 : Value), m + j = s_nJ σ → CW E P H0 x σ H → 2 * m + 10 ≤ c → 12 * m + 40 ≤ n → Ev E (d + 13) mL_isJournal K 198 (ijL x (s_nJ σ) q j a5 a6 a7) [] H c n := by
  have h30 := O.1.2
  intro m
  induction m with
  | zero =>
    intro j H c n a5 a6 a7 hm C hc hn
    have e1 : (nI j < nI (s_nJ σ)) = False := eq_false (nI_nlt (by omega) (by omega))
    rw [hL_isJournal_198]
    simp only [eL_isJournal_200, eL_isJournal_201, isA_r, isA_n, isI_i, isF_f, isL_l, is1_i, is1_r, is1_n, is1_f, true_and, and_true, List.length_cons, List.length_nil, Nat.reduceAdd, Nat.reduceLeDiff, Nat.reduceSub, Option.some.injEq, exists_eq_left', aft_s, aft_n, ite_true, ite_false, if_true, if_false, Nat.zero_le, Nat.le_refl, reduceCtorEq, e1]
    exact hK H c n j a5 a6 a7 C (by omega) (by omega)
  | succ m ih =>
    intro j H c n a5 a6 a7 hm C hc hn
    have hj : j < s_nJ σ := by omega
    have e1 : (nI j < nI (s_nJ σ)) = True := eq_true (nI_lt hj (by omega))
    have e2 : rdI E H q 5 = some (30, f) := rdI_H (by rw [C.at hq]; exact hH)
    have e3 : inB (nI j) 30 = true := inB_nI (by omega) (by omega)
    have e4 : (nI j).toNatClampNeg = j := nI_clamp (by omega)
    rw [hL_isJournal_198]
    simp only [eL_isJournal_200, eL_isJournal_201, eL_isJournal_204, eL_isJournal_205, eL_isJournal_206, eL_isJournal_208, eL_isJournal_209, eL_isJournal_210, eL_isJournal_212, isA_r, isA_n, isI_i, isF_f, isL_l, is1_i, is1_r, is1_n, is1_f, true_and, and_true, List.length_cons, List.length_nil, Nat.reduceAdd, Nat.reduceLeDiff, Nat.reduceSub, Option.some.injEq, exists_eq_left', aft_s, aft_n, ite_true, ite_false, if_true, if_false, Nat.zero_le, Nat.le_refl, reduceCtorEq, e1, e2, e3, e4, hf j hj]
    refine invk 2 12 (by omega) (by omega) (h_state C O (by omega) (by omega) (fun H1 C1 => ?_))
    simp only [eL_isJournal_215, eL_isJournal_218, eL_isJournal_219, eL_isJournal_222, eL_isJournal_223, eL_isJournal_224, eL_isJournal_225, eL_isJournal_228, isA_r, isA_n, isI_i, isF_f, isL_l, is1_i, is1_r, is1_n, is1_f, true_and, and_true, List.length_cons, List.length_nil, Nat.reduceAdd, Nat.reduceLeDiff, Nat.reduceSub, Option.some.injEq, exists_eq_left', aft_s, aft_n, ite_true, ite_false, if_true, if_false, Nat.zero_le, Nat.le_refl, reduceCtorEq, v_state hj h30, eq_self, and_11, nI_1]
    exact ih (j + 1) H1 _ _ _ _ _ (by omega) C1 (by omega) (by omega)
theorem k_isJournal {H0 H : AH} {c n : Nat} (C : CW E P H0 x σ H) (O : Ok σ) (J : JV σ) (hjn : (s_jn σ).length ≤ 16384) (hc : 4 * (s_jn σ).length + 100 ≤ c) (hn : 24 * (s_jn σ).length + 500 ≤ n) (hK : ∀ H', K (.inl (some (.int 1))) H') : CRd TTv E (d + 14) mL_isJournal [.ref x, .int (nI (s_nJ σ))] H c n K := by
  refine crd rfl ?_
  show Ev E (d + 13) mL_isJournal K 0 [.ref x, .int (nI (s_nJ σ)), .retAddr 0, .retAddr 0, .retAddr 0, .retAddr 0, .retAddr 0, .retAddr 0] [] H c n
  have h30 := O.1.2
  have e1 : (30 : Int32).toNatClampNeg = 30 := rfl
  have e2 : (¬ (30 : Int32) < 0) = True := eq_true (by decide)
  have e3 : (1 ≤ c) = True := eq_true (by omega)
  have e4 : (30 ≤ n) = True := eq_true (by omega)
  simp only [eL_isJournal_0, eL_isJournal_2, isA_r, isA_n, isI_i, isF_f, isL_l, is1_i, is1_r, is1_n, is1_f, true_and, and_true, List.length_cons, List.length_nil, Nat.reduceAdd, Nat.reduceLeDiff, Nat.reduceSub, Option.some.injEq, exists_eq_left', aft_s, aft_n, ite_true, ite_false, if_true, if_false, Nat.zero_le, Nat.le_refl, reduceCtorEq, e1, e2, e3, e4]
  intro q hq1 hq2
  simp only [eL_isJournal_4, eL_isJournal_5, eL_isJournal_6, eL_isJournal_7, eL_isJournal_8, isA_r, isA_n, isI_i, isF_f, isL_l, is1_i, is1_r, is1_n, is1_f, true_and, and_true, List.length_cons, List.length_nil, Nat.reduceAdd, Nat.reduceLeDiff, Nat.reduceSub, Option.some.injEq, exists_eq_left', aft_s, aft_n, ite_true, ite_false, if_true, if_false, Nat.zero_le, Nat.le_refl, reduceCtorEq]
  have C0 := C.new (y := acC (fun _ => 0)) hq1 hq2
  refine ij1 (P := fun z => P z ∨ z = q) O J hjn (q := q) (Or.inr rfl) (fun H1 c1 n1 f a5 a6 a7 C1 hH1 hf1 hc1 hn1 => ?_) (s_jn σ).length 0 _ (fun _ => 0) _ _ (.retAddr 0) (.retAddr 0) (.retAddr 0) rfl C0 hs_e (fun j hj => rfl) (by omega) (by omega)
  simp only [eL_isJournal_195, eL_isJournal_196, isA_r, isA_n, isI_i, isF_f, isL_l, is1_i, is1_r, is1_n, is1_f, true_and, and_true, List.length_cons, List.length_nil, Nat.reduceAdd, Nat.reduceLeDiff, Nat.reduceSub, Option.some.injEq, exists_eq_left', aft_s, aft_n, ite_true, ite_false, if_true, if_false, Nat.zero_le, Nat.le_refl, reduceCtorEq]
  refine ij2 O (Or.inr rfl) hH1 hf1 (fun H2 c2 n2 a4 a5 a6 a7 C2 hc2 hn2 => ?_) (s_nJ σ) 0 H1 c1 n1 a5 a6 a7 rfl C1 (by omega) (by omega)
  simp only [eL_isJournal_231, eL_isJournal_232, eL_isJournal_235, eL_isJournal_236, eL_isJournal_237, isA_r, isA_n, isI_i, isF_f, isL_l, is1_i, is1_r, is1_n, is1_f, true_and, and_true, List.length_cons, List.length_nil, Nat.reduceAdd, Nat.reduceLeDiff, Nat.reduceSub, Option.some.injEq, exists_eq_left', aft_s, aft_n, ite_true, ite_false, if_true, if_false, Nat.zero_le, Nat.le_refl, reduceCtorEq, i1_0]
  refine ⟨C2.xo, inv0 (p_entries C2 ?_)⟩
  simp only [eL_isJournal_240, isA_r, isA_n, isI_i, isF_f, isL_l, is1_i, is1_r, is1_n, is1_f, true_and, and_true, List.length_cons, List.length_nil, Nat.reduceAdd, Nat.reduceLeDiff, Nat.reduceSub, Option.some.injEq, exists_eq_left', aft_s, aft_n, ite_true, ite_false, if_true, if_false, Nat.zero_le, Nat.le_refl, reduceCtorEq]
  refine invk 2 12 (by omega) (by omega) (h_entryJob C2 O hjn (by omega) (by omega) (fun H3 C3 => ?_))
  simp only [eL_isJournal_243, eL_isJournal_245, eL_isJournal_248, eL_isJournal_249, eL_isJournal_252, eL_isJournal_253, isA_r, isA_n, isI_i, isF_f, isL_l, is1_i, is1_r, is1_n, is1_f, true_and, and_true, List.length_cons, List.length_nil, Nat.reduceAdd, Nat.reduceLeDiff, Nat.reduceSub, Option.some.injEq, exists_eq_left', aft_s, aft_n, ite_true, ite_false, if_true, if_false, Nat.zero_le, Nat.le_refl, reduceCtorEq, v_eEnd hjn, eq_self, ok01_1]
  exact hK H3
end IJN
