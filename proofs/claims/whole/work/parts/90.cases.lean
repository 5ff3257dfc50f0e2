/-! the law's cases -/
def NX (E : EN) (d : Nat) (K : Out → AH → Prop) (b x mo : Nat) (ad : Nat → Nat) (ra rD i T R : Nat) : Prop := ∀ σ' th' v' w' H' c' n' a6 a7, LJ E x mo ad ra rD σ' σ' th' v' w' H' → Good σ' (T + 30) → 16384 + 420 * R ≤ JJ σ' + c' → 65536 + 1700 * R ≤ 4 * JJ σ' + n' → Ev E (d + 14) mL_law K 2199 [.ref b, .ref x, .ref mo, .ref ra, .ref rD, .int (nI i), a6, a7] [] H' c' n'
theorem ar1 {a b c n R : Nat} (y : a ≤ b) (hb : b ≤ 16384) (hc : 16384 + 420 * (R + 1) ≤ a + c) (hn : 65536 + 1700 * (R + 1) ≤ 4 * a + n) : (b - a + 400 ≤ c) ∧ (4 * (b - a + 400) ≤ n) ∧ (b + 400 ≤ a + (b - a + 400)) ∧ (4 * b + 1600 ≤ 4 * a + 4 * (b - a + 400)) ∧ (16384 + 420 * R ≤ b + (c - (b - a + 400))) ∧ (65536 + 1700 * R ≤ 4 * b + (n - 4 * (b - a + 400))) ∧ 10 ≤ b - a + 400 ∧ 100 ≤ 4 * (b - a + 400) ∧ 2 ≤ b - a + 400 ∧ 12 ≤ 4 * (b - a + 400) := by omega
theorem ar2 {a c n R : Nat} (hc : 16384 + 420 * (R + 1) ≤ a + c) (hn : 65536 + 1700 * (R + 1) ≤ 4 * a + n) : 16384 + 420 * R ≤ a + c ∧ 65536 + 1700 * R ≤ 4 * a + n := by omega
theorem ar3 {a : Nat} (h : a ≤ 4) (hz : ¬ a = 0) : (nI a = 0) = False := eq_false (fun h2 => hz ((nI_eq (a := a) (b := 0) (by omega) (by omega)).mp h2))
theorem JJ_top {σ : Sg} {T : Nat} (G : Good σ T) (h : T + 60 ≤ 16384) : JJ σ ≤ 16384 := jcap_top (Nat.le_trans (G.2.1.len G.1.J) h)
section CASES
variable {E : EN} {x mo : Nat} {ad : Nat → Nat} {ra rD : Nat} {σ : Sg} {th T : Nat} {v : Int64} {w : UInt64} {H : AH} {d c n R b L i : Nat} {xs : Nat → Int32} {K : Out → AH → Prop} {a6 a7 : Value}
theorem w_open (D : LD mo ad ra rD) (hb : E.1 b = some (arI L xs)) (hL : L ≤ 3072) (hi : i + 6 ≤ L) (J : LJ E x mo ad ra rD σ σ th v w H) (G : Good σ T) (hT : T + 200 < 16384) (hc : 16384 + 420 * (R + 1) ≤ JJ σ + c) (hn : 65536 + 1700 * (R + 1) ≤ 4 * JJ σ + n) (next : NX E d K b x mo ad ra rD i T R) : Ev E (d + 14) mL_law K 200 [.ref b, .ref x, .ref mo, .ref ra, .ref rD, .int (nI i), a6, a7] [] H c n := by
  have hbn : E.1 b ≠ none := by rw [hb]; simp
  have O := G.1
  have hjl := G.2.1.len O.J
  have hj16 : (s_jn σ).length ≤ 16384 := Nat.le_trans hjl (by omega)
  have hj32 : (s_jn σ).length < 32000 := Nat.lt_of_le_of_lt hj16 (by decide)
  have hT6 : T + 60 + 1 < 31000 := by omega
  have hT9 : T < 30900 := by omega
  have hT1 : T + 61 < 30999 := by omega
  have hT3 : T + 30 + 60 ≤ 16384 := by omega
  have r0 : rdI E H b 0 = some (L, xs) := rdI_E (J.fE b hbn) hb
  have i1 : nI i + 1 = nI (i + 1) := nI_1 i
  have i2 : nI i + 2 = nI (i + 2) := nI_add i 2
  have i3 : nI i + 3 = nI (i + 3) := nI_add i 3
  have i4 : nI i + 4 = nI (i + 4) := nI_add i 4
  have i5 : nI i + 5 = nI (i + 5) := nI_add i 5
  have B1 : inB (nI (i + 1)) L = true := inB_nI (by omega) (by omega)
  have C1 : (nI (i + 1)).toNatClampNeg = i + 1 := nI_clamp (by omega)
  have B2 : inB (nI (i + 2)) L = true := inB_nI (by omega) (by omega)
  have C2 : (nI (i + 2)).toNatClampNeg = i + 2 := nI_clamp (by omega)
  have B3 : inB (nI (i + 3)) L = true := inB_nI (by omega) (by omega)
  have C3 : (nI (i + 3)).toNatClampNeg = i + 3 := nI_clamp (by omega)
  have B4 : inB (nI (i + 4)) L = true := inB_nI (by omega) (by omega)
  have C4 : (nI (i + 4)).toNatClampNeg = i + 4 := nI_clamp (by omega)
  have B5 : inB (nI (i + 5)) L = true := inB_nI (by omega) (by omega)
  have C5 : (nI (i + 5)).toNatClampNeg = i + 5 := nI_clamp (by omega)
  by_cases hzz : xs (i + 1) = 0
  · have ez : (xs (i + 1) = 0) = True := eq_true hzz
    have y1 := y_open (σ := σ) (p1 := false)
    have x1 := x_open (σ := σ) (T := T) (p1 := false) G
    have z1 := z_open (σ := σ) (p1 := false)
    obtain ⟨k1, k2, k3, k4, k5, k6, k7, k8, k9, k0⟩ := ar1 y1 (JJ_top x1 hT3) hc hn
    simp only [eL_law_200, eL_law_201, eL_law_202, eL_law_204, eL_law_205, eL_law_206, eL_law_207, eL_law_210, eL_law_211, eL_law_214, eL_law_215, eL_law_216, isA_r, isA_n, isI_i, isF_f, isL_l, is1_i, is1_r, is1_n, is1_f, true_and, and_true, List.length_cons, List.length_nil, Nat.reduceAdd, Nat.reduceLeDiff, Nat.reduceSub, Option.some.injEq, exists_eq_left', aft_s, aft_n, ite_true, ite_false, if_true, if_false, Nat.zero_le, Nat.le_refl, reduceCtorEq, r0, i1, i2, i3, i4, i5, B1, B2, B3, B4, B5, C1, C2, C3, C4, C5, ez]
    refine invk (JJ (a_open σ false).2.2 - JJ σ + 400) (4 * (JJ (a_open σ false).2.2 - JJ σ + 400)) k1 k2 (h_open D J O  (p1 := false) k7 k8 (fun v' H1 J1 hv => ?_))
    have r1 : rdI E H1 b 0 = some (L, xs) := rdI_E (J1.fE b hbn) hb
    obtain ⟨M, R1, e1⟩ := J1.2.1
    simp only [eL_law_219, eL_law_221, eL_law_222, eL_law_223, eL_law_225, eL_law_226, eL_law_227, eL_law_228, eL_law_231, eL_law_232, eL_law_235, eL_law_236, isA_r, isA_n, isI_i, isF_f, isL_l, is1_i, is1_r, is1_n, is1_f, true_and, and_true, List.length_cons, List.length_nil, Nat.reduceAdd, Nat.reduceLeDiff, Nat.reduceSub, Option.some.injEq, exists_eq_left', aft_s, aft_n, ite_true, ite_false, if_true, if_false, Nat.zero_le, Nat.le_refl, reduceCtorEq, r1, i1, i2, i3, i4, i5, B1, B2, B3, B4, B5, C1, C2, C3, C4, C5, ez]
    refine ⟨J1.mob, inv0 (crdm e1 (c_open (p := false) D.1 R1 O (fun M' R' => ?_)))⟩
    have J2 := J1.mod D R'
    generalize mv H1 mo ad M' = H2 at J2 ⊢
    obtain ⟨M2, R2, e2⟩ := J2.2.1
    simp only [eL_law_239, eL_law_241, eL_law_242, isA_r, isA_n, isI_i, isF_f, isL_l, is1_i, is1_r, is1_n, is1_f, true_and, and_true, List.length_cons, List.length_nil, Nat.reduceAdd, Nat.reduceLeDiff, Nat.reduceSub, Option.some.injEq, exists_eq_left', aft_s, aft_n, ite_true, ite_false, if_true, if_false, Nat.zero_le, Nat.le_refl, reduceCtorEq]
    refine ⟨J2.mob, inv0 (crdm e2 (c_thrown R2 ?_))⟩
    rw [e2]
    obtain ⟨f, q1, q2⟩ := J2.2.2.1
    by_cases hz : (a_open σ false).1 = 0
    · have e5 : (nI (a_open σ false).1 = 0) = True := by rw [hz]; exact eq_true rfl
      have hv := hv hz
      simp only [eL_law_245, eL_law_247, eL_law_250, eL_law_251, eL_law_252, eL_law_254, eL_law_257, eL_law_258, eL_law_259, eL_law_260, eL_law_262, eL_law_263, eL_law_264, eL_law_267, eL_law_268, eL_law_269, isA_r, isA_n, isI_i, isF_f, isL_l, is1_i, is1_r, is1_n, is1_f, true_and, and_true, List.length_cons, List.length_nil, Nat.reduceAdd, Nat.reduceLeDiff, Nat.reduceSub, Option.some.injEq, exists_eq_left', aft_s, aft_n, ite_true, ite_false, if_true, if_false, Nat.zero_le, Nat.le_refl, reduceCtorEq, eq_self, e5, rdJ_of q1, b01_0, c0_0, q2, hv, lg_self]
      exact next _ _ _ _ _ _ _ _ _ J2 x1 k5 k6
    · have e5 : (nI (a_open σ false).1 = 0) = False := ar3 z1 hz
      simp only [eL_law_245, eL_law_247, eL_law_250, eL_law_251, eL_law_252, eL_law_254, eL_law_257, eL_law_258, eL_law_259, eL_law_260, eL_law_262, eL_law_263, eL_law_264, eL_law_267, eL_law_268, eL_law_269, isA_r, isA_n, isI_i, isF_f, isL_l, is1_i, is1_r, is1_n, is1_f, true_and, and_true, List.length_cons, List.length_nil, Nat.reduceAdd, Nat.reduceLeDiff, Nat.reduceSub, Option.some.injEq, exists_eq_left', aft_s, aft_n, ite_true, ite_false, if_true, if_false, Nat.zero_le, Nat.le_refl, reduceCtorEq, eq_self, e5]
      exact next _ _ _ _ _ _ _ _ _ J2 x1 k5 k6
  · have ez : (xs (i + 1) = 0) = False := eq_false hzz
    have y1 := y_open (σ := σ) (p1 := true)
    have x1 := x_open (σ := σ) (T := T) (p1 := true) G
    have z1 := z_open (σ := σ) (p1 := true)
    obtain ⟨k1, k2, k3, k4, k5, k6, k7, k8, k9, k0⟩ := ar1 y1 (JJ_top x1 hT3) hc hn
    simp only [eL_law_200, eL_law_201, eL_law_202, eL_law_204, eL_law_205, eL_law_206, eL_law_207, eL_law_210, eL_law_211, eL_law_214, eL_law_215, eL_law_216, isA_r, isA_n, isI_i, isF_f, isL_l, is1_i, is1_r, is1_n, is1_f, true_and, and_true, List.length_cons, List.length_nil, Nat.reduceAdd, Nat.reduceLeDiff, Nat.reduceSub, Option.some.injEq, exists_eq_left', aft_s, aft_n, ite_true, ite_false, if_true, if_false, Nat.zero_le, Nat.le_refl, reduceCtorEq, r0, i1, i2, i3, i4, i5, B1, B2, B3, B4, B5, C1, C2, C3, C4, C5, ez]
    refine invk (JJ (a_open σ true).2.2 - JJ σ + 400) (4 * (JJ (a_open σ true).2.2 - JJ σ + 400)) k1 k2 (h_open D J O  (p1 := true) k7 k8 (fun v' H1 J1 hv => ?_))
    have r1 : rdI E H1 b 0 = some (L, xs) := rdI_E (J1.fE b hbn) hb
    obtain ⟨M, R1, e1⟩ := J1.2.1
    simp only [eL_law_219, eL_law_221, eL_law_222, eL_law_223, eL_law_225, eL_law_226, eL_law_227, eL_law_228, eL_law_231, eL_law_232, eL_law_235, eL_law_236, isA_r, isA_n, isI_i, isF_f, isL_l, is1_i, is1_r, is1_n, is1_f, true_and, and_true, List.length_cons, List.length_nil, Nat.reduceAdd, Nat.reduceLeDiff, Nat.reduceSub, Option.some.injEq, exists_eq_left', aft_s, aft_n, ite_true, ite_false, if_true, if_false, Nat.zero_le, Nat.le_refl, reduceCtorEq, r1, i1, i2, i3, i4, i5, B1, B2, B3, B4, B5, C1, C2, C3, C4, C5, ez]
    refine ⟨J1.mob, inv0 (crdm e1 (c_open (p := true) D.1 R1 O (fun M' R' => ?_)))⟩
    have J2 := J1.mod D R'
    generalize mv H1 mo ad M' = H2 at J2 ⊢
    obtain ⟨M2, R2, e2⟩ := J2.2.1
    simp only [eL_law_239, eL_law_241, eL_law_242, isA_r, isA_n, isI_i, isF_f, isL_l, is1_i, is1_r, is1_n, is1_f, true_and, and_true, List.length_cons, List.length_nil, Nat.reduceAdd, Nat.reduceLeDiff, Nat.reduceSub, Option.some.injEq, exists_eq_left', aft_s, aft_n, ite_true, ite_false, if_true, if_false, Nat.zero_le, Nat.le_refl, reduceCtorEq]
    refine ⟨J2.mob, inv0 (crdm e2 (c_thrown R2 ?_))⟩
    rw [e2]
    obtain ⟨f, q1, q2⟩ := J2.2.2.1
    by_cases hz : (a_open σ true).1 = 0
    · have e5 : (nI (a_open σ true).1 = 0) = True := by rw [hz]; exact eq_true rfl
      have hv := hv hz
      simp only [eL_law_245, eL_law_247, eL_law_250, eL_law_251, eL_law_252, eL_law_254, eL_law_257, eL_law_258, eL_law_259, eL_law_260, eL_law_262, eL_law_263, eL_law_264, eL_law_267, eL_law_268, eL_law_269, isA_r, isA_n, isI_i, isF_f, isL_l, is1_i, is1_r, is1_n, is1_f, true_and, and_true, List.length_cons, List.length_nil, Nat.reduceAdd, Nat.reduceLeDiff, Nat.reduceSub, Option.some.injEq, exists_eq_left', aft_s, aft_n, ite_true, ite_false, if_true, if_false, Nat.zero_le, Nat.le_refl, reduceCtorEq, eq_self, e5, rdJ_of q1, b01_0, c0_0, q2, hv, lg_self]
      exact next _ _ _ _ _ _ _ _ _ J2 x1 k5 k6
    · have e5 : (nI (a_open σ true).1 = 0) = False := ar3 z1 hz
      simp only [eL_law_245, eL_law_247, eL_law_250, eL_law_251, eL_law_252, eL_law_254, eL_law_257, eL_law_258, eL_law_259, eL_law_260, eL_law_262, eL_law_263, eL_law_264, eL_law_267, eL_law_268, eL_law_269, isA_r, isA_n, isI_i, isF_f, isL_l, is1_i, is1_r, is1_n, is1_f, true_and, and_true, List.length_cons, List.length_nil, Nat.reduceAdd, Nat.reduceLeDiff, Nat.reduceSub, Option.some.injEq, exists_eq_left', aft_s, aft_n, ite_true, ite_false, if_true, if_false, Nat.zero_le, Nat.le_refl, reduceCtorEq, eq_self, e5]
      exact next _ _ _ _ _ _ _ _ _ J2 x1 k5 k6
theorem w_setPrivate (D : LD mo ad ra rD) (hb : E.1 b = some (arI L xs)) (hL : L ≤ 3072) (hi : i + 6 ≤ L) (J : LJ E x mo ad ra rD σ σ th v w H) (G : Good σ T) (hT : T + 200 < 16384) (hc : 16384 + 420 * (R + 1) ≤ JJ σ + c) (hn : 65536 + 1700 * (R + 1) ≤ 4 * JJ σ + n) (next : NX E d K b x mo ad ra rD i T R) : Ev E (d + 14) mL_law K 272 [.ref b, .ref x, .ref mo, .ref ra, .ref rD, .int (nI i), a6, a7] [] H c n := by
  have hbn : E.1 b ≠ none := by rw [hb]; simp
  have O := G.1
  have hjl := G.2.1.len O.J
  have hj16 : (s_jn σ).length ≤ 16384 := Nat.le_trans hjl (by omega)
  have hj32 : (s_jn σ).length < 32000 := Nat.lt_of_le_of_lt hj16 (by decide)
  have hT6 : T + 60 + 1 < 31000 := by omega
  have hT9 : T < 30900 := by omega
  have hT1 : T + 61 < 30999 := by omega
  have hT3 : T + 30 + 60 ≤ 16384 := by omega
  have r0 : rdI E H b 0 = some (L, xs) := rdI_E (J.fE b hbn) hb
  have i1 : nI i + 1 = nI (i + 1) := nI_1 i
  have i2 : nI i + 2 = nI (i + 2) := nI_add i 2
  have i3 : nI i + 3 = nI (i + 3) := nI_add i 3
  have i4 : nI i + 4 = nI (i + 4) := nI_add i 4
  have i5 : nI i + 5 = nI (i + 5) := nI_add i 5
  have B1 : inB (nI (i + 1)) L = true := inB_nI (by omega) (by omega)
  have C1 : (nI (i + 1)).toNatClampNeg = i + 1 := nI_clamp (by omega)
  have B2 : inB (nI (i + 2)) L = true := inB_nI (by omega) (by omega)
  have C2 : (nI (i + 2)).toNatClampNeg = i + 2 := nI_clamp (by omega)
  have B3 : inB (nI (i + 3)) L = true := inB_nI (by omega) (by omega)
  have C3 : (nI (i + 3)).toNatClampNeg = i + 3 := nI_clamp (by omega)
  have B4 : inB (nI (i + 4)) L = true := inB_nI (by omega) (by omega)
  have C4 : (nI (i + 4)).toNatClampNeg = i + 4 := nI_clamp (by omega)
  have B5 : inB (nI (i + 5)) L = true := inB_nI (by omega) (by omega)
  have C5 : (nI (i + 5)).toNatClampNeg = i + 5 := nI_clamp (by omega)
  by_cases hzz : xs (i + 2) = 0
  · have ez : (xs (i + 2) = 0) = True := eq_true hzz
    have y1 := y_setPrivate (σ := σ) (v1 := xs (i + 1)) (p2 := false)
    have x1 := x_setPrivate (σ := σ) (T := T) (v1 := xs (i + 1)) (p2 := false) G
    have z1 := z_setPrivate (σ := σ) (v1 := xs (i + 1)) (p2 := false)
    obtain ⟨k1, k2, k3, k4, k5, k6, k7, k8, k9, k0⟩ := ar1 y1 (JJ_top x1 hT3) hc hn
    simp only [eL_law_272, eL_law_273, eL_law_274, eL_law_276, eL_law_277, eL_law_278, eL_law_279, eL_law_280, eL_law_282, eL_law_283, eL_law_284, eL_law_285, eL_law_288, eL_law_289, eL_law_292, eL_law_293, eL_law_294, isA_r, isA_n, isI_i, isF_f, isL_l, is1_i, is1_r, is1_n, is1_f, true_and, and_true, List.length_cons, List.length_nil, Nat.reduceAdd, Nat.reduceLeDiff, Nat.reduceSub, Option.some.injEq, exists_eq_left', aft_s, aft_n, ite_true, ite_false, if_true, if_false, Nat.zero_le, Nat.le_refl, reduceCtorEq, r0, i1, i2, i3, i4, i5, B1, B2, B3, B4, B5, C1, C2, C3, C4, C5, ez]
    refine invk (JJ (q_setPrivate σ (xs (i + 1)) false).2.2 - JJ σ + 400) (4 * (JJ (q_setPrivate σ (xs (i + 1)) false).2.2 - JJ σ + 400)) k1 k2 (h_setPrivate D J O  (v1 := xs (i + 1)) (p2 := false) k9 k0 (fun v' H1 J1 hv => ?_))
    have r1 : rdI E H1 b 0 = some (L, xs) := rdI_E (J1.fE b hbn) hb
    obtain ⟨M, R1, e1⟩ := J1.2.1
    simp only [eL_law_297, eL_law_299, eL_law_300, eL_law_301, eL_law_303, eL_law_304, eL_law_305, eL_law_306, eL_law_307, eL_law_309, eL_law_310, eL_law_311, eL_law_312, eL_law_315, eL_law_316, eL_law_319, eL_law_320, isA_r, isA_n, isI_i, isF_f, isL_l, is1_i, is1_r, is1_n, is1_f, true_and, and_true, List.length_cons, List.length_nil, Nat.reduceAdd, Nat.reduceLeDiff, Nat.reduceSub, Option.some.injEq, exists_eq_left', aft_s, aft_n, ite_true, ite_false, if_true, if_false, Nat.zero_le, Nat.le_refl, reduceCtorEq, r1, i1, i2, i3, i4, i5, B1, B2, B3, B4, B5, C1, C2, C3, C4, C5, ez]
    refine ⟨J1.mob, inv0 (crdm e1 (c_setPrivate (v := xs (i + 1)) (p := false) D.1 R1 O (fun M' R' => ?_)))⟩
    have J2 := J1.mod D R'
    generalize mv H1 mo ad M' = H2 at J2 ⊢
    obtain ⟨M2, R2, e2⟩ := J2.2.1
    simp only [eL_law_323, eL_law_325, eL_law_326, isA_r, isA_n, isI_i, isF_f, isL_l, is1_i, is1_r, is1_n, is1_f, true_and, and_true, List.length_cons, List.length_nil, Nat.reduceAdd, Nat.reduceLeDiff, Nat.reduceSub, Option.some.injEq, exists_eq_left', aft_s, aft_n, ite_true, ite_false, if_true, if_false, Nat.zero_le, Nat.le_refl, reduceCtorEq]
    refine ⟨J2.mob, inv0 (crdm e2 (c_thrown R2 ?_))⟩
    rw [e2]
    obtain ⟨f, q1, q2⟩ := J2.2.2.1
    by_cases hz : (q_setPrivate σ (xs (i + 1)) false).1 = 0
    · have e5 : (nI (q_setPrivate σ (xs (i + 1)) false).1 = 0) = True := by rw [hz]; exact eq_true rfl
      have hv := hv hz
      by_cases hb2 : (q_setPrivate σ (xs (i + 1)) false).2.1 = 0
      · have e6 : ((q_setPrivate σ (xs (i + 1)) false).2.1 = 0) = True := eq_true hb2
        rw [if_pos hb2] at hv
        simp only [eL_law_329, eL_law_331, eL_law_334, eL_law_335, eL_law_336, eL_law_338, eL_law_341, eL_law_342, eL_law_343, eL_law_344, eL_law_346, eL_law_349, eL_law_350, eL_law_353, eL_law_354, eL_law_355, eL_law_358, eL_law_359, eL_law_360, isA_r, isA_n, isI_i, isF_f, isL_l, is1_i, is1_r, is1_n, is1_f, true_and, and_true, List.length_cons, List.length_nil, Nat.reduceAdd, Nat.reduceLeDiff, Nat.reduceSub, Option.some.injEq, exists_eq_left', aft_s, aft_n, ite_true, ite_false, if_true, if_false, Nat.zero_le, Nat.le_refl, reduceCtorEq, eq_self, e5, e6, rdJ_of q1, b01_0, c0_0, q2, hv, lg_self]
        exact next _ _ _ _ _ _ _ _ _ J2 x1 k5 k6
      · have e6 : ((q_setPrivate σ (xs (i + 1)) false).2.1 = 0) = False := eq_false hb2
        rw [if_neg hb2] at hv
        simp only [eL_law_329, eL_law_331, eL_law_334, eL_law_335, eL_law_336, eL_law_338, eL_law_341, eL_law_342, eL_law_343, eL_law_344, eL_law_346, eL_law_349, eL_law_350, eL_law_353, eL_law_354, eL_law_355, eL_law_358, eL_law_359, eL_law_360, isA_r, isA_n, isI_i, isF_f, isL_l, is1_i, is1_r, is1_n, is1_f, true_and, and_true, List.length_cons, List.length_nil, Nat.reduceAdd, Nat.reduceLeDiff, Nat.reduceSub, Option.some.injEq, exists_eq_left', aft_s, aft_n, ite_true, ite_false, if_true, if_false, Nat.zero_le, Nat.le_refl, reduceCtorEq, eq_self, e5, e6, rdJ_of q1, b01_0, c0_0, q2, hv, lg_self]
        exact next _ _ _ _ _ _ _ _ _ J2 x1 k5 k6
    · have e5 : (nI (q_setPrivate σ (xs (i + 1)) false).1 = 0) = False := ar3 z1 hz
      simp only [eL_law_329, eL_law_331, eL_law_334, eL_law_335, eL_law_336, eL_law_338, eL_law_341, eL_law_342, eL_law_343, eL_law_344, eL_law_346, eL_law_349, eL_law_350, eL_law_353, eL_law_354, eL_law_355, eL_law_358, eL_law_359, eL_law_360, isA_r, isA_n, isI_i, isF_f, isL_l, is1_i, is1_r, is1_n, is1_f, true_and, and_true, List.length_cons, List.length_nil, Nat.reduceAdd, Nat.reduceLeDiff, Nat.reduceSub, Option.some.injEq, exists_eq_left', aft_s, aft_n, ite_true, ite_false, if_true, if_false, Nat.zero_le, Nat.le_refl, reduceCtorEq, eq_self, e5]
      exact next _ _ _ _ _ _ _ _ _ J2 x1 k5 k6
  · have ez : (xs (i + 2) = 0) = False := eq_false hzz
    have y1 := y_setPrivate (σ := σ) (v1 := xs (i + 1)) (p2 := true)
    have x1 := x_setPrivate (σ := σ) (T := T) (v1 := xs (i + 1)) (p2 := true) G
    have z1 := z_setPrivate (σ := σ) (v1 := xs (i + 1)) (p2 := true)
    obtain ⟨k1, k2, k3, k4, k5, k6, k7, k8, k9, k0⟩ := ar1 y1 (JJ_top x1 hT3) hc hn
    simp only [eL_law_272, eL_law_273, eL_law_274, eL_law_276, eL_law_277, eL_law_278, eL_law_279, eL_law_280, eL_law_282, eL_law_283, eL_law_284, eL_law_285, eL_law_288, eL_law_289, eL_law_292, eL_law_293, eL_law_294, isA_r, isA_n, isI_i, isF_f, isL_l, is1_i, is1_r, is1_n, is1_f, true_and, and_true, List.length_cons, List.length_nil, Nat.reduceAdd, Nat.reduceLeDiff, Nat.reduceSub, Option.some.injEq, exists_eq_left', aft_s, aft_n, ite_true, ite_false, if_true, if_false, Nat.zero_le, Nat.le_refl, reduceCtorEq, r0, i1, i2, i3, i4, i5, B1, B2, B3, B4, B5, C1, C2, C3, C4, C5, ez]
    refine invk (JJ (q_setPrivate σ (xs (i + 1)) true).2.2 - JJ σ + 400) (4 * (JJ (q_setPrivate σ (xs (i + 1)) true).2.2 - JJ σ + 400)) k1 k2 (h_setPrivate D J O  (v1 := xs (i + 1)) (p2 := true) k9 k0 (fun v' H1 J1 hv => ?_))
    have r1 : rdI E H1 b 0 = some (L, xs) := rdI_E (J1.fE b hbn) hb
    obtain ⟨M, R1, e1⟩ := J1.2.1
    simp only [eL_law_297, eL_law_299, eL_law_300, eL_law_301, eL_law_303, eL_law_304, eL_law_305, eL_law_306, eL_law_307, eL_law_309, eL_law_310, eL_law_311, eL_law_312, eL_law_315, eL_law_316, eL_law_319, eL_law_320, isA_r, isA_n, isI_i, isF_f, isL_l, is1_i, is1_r, is1_n, is1_f, true_and, and_true, List.length_cons, List.length_nil, Nat.reduceAdd, Nat.reduceLeDiff, Nat.reduceSub, Option.some.injEq, exists_eq_left', aft_s, aft_n, ite_true, ite_false, if_true, if_false, Nat.zero_le, Nat.le_refl, reduceCtorEq, r1, i1, i2, i3, i4, i5, B1, B2, B3, B4, B5, C1, C2, C3, C4, C5, ez]
    refine ⟨J1.mob, inv0 (crdm e1 (c_setPrivate (v := xs (i + 1)) (p := true) D.1 R1 O (fun M' R' => ?_)))⟩
    have J2 := J1.mod D R'
    generalize mv H1 mo ad M' = H2 at J2 ⊢
    obtain ⟨M2, R2, e2⟩ := J2.2.1
    simp only [eL_law_323, eL_law_325, eL_law_326, isA_r, isA_n, isI_i, isF_f, isL_l, is1_i, is1_r, is1_n, is1_f, true_and, and_true, List.length_cons, List.length_nil, Nat.reduceAdd, Nat.reduceLeDiff, Nat.reduceSub, Option.some.injEq, exists_eq_left', aft_s, aft_n, ite_true, ite_false, if_true, if_false, Nat.zero_le, Nat.le_refl, reduceCtorEq]
    refine ⟨J2.mob, inv0 (crdm e2 (c_thrown R2 ?_))⟩
    rw [e2]
    obtain ⟨f, q1, q2⟩ := J2.2.2.1
    by_cases hz : (q_setPrivate σ (xs (i + 1)) true).1 = 0
    · have e5 : (nI (q_setPrivate σ (xs (i + 1)) true).1 = 0) = True := by rw [hz]; exact eq_true rfl
      have hv := hv hz
      by_cases hb2 : (q_setPrivate σ (xs (i + 1)) true).2.1 = 0
      · have e6 : ((q_setPrivate σ (xs (i + 1)) true).2.1 = 0) = True := eq_true hb2
        rw [if_pos hb2] at hv
        simp only [eL_law_329, eL_law_331, eL_law_334, eL_law_335, eL_law_336, eL_law_338, eL_law_341, eL_law_342, eL_law_343, eL_law_344, eL_law_346, eL_law_349, eL_law_350, eL_law_353, eL_law_354, eL_law_355, eL_law_358, eL_law_359, eL_law_360, isA_r, isA_n, isI_i, isF_f, isL_l, is1_i, is1_r, is1_n, is1_f, true_and, and_true, List.length_cons, List.length_nil, Nat.reduceAdd, Nat.reduceLeDiff, Nat.reduceSub, Option.some.injEq, exists_eq_left', aft_s, aft_n, ite_true, ite_false, if_true, if_false, Nat.zero_le, Nat.le_refl, reduceCtorEq, eq_self, e5, e6, rdJ_of q1, b01_0, c0_0, q2, hv, lg_self]
        exact next _ _ _ _ _ _ _ _ _ J2 x1 k5 k6
      · have e6 : ((q_setPrivate σ (xs (i + 1)) true).2.1 = 0) = False := eq_false hb2
        rw [if_neg hb2] at hv
        simp only [eL_law_329, eL_law_331, eL_law_334, eL_law_335, eL_law_336, eL_law_338, eL_law_341, eL_law_342, eL_law_343, eL_law_344, eL_law_346, eL_law_349, eL_law_350, eL_law_353, eL_law_354, eL_law_355, eL_law_358, eL_law_359, eL_law_360, isA_r, isA_n, isI_i, isF_f, isL_l, is1_i, is1_r, is1_n, is1_f, true_and, and_true, List.length_cons, List.length_nil, Nat.reduceAdd, Nat.reduceLeDiff, Nat.reduceSub, Option.some.injEq, exists_eq_left', aft_s, aft_n, ite_true, ite_false, if_true, if_false, Nat.zero_le, Nat.le_refl, reduceCtorEq, eq_self, e5, e6, rdJ_of q1, b01_0, c0_0, q2, hv, lg_self]
        exact next _ _ _ _ _ _ _ _ _ J2 x1 k5 k6
    · have e5 : (nI (q_setPrivate σ (xs (i + 1)) true).1 = 0) = False := ar3 z1 hz
      simp only [eL_law_329, eL_law_331, eL_law_334, eL_law_335, eL_law_336, eL_law_338, eL_law_341, eL_law_342, eL_law_343, eL_law_344, eL_law_346, eL_law_349, eL_law_350, eL_law_353, eL_law_354, eL_law_355, eL_law_358, eL_law_359, eL_law_360, isA_r, isA_n, isI_i, isF_f, isL_l, is1_i, is1_r, is1_n, is1_f, true_and, and_true, List.length_cons, List.length_nil, Nat.reduceAdd, Nat.reduceLeDiff, Nat.reduceSub, Option.some.injEq, exists_eq_left', aft_s, aft_n, ite_true, ite_false, if_true, if_false, Nat.zero_le, Nat.le_refl, reduceCtorEq, eq_self, e5]
      exact next _ _ _ _ _ _ _ _ _ J2 x1 k5 k6
theorem w_drop (D : LD mo ad ra rD) (hb : E.1 b = some (arI L xs)) (hL : L ≤ 3072) (hi : i + 6 ≤ L) (J : LJ E x mo ad ra rD σ σ th v w H) (G : Good σ T) (hT : T + 200 < 16384) (hc : 16384 + 420 * (R + 1) ≤ JJ σ + c) (hn : 65536 + 1700 * (R + 1) ≤ 4 * JJ σ + n) (next : NX E d K b x mo ad ra rD i T R) : Ev E (d + 14) mL_law K 363 [.ref b, .ref x, .ref mo, .ref ra, .ref rD, .int (nI i), a6, a7] [] H c n := by
  have hbn : E.1 b ≠ none := by rw [hb]; simp
  have O := G.1
  have hjl := G.2.1.len O.J
  have hj16 : (s_jn σ).length ≤ 16384 := Nat.le_trans hjl (by omega)
  have hj32 : (s_jn σ).length < 32000 := Nat.lt_of_le_of_lt hj16 (by decide)
  have hT6 : T + 60 + 1 < 31000 := by omega
  have hT9 : T < 30900 := by omega
  have hT1 : T + 61 < 30999 := by omega
  have hT3 : T + 30 + 60 ≤ 16384 := by omega
  have r0 : rdI E H b 0 = some (L, xs) := rdI_E (J.fE b hbn) hb
  have i1 : nI i + 1 = nI (i + 1) := nI_1 i
  have i2 : nI i + 2 = nI (i + 2) := nI_add i 2
  have i3 : nI i + 3 = nI (i + 3) := nI_add i 3
  have i4 : nI i + 4 = nI (i + 4) := nI_add i 4
  have i5 : nI i + 5 = nI (i + 5) := nI_add i 5
  have B1 : inB (nI (i + 1)) L = true := inB_nI (by omega) (by omega)
  have C1 : (nI (i + 1)).toNatClampNeg = i + 1 := nI_clamp (by omega)
  have B2 : inB (nI (i + 2)) L = true := inB_nI (by omega) (by omega)
  have C2 : (nI (i + 2)).toNatClampNeg = i + 2 := nI_clamp (by omega)
  have B3 : inB (nI (i + 3)) L = true := inB_nI (by omega) (by omega)
  have C3 : (nI (i + 3)).toNatClampNeg = i + 3 := nI_clamp (by omega)
  have B4 : inB (nI (i + 4)) L = true := inB_nI (by omega) (by omega)
  have C4 : (nI (i + 4)).toNatClampNeg = i + 4 := nI_clamp (by omega)
  have B5 : inB (nI (i + 5)) L = true := inB_nI (by omega) (by omega)
  have C5 : (nI (i + 5)).toNatClampNeg = i + 5 := nI_clamp (by omega)
  have y1 := y_drop (σ := σ) (v1 := xs (i + 1))
  have x1 := x_drop (σ := σ) (T := T) (v1 := xs (i + 1)) G
  have z1 := z_drop (σ := σ) (v1 := xs (i + 1))
  obtain ⟨k1, k2, k3, k4, k5, k6, k7, k8, k9, k0⟩ := ar1 y1 (JJ_top x1 hT3) hc hn
  simp only [eL_law_363, eL_law_364, eL_law_365, eL_law_367, eL_law_368, eL_law_369, eL_law_370, eL_law_371, isA_r, isA_n, isI_i, isF_f, isL_l, is1_i, is1_r, is1_n, is1_f, true_and, and_true, List.length_cons, List.length_nil, Nat.reduceAdd, Nat.reduceLeDiff, Nat.reduceSub, Option.some.injEq, exists_eq_left', aft_s, aft_n, ite_true, ite_false, if_true, if_false, Nat.zero_le, Nat.le_refl, reduceCtorEq, r0, i1, i2, i3, i4, i5, B1, B2, B3, B4, B5, C1, C2, C3, C4, C5]
  refine invk (JJ (a_drop σ (xs (i + 1))).2.2 - JJ σ + 400) (4 * (JJ (a_drop σ (xs (i + 1))).2.2 - JJ σ + 400)) k1 k2 (h_drop D J G hT  (v1 := xs (i + 1)) k3 k4 (fun v' H1 J1 hv => ?_))
  have r1 : rdI E H1 b 0 = some (L, xs) := rdI_E (J1.fE b hbn) hb
  obtain ⟨M, R1, e1⟩ := J1.2.1
  simp only [eL_law_374, eL_law_376, eL_law_377, eL_law_378, eL_law_380, eL_law_381, eL_law_382, eL_law_383, isA_r, isA_n, isI_i, isF_f, isL_l, is1_i, is1_r, is1_n, is1_f, true_and, and_true, List.length_cons, List.length_nil, Nat.reduceAdd, Nat.reduceLeDiff, Nat.reduceSub, Option.some.injEq, exists_eq_left', aft_s, aft_n, ite_true, ite_false, if_true, if_false, Nat.zero_le, Nat.le_refl, reduceCtorEq, r1, i1, i2, i3, i4, i5, B1, B2, B3, B4, B5, C1, C2, C3, C4, C5]
  refine ⟨J1.mob, inv0 (crdm e1 (c_drop (v := xs (i + 1)) D.1 R1 O (B := T + 60) hT6 hjl (fun M' R' => ?_)))⟩
  have J2 := J1.mod D R'
  generalize mv H1 mo ad M' = H2 at J2 ⊢
  obtain ⟨M2, R2, e2⟩ := J2.2.1
  simp only [eL_law_386, eL_law_388, eL_law_389, isA_r, isA_n, isI_i, isF_f, isL_l, is1_i, is1_r, is1_n, is1_f, true_and, and_true, List.length_cons, List.length_nil, Nat.reduceAdd, Nat.reduceLeDiff, Nat.reduceSub, Option.some.injEq, exists_eq_left', aft_s, aft_n, ite_true, ite_false, if_true, if_false, Nat.zero_le, Nat.le_refl, reduceCtorEq]
  refine ⟨J2.mob, inv0 (crdm e2 (c_thrown R2 ?_))⟩
  rw [e2]
  obtain ⟨f, q1, q2⟩ := J2.2.2.1
  by_cases hz : (a_drop σ (xs (i + 1))).1 = 0
  · have e5 : (nI (a_drop σ (xs (i + 1))).1 = 0) = True := by rw [hz]; exact eq_true rfl
    have hv := hv hz
    simp only [eL_law_392, eL_law_394, eL_law_397, eL_law_398, eL_law_399, eL_law_401, eL_law_404, eL_law_405, eL_law_406, eL_law_407, eL_law_409, eL_law_410, eL_law_411, eL_law_414, eL_law_415, eL_law_416, isA_r, isA_n, isI_i, isF_f, isL_l, is1_i, is1_r, is1_n, is1_f, true_and, and_true, List.length_cons, List.length_nil, Nat.reduceAdd, Nat.reduceLeDiff, Nat.reduceSub, Option.some.injEq, exists_eq_left', aft_s, aft_n, ite_true, ite_false, if_true, if_false, Nat.zero_le, Nat.le_refl, reduceCtorEq, eq_self, e5, rdJ_of q1, b01_0, c0_0, q2, hv, lg_self]
    exact next _ _ _ _ _ _ _ _ _ J2 x1 k5 k6
  · have e5 : (nI (a_drop σ (xs (i + 1))).1 = 0) = False := ar3 z1 hz
    simp only [eL_law_392, eL_law_394, eL_law_397, eL_law_398, eL_law_399, eL_law_401, eL_law_404, eL_law_405, eL_law_406, eL_law_407, eL_law_409, eL_law_410, eL_law_411, eL_law_414, eL_law_415, eL_law_416, isA_r, isA_n, isI_i, isF_f, isL_l, is1_i, is1_r, is1_n, is1_f, true_and, and_true, List.length_cons, List.length_nil, Nat.reduceAdd, Nat.reduceLeDiff, Nat.reduceSub, Option.some.injEq, exists_eq_left', aft_s, aft_n, ite_true, ite_false, if_true, if_false, Nat.zero_le, Nat.le_refl, reduceCtorEq, eq_self, e5]
    exact next _ _ _ _ _ _ _ _ _ J2 x1 k5 k6
theorem w_takeUp (D : LD mo ad ra rD) (hb : E.1 b = some (arI L xs)) (hL : L ≤ 3072) (hi : i + 6 ≤ L) (J : LJ E x mo ad ra rD σ σ th v w H) (G : Good σ T) (hT : T + 200 < 16384) (hc : 16384 + 420 * (R + 1) ≤ JJ σ + c) (hn : 65536 + 1700 * (R + 1) ≤ 4 * JJ σ + n) (next : NX E d K b x mo ad ra rD i T R) : Ev E (d + 14) mL_law K 419 [.ref b, .ref x, .ref mo, .ref ra, .ref rD, .int (nI i), a6, a7] [] H c n := by
  have hbn : E.1 b ≠ none := by rw [hb]; simp
  have O := G.1
  have hjl := G.2.1.len O.J
  have hj16 : (s_jn σ).length ≤ 16384 := Nat.le_trans hjl (by omega)
  have hj32 : (s_jn σ).length < 32000 := Nat.lt_of_le_of_lt hj16 (by decide)
  have hT6 : T + 60 + 1 < 31000 := by omega
  have hT9 : T < 30900 := by omega
  have hT1 : T + 61 < 30999 := by omega
  have hT3 : T + 30 + 60 ≤ 16384 := by omega
  have r0 : rdI E H b 0 = some (L, xs) := rdI_E (J.fE b hbn) hb
  have i1 : nI i + 1 = nI (i + 1) := nI_1 i
  have i2 : nI i + 2 = nI (i + 2) := nI_add i 2
  have i3 : nI i + 3 = nI (i + 3) := nI_add i 3
  have i4 : nI i + 4 = nI (i + 4) := nI_add i 4
  have i5 : nI i + 5 = nI (i + 5) := nI_add i 5
  have B1 : inB (nI (i + 1)) L = true := inB_nI (by omega) (by omega)
  have C1 : (nI (i + 1)).toNatClampNeg = i + 1 := nI_clamp (by omega)
  have B2 : inB (nI (i + 2)) L = true := inB_nI (by omega) (by omega)
  have C2 : (nI (i + 2)).toNatClampNeg = i + 2 := nI_clamp (by omega)
  have B3 : inB (nI (i + 3)) L = true := inB_nI (by omega) (by omega)
  have C3 : (nI (i + 3)).toNatClampNeg = i + 3 := nI_clamp (by omega)
  have B4 : inB (nI (i + 4)) L = true := inB_nI (by omega) (by omega)
  have C4 : (nI (i + 4)).toNatClampNeg = i + 4 := nI_clamp (by omega)
  have B5 : inB (nI (i + 5)) L = true := inB_nI (by omega) (by omega)
  have C5 : (nI (i + 5)).toNatClampNeg = i + 5 := nI_clamp (by omega)
  have y1 := y_takeUp (σ := σ) (v1 := xs (i + 1))
  have x1 := x_takeUp (σ := σ) (T := T) (v1 := xs (i + 1)) G
  have z1 := z_takeUp (σ := σ) (v1 := xs (i + 1))
  obtain ⟨k1, k2, k3, k4, k5, k6, k7, k8, k9, k0⟩ := ar1 y1 (JJ_top x1 hT3) hc hn
  simp only [eL_law_419, eL_law_420, eL_law_421, eL_law_423, eL_law_424, eL_law_425, eL_law_426, eL_law_427, isA_r, isA_n, isI_i, isF_f, isL_l, is1_i, is1_r, is1_n, is1_f, true_and, and_true, List.length_cons, List.length_nil, Nat.reduceAdd, Nat.reduceLeDiff, Nat.reduceSub, Option.some.injEq, exists_eq_left', aft_s, aft_n, ite_true, ite_false, if_true, if_false, Nat.zero_le, Nat.le_refl, reduceCtorEq, r0, i1, i2, i3, i4, i5, B1, B2, B3, B4, B5, C1, C2, C3, C4, C5]
  refine invk (JJ (a_takeUp σ (xs (i + 1))).2.2 - JJ σ + 400) (4 * (JJ (a_takeUp σ (xs (i + 1))).2.2 - JJ σ + 400)) k1 k2 (h_takeUp D J G hT  (v1 := xs (i + 1)) k3 k4 (fun v' H1 J1 hv => ?_))
  have r1 : rdI E H1 b 0 = some (L, xs) := rdI_E (J1.fE b hbn) hb
  obtain ⟨M, R1, e1⟩ := J1.2.1
  simp only [eL_law_430, eL_law_432, eL_law_433, eL_law_434, eL_law_436, eL_law_437, eL_law_438, eL_law_439, isA_r, isA_n, isI_i, isF_f, isL_l, is1_i, is1_r, is1_n, is1_f, true_and, and_true, List.length_cons, List.length_nil, Nat.reduceAdd, Nat.reduceLeDiff, Nat.reduceSub, Option.some.injEq, exists_eq_left', aft_s, aft_n, ite_true, ite_false, if_true, if_false, Nat.zero_le, Nat.le_refl, reduceCtorEq, r1, i1, i2, i3, i4, i5, B1, B2, B3, B4, B5, C1, C2, C3, C4, C5]
  refine ⟨J1.mob, inv0 (crdm e1 (c_takeUp (v := xs (i + 1)) D.1 R1 O (B := T + 60) hT6 hjl (fun M' R' => ?_)))⟩
  have J2 := J1.mod D R'
  generalize mv H1 mo ad M' = H2 at J2 ⊢
  obtain ⟨M2, R2, e2⟩ := J2.2.1
  simp only [eL_law_442, eL_law_444, eL_law_445, isA_r, isA_n, isI_i, isF_f, isL_l, is1_i, is1_r, is1_n, is1_f, true_and, and_true, List.length_cons, List.length_nil, Nat.reduceAdd, Nat.reduceLeDiff, Nat.reduceSub, Option.some.injEq, exists_eq_left', aft_s, aft_n, ite_true, ite_false, if_true, if_false, Nat.zero_le, Nat.le_refl, reduceCtorEq]
  refine ⟨J2.mob, inv0 (crdm e2 (c_thrown R2 ?_))⟩
  rw [e2]
  obtain ⟨f, q1, q2⟩ := J2.2.2.1
  by_cases hz : (a_takeUp σ (xs (i + 1))).1 = 0
  · have e5 : (nI (a_takeUp σ (xs (i + 1))).1 = 0) = True := by rw [hz]; exact eq_true rfl
    have hv := hv hz
    simp only [eL_law_448, eL_law_450, eL_law_453, eL_law_454, eL_law_455, eL_law_457, eL_law_460, eL_law_461, eL_law_462, eL_law_463, eL_law_465, eL_law_466, eL_law_467, eL_law_470, eL_law_471, eL_law_472, isA_r, isA_n, isI_i, isF_f, isL_l, is1_i, is1_r, is1_n, is1_f, true_and, and_true, List.length_cons, List.length_nil, Nat.reduceAdd, Nat.reduceLeDiff, Nat.reduceSub, Option.some.injEq, exists_eq_left', aft_s, aft_n, ite_true, ite_false, if_true, if_false, Nat.zero_le, Nat.le_refl, reduceCtorEq, eq_self, e5, rdJ_of q1, b01_0, c0_0, q2, hv, lg_self]
    exact next _ _ _ _ _ _ _ _ _ J2 x1 k5 k6
  · have e5 : (nI (a_takeUp σ (xs (i + 1))).1 = 0) = False := ar3 z1 hz
    simp only [eL_law_448, eL_law_450, eL_law_453, eL_law_454, eL_law_455, eL_law_457, eL_law_460, eL_law_461, eL_law_462, eL_law_463, eL_law_465, eL_law_466, eL_law_467, eL_law_470, eL_law_471, eL_law_472, isA_r, isA_n, isI_i, isF_f, isL_l, is1_i, is1_r, is1_n, is1_f, true_and, and_true, List.length_cons, List.length_nil, Nat.reduceAdd, Nat.reduceLeDiff, Nat.reduceSub, Option.some.injEq, exists_eq_left', aft_s, aft_n, ite_true, ite_false, if_true, if_false, Nat.zero_le, Nat.le_refl, reduceCtorEq, eq_self, e5]
    exact next _ _ _ _ _ _ _ _ _ J2 x1 k5 k6
theorem w_isAttached (D : LD mo ad ra rD) (hb : E.1 b = some (arI L xs)) (hL : L ≤ 3072) (hi : i + 6 ≤ L) (J : LJ E x mo ad ra rD σ σ th v w H) (G : Good σ T) (hT : T + 200 < 16384) (hc : 16384 + 420 * (R + 1) ≤ JJ σ + c) (hn : 65536 + 1700 * (R + 1) ≤ 4 * JJ σ + n) (next : NX E d K b x mo ad ra rD i T R) : Ev E (d + 14) mL_law K 475 [.ref b, .ref x, .ref mo, .ref ra, .ref rD, .int (nI i), a6, a7] [] H c n := by
  have hbn : E.1 b ≠ none := by rw [hb]; simp
  have O := G.1
  have hjl := G.2.1.len O.J
  have hj16 : (s_jn σ).length ≤ 16384 := Nat.le_trans hjl (by omega)
  have hj32 : (s_jn σ).length < 32000 := Nat.lt_of_le_of_lt hj16 (by decide)
  have hT6 : T + 60 + 1 < 31000 := by omega
  have hT9 : T < 30900 := by omega
  have hT1 : T + 61 < 30999 := by omega
  have hT3 : T + 30 + 60 ≤ 16384 := by omega
  have r0 : rdI E H b 0 = some (L, xs) := rdI_E (J.fE b hbn) hb
  have i1 : nI i + 1 = nI (i + 1) := nI_1 i
  have i2 : nI i + 2 = nI (i + 2) := nI_add i 2
  have i3 : nI i + 3 = nI (i + 3) := nI_add i 3
  have i4 : nI i + 4 = nI (i + 4) := nI_add i 4
  have i5 : nI i + 5 = nI (i + 5) := nI_add i 5
  have B1 : inB (nI (i + 1)) L = true := inB_nI (by omega) (by omega)
  have C1 : (nI (i + 1)).toNatClampNeg = i + 1 := nI_clamp (by omega)
  have B2 : inB (nI (i + 2)) L = true := inB_nI (by omega) (by omega)
  have C2 : (nI (i + 2)).toNatClampNeg = i + 2 := nI_clamp (by omega)
  have B3 : inB (nI (i + 3)) L = true := inB_nI (by omega) (by omega)
  have C3 : (nI (i + 3)).toNatClampNeg = i + 3 := nI_clamp (by omega)
  have B4 : inB (nI (i + 4)) L = true := inB_nI (by omega) (by omega)
  have C4 : (nI (i + 4)).toNatClampNeg = i + 4 := nI_clamp (by omega)
  have B5 : inB (nI (i + 5)) L = true := inB_nI (by omega) (by omega)
  have C5 : (nI (i + 5)).toNatClampNeg = i + 5 := nI_clamp (by omega)
  have y1 := y_isAttached (σ := σ) (v1 := xs (i + 1))
  have x1 := x_isAttached (σ := σ) (T := T) (v1 := xs (i + 1)) G
  have z1 := z_isAttached (σ := σ) (v1 := xs (i + 1))
  obtain ⟨k1, k2, k3, k4, k5, k6, k7, k8, k9, k0⟩ := ar1 y1 (JJ_top x1 hT3) hc hn
  simp only [eL_law_475, eL_law_476, eL_law_477, eL_law_479, eL_law_480, eL_law_481, eL_law_482, eL_law_483, isA_r, isA_n, isI_i, isF_f, isL_l, is1_i, is1_r, is1_n, is1_f, true_and, and_true, List.length_cons, List.length_nil, Nat.reduceAdd, Nat.reduceLeDiff, Nat.reduceSub, Option.some.injEq, exists_eq_left', aft_s, aft_n, ite_true, ite_false, if_true, if_false, Nat.zero_le, Nat.le_refl, reduceCtorEq, r0, i1, i2, i3, i4, i5, B1, B2, B3, B4, B5, C1, C2, C3, C4, C5]
  refine invk (JJ (q_isAttached σ (xs (i + 1))).2.2 - JJ σ + 400) (4 * (JJ (q_isAttached σ (xs (i + 1))).2.2 - JJ σ + 400)) k1 k2 (h_isAttached D J O  (v1 := xs (i + 1)) k9 k0 (fun v' H1 J1 hv => ?_))
  have r1 : rdI E H1 b 0 = some (L, xs) := rdI_E (J1.fE b hbn) hb
  obtain ⟨M, R1, e1⟩ := J1.2.1
  simp only [eL_law_486, eL_law_488, eL_law_489, eL_law_490, eL_law_492, eL_law_493, eL_law_494, eL_law_495, isA_r, isA_n, isI_i, isF_f, isL_l, is1_i, is1_r, is1_n, is1_f, true_and, and_true, List.length_cons, List.length_nil, Nat.reduceAdd, Nat.reduceLeDiff, Nat.reduceSub, Option.some.injEq, exists_eq_left', aft_s, aft_n, ite_true, ite_false, if_true, if_false, Nat.zero_le, Nat.le_refl, reduceCtorEq, r1, i1, i2, i3, i4, i5, B1, B2, B3, B4, B5, C1, C2, C3, C4, C5]
  refine ⟨J1.mob, inv0 (crdm e1 (c_isAttached (v := xs (i + 1)) D.1 R1 O (fun M' R' => ?_)))⟩
  have J2 := J1.mod D R'
  generalize mv H1 mo ad M' = H2 at J2 ⊢
  obtain ⟨M2, R2, e2⟩ := J2.2.1
  simp only [eL_law_498, eL_law_500, eL_law_501, isA_r, isA_n, isI_i, isF_f, isL_l, is1_i, is1_r, is1_n, is1_f, true_and, and_true, List.length_cons, List.length_nil, Nat.reduceAdd, Nat.reduceLeDiff, Nat.reduceSub, Option.some.injEq, exists_eq_left', aft_s, aft_n, ite_true, ite_false, if_true, if_false, Nat.zero_le, Nat.le_refl, reduceCtorEq]
  refine ⟨J2.mob, inv0 (crdm e2 (c_thrown R2 ?_))⟩
  rw [e2]
  obtain ⟨f, q1, q2⟩ := J2.2.2.1
  by_cases hz : (q_isAttached σ (xs (i + 1))).1 = 0
  · have e5 : (nI (q_isAttached σ (xs (i + 1))).1 = 0) = True := by rw [hz]; exact eq_true rfl
    have hv := hv hz
    by_cases hb2 : (q_isAttached σ (xs (i + 1))).2.1 = 0
    · have e6 : ((q_isAttached σ (xs (i + 1))).2.1 = 0) = True := eq_true hb2
      rw [if_pos hb2] at hv
      simp only [eL_law_504, eL_law_506, eL_law_509, eL_law_510, eL_law_511, eL_law_513, eL_law_516, eL_law_517, eL_law_518, eL_law_519, eL_law_521, eL_law_524, eL_law_525, eL_law_528, eL_law_529, eL_law_530, eL_law_533, eL_law_534, eL_law_535, isA_r, isA_n, isI_i, isF_f, isL_l, is1_i, is1_r, is1_n, is1_f, true_and, and_true, List.length_cons, List.length_nil, Nat.reduceAdd, Nat.reduceLeDiff, Nat.reduceSub, Option.some.injEq, exists_eq_left', aft_s, aft_n, ite_true, ite_false, if_true, if_false, Nat.zero_le, Nat.le_refl, reduceCtorEq, eq_self, e5, e6, rdJ_of q1, b01_0, c0_0, q2, hv, lg_self]
      exact next _ _ _ _ _ _ _ _ _ J2 x1 k5 k6
    · have e6 : ((q_isAttached σ (xs (i + 1))).2.1 = 0) = False := eq_false hb2
      rw [if_neg hb2] at hv
      simp only [eL_law_504, eL_law_506, eL_law_509, eL_law_510, eL_law_511, eL_law_513, eL_law_516, eL_law_517, eL_law_518, eL_law_519, eL_law_521, eL_law_524, eL_law_525, eL_law_528, eL_law_529, eL_law_530, eL_law_533, eL_law_534, eL_law_535, isA_r, isA_n, isI_i, isF_f, isL_l, is1_i, is1_r, is1_n, is1_f, true_and, and_true, List.length_cons, List.length_nil, Nat.reduceAdd, Nat.reduceLeDiff, Nat.reduceSub, Option.some.injEq, exists_eq_left', aft_s, aft_n, ite_true, ite_false, if_true, if_false, Nat.zero_le, Nat.le_refl, reduceCtorEq, eq_self, e5, e6, rdJ_of q1, b01_0, c0_0, q2, hv, lg_self]
      exact next _ _ _ _ _ _ _ _ _ J2 x1 k5 k6
  · have e5 : (nI (q_isAttached σ (xs (i + 1))).1 = 0) = False := ar3 z1 hz
    simp only [eL_law_504, eL_law_506, eL_law_509, eL_law_510, eL_law_511, eL_law_513, eL_law_516, eL_law_517, eL_law_518, eL_law_519, eL_law_521, eL_law_524, eL_law_525, eL_law_528, eL_law_529, eL_law_530, eL_law_533, eL_law_534, eL_law_535, isA_r, isA_n, isI_i, isF_f, isL_l, is1_i, is1_r, is1_n, is1_f, true_and, and_true, List.length_cons, List.length_nil, Nat.reduceAdd, Nat.reduceLeDiff, Nat.reduceSub, Option.some.injEq, exists_eq_left', aft_s, aft_n, ite_true, ite_false, if_true, if_false, Nat.zero_le, Nat.le_refl, reduceCtorEq, eq_self, e5]
    exact next _ _ _ _ _ _ _ _ _ J2 x1 k5 k6
theorem w_kept (D : LD mo ad ra rD) (hb : E.1 b = some (arI L xs)) (hL : L ≤ 3072) (hi : i + 6 ≤ L) (J : LJ E x mo ad ra rD σ σ th v w H) (G : Good σ T) (hT : T + 200 < 16384) (hc : 16384 + 420 * (R + 1) ≤ JJ σ + c) (hn : 65536 + 1700 * (R + 1) ≤ 4 * JJ σ + n) (next : NX E d K b x mo ad ra rD i T R) : Ev E (d + 14) mL_law K 538 [.ref b, .ref x, .ref mo, .ref ra, .ref rD, .int (nI i), a6, a7] [] H c n := by
  have hbn : E.1 b ≠ none := by rw [hb]; simp
  have O := G.1
  have hjl := G.2.1.len O.J
  have hj16 : (s_jn σ).length ≤ 16384 := Nat.le_trans hjl (by omega)
  have hj32 : (s_jn σ).length < 32000 := Nat.lt_of_le_of_lt hj16 (by decide)
  have hT6 : T + 60 + 1 < 31000 := by omega
  have hT9 : T < 30900 := by omega
  have hT1 : T + 61 < 30999 := by omega
  have hT3 : T + 30 + 60 ≤ 16384 := by omega
  have r0 : rdI E H b 0 = some (L, xs) := rdI_E (J.fE b hbn) hb
  have i1 : nI i + 1 = nI (i + 1) := nI_1 i
  have i2 : nI i + 2 = nI (i + 2) := nI_add i 2
  have i3 : nI i + 3 = nI (i + 3) := nI_add i 3
  have i4 : nI i + 4 = nI (i + 4) := nI_add i 4
  have i5 : nI i + 5 = nI (i + 5) := nI_add i 5
  have B1 : inB (nI (i + 1)) L = true := inB_nI (by omega) (by omega)
  have C1 : (nI (i + 1)).toNatClampNeg = i + 1 := nI_clamp (by omega)
  have B2 : inB (nI (i + 2)) L = true := inB_nI (by omega) (by omega)
  have C2 : (nI (i + 2)).toNatClampNeg = i + 2 := nI_clamp (by omega)
  have B3 : inB (nI (i + 3)) L = true := inB_nI (by omega) (by omega)
  have C3 : (nI (i + 3)).toNatClampNeg = i + 3 := nI_clamp (by omega)
  have B4 : inB (nI (i + 4)) L = true := inB_nI (by omega) (by omega)
  have C4 : (nI (i + 4)).toNatClampNeg = i + 4 := nI_clamp (by omega)
  have B5 : inB (nI (i + 5)) L = true := inB_nI (by omega) (by omega)
  have C5 : (nI (i + 5)).toNatClampNeg = i + 5 := nI_clamp (by omega)
  have y1 := y_kept (σ := σ) (v1 := xs (i + 1))
  have x1 := x_kept (σ := σ) (T := T) (v1 := xs (i + 1)) G
  have z1 := z_kept (σ := σ) (v1 := xs (i + 1))
  obtain ⟨k1, k2, k3, k4, k5, k6, k7, k8, k9, k0⟩ := ar1 y1 (JJ_top x1 hT3) hc hn
  simp only [eL_law_538, eL_law_539, eL_law_540, eL_law_542, eL_law_543, eL_law_544, eL_law_545, eL_law_546, isA_r, isA_n, isI_i, isF_f, isL_l, is1_i, is1_r, is1_n, is1_f, true_and, and_true, List.length_cons, List.length_nil, Nat.reduceAdd, Nat.reduceLeDiff, Nat.reduceSub, Option.some.injEq, exists_eq_left', aft_s, aft_n, ite_true, ite_false, if_true, if_false, Nat.zero_le, Nat.le_refl, reduceCtorEq, r0, i1, i2, i3, i4, i5, B1, B2, B3, B4, B5, C1, C2, C3, C4, C5]
  refine invk (JJ (q_kept σ (xs (i + 1))).2.2 - JJ σ + 400) (4 * (JJ (q_kept σ (xs (i + 1))).2.2 - JJ σ + 400)) k1 k2 (h_kept D J O  (v1 := xs (i + 1)) k9 k0 (fun v' H1 J1 hv => ?_))
  have r1 : rdI E H1 b 0 = some (L, xs) := rdI_E (J1.fE b hbn) hb
  obtain ⟨M, R1, e1⟩ := J1.2.1
  simp only [eL_law_549, eL_law_551, eL_law_552, eL_law_553, eL_law_555, eL_law_556, eL_law_557, eL_law_558, isA_r, isA_n, isI_i, isF_f, isL_l, is1_i, is1_r, is1_n, is1_f, true_and, and_true, List.length_cons, List.length_nil, Nat.reduceAdd, Nat.reduceLeDiff, Nat.reduceSub, Option.some.injEq, exists_eq_left', aft_s, aft_n, ite_true, ite_false, if_true, if_false, Nat.zero_le, Nat.le_refl, reduceCtorEq, r1, i1, i2, i3, i4, i5, B1, B2, B3, B4, B5, C1, C2, C3, C4, C5]
  refine ⟨J1.mob, inv0 (crdm e1 (c_kept (v := xs (i + 1)) D.1 R1 O (fun M' R' => ?_)))⟩
  have J2 := J1.mod D R'
  generalize mv H1 mo ad M' = H2 at J2 ⊢
  obtain ⟨M2, R2, e2⟩ := J2.2.1
  simp only [eL_law_561, eL_law_563, eL_law_564, isA_r, isA_n, isI_i, isF_f, isL_l, is1_i, is1_r, is1_n, is1_f, true_and, and_true, List.length_cons, List.length_nil, Nat.reduceAdd, Nat.reduceLeDiff, Nat.reduceSub, Option.some.injEq, exists_eq_left', aft_s, aft_n, ite_true, ite_false, if_true, if_false, Nat.zero_le, Nat.le_refl, reduceCtorEq]
  refine ⟨J2.mob, inv0 (crdm e2 (c_thrown R2 ?_))⟩
  rw [e2]
  obtain ⟨f, q1, q2⟩ := J2.2.2.1
  by_cases hz : (q_kept σ (xs (i + 1))).1 = 0
  · have e5 : (nI (q_kept σ (xs (i + 1))).1 = 0) = True := by rw [hz]; exact eq_true rfl
    have hv := hv hz
    simp only [eL_law_567, eL_law_569, eL_law_572, eL_law_573, eL_law_574, eL_law_576, eL_law_579, eL_law_580, eL_law_581, eL_law_582, eL_law_584, eL_law_585, eL_law_586, eL_law_589, eL_law_590, eL_law_591, isA_r, isA_n, isI_i, isF_f, isL_l, is1_i, is1_r, is1_n, is1_f, true_and, and_true, List.length_cons, List.length_nil, Nat.reduceAdd, Nat.reduceLeDiff, Nat.reduceSub, Option.some.injEq, exists_eq_left', aft_s, aft_n, ite_true, ite_false, if_true, if_false, Nat.zero_le, Nat.le_refl, reduceCtorEq, eq_self, e5, rdJ_of q1, b01_0, c0_0, q2, hv, lg_self]
    exact next _ _ _ _ _ _ _ _ _ J2 x1 k5 k6
  · have e5 : (nI (q_kept σ (xs (i + 1))).1 = 0) = False := ar3 z1 hz
    simp only [eL_law_567, eL_law_569, eL_law_572, eL_law_573, eL_law_574, eL_law_576, eL_law_579, eL_law_580, eL_law_581, eL_law_582, eL_law_584, eL_law_585, eL_law_586, eL_law_589, eL_law_590, eL_law_591, isA_r, isA_n, isI_i, isF_f, isL_l, is1_i, is1_r, is1_n, is1_f, true_and, and_true, List.length_cons, List.length_nil, Nat.reduceAdd, Nat.reduceLeDiff, Nat.reduceSub, Option.some.injEq, exists_eq_left', aft_s, aft_n, ite_true, ite_false, if_true, if_false, Nat.zero_le, Nat.le_refl, reduceCtorEq, eq_self, e5]
    exact next _ _ _ _ _ _ _ _ _ J2 x1 k5 k6
theorem w_commandAt (D : LD mo ad ra rD) (hb : E.1 b = some (arI L xs)) (hL : L ≤ 3072) (hi : i + 6 ≤ L) (J : LJ E x mo ad ra rD σ σ th v w H) (G : Good σ T) (hT : T + 200 < 16384) (hc : 16384 + 420 * (R + 1) ≤ JJ σ + c) (hn : 65536 + 1700 * (R + 1) ≤ 4 * JJ σ + n) (next : NX E d K b x mo ad ra rD i T R) : Ev E (d + 14) mL_law K 594 [.ref b, .ref x, .ref mo, .ref ra, .ref rD, .int (nI i), a6, a7] [] H c n := by
  have hbn : E.1 b ≠ none := by rw [hb]; simp
  have O := G.1
  have hjl := G.2.1.len O.J
  have hj16 : (s_jn σ).length ≤ 16384 := Nat.le_trans hjl (by omega)
  have hj32 : (s_jn σ).length < 32000 := Nat.lt_of_le_of_lt hj16 (by decide)
  have hT6 : T + 60 + 1 < 31000 := by omega
  have hT9 : T < 30900 := by omega
  have hT1 : T + 61 < 30999 := by omega
  have hT3 : T + 30 + 60 ≤ 16384 := by omega
  have r0 : rdI E H b 0 = some (L, xs) := rdI_E (J.fE b hbn) hb
  have i1 : nI i + 1 = nI (i + 1) := nI_1 i
  have i2 : nI i + 2 = nI (i + 2) := nI_add i 2
  have i3 : nI i + 3 = nI (i + 3) := nI_add i 3
  have i4 : nI i + 4 = nI (i + 4) := nI_add i 4
  have i5 : nI i + 5 = nI (i + 5) := nI_add i 5
  have B1 : inB (nI (i + 1)) L = true := inB_nI (by omega) (by omega)
  have C1 : (nI (i + 1)).toNatClampNeg = i + 1 := nI_clamp (by omega)
  have B2 : inB (nI (i + 2)) L = true := inB_nI (by omega) (by omega)
  have C2 : (nI (i + 2)).toNatClampNeg = i + 2 := nI_clamp (by omega)
  have B3 : inB (nI (i + 3)) L = true := inB_nI (by omega) (by omega)
  have C3 : (nI (i + 3)).toNatClampNeg = i + 3 := nI_clamp (by omega)
  have B4 : inB (nI (i + 4)) L = true := inB_nI (by omega) (by omega)
  have C4 : (nI (i + 4)).toNatClampNeg = i + 4 := nI_clamp (by omega)
  have B5 : inB (nI (i + 5)) L = true := inB_nI (by omega) (by omega)
  have C5 : (nI (i + 5)).toNatClampNeg = i + 5 := nI_clamp (by omega)
  have y1 := y_commandAt (σ := σ) (v1 := xs (i + 1)) (v2 := xs (i + 2))
  have x1 := x_commandAt (σ := σ) (T := T) (v1 := xs (i + 1)) (v2 := xs (i + 2)) G
  have z1 := z_commandAt (σ := σ) (v1 := xs (i + 1)) (v2 := xs (i + 2))
  obtain ⟨k1, k2, k3, k4, k5, k6, k7, k8, k9, k0⟩ := ar1 y1 (JJ_top x1 hT3) hc hn
  simp only [eL_law_594, eL_law_595, eL_law_596, eL_law_598, eL_law_599, eL_law_600, eL_law_601, eL_law_602, eL_law_604, eL_law_605, eL_law_606, eL_law_607, eL_law_608, isA_r, isA_n, isI_i, isF_f, isL_l, is1_i, is1_r, is1_n, is1_f, true_and, and_true, List.length_cons, List.length_nil, Nat.reduceAdd, Nat.reduceLeDiff, Nat.reduceSub, Option.some.injEq, exists_eq_left', aft_s, aft_n, ite_true, ite_false, if_true, if_false, Nat.zero_le, Nat.le_refl, reduceCtorEq, r0, i1, i2, i3, i4, i5, B1, B2, B3, B4, B5, C1, C2, C3, C4, C5]
  refine invk (JJ (q_commandAt σ (xs (i + 1)) (xs (i + 2))).2.2 - JJ σ + 400) (4 * (JJ (q_commandAt σ (xs (i + 1)) (xs (i + 2))).2.2 - JJ σ + 400)) k1 k2 (h_commandAt D J O  (v1 := xs (i + 1)) (v2 := xs (i + 2)) k9 k0 (fun v' H1 J1 hv => ?_))
  have r1 : rdI E H1 b 0 = some (L, xs) := rdI_E (J1.fE b hbn) hb
  obtain ⟨M, R1, e1⟩ := J1.2.1
  simp only [eL_law_611, eL_law_613, eL_law_614, eL_law_615, eL_law_617, eL_law_618, eL_law_619, eL_law_620, eL_law_621, eL_law_623, eL_law_624, eL_law_625, eL_law_626, isA_r, isA_n, isI_i, isF_f, isL_l, is1_i, is1_r, is1_n, is1_f, true_and, and_true, List.length_cons, List.length_nil, Nat.reduceAdd, Nat.reduceLeDiff, Nat.reduceSub, Option.some.injEq, exists_eq_left', aft_s, aft_n, ite_true, ite_false, if_true, if_false, Nat.zero_le, Nat.le_refl, reduceCtorEq, r1, i1, i2, i3, i4, i5, B1, B2, B3, B4, B5, C1, C2, C3, C4, C5]
  refine ⟨J1.mob, inv0 (crdm e1 (c_commandAt (v := xs (i + 1)) (w := xs (i + 2)) D.1 R1 O (fun M' R' => ?_)))⟩
  have J2 := J1.mod D R'
  generalize mv H1 mo ad M' = H2 at J2 ⊢
  obtain ⟨M2, R2, e2⟩ := J2.2.1
  simp only [eL_law_629, eL_law_631, eL_law_632, isA_r, isA_n, isI_i, isF_f, isL_l, is1_i, is1_r, is1_n, is1_f, true_and, and_true, List.length_cons, List.length_nil, Nat.reduceAdd, Nat.reduceLeDiff, Nat.reduceSub, Option.some.injEq, exists_eq_left', aft_s, aft_n, ite_true, ite_false, if_true, if_false, Nat.zero_le, Nat.le_refl, reduceCtorEq]
  refine ⟨J2.mob, inv0 (crdm e2 (c_thrown R2 ?_))⟩
  rw [e2]
  obtain ⟨f, q1, q2⟩ := J2.2.2.1
  by_cases hz : (q_commandAt σ (xs (i + 1)) (xs (i + 2))).1 = 0
  · have e5 : (nI (q_commandAt σ (xs (i + 1)) (xs (i + 2))).1 = 0) = True := by rw [hz]; exact eq_true rfl
    have hv := hv hz
    simp only [eL_law_635, eL_law_637, eL_law_640, eL_law_641, eL_law_642, eL_law_644, eL_law_647, eL_law_648, eL_law_649, eL_law_650, eL_law_652, eL_law_653, eL_law_654, eL_law_657, eL_law_658, eL_law_659, isA_r, isA_n, isI_i, isF_f, isL_l, is1_i, is1_r, is1_n, is1_f, true_and, and_true, List.length_cons, List.length_nil, Nat.reduceAdd, Nat.reduceLeDiff, Nat.reduceSub, Option.some.injEq, exists_eq_left', aft_s, aft_n, ite_true, ite_false, if_true, if_false, Nat.zero_le, Nat.le_refl, reduceCtorEq, eq_self, e5, rdJ_of q1, b01_0, c0_0, q2, hv, lg_self]
    exact next _ _ _ _ _ _ _ _ _ J2 x1 k5 k6
  · have e5 : (nI (q_commandAt σ (xs (i + 1)) (xs (i + 2))).1 = 0) = False := ar3 z1 hz
    simp only [eL_law_635, eL_law_637, eL_law_640, eL_law_641, eL_law_642, eL_law_644, eL_law_647, eL_law_648, eL_law_649, eL_law_650, eL_law_652, eL_law_653, eL_law_654, eL_law_657, eL_law_658, eL_law_659, isA_r, isA_n, isI_i, isF_f, isL_l, is1_i, is1_r, is1_n, is1_f, true_and, and_true, List.length_cons, List.length_nil, Nat.reduceAdd, Nat.reduceLeDiff, Nat.reduceSub, Option.some.injEq, exists_eq_left', aft_s, aft_n, ite_true, ite_false, if_true, if_false, Nat.zero_le, Nat.le_refl, reduceCtorEq, eq_self, e5]
    exact next _ _ _ _ _ _ _ _ _ J2 x1 k5 k6
theorem w_commonAt (D : LD mo ad ra rD) (hb : E.1 b = some (arI L xs)) (hL : L ≤ 3072) (hi : i + 6 ≤ L) (J : LJ E x mo ad ra rD σ σ th v w H) (G : Good σ T) (hT : T + 200 < 16384) (hc : 16384 + 420 * (R + 1) ≤ JJ σ + c) (hn : 65536 + 1700 * (R + 1) ≤ 4 * JJ σ + n) (next : NX E d K b x mo ad ra rD i T R) : Ev E (d + 14) mL_law K 675 [.ref b, .ref x, .ref mo, .ref ra, .ref rD, .int (nI i), a6, a7] [] H c n := by
  have hbn : E.1 b ≠ none := by rw [hb]; simp
  have O := G.1
  have hjl := G.2.1.len O.J
  have hj16 : (s_jn σ).length ≤ 16384 := Nat.le_trans hjl (by omega)
  have hj32 : (s_jn σ).length < 32000 := Nat.lt_of_le_of_lt hj16 (by decide)
  have hT6 : T + 60 + 1 < 31000 := by omega
  have hT9 : T < 30900 := by omega
  have hT1 : T + 61 < 30999 := by omega
  have hT3 : T + 30 + 60 ≤ 16384 := by omega
  have r0 : rdI E H b 0 = some (L, xs) := rdI_E (J.fE b hbn) hb
  have i1 : nI i + 1 = nI (i + 1) := nI_1 i
  have i2 : nI i + 2 = nI (i + 2) := nI_add i 2
  have i3 : nI i + 3 = nI (i + 3) := nI_add i 3
  have i4 : nI i + 4 = nI (i + 4) := nI_add i 4
  have i5 : nI i + 5 = nI (i + 5) := nI_add i 5
  have B1 : inB (nI (i + 1)) L = true := inB_nI (by omega) (by omega)
  have C1 : (nI (i + 1)).toNatClampNeg = i + 1 := nI_clamp (by omega)
  have B2 : inB (nI (i + 2)) L = true := inB_nI (by omega) (by omega)
  have C2 : (nI (i + 2)).toNatClampNeg = i + 2 := nI_clamp (by omega)
  have B3 : inB (nI (i + 3)) L = true := inB_nI (by omega) (by omega)
  have C3 : (nI (i + 3)).toNatClampNeg = i + 3 := nI_clamp (by omega)
  have B4 : inB (nI (i + 4)) L = true := inB_nI (by omega) (by omega)
  have C4 : (nI (i + 4)).toNatClampNeg = i + 4 := nI_clamp (by omega)
  have B5 : inB (nI (i + 5)) L = true := inB_nI (by omega) (by omega)
  have C5 : (nI (i + 5)).toNatClampNeg = i + 5 := nI_clamp (by omega)
  have y1 := y_commonAt (σ := σ) (v1 := xs (i + 1))
  have x1 := x_commonAt (σ := σ) (T := T) (v1 := xs (i + 1)) G
  have z1 := z_commonAt (σ := σ) (v1 := xs (i + 1))
  obtain ⟨k1, k2, k3, k4, k5, k6, k7, k8, k9, k0⟩ := ar1 y1 (JJ_top x1 hT3) hc hn
  simp only [eL_law_675, eL_law_676, eL_law_677, eL_law_679, eL_law_680, eL_law_681, eL_law_682, eL_law_683, isA_r, isA_n, isI_i, isF_f, isL_l, is1_i, is1_r, is1_n, is1_f, true_and, and_true, List.length_cons, List.length_nil, Nat.reduceAdd, Nat.reduceLeDiff, Nat.reduceSub, Option.some.injEq, exists_eq_left', aft_s, aft_n, ite_true, ite_false, if_true, if_false, Nat.zero_le, Nat.le_refl, reduceCtorEq, r0, i1, i2, i3, i4, i5, B1, B2, B3, B4, B5, C1, C2, C3, C4, C5]
  refine invk (JJ (q_commonAt σ (xs (i + 1))).2.2 - JJ σ + 400) (4 * (JJ (q_commonAt σ (xs (i + 1))).2.2 - JJ σ + 400)) k1 k2 (h_commonAt D J O  (v1 := xs (i + 1)) k9 k0 (fun v' H1 J1 hv => ?_))
  have r1 : rdI E H1 b 0 = some (L, xs) := rdI_E (J1.fE b hbn) hb
  obtain ⟨M, R1, e1⟩ := J1.2.1
  simp only [eL_law_686, eL_law_688, eL_law_689, eL_law_690, eL_law_692, eL_law_693, eL_law_694, eL_law_695, isA_r, isA_n, isI_i, isF_f, isL_l, is1_i, is1_r, is1_n, is1_f, true_and, and_true, List.length_cons, List.length_nil, Nat.reduceAdd, Nat.reduceLeDiff, Nat.reduceSub, Option.some.injEq, exists_eq_left', aft_s, aft_n, ite_true, ite_false, if_true, if_false, Nat.zero_le, Nat.le_refl, reduceCtorEq, r1, i1, i2, i3, i4, i5, B1, B2, B3, B4, B5, C1, C2, C3, C4, C5]
  refine ⟨J1.mob, inv0 (crdm e1 (c_commonAt (v := xs (i + 1)) D.1 R1 O (fun M' R' => ?_)))⟩
  have J2 := J1.mod D R'
  generalize mv H1 mo ad M' = H2 at J2 ⊢
  obtain ⟨M2, R2, e2⟩ := J2.2.1
  simp only [eL_law_698, eL_law_700, eL_law_701, isA_r, isA_n, isI_i, isF_f, isL_l, is1_i, is1_r, is1_n, is1_f, true_and, and_true, List.length_cons, List.length_nil, Nat.reduceAdd, Nat.reduceLeDiff, Nat.reduceSub, Option.some.injEq, exists_eq_left', aft_s, aft_n, ite_true, ite_false, if_true, if_false, Nat.zero_le, Nat.le_refl, reduceCtorEq]
  refine ⟨J2.mob, inv0 (crdm e2 (c_thrown R2 ?_))⟩
  rw [e2]
  obtain ⟨f, q1, q2⟩ := J2.2.2.1
  by_cases hz : (q_commonAt σ (xs (i + 1))).1 = 0
  · have e5 : (nI (q_commonAt σ (xs (i + 1))).1 = 0) = True := by rw [hz]; exact eq_true rfl
    have hv := hv hz
    simp only [eL_law_704, eL_law_706, eL_law_709, eL_law_710, eL_law_711, eL_law_713, eL_law_716, eL_law_717, eL_law_718, eL_law_719, eL_law_721, eL_law_722, eL_law_723, eL_law_726, eL_law_727, eL_law_728, isA_r, isA_n, isI_i, isF_f, isL_l, is1_i, is1_r, is1_n, is1_f, true_and, and_true, List.length_cons, List.length_nil, Nat.reduceAdd, Nat.reduceLeDiff, Nat.reduceSub, Option.some.injEq, exists_eq_left', aft_s, aft_n, ite_true, ite_false, if_true, if_false, Nat.zero_le, Nat.le_refl, reduceCtorEq, eq_self, e5, rdJ_of q1, b01_0, c0_0, q2, hv, lg_self]
    exact next _ _ _ _ _ _ _ _ _ J2 x1 k5 k6
  · have e5 : (nI (q_commonAt σ (xs (i + 1))).1 = 0) = False := ar3 z1 hz
    simp only [eL_law_704, eL_law_706, eL_law_709, eL_law_710, eL_law_711, eL_law_713, eL_law_716, eL_law_717, eL_law_718, eL_law_719, eL_law_721, eL_law_722, eL_law_723, eL_law_726, eL_law_727, eL_law_728, isA_r, isA_n, isI_i, isF_f, isL_l, is1_i, is1_r, is1_n, is1_f, true_and, and_true, List.length_cons, List.length_nil, Nat.reduceAdd, Nat.reduceLeDiff, Nat.reduceSub, Option.some.injEq, exists_eq_left', aft_s, aft_n, ite_true, ite_false, if_true, if_false, Nat.zero_le, Nat.le_refl, reduceCtorEq, eq_self, e5]
    exact next _ _ _ _ _ _ _ _ _ J2 x1 k5 k6
theorem w_search (D : LD mo ad ra rD) (hb : E.1 b = some (arI L xs)) (hL : L ≤ 3072) (hi : i + 6 ≤ L) (J : LJ E x mo ad ra rD σ σ th v w H) (G : Good σ T) (hT : T + 200 < 16384) (hc : 16384 + 420 * (R + 1) ≤ JJ σ + c) (hn : 65536 + 1700 * (R + 1) ≤ 4 * JJ σ + n) (next : NX E d K b x mo ad ra rD i T R) : Ev E (d + 14) mL_law K 731 [.ref b, .ref x, .ref mo, .ref ra, .ref rD, .int (nI i), a6, a7] [] H c n := by
  have hbn : E.1 b ≠ none := by rw [hb]; simp
  have O := G.1
  have hjl := G.2.1.len O.J
  have hj16 : (s_jn σ).length ≤ 16384 := Nat.le_trans hjl (by omega)
  have hj32 : (s_jn σ).length < 32000 := Nat.lt_of_le_of_lt hj16 (by decide)
  have hT6 : T + 60 + 1 < 31000 := by omega
  have hT9 : T < 30900 := by omega
  have hT1 : T + 61 < 30999 := by omega
  have hT3 : T + 30 + 60 ≤ 16384 := by omega
  have r0 : rdI E H b 0 = some (L, xs) := rdI_E (J.fE b hbn) hb
  have i1 : nI i + 1 = nI (i + 1) := nI_1 i
  have i2 : nI i + 2 = nI (i + 2) := nI_add i 2
  have i3 : nI i + 3 = nI (i + 3) := nI_add i 3
  have i4 : nI i + 4 = nI (i + 4) := nI_add i 4
  have i5 : nI i + 5 = nI (i + 5) := nI_add i 5
  have B1 : inB (nI (i + 1)) L = true := inB_nI (by omega) (by omega)
  have C1 : (nI (i + 1)).toNatClampNeg = i + 1 := nI_clamp (by omega)
  have B2 : inB (nI (i + 2)) L = true := inB_nI (by omega) (by omega)
  have C2 : (nI (i + 2)).toNatClampNeg = i + 2 := nI_clamp (by omega)
  have B3 : inB (nI (i + 3)) L = true := inB_nI (by omega) (by omega)
  have C3 : (nI (i + 3)).toNatClampNeg = i + 3 := nI_clamp (by omega)
  have B4 : inB (nI (i + 4)) L = true := inB_nI (by omega) (by omega)
  have C4 : (nI (i + 4)).toNatClampNeg = i + 4 := nI_clamp (by omega)
  have B5 : inB (nI (i + 5)) L = true := inB_nI (by omega) (by omega)
  have C5 : (nI (i + 5)).toNatClampNeg = i + 5 := nI_clamp (by omega)
  have y1 := y_search (σ := σ) (v1 := xs (i + 1)) (v2 := xs (i + 2)) (v3 := xs (i + 3))
  have x1 := x_search (σ := σ) (T := T) (v1 := xs (i + 1)) (v2 := xs (i + 2)) (v3 := xs (i + 3)) G
  have z1 := z_search (σ := σ) (v1 := xs (i + 1)) (v2 := xs (i + 2)) (v3 := xs (i + 3))
  obtain ⟨k1, k2, k3, k4, k5, k6, k7, k8, k9, k0⟩ := ar1 y1 (JJ_top x1 hT3) hc hn
  simp only [eL_law_731, eL_law_732, eL_law_733, eL_law_735, eL_law_736, eL_law_737, eL_law_738, eL_law_739, eL_law_741, eL_law_742, eL_law_743, eL_law_744, eL_law_745, eL_law_747, eL_law_748, eL_law_749, eL_law_750, eL_law_751, isA_r, isA_n, isI_i, isF_f, isL_l, is1_i, is1_r, is1_n, is1_f, true_and, and_true, List.length_cons, List.length_nil, Nat.reduceAdd, Nat.reduceLeDiff, Nat.reduceSub, Option.some.injEq, exists_eq_left', aft_s, aft_n, ite_true, ite_false, if_true, if_false, Nat.zero_le, Nat.le_refl, reduceCtorEq, r0, i1, i2, i3, i4, i5, B1, B2, B3, B4, B5, C1, C2, C3, C4, C5]
  refine invk (JJ (a_search σ (xs (i + 1)) (xs (i + 2)) (xs (i + 3))).2.2 - JJ σ + 400) (4 * (JJ (a_search σ (xs (i + 1)) (xs (i + 2)) (xs (i + 3))).2.2 - JJ σ + 400)) k1 k2 (h_search D J O  (v1 := xs (i + 1)) (v2 := xs (i + 2)) (v3 := xs (i + 3)) k9 k0 (fun v' H1 J1 hv => ?_))
  have r1 : rdI E H1 b 0 = some (L, xs) := rdI_E (J1.fE b hbn) hb
  obtain ⟨M, R1, e1⟩ := J1.2.1
  simp only [eL_law_754, eL_law_756, eL_law_757, eL_law_758, eL_law_760, eL_law_761, eL_law_762, eL_law_763, eL_law_764, eL_law_766, eL_law_767, eL_law_768, eL_law_769, eL_law_770, eL_law_772, eL_law_773, eL_law_774, eL_law_775, isA_r, isA_n, isI_i, isF_f, isL_l, is1_i, is1_r, is1_n, is1_f, true_and, and_true, List.length_cons, List.length_nil, Nat.reduceAdd, Nat.reduceLeDiff, Nat.reduceSub, Option.some.injEq, exists_eq_left', aft_s, aft_n, ite_true, ite_false, if_true, if_false, Nat.zero_le, Nat.le_refl, reduceCtorEq, r1, i1, i2, i3, i4, i5, B1, B2, B3, B4, B5, C1, C2, C3, C4, C5]
  refine ⟨J1.mob, inv0 (crdm e1 (c_search (v := xs (i + 1)) (a := xs (i + 2)) (b := xs (i + 3)) D.1 R1 O (fun M' R' => ?_)))⟩
  have J2 := J1.mod D R'
  generalize mv H1 mo ad M' = H2 at J2 ⊢
  obtain ⟨M2, R2, e2⟩ := J2.2.1
  simp only [eL_law_778, eL_law_780, eL_law_781, isA_r, isA_n, isI_i, isF_f, isL_l, is1_i, is1_r, is1_n, is1_f, true_and, and_true, List.length_cons, List.length_nil, Nat.reduceAdd, Nat.reduceLeDiff, Nat.reduceSub, Option.some.injEq, exists_eq_left', aft_s, aft_n, ite_true, ite_false, if_true, if_false, Nat.zero_le, Nat.le_refl, reduceCtorEq]
  refine ⟨J2.mob, inv0 (crdm e2 (c_thrown R2 ?_))⟩
  rw [e2]
  obtain ⟨f, q1, q2⟩ := J2.2.2.1
  by_cases hz : (a_search σ (xs (i + 1)) (xs (i + 2)) (xs (i + 3))).1 = 0
  · have e5 : (nI (a_search σ (xs (i + 1)) (xs (i + 2)) (xs (i + 3))).1 = 0) = True := by rw [hz]; exact eq_true rfl
    have hv := hv hz
    simp only [eL_law_784, eL_law_786, eL_law_789, eL_law_790, eL_law_791, eL_law_793, eL_law_796, eL_law_797, eL_law_798, eL_law_799, eL_law_801, eL_law_802, eL_law_803, eL_law_806, eL_law_807, eL_law_808, isA_r, isA_n, isI_i, isF_f, isL_l, is1_i, is1_r, is1_n, is1_f, true_and, and_true, List.length_cons, List.length_nil, Nat.reduceAdd, Nat.reduceLeDiff, Nat.reduceSub, Option.some.injEq, exists_eq_left', aft_s, aft_n, ite_true, ite_false, if_true, if_false, Nat.zero_le, Nat.le_refl, reduceCtorEq, eq_self, e5, rdJ_of q1, b01_0, c0_0, q2, hv, lg_self]
    exact next _ _ _ _ _ _ _ _ _ J2 x1 k5 k6
  · have e5 : (nI (a_search σ (xs (i + 1)) (xs (i + 2)) (xs (i + 3))).1 = 0) = False := ar3 z1 hz
    simp only [eL_law_784, eL_law_786, eL_law_789, eL_law_790, eL_law_791, eL_law_793, eL_law_796, eL_law_797, eL_law_798, eL_law_799, eL_law_801, eL_law_802, eL_law_803, eL_law_806, eL_law_807, eL_law_808, isA_r, isA_n, isI_i, isF_f, isL_l, is1_i, is1_r, is1_n, is1_f, true_and, and_true, List.length_cons, List.length_nil, Nat.reduceAdd, Nat.reduceLeDiff, Nat.reduceSub, Option.some.injEq, exists_eq_left', aft_s, aft_n, ite_true, ite_false, if_true, if_false, Nat.zero_le, Nat.le_refl, reduceCtorEq, eq_self, e5]
    exact next _ _ _ _ _ _ _ _ _ J2 x1 k5 k6
theorem w_start (D : LD mo ad ra rD) (hb : E.1 b = some (arI L xs)) (hL : L ≤ 3072) (hi : i + 6 ≤ L) (J : LJ E x mo ad ra rD σ σ th v w H) (G : Good σ T) (hT : T + 200 < 16384) (hc : 16384 + 420 * (R + 1) ≤ JJ σ + c) (hn : 65536 + 1700 * (R + 1) ≤ 4 * JJ σ + n) (next : NX E d K b x mo ad ra rD i T R) : Ev E (d + 14) mL_law K 811 [.ref b, .ref x, .ref mo, .ref ra, .ref rD, .int (nI i), a6, a7] [] H c n := by
  have hbn : E.1 b ≠ none := by rw [hb]; simp
  have O := G.1
  have hjl := G.2.1.len O.J
  have hj16 : (s_jn σ).length ≤ 16384 := Nat.le_trans hjl (by omega)
  have hj32 : (s_jn σ).length < 32000 := Nat.lt_of_le_of_lt hj16 (by decide)
  have hT6 : T + 60 + 1 < 31000 := by omega
  have hT9 : T < 30900 := by omega
  have hT1 : T + 61 < 30999 := by omega
  have hT3 : T + 30 + 60 ≤ 16384 := by omega
  have r0 : rdI E H b 0 = some (L, xs) := rdI_E (J.fE b hbn) hb
  have i1 : nI i + 1 = nI (i + 1) := nI_1 i
  have i2 : nI i + 2 = nI (i + 2) := nI_add i 2
  have i3 : nI i + 3 = nI (i + 3) := nI_add i 3
  have i4 : nI i + 4 = nI (i + 4) := nI_add i 4
  have i5 : nI i + 5 = nI (i + 5) := nI_add i 5
  have B1 : inB (nI (i + 1)) L = true := inB_nI (by omega) (by omega)
  have C1 : (nI (i + 1)).toNatClampNeg = i + 1 := nI_clamp (by omega)
  have B2 : inB (nI (i + 2)) L = true := inB_nI (by omega) (by omega)
  have C2 : (nI (i + 2)).toNatClampNeg = i + 2 := nI_clamp (by omega)
  have B3 : inB (nI (i + 3)) L = true := inB_nI (by omega) (by omega)
  have C3 : (nI (i + 3)).toNatClampNeg = i + 3 := nI_clamp (by omega)
  have B4 : inB (nI (i + 4)) L = true := inB_nI (by omega) (by omega)
  have C4 : (nI (i + 4)).toNatClampNeg = i + 4 := nI_clamp (by omega)
  have B5 : inB (nI (i + 5)) L = true := inB_nI (by omega) (by omega)
  have C5 : (nI (i + 5)).toNatClampNeg = i + 5 := nI_clamp (by omega)
  by_cases hzz : xs (i + 5) = 0
  · have ez : (xs (i + 5) = 0) = True := eq_true hzz
    have y1 := y_start (σ := σ) (v1 := xs (i + 1)) (v2 := xs (i + 2)) (v3 := xs (i + 3)) (v4 := xs (i + 4)) (p5 := false)
    have x1 := x_start (σ := σ) (T := T) (v1 := xs (i + 1)) (v2 := xs (i + 2)) (v3 := xs (i + 3)) (v4 := xs (i + 4)) (p5 := false) G
    have z1 := z_start (σ := σ) (v1 := xs (i + 1)) (v2 := xs (i + 2)) (v3 := xs (i + 3)) (v4 := xs (i + 4)) (p5 := false)
    obtain ⟨k1, k2, k3, k4, k5, k6, k7, k8, k9, k0⟩ := ar1 y1 (JJ_top x1 hT3) hc hn
    simp only [eL_law_811, eL_law_812, eL_law_813, eL_law_815, eL_law_816, eL_law_817, eL_law_818, eL_law_819, eL_law_821, eL_law_822, eL_law_823, eL_law_824, eL_law_825, eL_law_827, eL_law_828, eL_law_829, eL_law_830, eL_law_831, eL_law_833, eL_law_834, eL_law_835, eL_law_836, eL_law_837, eL_law_839, eL_law_840, eL_law_841, eL_law_842, eL_law_845, eL_law_846, eL_law_849, eL_law_850, eL_law_851, isA_r, isA_n, isI_i, isF_f, isL_l, is1_i, is1_r, is1_n, is1_f, true_and, and_true, List.length_cons, List.length_nil, Nat.reduceAdd, Nat.reduceLeDiff, Nat.reduceSub, Option.some.injEq, exists_eq_left', aft_s, aft_n, ite_true, ite_false, if_true, if_false, Nat.zero_le, Nat.le_refl, reduceCtorEq, r0, i1, i2, i3, i4, i5, B1, B2, B3, B4, B5, C1, C2, C3, C4, C5, ez]
    refine invk (JJ (a_start σ (xs (i + 1)) (xs (i + 2)) (xs (i + 3)) (xs (i + 4)) false).2.2 - JJ σ + 400) (4 * (JJ (a_start σ (xs (i + 1)) (xs (i + 2)) (xs (i + 3)) (xs (i + 4)) false).2.2 - JJ σ + 400)) k1 k2 (h_start D J G hT  (v1 := xs (i + 1)) (v2 := xs (i + 2)) (v3 := xs (i + 3)) (v4 := xs (i + 4)) (p5 := false) k3 k4 (fun v' H1 J1 hv => ?_))
    have r1 : rdI E H1 b 0 = some (L, xs) := rdI_E (J1.fE b hbn) hb
    obtain ⟨M, R1, e1⟩ := J1.2.1
    simp only [eL_law_854, eL_law_856, eL_law_857, eL_law_858, eL_law_860, eL_law_861, eL_law_862, eL_law_863, eL_law_864, eL_law_866, eL_law_867, eL_law_868, eL_law_869, eL_law_870, eL_law_872, eL_law_873, eL_law_874, eL_law_875, eL_law_876, eL_law_878, eL_law_879, eL_law_880, eL_law_881, eL_law_882, eL_law_884, eL_law_885, eL_law_886, eL_law_887, eL_law_890, eL_law_891, eL_law_894, eL_law_895, isA_r, isA_n, isI_i, isF_f, isL_l, is1_i, is1_r, is1_n, is1_f, true_and, and_true, List.length_cons, List.length_nil, Nat.reduceAdd, Nat.reduceLeDiff, Nat.reduceSub, Option.some.injEq, exists_eq_left', aft_s, aft_n, ite_true, ite_false, if_true, if_false, Nat.zero_le, Nat.le_refl, reduceCtorEq, r1, i1, i2, i3, i4, i5, B1, B2, B3, B4, B5, C1, C2, C3, C4, C5, ez]
    refine ⟨J1.mob, inv0 (crdm e1 (c_start (v := xs (i + 1)) (x := xs (i + 2)) (w := xs (i + 3)) (l := xs (i + 4)) (f := false) D.1 R1 O (B := T + 60) hT6 hjl (fun M' R' => ?_)))⟩
    have J2 := J1.mod D R'
    generalize mv H1 mo ad M' = H2 at J2 ⊢
    obtain ⟨M2, R2, e2⟩ := J2.2.1
    simp only [eL_law_898, eL_law_900, eL_law_901, isA_r, isA_n, isI_i, isF_f, isL_l, is1_i, is1_r, is1_n, is1_f, true_and, and_true, List.length_cons, List.length_nil, Nat.reduceAdd, Nat.reduceLeDiff, Nat.reduceSub, Option.some.injEq, exists_eq_left', aft_s, aft_n, ite_true, ite_false, if_true, if_false, Nat.zero_le, Nat.le_refl, reduceCtorEq]
    refine ⟨J2.mob, inv0 (crdm e2 (c_thrown R2 ?_))⟩
    rw [e2]
    obtain ⟨f, q1, q2⟩ := J2.2.2.1
    by_cases hz : (a_start σ (xs (i + 1)) (xs (i + 2)) (xs (i + 3)) (xs (i + 4)) false).1 = 0
    · have e5 : (nI (a_start σ (xs (i + 1)) (xs (i + 2)) (xs (i + 3)) (xs (i + 4)) false).1 = 0) = True := by rw [hz]; exact eq_true rfl
      have hv := hv hz
      simp only [eL_law_904, eL_law_906, eL_law_909, eL_law_910, eL_law_911, eL_law_913, eL_law_916, eL_law_917, eL_law_918, eL_law_919, eL_law_921, eL_law_922, eL_law_923, eL_law_926, eL_law_927, eL_law_928, isA_r, isA_n, isI_i, isF_f, isL_l, is1_i, is1_r, is1_n, is1_f, true_and, and_true, List.length_cons, List.length_nil, Nat.reduceAdd, Nat.reduceLeDiff, Nat.reduceSub, Option.some.injEq, exists_eq_left', aft_s, aft_n, ite_true, ite_false, if_true, if_false, Nat.zero_le, Nat.le_refl, reduceCtorEq, eq_self, e5, rdJ_of q1, b01_0, c0_0, q2, hv, lg_self]
      exact next _ _ _ _ _ _ _ _ _ J2 x1 k5 k6
    · have e5 : (nI (a_start σ (xs (i + 1)) (xs (i + 2)) (xs (i + 3)) (xs (i + 4)) false).1 = 0) = False := ar3 z1 hz
      simp only [eL_law_904, eL_law_906, eL_law_909, eL_law_910, eL_law_911, eL_law_913, eL_law_916, eL_law_917, eL_law_918, eL_law_919, eL_law_921, eL_law_922, eL_law_923, eL_law_926, eL_law_927, eL_law_928, isA_r, isA_n, isI_i, isF_f, isL_l, is1_i, is1_r, is1_n, is1_f, true_and, and_true, List.length_cons, List.length_nil, Nat.reduceAdd, Nat.reduceLeDiff, Nat.reduceSub, Option.some.injEq, exists_eq_left', aft_s, aft_n, ite_true, ite_false, if_true, if_false, Nat.zero_le, Nat.le_refl, reduceCtorEq, eq_self, e5]
      exact next _ _ _ _ _ _ _ _ _ J2 x1 k5 k6
  · have ez : (xs (i + 5) = 0) = False := eq_false hzz
    have y1 := y_start (σ := σ) (v1 := xs (i + 1)) (v2 := xs (i + 2)) (v3 := xs (i + 3)) (v4 := xs (i + 4)) (p5 := true)
    have x1 := x_start (σ := σ) (T := T) (v1 := xs (i + 1)) (v2 := xs (i + 2)) (v3 := xs (i + 3)) (v4 := xs (i + 4)) (p5 := true) G
    have z1 := z_start (σ := σ) (v1 := xs (i + 1)) (v2 := xs (i + 2)) (v3 := xs (i + 3)) (v4 := xs (i + 4)) (p5 := true)
    obtain ⟨k1, k2, k3, k4, k5, k6, k7, k8, k9, k0⟩ := ar1 y1 (JJ_top x1 hT3) hc hn
    simp only [eL_law_811, eL_law_812, eL_law_813, eL_law_815, eL_law_816, eL_law_817, eL_law_818, eL_law_819, eL_law_821, eL_law_822, eL_law_823, eL_law_824, eL_law_825, eL_law_827, eL_law_828, eL_law_829, eL_law_830, eL_law_831, eL_law_833, eL_law_834, eL_law_835, eL_law_836, eL_law_837, eL_law_839, eL_law_840, eL_law_841, eL_law_842, eL_law_845, eL_law_846, eL_law_849, eL_law_850, eL_law_851, isA_r, isA_n, isI_i, isF_f, isL_l, is1_i, is1_r, is1_n, is1_f, true_and, and_true, List.length_cons, List.length_nil, Nat.reduceAdd, Nat.reduceLeDiff, Nat.reduceSub, Option.some.injEq, exists_eq_left', aft_s, aft_n, ite_true, ite_false, if_true, if_false, Nat.zero_le, Nat.le_refl, reduceCtorEq, r0, i1, i2, i3, i4, i5, B1, B2, B3, B4, B5, C1, C2, C3, C4, C5, ez]
    refine invk (JJ (a_start σ (xs (i + 1)) (xs (i + 2)) (xs (i + 3)) (xs (i + 4)) true).2.2 - JJ σ + 400) (4 * (JJ (a_start σ (xs (i + 1)) (xs (i + 2)) (xs (i + 3)) (xs (i + 4)) true).2.2 - JJ σ + 400)) k1 k2 (h_start D J G hT  (v1 := xs (i + 1)) (v2 := xs (i + 2)) (v3 := xs (i + 3)) (v4 := xs (i + 4)) (p5 := true) k3 k4 (fun v' H1 J1 hv => ?_))
    have r1 : rdI E H1 b 0 = some (L, xs) := rdI_E (J1.fE b hbn) hb
    obtain ⟨M, R1, e1⟩ := J1.2.1
    simp only [eL_law_854, eL_law_856, eL_law_857, eL_law_858, eL_law_860, eL_law_861, eL_law_862, eL_law_863, eL_law_864, eL_law_866, eL_law_867, eL_law_868, eL_law_869, eL_law_870, eL_law_872, eL_law_873, eL_law_874, eL_law_875, eL_law_876, eL_law_878, eL_law_879, eL_law_880, eL_law_881, eL_law_882, eL_law_884, eL_law_885, eL_law_886, eL_law_887, eL_law_890, eL_law_891, eL_law_894, eL_law_895, isA_r, isA_n, isI_i, isF_f, isL_l, is1_i, is1_r, is1_n, is1_f, true_and, and_true, List.length_cons, List.length_nil, Nat.reduceAdd, Nat.reduceLeDiff, Nat.reduceSub, Option.some.injEq, exists_eq_left', aft_s, aft_n, ite_true, ite_false, if_true, if_false, Nat.zero_le, Nat.le_refl, reduceCtorEq, r1, i1, i2, i3, i4, i5, B1, B2, B3, B4, B5, C1, C2, C3, C4, C5, ez]
    refine ⟨J1.mob, inv0 (crdm e1 (c_start (v := xs (i + 1)) (x := xs (i + 2)) (w := xs (i + 3)) (l := xs (i + 4)) (f := true) D.1 R1 O (B := T + 60) hT6 hjl (fun M' R' => ?_)))⟩
    have J2 := J1.mod D R'
    generalize mv H1 mo ad M' = H2 at J2 ⊢
    obtain ⟨M2, R2, e2⟩ := J2.2.1
    simp only [eL_law_898, eL_law_900, eL_law_901, isA_r, isA_n, isI_i, isF_f, isL_l, is1_i, is1_r, is1_n, is1_f, true_and, and_true, List.length_cons, List.length_nil, Nat.reduceAdd, Nat.reduceLeDiff, Nat.reduceSub, Option.some.injEq, exists_eq_left', aft_s, aft_n, ite_true, ite_false, if_true, if_false, Nat.zero_le, Nat.le_refl, reduceCtorEq]
    refine ⟨J2.mob, inv0 (crdm e2 (c_thrown R2 ?_))⟩
    rw [e2]
    obtain ⟨f, q1, q2⟩ := J2.2.2.1
    by_cases hz : (a_start σ (xs (i + 1)) (xs (i + 2)) (xs (i + 3)) (xs (i + 4)) true).1 = 0
    · have e5 : (nI (a_start σ (xs (i + 1)) (xs (i + 2)) (xs (i + 3)) (xs (i + 4)) true).1 = 0) = True := by rw [hz]; exact eq_true rfl
      have hv := hv hz
      simp only [eL_law_904, eL_law_906, eL_law_909, eL_law_910, eL_law_911, eL_law_913, eL_law_916, eL_law_917, eL_law_918, eL_law_919, eL_law_921, eL_law_922, eL_law_923, eL_law_926, eL_law_927, eL_law_928, isA_r, isA_n, isI_i, isF_f, isL_l, is1_i, is1_r, is1_n, is1_f, true_and, and_true, List.length_cons, List.length_nil, Nat.reduceAdd, Nat.reduceLeDiff, Nat.reduceSub, Option.some.injEq, exists_eq_left', aft_s, aft_n, ite_true, ite_false, if_true, if_false, Nat.zero_le, Nat.le_refl, reduceCtorEq, eq_self, e5, rdJ_of q1, b01_0, c0_0, q2, hv, lg_self]
      exact next _ _ _ _ _ _ _ _ _ J2 x1 k5 k6
    · have e5 : (nI (a_start σ (xs (i + 1)) (xs (i + 2)) (xs (i + 3)) (xs (i + 4)) true).1 = 0) = False := ar3 z1 hz
      simp only [eL_law_904, eL_law_906, eL_law_909, eL_law_910, eL_law_911, eL_law_913, eL_law_916, eL_law_917, eL_law_918, eL_law_919, eL_law_921, eL_law_922, eL_law_923, eL_law_926, eL_law_927, eL_law_928, isA_r, isA_n, isI_i, isF_f, isL_l, is1_i, is1_r, is1_n, is1_f, true_and, and_true, List.length_cons, List.length_nil, Nat.reduceAdd, Nat.reduceLeDiff, Nat.reduceSub, Option.some.injEq, exists_eq_left', aft_s, aft_n, ite_true, ite_false, if_true, if_false, Nat.zero_le, Nat.le_refl, reduceCtorEq, eq_self, e5]
      exact next _ _ _ _ _ _ _ _ _ J2 x1 k5 k6
theorem w_state (D : LD mo ad ra rD) (hb : E.1 b = some (arI L xs)) (hL : L ≤ 3072) (hi : i + 6 ≤ L) (J : LJ E x mo ad ra rD σ σ th v w H) (G : Good σ T) (hT : T + 200 < 16384) (hc : 16384 + 420 * (R + 1) ≤ JJ σ + c) (hn : 65536 + 1700 * (R + 1) ≤ 4 * JJ σ + n) (next : NX E d K b x mo ad ra rD i T R) : Ev E (d + 14) mL_law K 931 [.ref b, .ref x, .ref mo, .ref ra, .ref rD, .int (nI i), a6, a7] [] H c n := by
  have hbn : E.1 b ≠ none := by rw [hb]; simp
  have O := G.1
  have hjl := G.2.1.len O.J
  have hj16 : (s_jn σ).length ≤ 16384 := Nat.le_trans hjl (by omega)
  have hj32 : (s_jn σ).length < 32000 := Nat.lt_of_le_of_lt hj16 (by decide)
  have hT6 : T + 60 + 1 < 31000 := by omega
  have hT9 : T < 30900 := by omega
  have hT1 : T + 61 < 30999 := by omega
  have hT3 : T + 30 + 60 ≤ 16384 := by omega
  have r0 : rdI E H b 0 = some (L, xs) := rdI_E (J.fE b hbn) hb
  have i1 : nI i + 1 = nI (i + 1) := nI_1 i
  have i2 : nI i + 2 = nI (i + 2) := nI_add i 2
  have i3 : nI i + 3 = nI (i + 3) := nI_add i 3
  have i4 : nI i + 4 = nI (i + 4) := nI_add i 4
  have i5 : nI i + 5 = nI (i + 5) := nI_add i 5
  have B1 : inB (nI (i + 1)) L = true := inB_nI (by omega) (by omega)
  have C1 : (nI (i + 1)).toNatClampNeg = i + 1 := nI_clamp (by omega)
  have B2 : inB (nI (i + 2)) L = true := inB_nI (by omega) (by omega)
  have C2 : (nI (i + 2)).toNatClampNeg = i + 2 := nI_clamp (by omega)
  have B3 : inB (nI (i + 3)) L = true := inB_nI (by omega) (by omega)
  have C3 : (nI (i + 3)).toNatClampNeg = i + 3 := nI_clamp (by omega)
  have B4 : inB (nI (i + 4)) L = true := inB_nI (by omega) (by omega)
  have C4 : (nI (i + 4)).toNatClampNeg = i + 4 := nI_clamp (by omega)
  have B5 : inB (nI (i + 5)) L = true := inB_nI (by omega) (by omega)
  have C5 : (nI (i + 5)).toNatClampNeg = i + 5 := nI_clamp (by omega)
  have y1 := y_state (σ := σ) (v1 := xs (i + 1))
  have x1 := x_state (σ := σ) (T := T) (v1 := xs (i + 1)) G
  have z1 := z_state (σ := σ) (v1 := xs (i + 1))
  obtain ⟨k1, k2, k3, k4, k5, k6, k7, k8, k9, k0⟩ := ar1 y1 (JJ_top x1 hT3) hc hn
  simp only [eL_law_931, eL_law_932, eL_law_933, eL_law_935, eL_law_936, eL_law_937, eL_law_938, eL_law_939, isA_r, isA_n, isI_i, isF_f, isL_l, is1_i, is1_r, is1_n, is1_f, true_and, and_true, List.length_cons, List.length_nil, Nat.reduceAdd, Nat.reduceLeDiff, Nat.reduceSub, Option.some.injEq, exists_eq_left', aft_s, aft_n, ite_true, ite_false, if_true, if_false, Nat.zero_le, Nat.le_refl, reduceCtorEq, r0, i1, i2, i3, i4, i5, B1, B2, B3, B4, B5, C1, C2, C3, C4, C5]
  refine invk (JJ (q_state σ (xs (i + 1))).2.2 - JJ σ + 400) (4 * (JJ (q_state σ (xs (i + 1))).2.2 - JJ σ + 400)) k1 k2 (h_state D J O  (v1 := xs (i + 1)) k9 k0 (fun v' H1 J1 hv => ?_))
  have r1 : rdI E H1 b 0 = some (L, xs) := rdI_E (J1.fE b hbn) hb
  obtain ⟨M, R1, e1⟩ := J1.2.1
  simp only [eL_law_942, eL_law_944, eL_law_945, eL_law_946, eL_law_948, eL_law_949, eL_law_950, eL_law_951, isA_r, isA_n, isI_i, isF_f, isL_l, is1_i, is1_r, is1_n, is1_f, true_and, and_true, List.length_cons, List.length_nil, Nat.reduceAdd, Nat.reduceLeDiff, Nat.reduceSub, Option.some.injEq, exists_eq_left', aft_s, aft_n, ite_true, ite_false, if_true, if_false, Nat.zero_le, Nat.le_refl, reduceCtorEq, r1, i1, i2, i3, i4, i5, B1, B2, B3, B4, B5, C1, C2, C3, C4, C5]
  refine ⟨J1.mob, inv0 (crdm e1 (c_state (v := xs (i + 1)) D.1 R1 O (fun M' R' => ?_)))⟩
  have J2 := J1.mod D R'
  generalize mv H1 mo ad M' = H2 at J2 ⊢
  obtain ⟨M2, R2, e2⟩ := J2.2.1
  simp only [eL_law_954, eL_law_956, eL_law_957, isA_r, isA_n, isI_i, isF_f, isL_l, is1_i, is1_r, is1_n, is1_f, true_and, and_true, List.length_cons, List.length_nil, Nat.reduceAdd, Nat.reduceLeDiff, Nat.reduceSub, Option.some.injEq, exists_eq_left', aft_s, aft_n, ite_true, ite_false, if_true, if_false, Nat.zero_le, Nat.le_refl, reduceCtorEq]
  refine ⟨J2.mob, inv0 (crdm e2 (c_thrown R2 ?_))⟩
  rw [e2]
  obtain ⟨f, q1, q2⟩ := J2.2.2.1
  by_cases hz : (q_state σ (xs (i + 1))).1 = 0
  · have e5 : (nI (q_state σ (xs (i + 1))).1 = 0) = True := by rw [hz]; exact eq_true rfl
    have hv := hv hz
    simp only [eL_law_960, eL_law_962, eL_law_965, eL_law_966, eL_law_967, eL_law_969, eL_law_972, eL_law_973, eL_law_974, eL_law_975, eL_law_977, eL_law_978, eL_law_979, eL_law_982, eL_law_983, eL_law_984, isA_r, isA_n, isI_i, isF_f, isL_l, is1_i, is1_r, is1_n, is1_f, true_and, and_true, List.length_cons, List.length_nil, Nat.reduceAdd, Nat.reduceLeDiff, Nat.reduceSub, Option.some.injEq, exists_eq_left', aft_s, aft_n, ite_true, ite_false, if_true, if_false, Nat.zero_le, Nat.le_refl, reduceCtorEq, eq_self, e5, rdJ_of q1, b01_0, c0_0, q2, hv, lg_self]
    exact next _ _ _ _ _ _ _ _ _ J2 x1 k5 k6
  · have e5 : (nI (q_state σ (xs (i + 1))).1 = 0) = False := ar3 z1 hz
    simp only [eL_law_960, eL_law_962, eL_law_965, eL_law_966, eL_law_967, eL_law_969, eL_law_972, eL_law_973, eL_law_974, eL_law_975, eL_law_977, eL_law_978, eL_law_979, eL_law_982, eL_law_983, eL_law_984, isA_r, isA_n, isI_i, isF_f, isL_l, is1_i, is1_r, is1_n, is1_f, true_and, and_true, List.length_cons, List.length_nil, Nat.reduceAdd, Nat.reduceLeDiff, Nat.reduceSub, Option.some.injEq, exists_eq_left', aft_s, aft_n, ite_true, ite_false, if_true, if_false, Nat.zero_le, Nat.le_refl, reduceCtorEq, eq_self, e5]
    exact next _ _ _ _ _ _ _ _ _ J2 x1 k5 k6
theorem w_stateByJournal (D : LD mo ad ra rD) (hb : E.1 b = some (arI L xs)) (hL : L ≤ 3072) (hi : i + 6 ≤ L) (J : LJ E x mo ad ra rD σ σ th v w H) (G : Good σ T) (hT : T + 200 < 16384) (hc : 16384 + 420 * (R + 1) ≤ JJ σ + c) (hn : 65536 + 1700 * (R + 1) ≤ 4 * JJ σ + n) (next : NX E d K b x mo ad ra rD i T R) : Ev E (d + 14) mL_law K 987 [.ref b, .ref x, .ref mo, .ref ra, .ref rD, .int (nI i), a6, a7] [] H c n := by
  have hbn : E.1 b ≠ none := by rw [hb]; simp
  have O := G.1
  have hjl := G.2.1.len O.J
  have hj16 : (s_jn σ).length ≤ 16384 := Nat.le_trans hjl (by omega)
  have hj32 : (s_jn σ).length < 32000 := Nat.lt_of_le_of_lt hj16 (by decide)
  have hT6 : T + 60 + 1 < 31000 := by omega
  have hT9 : T < 30900 := by omega
  have hT1 : T + 61 < 30999 := by omega
  have hT3 : T + 30 + 60 ≤ 16384 := by omega
  have r0 : rdI E H b 0 = some (L, xs) := rdI_E (J.fE b hbn) hb
  have i1 : nI i + 1 = nI (i + 1) := nI_1 i
  have i2 : nI i + 2 = nI (i + 2) := nI_add i 2
  have i3 : nI i + 3 = nI (i + 3) := nI_add i 3
  have i4 : nI i + 4 = nI (i + 4) := nI_add i 4
  have i5 : nI i + 5 = nI (i + 5) := nI_add i 5
  have B1 : inB (nI (i + 1)) L = true := inB_nI (by omega) (by omega)
  have C1 : (nI (i + 1)).toNatClampNeg = i + 1 := nI_clamp (by omega)
  have B2 : inB (nI (i + 2)) L = true := inB_nI (by omega) (by omega)
  have C2 : (nI (i + 2)).toNatClampNeg = i + 2 := nI_clamp (by omega)
  have B3 : inB (nI (i + 3)) L = true := inB_nI (by omega) (by omega)
  have C3 : (nI (i + 3)).toNatClampNeg = i + 3 := nI_clamp (by omega)
  have B4 : inB (nI (i + 4)) L = true := inB_nI (by omega) (by omega)
  have C4 : (nI (i + 4)).toNatClampNeg = i + 4 := nI_clamp (by omega)
  have B5 : inB (nI (i + 5)) L = true := inB_nI (by omega) (by omega)
  have C5 : (nI (i + 5)).toNatClampNeg = i + 5 := nI_clamp (by omega)
  have y1 := y_stateByJournal (σ := σ) (v1 := xs (i + 1))
  have x1 := x_stateByJournal (σ := σ) (T := T) (v1 := xs (i + 1)) G
  have z1 := z_stateByJournal (σ := σ) (v1 := xs (i + 1))
  obtain ⟨k1, k2, k3, k4, k5, k6, k7, k8, k9, k0⟩ := ar1 y1 (JJ_top x1 hT3) hc hn
  simp only [eL_law_987, eL_law_988, eL_law_989, eL_law_991, eL_law_992, eL_law_993, eL_law_994, eL_law_995, isA_r, isA_n, isI_i, isF_f, isL_l, is1_i, is1_r, is1_n, is1_f, true_and, and_true, List.length_cons, List.length_nil, Nat.reduceAdd, Nat.reduceLeDiff, Nat.reduceSub, Option.some.injEq, exists_eq_left', aft_s, aft_n, ite_true, ite_false, if_true, if_false, Nat.zero_le, Nat.le_refl, reduceCtorEq, r0, i1, i2, i3, i4, i5, B1, B2, B3, B4, B5, C1, C2, C3, C4, C5]
  refine invk (JJ (q_state σ (xs (i + 1))).2.2 - JJ σ + 400) (4 * (JJ (q_state σ (xs (i + 1))).2.2 - JJ σ + 400)) k1 k2 (h_stateByJournal D J O hj16  (v1 := xs (i + 1)) k9 k0 (fun v' H1 J1 hv => ?_))
  have r1 : rdI E H1 b 0 = some (L, xs) := rdI_E (J1.fE b hbn) hb
  obtain ⟨M, R1, e1⟩ := J1.2.1
  simp only [eL_law_998, eL_law_1000, eL_law_1001, eL_law_1002, eL_law_1004, eL_law_1005, eL_law_1006, eL_law_1007, isA_r, isA_n, isI_i, isF_f, isL_l, is1_i, is1_r, is1_n, is1_f, true_and, and_true, List.length_cons, List.length_nil, Nat.reduceAdd, Nat.reduceLeDiff, Nat.reduceSub, Option.some.injEq, exists_eq_left', aft_s, aft_n, ite_true, ite_false, if_true, if_false, Nat.zero_le, Nat.le_refl, reduceCtorEq, r1, i1, i2, i3, i4, i5, B1, B2, B3, B4, B5, C1, C2, C3, C4, C5]
  refine ⟨J1.mob, inv0 (crdm e1 (c_stateByJournal (v := xs (i + 1)) D.1 R1 O (fun M' R' => ?_)))⟩
  have J2 := J1.mod D R'
  generalize mv H1 mo ad M' = H2 at J2 ⊢
  obtain ⟨M2, R2, e2⟩ := J2.2.1
  simp only [eL_law_1010, eL_law_1012, eL_law_1013, isA_r, isA_n, isI_i, isF_f, isL_l, is1_i, is1_r, is1_n, is1_f, true_and, and_true, List.length_cons, List.length_nil, Nat.reduceAdd, Nat.reduceLeDiff, Nat.reduceSub, Option.some.injEq, exists_eq_left', aft_s, aft_n, ite_true, ite_false, if_true, if_false, Nat.zero_le, Nat.le_refl, reduceCtorEq]
  refine ⟨J2.mob, inv0 (crdm e2 (c_thrown R2 ?_))⟩
  rw [e2]
  obtain ⟨f, q1, q2⟩ := J2.2.2.1
  by_cases hz : (q_state σ (xs (i + 1))).1 = 0
  · have e5 : (nI (q_state σ (xs (i + 1))).1 = 0) = True := by rw [hz]; exact eq_true rfl
    have hv := hv hz
    simp only [eL_law_1016, eL_law_1018, eL_law_1021, eL_law_1022, eL_law_1023, eL_law_1025, eL_law_1028, eL_law_1029, eL_law_1030, eL_law_1031, eL_law_1033, eL_law_1034, eL_law_1035, eL_law_1038, eL_law_1039, eL_law_1040, isA_r, isA_n, isI_i, isF_f, isL_l, is1_i, is1_r, is1_n, is1_f, true_and, and_true, List.length_cons, List.length_nil, Nat.reduceAdd, Nat.reduceLeDiff, Nat.reduceSub, Option.some.injEq, exists_eq_left', aft_s, aft_n, ite_true, ite_false, if_true, if_false, Nat.zero_le, Nat.le_refl, reduceCtorEq, eq_self, e5, rdJ_of q1, b01_0, c0_0, q2, hv, lg_self]
    exact next _ _ _ _ _ _ _ _ _ J2 x1 k5 k6
  · have e5 : (nI (q_state σ (xs (i + 1))).1 = 0) = False := ar3 z1 hz
    simp only [eL_law_1016, eL_law_1018, eL_law_1021, eL_law_1022, eL_law_1023, eL_law_1025, eL_law_1028, eL_law_1029, eL_law_1030, eL_law_1031, eL_law_1033, eL_law_1034, eL_law_1035, eL_law_1038, eL_law_1039, eL_law_1040, isA_r, isA_n, isI_i, isF_f, isL_l, is1_i, is1_r, is1_n, is1_f, true_and, and_true, List.length_cons, List.length_nil, Nat.reduceAdd, Nat.reduceLeDiff, Nat.reduceSub, Option.some.injEq, exists_eq_left', aft_s, aft_n, ite_true, ite_false, if_true, if_false, Nat.zero_le, Nat.le_refl, reduceCtorEq, eq_self, e5]
    exact next _ _ _ _ _ _ _ _ _ J2 x1 k5 k6
theorem w_toDo (D : LD mo ad ra rD) (hb : E.1 b = some (arI L xs)) (hL : L ≤ 3072) (hi : i + 6 ≤ L) (J : LJ E x mo ad ra rD σ σ th v w H) (G : Good σ T) (hT : T + 200 < 16384) (hc : 16384 + 420 * (R + 1) ≤ JJ σ + c) (hn : 65536 + 1700 * (R + 1) ≤ 4 * JJ σ + n) (next : NX E d K b x mo ad ra rD i T R) : Ev E (d + 14) mL_law K 1043 [.ref b, .ref x, .ref mo, .ref ra, .ref rD, .int (nI i), a6, a7] [] H c n := by
  have hbn : E.1 b ≠ none := by rw [hb]; simp
  have O := G.1
  have hjl := G.2.1.len O.J
  have hj16 : (s_jn σ).length ≤ 16384 := Nat.le_trans hjl (by omega)
  have hj32 : (s_jn σ).length < 32000 := Nat.lt_of_le_of_lt hj16 (by decide)
  have hT6 : T + 60 + 1 < 31000 := by omega
  have hT9 : T < 30900 := by omega
  have hT1 : T + 61 < 30999 := by omega
  have hT3 : T + 30 + 60 ≤ 16384 := by omega
  have r0 : rdI E H b 0 = some (L, xs) := rdI_E (J.fE b hbn) hb
  have i1 : nI i + 1 = nI (i + 1) := nI_1 i
  have i2 : nI i + 2 = nI (i + 2) := nI_add i 2
  have i3 : nI i + 3 = nI (i + 3) := nI_add i 3
  have i4 : nI i + 4 = nI (i + 4) := nI_add i 4
  have i5 : nI i + 5 = nI (i + 5) := nI_add i 5
  have B1 : inB (nI (i + 1)) L = true := inB_nI (by omega) (by omega)
  have C1 : (nI (i + 1)).toNatClampNeg = i + 1 := nI_clamp (by omega)
  have B2 : inB (nI (i + 2)) L = true := inB_nI (by omega) (by omega)
  have C2 : (nI (i + 2)).toNatClampNeg = i + 2 := nI_clamp (by omega)
  have B3 : inB (nI (i + 3)) L = true := inB_nI (by omega) (by omega)
  have C3 : (nI (i + 3)).toNatClampNeg = i + 3 := nI_clamp (by omega)
  have B4 : inB (nI (i + 4)) L = true := inB_nI (by omega) (by omega)
  have C4 : (nI (i + 4)).toNatClampNeg = i + 4 := nI_clamp (by omega)
  have B5 : inB (nI (i + 5)) L = true := inB_nI (by omega) (by omega)
  have C5 : (nI (i + 5)).toNatClampNeg = i + 5 := nI_clamp (by omega)
  have y1 := y_toDo (σ := σ) (v1 := xs (i + 1))
  have x1 := x_toDo (σ := σ) (T := T) (v1 := xs (i + 1)) G
  have z1 := z_toDo (σ := σ) (v1 := xs (i + 1))
  obtain ⟨k1, k2, k3, k4, k5, k6, k7, k8, k9, k0⟩ := ar1 y1 (JJ_top x1 hT3) hc hn
  simp only [eL_law_1043, eL_law_1044, eL_law_1045, eL_law_1047, eL_law_1048, eL_law_1049, eL_law_1050, eL_law_1051, isA_r, isA_n, isI_i, isF_f, isL_l, is1_i, is1_r, is1_n, is1_f, true_and, and_true, List.length_cons, List.length_nil, Nat.reduceAdd, Nat.reduceLeDiff, Nat.reduceSub, Option.some.injEq, exists_eq_left', aft_s, aft_n, ite_true, ite_false, if_true, if_false, Nat.zero_le, Nat.le_refl, reduceCtorEq, r0, i1, i2, i3, i4, i5, B1, B2, B3, B4, B5, C1, C2, C3, C4, C5]
  refine invk (JJ (q_toDo σ (xs (i + 1))).2.2 - JJ σ + 400) (4 * (JJ (q_toDo σ (xs (i + 1))).2.2 - JJ σ + 400)) k1 k2 (h_toDo D J O  (v1 := xs (i + 1)) k9 k0 (fun v' H1 J1 hv => ?_))
  have r1 : rdI E H1 b 0 = some (L, xs) := rdI_E (J1.fE b hbn) hb
  obtain ⟨M, R1, e1⟩ := J1.2.1
  simp only [eL_law_1054, eL_law_1056, eL_law_1057, eL_law_1058, eL_law_1060, eL_law_1061, eL_law_1062, eL_law_1063, isA_r, isA_n, isI_i, isF_f, isL_l, is1_i, is1_r, is1_n, is1_f, true_and, and_true, List.length_cons, List.length_nil, Nat.reduceAdd, Nat.reduceLeDiff, Nat.reduceSub, Option.some.injEq, exists_eq_left', aft_s, aft_n, ite_true, ite_false, if_true, if_false, Nat.zero_le, Nat.le_refl, reduceCtorEq, r1, i1, i2, i3, i4, i5, B1, B2, B3, B4, B5, C1, C2, C3, C4, C5]
  refine ⟨J1.mob, inv0 (crdm e1 (c_toDo (v := xs (i + 1)) D.1 R1 O (fun M' R' => ?_)))⟩
  have J2 := J1.mod D R'
  generalize mv H1 mo ad M' = H2 at J2 ⊢
  obtain ⟨M2, R2, e2⟩ := J2.2.1
  simp only [eL_law_1066, eL_law_1068, eL_law_1069, isA_r, isA_n, isI_i, isF_f, isL_l, is1_i, is1_r, is1_n, is1_f, true_and, and_true, List.length_cons, List.length_nil, Nat.reduceAdd, Nat.reduceLeDiff, Nat.reduceSub, Option.some.injEq, exists_eq_left', aft_s, aft_n, ite_true, ite_false, if_true, if_false, Nat.zero_le, Nat.le_refl, reduceCtorEq]
  refine ⟨J2.mob, inv0 (crdm e2 (c_thrown R2 ?_))⟩
  rw [e2]
  obtain ⟨f, q1, q2⟩ := J2.2.2.1
  by_cases hz : (q_toDo σ (xs (i + 1))).1 = 0
  · have e5 : (nI (q_toDo σ (xs (i + 1))).1 = 0) = True := by rw [hz]; exact eq_true rfl
    have hv := hv hz
    simp only [eL_law_1072, eL_law_1074, eL_law_1077, eL_law_1078, eL_law_1079, eL_law_1081, eL_law_1084, eL_law_1085, eL_law_1086, eL_law_1087, eL_law_1089, eL_law_1090, eL_law_1091, eL_law_1094, eL_law_1095, eL_law_1096, isA_r, isA_n, isI_i, isF_f, isL_l, is1_i, is1_r, is1_n, is1_f, true_and, and_true, List.length_cons, List.length_nil, Nat.reduceAdd, Nat.reduceLeDiff, Nat.reduceSub, Option.some.injEq, exists_eq_left', aft_s, aft_n, ite_true, ite_false, if_true, if_false, Nat.zero_le, Nat.le_refl, reduceCtorEq, eq_self, e5, rdJ_of q1, b01_0, c0_0, q2, hv, lg_self]
    exact next _ _ _ _ _ _ _ _ _ J2 x1 k5 k6
  · have e5 : (nI (q_toDo σ (xs (i + 1))).1 = 0) = False := ar3 z1 hz
    simp only [eL_law_1072, eL_law_1074, eL_law_1077, eL_law_1078, eL_law_1079, eL_law_1081, eL_law_1084, eL_law_1085, eL_law_1086, eL_law_1087, eL_law_1089, eL_law_1090, eL_law_1091, eL_law_1094, eL_law_1095, eL_law_1096, isA_r, isA_n, isI_i, isF_f, isL_l, is1_i, is1_r, is1_n, is1_f, true_and, and_true, List.length_cons, List.length_nil, Nat.reduceAdd, Nat.reduceLeDiff, Nat.reduceSub, Option.some.injEq, exists_eq_left', aft_s, aft_n, ite_true, ite_false, if_true, if_false, Nat.zero_le, Nat.le_refl, reduceCtorEq, eq_self, e5]
    exact next _ _ _ _ _ _ _ _ _ J2 x1 k5 k6
theorem w_sessionOf (D : LD mo ad ra rD) (hb : E.1 b = some (arI L xs)) (hL : L ≤ 3072) (hi : i + 6 ≤ L) (J : LJ E x mo ad ra rD σ σ th v w H) (G : Good σ T) (hT : T + 200 < 16384) (hc : 16384 + 420 * (R + 1) ≤ JJ σ + c) (hn : 65536 + 1700 * (R + 1) ≤ 4 * JJ σ + n) (next : NX E d K b x mo ad ra rD i T R) : Ev E (d + 14) mL_law K 1099 [.ref b, .ref x, .ref mo, .ref ra, .ref rD, .int (nI i), a6, a7] [] H c n := by
  have hbn : E.1 b ≠ none := by rw [hb]; simp
  have O := G.1
  have hjl := G.2.1.len O.J
  have hj16 : (s_jn σ).length ≤ 16384 := Nat.le_trans hjl (by omega)
  have hj32 : (s_jn σ).length < 32000 := Nat.lt_of_le_of_lt hj16 (by decide)
  have hT6 : T + 60 + 1 < 31000 := by omega
  have hT9 : T < 30900 := by omega
  have hT1 : T + 61 < 30999 := by omega
  have hT3 : T + 30 + 60 ≤ 16384 := by omega
  have r0 : rdI E H b 0 = some (L, xs) := rdI_E (J.fE b hbn) hb
  have i1 : nI i + 1 = nI (i + 1) := nI_1 i
  have i2 : nI i + 2 = nI (i + 2) := nI_add i 2
  have i3 : nI i + 3 = nI (i + 3) := nI_add i 3
  have i4 : nI i + 4 = nI (i + 4) := nI_add i 4
  have i5 : nI i + 5 = nI (i + 5) := nI_add i 5
  have B1 : inB (nI (i + 1)) L = true := inB_nI (by omega) (by omega)
  have C1 : (nI (i + 1)).toNatClampNeg = i + 1 := nI_clamp (by omega)
  have B2 : inB (nI (i + 2)) L = true := inB_nI (by omega) (by omega)
  have C2 : (nI (i + 2)).toNatClampNeg = i + 2 := nI_clamp (by omega)
  have B3 : inB (nI (i + 3)) L = true := inB_nI (by omega) (by omega)
  have C3 : (nI (i + 3)).toNatClampNeg = i + 3 := nI_clamp (by omega)
  have B4 : inB (nI (i + 4)) L = true := inB_nI (by omega) (by omega)
  have C4 : (nI (i + 4)).toNatClampNeg = i + 4 := nI_clamp (by omega)
  have B5 : inB (nI (i + 5)) L = true := inB_nI (by omega) (by omega)
  have C5 : (nI (i + 5)).toNatClampNeg = i + 5 := nI_clamp (by omega)
  have y1 := y_sessionOf (σ := σ) (v1 := xs (i + 1))
  have x1 := x_sessionOf (σ := σ) (T := T) (v1 := xs (i + 1)) G
  have z1 := z_sessionOf (σ := σ) (v1 := xs (i + 1))
  obtain ⟨k1, k2, k3, k4, k5, k6, k7, k8, k9, k0⟩ := ar1 y1 (JJ_top x1 hT3) hc hn
  simp only [eL_law_1099, eL_law_1100, eL_law_1101, eL_law_1103, eL_law_1104, eL_law_1105, eL_law_1106, eL_law_1107, isA_r, isA_n, isI_i, isF_f, isL_l, is1_i, is1_r, is1_n, is1_f, true_and, and_true, List.length_cons, List.length_nil, Nat.reduceAdd, Nat.reduceLeDiff, Nat.reduceSub, Option.some.injEq, exists_eq_left', aft_s, aft_n, ite_true, ite_false, if_true, if_false, Nat.zero_le, Nat.le_refl, reduceCtorEq, r0, i1, i2, i3, i4, i5, B1, B2, B3, B4, B5, C1, C2, C3, C4, C5]
  refine invk (JJ (q_sessionOf σ (xs (i + 1))).2.2 - JJ σ + 400) (4 * (JJ (q_sessionOf σ (xs (i + 1))).2.2 - JJ σ + 400)) k1 k2 (h_sessionOf D J O  (v1 := xs (i + 1)) k9 k0 (fun v' H1 J1 hv => ?_))
  have r1 : rdI E H1 b 0 = some (L, xs) := rdI_E (J1.fE b hbn) hb
  obtain ⟨M, R1, e1⟩ := J1.2.1
  simp only [eL_law_1110, eL_law_1112, eL_law_1113, eL_law_1114, eL_law_1116, eL_law_1117, eL_law_1118, eL_law_1119, isA_r, isA_n, isI_i, isF_f, isL_l, is1_i, is1_r, is1_n, is1_f, true_and, and_true, List.length_cons, List.length_nil, Nat.reduceAdd, Nat.reduceLeDiff, Nat.reduceSub, Option.some.injEq, exists_eq_left', aft_s, aft_n, ite_true, ite_false, if_true, if_false, Nat.zero_le, Nat.le_refl, reduceCtorEq, r1, i1, i2, i3, i4, i5, B1, B2, B3, B4, B5, C1, C2, C3, C4, C5]
  refine ⟨J1.mob, inv0 (crdm e1 (c_sessionOf (v := xs (i + 1)) D.1 R1 O (fun M' R' => ?_)))⟩
  have J2 := J1.mod D R'
  generalize mv H1 mo ad M' = H2 at J2 ⊢
  obtain ⟨M2, R2, e2⟩ := J2.2.1
  simp only [eL_law_1122, eL_law_1124, eL_law_1125, isA_r, isA_n, isI_i, isF_f, isL_l, is1_i, is1_r, is1_n, is1_f, true_and, and_true, List.length_cons, List.length_nil, Nat.reduceAdd, Nat.reduceLeDiff, Nat.reduceSub, Option.some.injEq, exists_eq_left', aft_s, aft_n, ite_true, ite_false, if_true, if_false, Nat.zero_le, Nat.le_refl, reduceCtorEq]
  refine ⟨J2.mob, inv0 (crdm e2 (c_thrown R2 ?_))⟩
  rw [e2]
  obtain ⟨f, q1, q2⟩ := J2.2.2.1
  by_cases hz : (q_sessionOf σ (xs (i + 1))).1 = 0
  · have e5 : (nI (q_sessionOf σ (xs (i + 1))).1 = 0) = True := by rw [hz]; exact eq_true rfl
    have hv := hv hz
    simp only [eL_law_1128, eL_law_1130, eL_law_1133, eL_law_1134, eL_law_1135, eL_law_1137, eL_law_1140, eL_law_1141, eL_law_1142, eL_law_1143, eL_law_1145, eL_law_1146, eL_law_1147, eL_law_1150, eL_law_1151, eL_law_1152, isA_r, isA_n, isI_i, isF_f, isL_l, is1_i, is1_r, is1_n, is1_f, true_and, and_true, List.length_cons, List.length_nil, Nat.reduceAdd, Nat.reduceLeDiff, Nat.reduceSub, Option.some.injEq, exists_eq_left', aft_s, aft_n, ite_true, ite_false, if_true, if_false, Nat.zero_le, Nat.le_refl, reduceCtorEq, eq_self, e5, rdJ_of q1, b01_0, c0_0, q2, hv, lg_self]
    exact next _ _ _ _ _ _ _ _ _ J2 x1 k5 k6
  · have e5 : (nI (q_sessionOf σ (xs (i + 1))).1 = 0) = False := ar3 z1 hz
    simp only [eL_law_1128, eL_law_1130, eL_law_1133, eL_law_1134, eL_law_1135, eL_law_1137, eL_law_1140, eL_law_1141, eL_law_1142, eL_law_1143, eL_law_1145, eL_law_1146, eL_law_1147, eL_law_1150, eL_law_1151, eL_law_1152, isA_r, isA_n, isI_i, isF_f, isL_l, is1_i, is1_r, is1_n, is1_f, true_and, and_true, List.length_cons, List.length_nil, Nat.reduceAdd, Nat.reduceLeDiff, Nat.reduceSub, Option.some.injEq, exists_eq_left', aft_s, aft_n, ite_true, ite_false, if_true, if_false, Nat.zero_le, Nat.le_refl, reduceCtorEq, eq_self, e5]
    exact next _ _ _ _ _ _ _ _ _ J2 x1 k5 k6
theorem w_front (D : LD mo ad ra rD) (hb : E.1 b = some (arI L xs)) (hL : L ≤ 3072) (hi : i + 6 ≤ L) (J : LJ E x mo ad ra rD σ σ th v w H) (G : Good σ T) (hT : T + 200 < 16384) (hc : 16384 + 420 * (R + 1) ≤ JJ σ + c) (hn : 65536 + 1700 * (R + 1) ≤ 4 * JJ σ + n) (next : NX E d K b x mo ad ra rD i T R) : Ev E (d + 14) mL_law K 1155 [.ref b, .ref x, .ref mo, .ref ra, .ref rD, .int (nI i), a6, a7] [] H c n := by
  have hbn : E.1 b ≠ none := by rw [hb]; simp
  have O := G.1
  have hjl := G.2.1.len O.J
  have hj16 : (s_jn σ).length ≤ 16384 := Nat.le_trans hjl (by omega)
  have hj32 : (s_jn σ).length < 32000 := Nat.lt_of_le_of_lt hj16 (by decide)
  have hT6 : T + 60 + 1 < 31000 := by omega
  have hT9 : T < 30900 := by omega
  have hT1 : T + 61 < 30999 := by omega
  have hT3 : T + 30 + 60 ≤ 16384 := by omega
  have r0 : rdI E H b 0 = some (L, xs) := rdI_E (J.fE b hbn) hb
  have i1 : nI i + 1 = nI (i + 1) := nI_1 i
  have i2 : nI i + 2 = nI (i + 2) := nI_add i 2
  have i3 : nI i + 3 = nI (i + 3) := nI_add i 3
  have i4 : nI i + 4 = nI (i + 4) := nI_add i 4
  have i5 : nI i + 5 = nI (i + 5) := nI_add i 5
  have B1 : inB (nI (i + 1)) L = true := inB_nI (by omega) (by omega)
  have C1 : (nI (i + 1)).toNatClampNeg = i + 1 := nI_clamp (by omega)
  have B2 : inB (nI (i + 2)) L = true := inB_nI (by omega) (by omega)
  have C2 : (nI (i + 2)).toNatClampNeg = i + 2 := nI_clamp (by omega)
  have B3 : inB (nI (i + 3)) L = true := inB_nI (by omega) (by omega)
  have C3 : (nI (i + 3)).toNatClampNeg = i + 3 := nI_clamp (by omega)
  have B4 : inB (nI (i + 4)) L = true := inB_nI (by omega) (by omega)
  have C4 : (nI (i + 4)).toNatClampNeg = i + 4 := nI_clamp (by omega)
  have B5 : inB (nI (i + 5)) L = true := inB_nI (by omega) (by omega)
  have C5 : (nI (i + 5)).toNatClampNeg = i + 5 := nI_clamp (by omega)
  have y1 := y_front (σ := σ) (v1 := xs (i + 1))
  have x1 := x_front (σ := σ) (T := T) (v1 := xs (i + 1)) G
  have z1 := z_front (σ := σ) (v1 := xs (i + 1))
  obtain ⟨k1, k2, k3, k4, k5, k6, k7, k8, k9, k0⟩ := ar1 y1 (JJ_top x1 hT3) hc hn
  simp only [eL_law_1155, eL_law_1156, eL_law_1157, eL_law_1159, eL_law_1160, eL_law_1161, eL_law_1162, eL_law_1163, isA_r, isA_n, isI_i, isF_f, isL_l, is1_i, is1_r, is1_n, is1_f, true_and, and_true, List.length_cons, List.length_nil, Nat.reduceAdd, Nat.reduceLeDiff, Nat.reduceSub, Option.some.injEq, exists_eq_left', aft_s, aft_n, ite_true, ite_false, if_true, if_false, Nat.zero_le, Nat.le_refl, reduceCtorEq, r0, i1, i2, i3, i4, i5, B1, B2, B3, B4, B5, C1, C2, C3, C4, C5]
  refine invk (JJ (q_front σ (xs (i + 1))).2.2 - JJ σ + 400) (4 * (JJ (q_front σ (xs (i + 1))).2.2 - JJ σ + 400)) k1 k2 (h_front D J O  (v1 := xs (i + 1)) k9 k0 (fun v' H1 J1 hv => ?_))
  have r1 : rdI E H1 b 0 = some (L, xs) := rdI_E (J1.fE b hbn) hb
  obtain ⟨M, R1, e1⟩ := J1.2.1
  simp only [eL_law_1166, eL_law_1168, eL_law_1169, eL_law_1170, eL_law_1172, eL_law_1173, eL_law_1174, eL_law_1175, isA_r, isA_n, isI_i, isF_f, isL_l, is1_i, is1_r, is1_n, is1_f, true_and, and_true, List.length_cons, List.length_nil, Nat.reduceAdd, Nat.reduceLeDiff, Nat.reduceSub, Option.some.injEq, exists_eq_left', aft_s, aft_n, ite_true, ite_false, if_true, if_false, Nat.zero_le, Nat.le_refl, reduceCtorEq, r1, i1, i2, i3, i4, i5, B1, B2, B3, B4, B5, C1, C2, C3, C4, C5]
  refine ⟨J1.mob, inv0 (crdm e1 (c_front (v := xs (i + 1)) D.1 R1 O (fun M' R' => ?_)))⟩
  have J2 := J1.mod D R'
  generalize mv H1 mo ad M' = H2 at J2 ⊢
  obtain ⟨M2, R2, e2⟩ := J2.2.1
  simp only [eL_law_1178, eL_law_1180, eL_law_1181, isA_r, isA_n, isI_i, isF_f, isL_l, is1_i, is1_r, is1_n, is1_f, true_and, and_true, List.length_cons, List.length_nil, Nat.reduceAdd, Nat.reduceLeDiff, Nat.reduceSub, Option.some.injEq, exists_eq_left', aft_s, aft_n, ite_true, ite_false, if_true, if_false, Nat.zero_le, Nat.le_refl, reduceCtorEq]
  refine ⟨J2.mob, inv0 (crdm e2 (c_thrown R2 ?_))⟩
  rw [e2]
  obtain ⟨f, q1, q2⟩ := J2.2.2.1
  by_cases hz : (q_front σ (xs (i + 1))).1 = 0
  · have e5 : (nI (q_front σ (xs (i + 1))).1 = 0) = True := by rw [hz]; exact eq_true rfl
    have hv := hv hz
    simp only [eL_law_1184, eL_law_1186, eL_law_1189, eL_law_1190, eL_law_1191, eL_law_1193, eL_law_1196, eL_law_1197, eL_law_1198, eL_law_1199, eL_law_1201, eL_law_1202, eL_law_1203, eL_law_1206, eL_law_1207, eL_law_1208, isA_r, isA_n, isI_i, isF_f, isL_l, is1_i, is1_r, is1_n, is1_f, true_and, and_true, List.length_cons, List.length_nil, Nat.reduceAdd, Nat.reduceLeDiff, Nat.reduceSub, Option.some.injEq, exists_eq_left', aft_s, aft_n, ite_true, ite_false, if_true, if_false, Nat.zero_le, Nat.le_refl, reduceCtorEq, eq_self, e5, rdJ_of q1, b01_0, c0_0, q2, hv, lg_self]
    exact next _ _ _ _ _ _ _ _ _ J2 x1 k5 k6
  · have e5 : (nI (q_front σ (xs (i + 1))).1 = 0) = False := ar3 z1 hz
    simp only [eL_law_1184, eL_law_1186, eL_law_1189, eL_law_1190, eL_law_1191, eL_law_1193, eL_law_1196, eL_law_1197, eL_law_1198, eL_law_1199, eL_law_1201, eL_law_1202, eL_law_1203, eL_law_1206, eL_law_1207, eL_law_1208, isA_r, isA_n, isI_i, isF_f, isL_l, is1_i, is1_r, is1_n, is1_f, true_and, and_true, List.length_cons, List.length_nil, Nat.reduceAdd, Nat.reduceLeDiff, Nat.reduceSub, Option.some.injEq, exists_eq_left', aft_s, aft_n, ite_true, ite_false, if_true, if_false, Nat.zero_le, Nat.le_refl, reduceCtorEq, eq_self, e5]
    exact next _ _ _ _ _ _ _ _ _ J2 x1 k5 k6
theorem w_toFront (D : LD mo ad ra rD) (hb : E.1 b = some (arI L xs)) (hL : L ≤ 3072) (hi : i + 6 ≤ L) (J : LJ E x mo ad ra rD σ σ th v w H) (G : Good σ T) (hT : T + 200 < 16384) (hc : 16384 + 420 * (R + 1) ≤ JJ σ + c) (hn : 65536 + 1700 * (R + 1) ≤ 4 * JJ σ + n) (next : NX E d K b x mo ad ra rD i T R) : Ev E (d + 14) mL_law K 1211 [.ref b, .ref x, .ref mo, .ref ra, .ref rD, .int (nI i), a6, a7] [] H c n := by
  have hbn : E.1 b ≠ none := by rw [hb]; simp
  have O := G.1
  have hjl := G.2.1.len O.J
  have hj16 : (s_jn σ).length ≤ 16384 := Nat.le_trans hjl (by omega)
  have hj32 : (s_jn σ).length < 32000 := Nat.lt_of_le_of_lt hj16 (by decide)
  have hT6 : T + 60 + 1 < 31000 := by omega
  have hT9 : T < 30900 := by omega
  have hT1 : T + 61 < 30999 := by omega
  have hT3 : T + 30 + 60 ≤ 16384 := by omega
  have r0 : rdI E H b 0 = some (L, xs) := rdI_E (J.fE b hbn) hb
  have i1 : nI i + 1 = nI (i + 1) := nI_1 i
  have i2 : nI i + 2 = nI (i + 2) := nI_add i 2
  have i3 : nI i + 3 = nI (i + 3) := nI_add i 3
  have i4 : nI i + 4 = nI (i + 4) := nI_add i 4
  have i5 : nI i + 5 = nI (i + 5) := nI_add i 5
  have B1 : inB (nI (i + 1)) L = true := inB_nI (by omega) (by omega)
  have C1 : (nI (i + 1)).toNatClampNeg = i + 1 := nI_clamp (by omega)
  have B2 : inB (nI (i + 2)) L = true := inB_nI (by omega) (by omega)
  have C2 : (nI (i + 2)).toNatClampNeg = i + 2 := nI_clamp (by omega)
  have B3 : inB (nI (i + 3)) L = true := inB_nI (by omega) (by omega)
  have C3 : (nI (i + 3)).toNatClampNeg = i + 3 := nI_clamp (by omega)
  have B4 : inB (nI (i + 4)) L = true := inB_nI (by omega) (by omega)
  have C4 : (nI (i + 4)).toNatClampNeg = i + 4 := nI_clamp (by omega)
  have B5 : inB (nI (i + 5)) L = true := inB_nI (by omega) (by omega)
  have C5 : (nI (i + 5)).toNatClampNeg = i + 5 := nI_clamp (by omega)
  have y1 := y_toFront (σ := σ) (v1 := xs (i + 1))
  have x1 := x_toFront (σ := σ) (T := T) (v1 := xs (i + 1)) G
  have z1 := z_toFront (σ := σ) (v1 := xs (i + 1))
  obtain ⟨k1, k2, k3, k4, k5, k6, k7, k8, k9, k0⟩ := ar1 y1 (JJ_top x1 hT3) hc hn
  simp only [eL_law_1211, eL_law_1212, eL_law_1213, eL_law_1215, eL_law_1216, eL_law_1217, eL_law_1218, eL_law_1219, isA_r, isA_n, isI_i, isF_f, isL_l, is1_i, is1_r, is1_n, is1_f, true_and, and_true, List.length_cons, List.length_nil, Nat.reduceAdd, Nat.reduceLeDiff, Nat.reduceSub, Option.some.injEq, exists_eq_left', aft_s, aft_n, ite_true, ite_false, if_true, if_false, Nat.zero_le, Nat.le_refl, reduceCtorEq, r0, i1, i2, i3, i4, i5, B1, B2, B3, B4, B5, C1, C2, C3, C4, C5]
  refine invk (JJ (a_toFront σ (xs (i + 1))).2.2 - JJ σ + 400) (4 * (JJ (a_toFront σ (xs (i + 1))).2.2 - JJ σ + 400)) k1 k2 (h_toFront D J O  (v1 := xs (i + 1)) k9 k0 (fun v' H1 J1 hv => ?_))
  have r1 : rdI E H1 b 0 = some (L, xs) := rdI_E (J1.fE b hbn) hb
  obtain ⟨M, R1, e1⟩ := J1.2.1
  simp only [eL_law_1222, eL_law_1224, eL_law_1225, eL_law_1226, eL_law_1228, eL_law_1229, eL_law_1230, eL_law_1231, isA_r, isA_n, isI_i, isF_f, isL_l, is1_i, is1_r, is1_n, is1_f, true_and, and_true, List.length_cons, List.length_nil, Nat.reduceAdd, Nat.reduceLeDiff, Nat.reduceSub, Option.some.injEq, exists_eq_left', aft_s, aft_n, ite_true, ite_false, if_true, if_false, Nat.zero_le, Nat.le_refl, reduceCtorEq, r1, i1, i2, i3, i4, i5, B1, B2, B3, B4, B5, C1, C2, C3, C4, C5]
  refine ⟨J1.mob, inv0 (crdm e1 (c_toFront (v := xs (i + 1)) D.1 R1 O (fun M' R' => ?_)))⟩
  have J2 := J1.mod D R'
  generalize mv H1 mo ad M' = H2 at J2 ⊢
  obtain ⟨M2, R2, e2⟩ := J2.2.1
  simp only [eL_law_1234, eL_law_1236, eL_law_1237, isA_r, isA_n, isI_i, isF_f, isL_l, is1_i, is1_r, is1_n, is1_f, true_and, and_true, List.length_cons, List.length_nil, Nat.reduceAdd, Nat.reduceLeDiff, Nat.reduceSub, Option.some.injEq, exists_eq_left', aft_s, aft_n, ite_true, ite_false, if_true, if_false, Nat.zero_le, Nat.le_refl, reduceCtorEq]
  refine ⟨J2.mob, inv0 (crdm e2 (c_thrown R2 ?_))⟩
  rw [e2]
  obtain ⟨f, q1, q2⟩ := J2.2.2.1
  by_cases hz : (a_toFront σ (xs (i + 1))).1 = 0
  · have e5 : (nI (a_toFront σ (xs (i + 1))).1 = 0) = True := by rw [hz]; exact eq_true rfl
    have hv := hv hz
    by_cases hb2 : (a_toFront σ (xs (i + 1))).2.1 = 0
    · have e6 : ((a_toFront σ (xs (i + 1))).2.1 = 0) = True := eq_true hb2
      rw [if_pos hb2] at hv
      simp only [eL_law_1240, eL_law_1242, eL_law_1245, eL_law_1246, eL_law_1247, eL_law_1249, eL_law_1252, eL_law_1253, eL_law_1254, eL_law_1255, eL_law_1257, eL_law_1260, eL_law_1261, eL_law_1264, eL_law_1265, eL_law_1266, eL_law_1269, eL_law_1270, eL_law_1271, isA_r, isA_n, isI_i, isF_f, isL_l, is1_i, is1_r, is1_n, is1_f, true_and, and_true, List.length_cons, List.length_nil, Nat.reduceAdd, Nat.reduceLeDiff, Nat.reduceSub, Option.some.injEq, exists_eq_left', aft_s, aft_n, ite_true, ite_false, if_true, if_false, Nat.zero_le, Nat.le_refl, reduceCtorEq, eq_self, e5, e6, rdJ_of q1, b01_0, c0_0, q2, hv, lg_self]
      exact next _ _ _ _ _ _ _ _ _ J2 x1 k5 k6
    · have e6 : ((a_toFront σ (xs (i + 1))).2.1 = 0) = False := eq_false hb2
      rw [if_neg hb2] at hv
      simp only [eL_law_1240, eL_law_1242, eL_law_1245, eL_law_1246, eL_law_1247, eL_law_1249, eL_law_1252, eL_law_1253, eL_law_1254, eL_law_1255, eL_law_1257, eL_law_1260, eL_law_1261, eL_law_1264, eL_law_1265, eL_law_1266, eL_law_1269, eL_law_1270, eL_law_1271, isA_r, isA_n, isI_i, isF_f, isL_l, is1_i, is1_r, is1_n, is1_f, true_and, and_true, List.length_cons, List.length_nil, Nat.reduceAdd, Nat.reduceLeDiff, Nat.reduceSub, Option.some.injEq, exists_eq_left', aft_s, aft_n, ite_true, ite_false, if_true, if_false, Nat.zero_le, Nat.le_refl, reduceCtorEq, eq_self, e5, e6, rdJ_of q1, b01_0, c0_0, q2, hv, lg_self]
      exact next _ _ _ _ _ _ _ _ _ J2 x1 k5 k6
  · have e5 : (nI (a_toFront σ (xs (i + 1))).1 = 0) = False := ar3 z1 hz
    simp only [eL_law_1240, eL_law_1242, eL_law_1245, eL_law_1246, eL_law_1247, eL_law_1249, eL_law_1252, eL_law_1253, eL_law_1254, eL_law_1255, eL_law_1257, eL_law_1260, eL_law_1261, eL_law_1264, eL_law_1265, eL_law_1266, eL_law_1269, eL_law_1270, eL_law_1271, isA_r, isA_n, isI_i, isF_f, isL_l, is1_i, is1_r, is1_n, is1_f, true_and, and_true, List.length_cons, List.length_nil, Nat.reduceAdd, Nat.reduceLeDiff, Nat.reduceSub, Option.some.injEq, exists_eq_left', aft_s, aft_n, ite_true, ite_false, if_true, if_false, Nat.zero_le, Nat.le_refl, reduceCtorEq, eq_self, e5]
    exact next _ _ _ _ _ _ _ _ _ J2 x1 k5 k6
theorem w_toBack (D : LD mo ad ra rD) (hb : E.1 b = some (arI L xs)) (hL : L ≤ 3072) (hi : i + 6 ≤ L) (J : LJ E x mo ad ra rD σ σ th v w H) (G : Good σ T) (hT : T + 200 < 16384) (hc : 16384 + 420 * (R + 1) ≤ JJ σ + c) (hn : 65536 + 1700 * (R + 1) ≤ 4 * JJ σ + n) (next : NX E d K b x mo ad ra rD i T R) : Ev E (d + 14) mL_law K 1274 [.ref b, .ref x, .ref mo, .ref ra, .ref rD, .int (nI i), a6, a7] [] H c n := by
  have hbn : E.1 b ≠ none := by rw [hb]; simp
  have O := G.1
  have hjl := G.2.1.len O.J
  have hj16 : (s_jn σ).length ≤ 16384 := Nat.le_trans hjl (by omega)
  have hj32 : (s_jn σ).length < 32000 := Nat.lt_of_le_of_lt hj16 (by decide)
  have hT6 : T + 60 + 1 < 31000 := by omega
  have hT9 : T < 30900 := by omega
  have hT1 : T + 61 < 30999 := by omega
  have hT3 : T + 30 + 60 ≤ 16384 := by omega
  have r0 : rdI E H b 0 = some (L, xs) := rdI_E (J.fE b hbn) hb
  have i1 : nI i + 1 = nI (i + 1) := nI_1 i
  have i2 : nI i + 2 = nI (i + 2) := nI_add i 2
  have i3 : nI i + 3 = nI (i + 3) := nI_add i 3
  have i4 : nI i + 4 = nI (i + 4) := nI_add i 4
  have i5 : nI i + 5 = nI (i + 5) := nI_add i 5
  have B1 : inB (nI (i + 1)) L = true := inB_nI (by omega) (by omega)
  have C1 : (nI (i + 1)).toNatClampNeg = i + 1 := nI_clamp (by omega)
  have B2 : inB (nI (i + 2)) L = true := inB_nI (by omega) (by omega)
  have C2 : (nI (i + 2)).toNatClampNeg = i + 2 := nI_clamp (by omega)
  have B3 : inB (nI (i + 3)) L = true := inB_nI (by omega) (by omega)
  have C3 : (nI (i + 3)).toNatClampNeg = i + 3 := nI_clamp (by omega)
  have B4 : inB (nI (i + 4)) L = true := inB_nI (by omega) (by omega)
  have C4 : (nI (i + 4)).toNatClampNeg = i + 4 := nI_clamp (by omega)
  have B5 : inB (nI (i + 5)) L = true := inB_nI (by omega) (by omega)
  have C5 : (nI (i + 5)).toNatClampNeg = i + 5 := nI_clamp (by omega)
  have y1 := y_toBack (σ := σ) (v1 := xs (i + 1))
  have x1 := x_toBack (σ := σ) (T := T) (v1 := xs (i + 1)) G
  have z1 := z_toBack (σ := σ) (v1 := xs (i + 1))
  obtain ⟨k1, k2, k3, k4, k5, k6, k7, k8, k9, k0⟩ := ar1 y1 (JJ_top x1 hT3) hc hn
  simp only [eL_law_1274, eL_law_1275, eL_law_1276, eL_law_1278, eL_law_1279, eL_law_1280, eL_law_1281, eL_law_1282, isA_r, isA_n, isI_i, isF_f, isL_l, is1_i, is1_r, is1_n, is1_f, true_and, and_true, List.length_cons, List.length_nil, Nat.reduceAdd, Nat.reduceLeDiff, Nat.reduceSub, Option.some.injEq, exists_eq_left', aft_s, aft_n, ite_true, ite_false, if_true, if_false, Nat.zero_le, Nat.le_refl, reduceCtorEq, r0, i1, i2, i3, i4, i5, B1, B2, B3, B4, B5, C1, C2, C3, C4, C5]
  refine invk (JJ (q_toBack σ (xs (i + 1))).2.2 - JJ σ + 400) (4 * (JJ (q_toBack σ (xs (i + 1))).2.2 - JJ σ + 400)) k1 k2 (h_toBack D J O  (v1 := xs (i + 1)) k9 k0 (fun v' H1 J1 hv => ?_))
  have r1 : rdI E H1 b 0 = some (L, xs) := rdI_E (J1.fE b hbn) hb
  obtain ⟨M, R1, e1⟩ := J1.2.1
  simp only [eL_law_1285, eL_law_1287, eL_law_1288, eL_law_1289, eL_law_1291, eL_law_1292, eL_law_1293, eL_law_1294, isA_r, isA_n, isI_i, isF_f, isL_l, is1_i, is1_r, is1_n, is1_f, true_and, and_true, List.length_cons, List.length_nil, Nat.reduceAdd, Nat.reduceLeDiff, Nat.reduceSub, Option.some.injEq, exists_eq_left', aft_s, aft_n, ite_true, ite_false, if_true, if_false, Nat.zero_le, Nat.le_refl, reduceCtorEq, r1, i1, i2, i3, i4, i5, B1, B2, B3, B4, B5, C1, C2, C3, C4, C5]
  refine ⟨J1.mob, inv0 (crdm e1 (c_toBack (v := xs (i + 1)) D.1 R1 O (fun M' R' => ?_)))⟩
  have J2 := J1.mod D R'
  generalize mv H1 mo ad M' = H2 at J2 ⊢
  obtain ⟨M2, R2, e2⟩ := J2.2.1
  simp only [eL_law_1297, eL_law_1299, eL_law_1300, isA_r, isA_n, isI_i, isF_f, isL_l, is1_i, is1_r, is1_n, is1_f, true_and, and_true, List.length_cons, List.length_nil, Nat.reduceAdd, Nat.reduceLeDiff, Nat.reduceSub, Option.some.injEq, exists_eq_left', aft_s, aft_n, ite_true, ite_false, if_true, if_false, Nat.zero_le, Nat.le_refl, reduceCtorEq]
  refine ⟨J2.mob, inv0 (crdm e2 (c_thrown R2 ?_))⟩
  rw [e2]
  obtain ⟨f, q1, q2⟩ := J2.2.2.1
  by_cases hz : (q_toBack σ (xs (i + 1))).1 = 0
  · have e5 : (nI (q_toBack σ (xs (i + 1))).1 = 0) = True := by rw [hz]; exact eq_true rfl
    have hv := hv hz
    simp only [eL_law_1303, eL_law_1305, eL_law_1308, eL_law_1309, eL_law_1310, eL_law_1312, eL_law_1315, eL_law_1316, eL_law_1317, eL_law_1318, eL_law_1320, eL_law_1321, eL_law_1322, eL_law_1325, eL_law_1326, eL_law_1327, isA_r, isA_n, isI_i, isF_f, isL_l, is1_i, is1_r, is1_n, is1_f, true_and, and_true, List.length_cons, List.length_nil, Nat.reduceAdd, Nat.reduceLeDiff, Nat.reduceSub, Option.some.injEq, exists_eq_left', aft_s, aft_n, ite_true, ite_false, if_true, if_false, Nat.zero_le, Nat.le_refl, reduceCtorEq, eq_self, e5, rdJ_of q1, b01_0, c0_0, q2, hv, lg_self]
    exact next _ _ _ _ _ _ _ _ _ J2 x1 k5 k6
  · have e5 : (nI (q_toBack σ (xs (i + 1))).1 = 0) = False := ar3 z1 hz
    simp only [eL_law_1303, eL_law_1305, eL_law_1308, eL_law_1309, eL_law_1310, eL_law_1312, eL_law_1315, eL_law_1316, eL_law_1317, eL_law_1318, eL_law_1320, eL_law_1321, eL_law_1322, eL_law_1325, eL_law_1326, eL_law_1327, isA_r, isA_n, isI_i, isF_f, isL_l, is1_i, is1_r, is1_n, is1_f, true_and, and_true, List.length_cons, List.length_nil, Nat.reduceAdd, Nat.reduceLeDiff, Nat.reduceSub, Option.some.injEq, exists_eq_left', aft_s, aft_n, ite_true, ite_false, if_true, if_false, Nat.zero_le, Nat.le_refl, reduceCtorEq, eq_self, e5]
    exact next _ _ _ _ _ _ _ _ _ J2 x1 k5 k6
theorem w_count (D : LD mo ad ra rD) (hb : E.1 b = some (arI L xs)) (hL : L ≤ 3072) (hi : i + 6 ≤ L) (J : LJ E x mo ad ra rD σ σ th v w H) (G : Good σ T) (hT : T + 200 < 16384) (hc : 16384 + 420 * (R + 1) ≤ JJ σ + c) (hn : 65536 + 1700 * (R + 1) ≤ 4 * JJ σ + n) (next : NX E d K b x mo ad ra rD i T R) : Ev E (d + 14) mL_law K 1330 [.ref b, .ref x, .ref mo, .ref ra, .ref rD, .int (nI i), a6, a7] [] H c n := by
  have hbn : E.1 b ≠ none := by rw [hb]; simp
  have O := G.1
  have hjl := G.2.1.len O.J
  have hj16 : (s_jn σ).length ≤ 16384 := Nat.le_trans hjl (by omega)
  have hj32 : (s_jn σ).length < 32000 := Nat.lt_of_le_of_lt hj16 (by decide)
  have hT6 : T + 60 + 1 < 31000 := by omega
  have hT9 : T < 30900 := by omega
  have hT1 : T + 61 < 30999 := by omega
  have hT3 : T + 30 + 60 ≤ 16384 := by omega
  have r0 : rdI E H b 0 = some (L, xs) := rdI_E (J.fE b hbn) hb
  have i1 : nI i + 1 = nI (i + 1) := nI_1 i
  have i2 : nI i + 2 = nI (i + 2) := nI_add i 2
  have i3 : nI i + 3 = nI (i + 3) := nI_add i 3
  have i4 : nI i + 4 = nI (i + 4) := nI_add i 4
  have i5 : nI i + 5 = nI (i + 5) := nI_add i 5
  have B1 : inB (nI (i + 1)) L = true := inB_nI (by omega) (by omega)
  have C1 : (nI (i + 1)).toNatClampNeg = i + 1 := nI_clamp (by omega)
  have B2 : inB (nI (i + 2)) L = true := inB_nI (by omega) (by omega)
  have C2 : (nI (i + 2)).toNatClampNeg = i + 2 := nI_clamp (by omega)
  have B3 : inB (nI (i + 3)) L = true := inB_nI (by omega) (by omega)
  have C3 : (nI (i + 3)).toNatClampNeg = i + 3 := nI_clamp (by omega)
  have B4 : inB (nI (i + 4)) L = true := inB_nI (by omega) (by omega)
  have C4 : (nI (i + 4)).toNatClampNeg = i + 4 := nI_clamp (by omega)
  have B5 : inB (nI (i + 5)) L = true := inB_nI (by omega) (by omega)
  have C5 : (nI (i + 5)).toNatClampNeg = i + 5 := nI_clamp (by omega)
  have y1 := y_count (σ := σ) (v1 := xs (i + 1)) (v2 := ((xs (i + 2)).toUInt32 % 65536).toInt32)
  have x1 := x_count (σ := σ) (T := T) (v1 := xs (i + 1)) (v2 := ((xs (i + 2)).toUInt32 % 65536).toInt32) G
  have z1 := z_count (σ := σ) (v1 := xs (i + 1)) (v2 := ((xs (i + 2)).toUInt32 % 65536).toInt32)
  obtain ⟨k1, k2, k3, k4, k5, k6, k7, k8, k9, k0⟩ := ar1 y1 (JJ_top x1 hT3) hc hn
  simp only [eL_law_1330, eL_law_1331, eL_law_1332, eL_law_1334, eL_law_1335, eL_law_1336, eL_law_1337, eL_law_1338, eL_law_1340, eL_law_1341, eL_law_1342, eL_law_1343, eL_law_1344, eL_law_1345, isA_r, isA_n, isI_i, isF_f, isL_l, is1_i, is1_r, is1_n, is1_f, true_and, and_true, List.length_cons, List.length_nil, Nat.reduceAdd, Nat.reduceLeDiff, Nat.reduceSub, Option.some.injEq, exists_eq_left', aft_s, aft_n, ite_true, ite_false, if_true, if_false, Nat.zero_le, Nat.le_refl, reduceCtorEq, r0, i1, i2, i3, i4, i5, B1, B2, B3, B4, B5, C1, C2, C3, C4, C5]
  refine invk (JJ (q_count σ (xs (i + 1)) ((xs (i + 2)).toUInt32 % 65536).toInt32).2.2 - JJ σ + 400) (4 * (JJ (q_count σ (xs (i + 1)) ((xs (i + 2)).toUInt32 % 65536).toInt32).2.2 - JJ σ + 400)) k1 k2 (h_count D J O  (v1 := xs (i + 1)) (v2 := ((xs (i + 2)).toUInt32 % 65536).toInt32) k9 k0 (fun v' H1 J1 hv => ?_))
  have r1 : rdI E H1 b 0 = some (L, xs) := rdI_E (J1.fE b hbn) hb
  obtain ⟨M, R1, e1⟩ := J1.2.1
  simp only [eL_law_1348, eL_law_1350, eL_law_1351, eL_law_1352, eL_law_1354, eL_law_1355, eL_law_1356, eL_law_1357, eL_law_1358, eL_law_1360, eL_law_1361, eL_law_1362, eL_law_1363, eL_law_1364, isA_r, isA_n, isI_i, isF_f, isL_l, is1_i, is1_r, is1_n, is1_f, true_and, and_true, List.length_cons, List.length_nil, Nat.reduceAdd, Nat.reduceLeDiff, Nat.reduceSub, Option.some.injEq, exists_eq_left', aft_s, aft_n, ite_true, ite_false, if_true, if_false, Nat.zero_le, Nat.le_refl, reduceCtorEq, r1, i1, i2, i3, i4, i5, B1, B2, B3, B4, B5, C1, C2, C3, C4, C5]
  refine ⟨J1.mob, inv0 (crdm e1 (c_count (v := xs (i + 1)) (x := ((xs (i + 2)).toUInt32 % 65536).toInt32) D.1 R1 O (fun M' R' => ?_)))⟩
  have J2 := J1.mod D R'
  generalize mv H1 mo ad M' = H2 at J2 ⊢
  obtain ⟨M2, R2, e2⟩ := J2.2.1
  simp only [eL_law_1367, eL_law_1369, eL_law_1370, isA_r, isA_n, isI_i, isF_f, isL_l, is1_i, is1_r, is1_n, is1_f, true_and, and_true, List.length_cons, List.length_nil, Nat.reduceAdd, Nat.reduceLeDiff, Nat.reduceSub, Option.some.injEq, exists_eq_left', aft_s, aft_n, ite_true, ite_false, if_true, if_false, Nat.zero_le, Nat.le_refl, reduceCtorEq]
  refine ⟨J2.mob, inv0 (crdm e2 (c_thrown R2 ?_))⟩
  rw [e2]
  obtain ⟨f, q1, q2⟩ := J2.2.2.1
  by_cases hz : (q_count σ (xs (i + 1)) ((xs (i + 2)).toUInt32 % 65536).toInt32).1 = 0
  · have e5 : (nI (q_count σ (xs (i + 1)) ((xs (i + 2)).toUInt32 % 65536).toInt32).1 = 0) = True := by rw [hz]; exact eq_true rfl
    have hv := hv hz
    simp only [eL_law_1373, eL_law_1375, eL_law_1378, eL_law_1379, eL_law_1380, eL_law_1382, eL_law_1385, eL_law_1386, eL_law_1387, eL_law_1388, eL_law_1390, eL_law_1391, eL_law_1392, eL_law_1395, eL_law_1396, eL_law_1397, isA_r, isA_n, isI_i, isF_f, isL_l, is1_i, is1_r, is1_n, is1_f, true_and, and_true, List.length_cons, List.length_nil, Nat.reduceAdd, Nat.reduceLeDiff, Nat.reduceSub, Option.some.injEq, exists_eq_left', aft_s, aft_n, ite_true, ite_false, if_true, if_false, Nat.zero_le, Nat.le_refl, reduceCtorEq, eq_self, e5, rdJ_of q1, b01_0, c0_0, q2, hv, lg_self]
    exact next _ _ _ _ _ _ _ _ _ J2 x1 k5 k6
  · have e5 : (nI (q_count σ (xs (i + 1)) ((xs (i + 2)).toUInt32 % 65536).toInt32).1 = 0) = False := ar3 z1 hz
    simp only [eL_law_1373, eL_law_1375, eL_law_1378, eL_law_1379, eL_law_1380, eL_law_1382, eL_law_1385, eL_law_1386, eL_law_1387, eL_law_1388, eL_law_1390, eL_law_1391, eL_law_1392, eL_law_1395, eL_law_1396, eL_law_1397, isA_r, isA_n, isI_i, isF_f, isL_l, is1_i, is1_r, is1_n, is1_f, true_and, and_true, List.length_cons, List.length_nil, Nat.reduceAdd, Nat.reduceLeDiff, Nat.reduceSub, Option.some.injEq, exists_eq_left', aft_s, aft_n, ite_true, ite_false, if_true, if_false, Nat.zero_le, Nat.le_refl, reduceCtorEq, eq_self, e5]
    exact next _ _ _ _ _ _ _ _ _ J2 x1 k5 k6
theorem w_holder (D : LD mo ad ra rD) (hb : E.1 b = some (arI L xs)) (hL : L ≤ 3072) (hi : i + 6 ≤ L) (J : LJ E x mo ad ra rD σ σ th v w H) (G : Good σ T) (hT : T + 200 < 16384) (hc : 16384 + 420 * (R + 1) ≤ JJ σ + c) (hn : 65536 + 1700 * (R + 1) ≤ 4 * JJ σ + n) (next : NX E d K b x mo ad ra rD i T R) : Ev E (d + 14) mL_law K 1400 [.ref b, .ref x, .ref mo, .ref ra, .ref rD, .int (nI i), a6, a7] [] H c n := by
  have hbn : E.1 b ≠ none := by rw [hb]; simp
  have O := G.1
  have hjl := G.2.1.len O.J
  have hj16 : (s_jn σ).length ≤ 16384 := Nat.le_trans hjl (by omega)
  have hj32 : (s_jn σ).length < 32000 := Nat.lt_of_le_of_lt hj16 (by decide)
  have hT6 : T + 60 + 1 < 31000 := by omega
  have hT9 : T < 30900 := by omega
  have hT1 : T + 61 < 30999 := by omega
  have hT3 : T + 30 + 60 ≤ 16384 := by omega
  have r0 : rdI E H b 0 = some (L, xs) := rdI_E (J.fE b hbn) hb
  have i1 : nI i + 1 = nI (i + 1) := nI_1 i
  have i2 : nI i + 2 = nI (i + 2) := nI_add i 2
  have i3 : nI i + 3 = nI (i + 3) := nI_add i 3
  have i4 : nI i + 4 = nI (i + 4) := nI_add i 4
  have i5 : nI i + 5 = nI (i + 5) := nI_add i 5
  have B1 : inB (nI (i + 1)) L = true := inB_nI (by omega) (by omega)
  have C1 : (nI (i + 1)).toNatClampNeg = i + 1 := nI_clamp (by omega)
  have B2 : inB (nI (i + 2)) L = true := inB_nI (by omega) (by omega)
  have C2 : (nI (i + 2)).toNatClampNeg = i + 2 := nI_clamp (by omega)
  have B3 : inB (nI (i + 3)) L = true := inB_nI (by omega) (by omega)
  have C3 : (nI (i + 3)).toNatClampNeg = i + 3 := nI_clamp (by omega)
  have B4 : inB (nI (i + 4)) L = true := inB_nI (by omega) (by omega)
  have C4 : (nI (i + 4)).toNatClampNeg = i + 4 := nI_clamp (by omega)
  have B5 : inB (nI (i + 5)) L = true := inB_nI (by omega) (by omega)
  have C5 : (nI (i + 5)).toNatClampNeg = i + 5 := nI_clamp (by omega)
  have y1 := y_holder (σ := σ) (v1 := xs (i + 1))
  have x1 := x_holder (σ := σ) (T := T) (v1 := xs (i + 1)) G
  have z1 := z_holder (σ := σ) (v1 := xs (i + 1))
  obtain ⟨k1, k2, k3, k4, k5, k6, k7, k8, k9, k0⟩ := ar1 y1 (JJ_top x1 hT3) hc hn
  simp only [eL_law_1400, eL_law_1401, eL_law_1402, eL_law_1404, eL_law_1405, eL_law_1406, eL_law_1407, eL_law_1408, isA_r, isA_n, isI_i, isF_f, isL_l, is1_i, is1_r, is1_n, is1_f, true_and, and_true, List.length_cons, List.length_nil, Nat.reduceAdd, Nat.reduceLeDiff, Nat.reduceSub, Option.some.injEq, exists_eq_left', aft_s, aft_n, ite_true, ite_false, if_true, if_false, Nat.zero_le, Nat.le_refl, reduceCtorEq, r0, i1, i2, i3, i4, i5, B1, B2, B3, B4, B5, C1, C2, C3, C4, C5]
  refine invk (JJ (q_holder σ (xs (i + 1))).2.2 - JJ σ + 400) (4 * (JJ (q_holder σ (xs (i + 1))).2.2 - JJ σ + 400)) k1 k2 (h_holder D J O  (v1 := xs (i + 1)) k9 k0 (fun v' H1 J1 hv => ?_))
  have r1 : rdI E H1 b 0 = some (L, xs) := rdI_E (J1.fE b hbn) hb
  obtain ⟨M, R1, e1⟩ := J1.2.1
  simp only [eL_law_1411, eL_law_1413, eL_law_1414, eL_law_1415, eL_law_1417, eL_law_1418, eL_law_1419, eL_law_1420, isA_r, isA_n, isI_i, isF_f, isL_l, is1_i, is1_r, is1_n, is1_f, true_and, and_true, List.length_cons, List.length_nil, Nat.reduceAdd, Nat.reduceLeDiff, Nat.reduceSub, Option.some.injEq, exists_eq_left', aft_s, aft_n, ite_true, ite_false, if_true, if_false, Nat.zero_le, Nat.le_refl, reduceCtorEq, r1, i1, i2, i3, i4, i5, B1, B2, B3, B4, B5, C1, C2, C3, C4, C5]
  refine ⟨J1.mob, inv0 (crdm e1 (c_holder (v := xs (i + 1)) D.1 R1 O (fun M' R' => ?_)))⟩
  have J2 := J1.mod D R'
  generalize mv H1 mo ad M' = H2 at J2 ⊢
  obtain ⟨M2, R2, e2⟩ := J2.2.1
  simp only [eL_law_1423, eL_law_1425, eL_law_1426, isA_r, isA_n, isI_i, isF_f, isL_l, is1_i, is1_r, is1_n, is1_f, true_and, and_true, List.length_cons, List.length_nil, Nat.reduceAdd, Nat.reduceLeDiff, Nat.reduceSub, Option.some.injEq, exists_eq_left', aft_s, aft_n, ite_true, ite_false, if_true, if_false, Nat.zero_le, Nat.le_refl, reduceCtorEq]
  refine ⟨J2.mob, inv0 (crdm e2 (c_thrown R2 ?_))⟩
  rw [e2]
  obtain ⟨f, q1, q2⟩ := J2.2.2.1
  by_cases hz : (q_holder σ (xs (i + 1))).1 = 0
  · have e5 : (nI (q_holder σ (xs (i + 1))).1 = 0) = True := by rw [hz]; exact eq_true rfl
    have hv := hv hz
    simp only [eL_law_1429, eL_law_1431, eL_law_1434, eL_law_1435, eL_law_1436, eL_law_1438, eL_law_1441, eL_law_1442, eL_law_1443, eL_law_1444, eL_law_1446, eL_law_1447, eL_law_1448, eL_law_1451, eL_law_1452, eL_law_1453, isA_r, isA_n, isI_i, isF_f, isL_l, is1_i, is1_r, is1_n, is1_f, true_and, and_true, List.length_cons, List.length_nil, Nat.reduceAdd, Nat.reduceLeDiff, Nat.reduceSub, Option.some.injEq, exists_eq_left', aft_s, aft_n, ite_true, ite_false, if_true, if_false, Nat.zero_le, Nat.le_refl, reduceCtorEq, eq_self, e5, rdJ_of q1, b01_0, c0_0, q2, hv, lg_self]
    exact next _ _ _ _ _ _ _ _ _ J2 x1 k5 k6
  · have e5 : (nI (q_holder σ (xs (i + 1))).1 = 0) = False := ar3 z1 hz
    simp only [eL_law_1429, eL_law_1431, eL_law_1434, eL_law_1435, eL_law_1436, eL_law_1438, eL_law_1441, eL_law_1442, eL_law_1443, eL_law_1444, eL_law_1446, eL_law_1447, eL_law_1448, eL_law_1451, eL_law_1452, eL_law_1453, isA_r, isA_n, isI_i, isF_f, isL_l, is1_i, is1_r, is1_n, is1_f, true_and, and_true, List.length_cons, List.length_nil, Nat.reduceAdd, Nat.reduceLeDiff, Nat.reduceSub, Option.some.injEq, exists_eq_left', aft_s, aft_n, ite_true, ite_false, if_true, if_false, Nat.zero_le, Nat.le_refl, reduceCtorEq, eq_self, e5]
    exact next _ _ _ _ _ _ _ _ _ J2 x1 k5 k6
theorem w_holderByJobs (D : LD mo ad ra rD) (hb : E.1 b = some (arI L xs)) (hL : L ≤ 3072) (hi : i + 6 ≤ L) (J : LJ E x mo ad ra rD σ σ th v w H) (G : Good σ T) (hT : T + 200 < 16384) (hc : 16384 + 420 * (R + 1) ≤ JJ σ + c) (hn : 65536 + 1700 * (R + 1) ≤ 4 * JJ σ + n) (next : NX E d K b x mo ad ra rD i T R) : Ev E (d + 14) mL_law K 1456 [.ref b, .ref x, .ref mo, .ref ra, .ref rD, .int (nI i), a6, a7] [] H c n := by
  have hbn : E.1 b ≠ none := by rw [hb]; simp
  have O := G.1
  have hjl := G.2.1.len O.J
  have hj16 : (s_jn σ).length ≤ 16384 := Nat.le_trans hjl (by omega)
  have hj32 : (s_jn σ).length < 32000 := Nat.lt_of_le_of_lt hj16 (by decide)
  have hT6 : T + 60 + 1 < 31000 := by omega
  have hT9 : T < 30900 := by omega
  have hT1 : T + 61 < 30999 := by omega
  have hT3 : T + 30 + 60 ≤ 16384 := by omega
  have r0 : rdI E H b 0 = some (L, xs) := rdI_E (J.fE b hbn) hb
  have i1 : nI i + 1 = nI (i + 1) := nI_1 i
  have i2 : nI i + 2 = nI (i + 2) := nI_add i 2
  have i3 : nI i + 3 = nI (i + 3) := nI_add i 3
  have i4 : nI i + 4 = nI (i + 4) := nI_add i 4
  have i5 : nI i + 5 = nI (i + 5) := nI_add i 5
  have B1 : inB (nI (i + 1)) L = true := inB_nI (by omega) (by omega)
  have C1 : (nI (i + 1)).toNatClampNeg = i + 1 := nI_clamp (by omega)
  have B2 : inB (nI (i + 2)) L = true := inB_nI (by omega) (by omega)
  have C2 : (nI (i + 2)).toNatClampNeg = i + 2 := nI_clamp (by omega)
  have B3 : inB (nI (i + 3)) L = true := inB_nI (by omega) (by omega)
  have C3 : (nI (i + 3)).toNatClampNeg = i + 3 := nI_clamp (by omega)
  have B4 : inB (nI (i + 4)) L = true := inB_nI (by omega) (by omega)
  have C4 : (nI (i + 4)).toNatClampNeg = i + 4 := nI_clamp (by omega)
  have B5 : inB (nI (i + 5)) L = true := inB_nI (by omega) (by omega)
  have C5 : (nI (i + 5)).toNatClampNeg = i + 5 := nI_clamp (by omega)
  have y1 := y_holderByJobs (σ := σ) (v1 := xs (i + 1))
  have x1 := x_holderByJobs (σ := σ) (T := T) (v1 := xs (i + 1)) G
  have z1 := z_holderByJobs (σ := σ) (v1 := xs (i + 1))
  obtain ⟨k1, k2, k3, k4, k5, k6, k7, k8, k9, k0⟩ := ar1 y1 (JJ_top x1 hT3) hc hn
  simp only [eL_law_1456, eL_law_1457, eL_law_1458, eL_law_1460, eL_law_1461, eL_law_1462, eL_law_1463, eL_law_1464, isA_r, isA_n, isI_i, isF_f, isL_l, is1_i, is1_r, is1_n, is1_f, true_and, and_true, List.length_cons, List.length_nil, Nat.reduceAdd, Nat.reduceLeDiff, Nat.reduceSub, Option.some.injEq, exists_eq_left', aft_s, aft_n, ite_true, ite_false, if_true, if_false, Nat.zero_le, Nat.le_refl, reduceCtorEq, r0, i1, i2, i3, i4, i5, B1, B2, B3, B4, B5, C1, C2, C3, C4, C5]
  refine invk (JJ (q_holder σ (xs (i + 1))).2.2 - JJ σ + 400) (4 * (JJ (q_holder σ (xs (i + 1))).2.2 - JJ σ + 400)) k1 k2 (h_holderByJobs D J O  (v1 := xs (i + 1)) k9 k0 (fun v' H1 J1 hv => ?_))
  have r1 : rdI E H1 b 0 = some (L, xs) := rdI_E (J1.fE b hbn) hb
  obtain ⟨M, R1, e1⟩ := J1.2.1
  simp only [eL_law_1467, eL_law_1469, eL_law_1470, eL_law_1471, eL_law_1473, eL_law_1474, eL_law_1475, eL_law_1476, isA_r, isA_n, isI_i, isF_f, isL_l, is1_i, is1_r, is1_n, is1_f, true_and, and_true, List.length_cons, List.length_nil, Nat.reduceAdd, Nat.reduceLeDiff, Nat.reduceSub, Option.some.injEq, exists_eq_left', aft_s, aft_n, ite_true, ite_false, if_true, if_false, Nat.zero_le, Nat.le_refl, reduceCtorEq, r1, i1, i2, i3, i4, i5, B1, B2, B3, B4, B5, C1, C2, C3, C4, C5]
  refine ⟨J1.mob, inv0 (crdm e1 (c_holderByJobs (v := xs (i + 1)) D.1 R1 O (fun M' R' => ?_)))⟩
  have J2 := J1.mod D R'
  generalize mv H1 mo ad M' = H2 at J2 ⊢
  obtain ⟨M2, R2, e2⟩ := J2.2.1
  simp only [eL_law_1479, eL_law_1481, eL_law_1482, isA_r, isA_n, isI_i, isF_f, isL_l, is1_i, is1_r, is1_n, is1_f, true_and, and_true, List.length_cons, List.length_nil, Nat.reduceAdd, Nat.reduceLeDiff, Nat.reduceSub, Option.some.injEq, exists_eq_left', aft_s, aft_n, ite_true, ite_false, if_true, if_false, Nat.zero_le, Nat.le_refl, reduceCtorEq]
  refine ⟨J2.mob, inv0 (crdm e2 (c_thrown R2 ?_))⟩
  rw [e2]
  obtain ⟨f, q1, q2⟩ := J2.2.2.1
  by_cases hz : (q_holder σ (xs (i + 1))).1 = 0
  · have e5 : (nI (q_holder σ (xs (i + 1))).1 = 0) = True := by rw [hz]; exact eq_true rfl
    have hv := hv hz
    simp only [eL_law_1485, eL_law_1487, eL_law_1490, eL_law_1491, eL_law_1492, eL_law_1494, eL_law_1497, eL_law_1498, eL_law_1499, eL_law_1500, eL_law_1502, eL_law_1503, eL_law_1504, eL_law_1507, eL_law_1508, eL_law_1509, isA_r, isA_n, isI_i, isF_f, isL_l, is1_i, is1_r, is1_n, is1_f, true_and, and_true, List.length_cons, List.length_nil, Nat.reduceAdd, Nat.reduceLeDiff, Nat.reduceSub, Option.some.injEq, exists_eq_left', aft_s, aft_n, ite_true, ite_false, if_true, if_false, Nat.zero_le, Nat.le_refl, reduceCtorEq, eq_self, e5, rdJ_of q1, b01_0, c0_0, q2, hv, lg_self]
    exact next _ _ _ _ _ _ _ _ _ J2 x1 k5 k6
  · have e5 : (nI (q_holder σ (xs (i + 1))).1 = 0) = False := ar3 z1 hz
    simp only [eL_law_1485, eL_law_1487, eL_law_1490, eL_law_1491, eL_law_1492, eL_law_1494, eL_law_1497, eL_law_1498, eL_law_1499, eL_law_1500, eL_law_1502, eL_law_1503, eL_law_1504, eL_law_1507, eL_law_1508, eL_law_1509, isA_r, isA_n, isI_i, isF_f, isL_l, is1_i, is1_r, is1_n, is1_f, true_and, and_true, List.length_cons, List.length_nil, Nat.reduceAdd, Nat.reduceLeDiff, Nat.reduceSub, Option.some.injEq, exists_eq_left', aft_s, aft_n, ite_true, ite_false, if_true, if_false, Nat.zero_le, Nat.le_refl, reduceCtorEq, eq_self, e5]
    exact next _ _ _ _ _ _ _ _ _ J2 x1 k5 k6
theorem w_holds (D : LD mo ad ra rD) (hb : E.1 b = some (arI L xs)) (hL : L ≤ 3072) (hi : i + 6 ≤ L) (J : LJ E x mo ad ra rD σ σ th v w H) (G : Good σ T) (hT : T + 200 < 16384) (hc : 16384 + 420 * (R + 1) ≤ JJ σ + c) (hn : 65536 + 1700 * (R + 1) ≤ 4 * JJ σ + n) (next : NX E d K b x mo ad ra rD i T R) : Ev E (d + 14) mL_law K 1512 [.ref b, .ref x, .ref mo, .ref ra, .ref rD, .int (nI i), a6, a7] [] H c n := by
  have hbn : E.1 b ≠ none := by rw [hb]; simp
  have O := G.1
  have hjl := G.2.1.len O.J
  have hj16 : (s_jn σ).length ≤ 16384 := Nat.le_trans hjl (by omega)
  have hj32 : (s_jn σ).length < 32000 := Nat.lt_of_le_of_lt hj16 (by decide)
  have hT6 : T + 60 + 1 < 31000 := by omega
  have hT9 : T < 30900 := by omega
  have hT1 : T + 61 < 30999 := by omega
  have hT3 : T + 30 + 60 ≤ 16384 := by omega
  have r0 : rdI E H b 0 = some (L, xs) := rdI_E (J.fE b hbn) hb
  have i1 : nI i + 1 = nI (i + 1) := nI_1 i
  have i2 : nI i + 2 = nI (i + 2) := nI_add i 2
  have i3 : nI i + 3 = nI (i + 3) := nI_add i 3
  have i4 : nI i + 4 = nI (i + 4) := nI_add i 4
  have i5 : nI i + 5 = nI (i + 5) := nI_add i 5
  have B1 : inB (nI (i + 1)) L = true := inB_nI (by omega) (by omega)
  have C1 : (nI (i + 1)).toNatClampNeg = i + 1 := nI_clamp (by omega)
  have B2 : inB (nI (i + 2)) L = true := inB_nI (by omega) (by omega)
  have C2 : (nI (i + 2)).toNatClampNeg = i + 2 := nI_clamp (by omega)
  have B3 : inB (nI (i + 3)) L = true := inB_nI (by omega) (by omega)
  have C3 : (nI (i + 3)).toNatClampNeg = i + 3 := nI_clamp (by omega)
  have B4 : inB (nI (i + 4)) L = true := inB_nI (by omega) (by omega)
  have C4 : (nI (i + 4)).toNatClampNeg = i + 4 := nI_clamp (by omega)
  have B5 : inB (nI (i + 5)) L = true := inB_nI (by omega) (by omega)
  have C5 : (nI (i + 5)).toNatClampNeg = i + 5 := nI_clamp (by omega)
  have y1 := y_holds (σ := σ) (v1 := xs (i + 1))
  have x1 := x_holds (σ := σ) (T := T) (v1 := xs (i + 1)) G
  have z1 := z_holds (σ := σ) (v1 := xs (i + 1))
  obtain ⟨k1, k2, k3, k4, k5, k6, k7, k8, k9, k0⟩ := ar1 y1 (JJ_top x1 hT3) hc hn
  simp only [eL_law_1512, eL_law_1513, eL_law_1514, eL_law_1516, eL_law_1517, eL_law_1518, eL_law_1519, eL_law_1520, isA_r, isA_n, isI_i, isF_f, isL_l, is1_i, is1_r, is1_n, is1_f, true_and, and_true, List.length_cons, List.length_nil, Nat.reduceAdd, Nat.reduceLeDiff, Nat.reduceSub, Option.some.injEq, exists_eq_left', aft_s, aft_n, ite_true, ite_false, if_true, if_false, Nat.zero_le, Nat.le_refl, reduceCtorEq, r0, i1, i2, i3, i4, i5, B1, B2, B3, B4, B5, C1, C2, C3, C4, C5]
  refine invk (JJ (q_holds σ (xs (i + 1))).2.2 - JJ σ + 400) (4 * (JJ (q_holds σ (xs (i + 1))).2.2 - JJ σ + 400)) k1 k2 (h_holds D J O  (v1 := xs (i + 1)) k9 k0 (fun v' H1 J1 hv => ?_))
  have r1 : rdI E H1 b 0 = some (L, xs) := rdI_E (J1.fE b hbn) hb
  obtain ⟨M, R1, e1⟩ := J1.2.1
  simp only [eL_law_1523, eL_law_1525, eL_law_1526, eL_law_1527, eL_law_1529, eL_law_1530, eL_law_1531, eL_law_1532, isA_r, isA_n, isI_i, isF_f, isL_l, is1_i, is1_r, is1_n, is1_f, true_and, and_true, List.length_cons, List.length_nil, Nat.reduceAdd, Nat.reduceLeDiff, Nat.reduceSub, Option.some.injEq, exists_eq_left', aft_s, aft_n, ite_true, ite_false, if_true, if_false, Nat.zero_le, Nat.le_refl, reduceCtorEq, r1, i1, i2, i3, i4, i5, B1, B2, B3, B4, B5, C1, C2, C3, C4, C5]
  refine ⟨J1.mob, inv0 (crdm e1 (c_holds (v := xs (i + 1)) D.1 R1 O (fun M' R' => ?_)))⟩
  have J2 := J1.mod D R'
  generalize mv H1 mo ad M' = H2 at J2 ⊢
  obtain ⟨M2, R2, e2⟩ := J2.2.1
  simp only [eL_law_1535, eL_law_1537, eL_law_1538, isA_r, isA_n, isI_i, isF_f, isL_l, is1_i, is1_r, is1_n, is1_f, true_and, and_true, List.length_cons, List.length_nil, Nat.reduceAdd, Nat.reduceLeDiff, Nat.reduceSub, Option.some.injEq, exists_eq_left', aft_s, aft_n, ite_true, ite_false, if_true, if_false, Nat.zero_le, Nat.le_refl, reduceCtorEq]
  refine ⟨J2.mob, inv0 (crdm e2 (c_thrown R2 ?_))⟩
  rw [e2]
  obtain ⟨f, q1, q2⟩ := J2.2.2.1
  by_cases hz : (q_holds σ (xs (i + 1))).1 = 0
  · have e5 : (nI (q_holds σ (xs (i + 1))).1 = 0) = True := by rw [hz]; exact eq_true rfl
    have hv := hv hz
    by_cases hb2 : (q_holds σ (xs (i + 1))).2.1 = 0
    · have e6 : ((q_holds σ (xs (i + 1))).2.1 = 0) = True := eq_true hb2
      rw [if_pos hb2] at hv
      simp only [eL_law_1541, eL_law_1543, eL_law_1546, eL_law_1547, eL_law_1548, eL_law_1550, eL_law_1553, eL_law_1554, eL_law_1555, eL_law_1556, eL_law_1558, eL_law_1561, eL_law_1562, eL_law_1565, eL_law_1566, eL_law_1567, eL_law_1570, eL_law_1571, eL_law_1572, isA_r, isA_n, isI_i, isF_f, isL_l, is1_i, is1_r, is1_n, is1_f, true_and, and_true, List.length_cons, List.length_nil, Nat.reduceAdd, Nat.reduceLeDiff, Nat.reduceSub, Option.some.injEq, exists_eq_left', aft_s, aft_n, ite_true, ite_false, if_true, if_false, Nat.zero_le, Nat.le_refl, reduceCtorEq, eq_self, e5, e6, rdJ_of q1, b01_0, c0_0, q2, hv, lg_self]
      exact next _ _ _ _ _ _ _ _ _ J2 x1 k5 k6
    · have e6 : ((q_holds σ (xs (i + 1))).2.1 = 0) = False := eq_false hb2
      rw [if_neg hb2] at hv
      simp only [eL_law_1541, eL_law_1543, eL_law_1546, eL_law_1547, eL_law_1548, eL_law_1550, eL_law_1553, eL_law_1554, eL_law_1555, eL_law_1556, eL_law_1558, eL_law_1561, eL_law_1562, eL_law_1565, eL_law_1566, eL_law_1567, eL_law_1570, eL_law_1571, eL_law_1572, isA_r, isA_n, isI_i, isF_f, isL_l, is1_i, is1_r, is1_n, is1_f, true_and, and_true, List.length_cons, List.length_nil, Nat.reduceAdd, Nat.reduceLeDiff, Nat.reduceSub, Option.some.injEq, exists_eq_left', aft_s, aft_n, ite_true, ite_false, if_true, if_false, Nat.zero_le, Nat.le_refl, reduceCtorEq, eq_self, e5, e6, rdJ_of q1, b01_0, c0_0, q2, hv, lg_self]
      exact next _ _ _ _ _ _ _ _ _ J2 x1 k5 k6
  · have e5 : (nI (q_holds σ (xs (i + 1))).1 = 0) = False := ar3 z1 hz
    simp only [eL_law_1541, eL_law_1543, eL_law_1546, eL_law_1547, eL_law_1548, eL_law_1550, eL_law_1553, eL_law_1554, eL_law_1555, eL_law_1556, eL_law_1558, eL_law_1561, eL_law_1562, eL_law_1565, eL_law_1566, eL_law_1567, eL_law_1570, eL_law_1571, eL_law_1572, isA_r, isA_n, isI_i, isF_f, isL_l, is1_i, is1_r, is1_n, is1_f, true_and, and_true, List.length_cons, List.length_nil, Nat.reduceAdd, Nat.reduceLeDiff, Nat.reduceSub, Option.some.injEq, exists_eq_left', aft_s, aft_n, ite_true, ite_false, if_true, if_false, Nat.zero_le, Nat.le_refl, reduceCtorEq, eq_self, e5]
    exact next _ _ _ _ _ _ _ _ _ J2 x1 k5 k6
theorem w_waitingAt (D : LD mo ad ra rD) (hb : E.1 b = some (arI L xs)) (hL : L ≤ 3072) (hi : i + 6 ≤ L) (J : LJ E x mo ad ra rD σ σ th v w H) (G : Good σ T) (hT : T + 200 < 16384) (hc : 16384 + 420 * (R + 1) ≤ JJ σ + c) (hn : 65536 + 1700 * (R + 1) ≤ 4 * JJ σ + n) (next : NX E d K b x mo ad ra rD i T R) : Ev E (d + 14) mL_law K 1588 [.ref b, .ref x, .ref mo, .ref ra, .ref rD, .int (nI i), a6, a7] [] H c n := by
  have hbn : E.1 b ≠ none := by rw [hb]; simp
  have O := G.1
  have hjl := G.2.1.len O.J
  have hj16 : (s_jn σ).length ≤ 16384 := Nat.le_trans hjl (by omega)
  have hj32 : (s_jn σ).length < 32000 := Nat.lt_of_le_of_lt hj16 (by decide)
  have hT6 : T + 60 + 1 < 31000 := by omega
  have hT9 : T < 30900 := by omega
  have hT1 : T + 61 < 30999 := by omega
  have hT3 : T + 30 + 60 ≤ 16384 := by omega
  have r0 : rdI E H b 0 = some (L, xs) := rdI_E (J.fE b hbn) hb
  have i1 : nI i + 1 = nI (i + 1) := nI_1 i
  have i2 : nI i + 2 = nI (i + 2) := nI_add i 2
  have i3 : nI i + 3 = nI (i + 3) := nI_add i 3
  have i4 : nI i + 4 = nI (i + 4) := nI_add i 4
  have i5 : nI i + 5 = nI (i + 5) := nI_add i 5
  have B1 : inB (nI (i + 1)) L = true := inB_nI (by omega) (by omega)
  have C1 : (nI (i + 1)).toNatClampNeg = i + 1 := nI_clamp (by omega)
  have B2 : inB (nI (i + 2)) L = true := inB_nI (by omega) (by omega)
  have C2 : (nI (i + 2)).toNatClampNeg = i + 2 := nI_clamp (by omega)
  have B3 : inB (nI (i + 3)) L = true := inB_nI (by omega) (by omega)
  have C3 : (nI (i + 3)).toNatClampNeg = i + 3 := nI_clamp (by omega)
  have B4 : inB (nI (i + 4)) L = true := inB_nI (by omega) (by omega)
  have C4 : (nI (i + 4)).toNatClampNeg = i + 4 := nI_clamp (by omega)
  have B5 : inB (nI (i + 5)) L = true := inB_nI (by omega) (by omega)
  have C5 : (nI (i + 5)).toNatClampNeg = i + 5 := nI_clamp (by omega)
  have y1 := y_waitingAt (σ := σ) (v1 := xs (i + 1))
  have x1 := x_waitingAt (σ := σ) (T := T) (v1 := xs (i + 1)) G
  have z1 := z_waitingAt (σ := σ) (v1 := xs (i + 1))
  obtain ⟨k1, k2, k3, k4, k5, k6, k7, k8, k9, k0⟩ := ar1 y1 (JJ_top x1 hT3) hc hn
  simp only [eL_law_1588, eL_law_1589, eL_law_1590, eL_law_1592, eL_law_1593, eL_law_1594, eL_law_1595, eL_law_1596, isA_r, isA_n, isI_i, isF_f, isL_l, is1_i, is1_r, is1_n, is1_f, true_and, and_true, List.length_cons, List.length_nil, Nat.reduceAdd, Nat.reduceLeDiff, Nat.reduceSub, Option.some.injEq, exists_eq_left', aft_s, aft_n, ite_true, ite_false, if_true, if_false, Nat.zero_le, Nat.le_refl, reduceCtorEq, r0, i1, i2, i3, i4, i5, B1, B2, B3, B4, B5, C1, C2, C3, C4, C5]
  refine invk (JJ (q_waitingAt σ (xs (i + 1))).2.2 - JJ σ + 400) (4 * (JJ (q_waitingAt σ (xs (i + 1))).2.2 - JJ σ + 400)) k1 k2 (h_waitingAt D J O  (v1 := xs (i + 1)) k9 k0 (fun v' H1 J1 hv => ?_))
  have r1 : rdI E H1 b 0 = some (L, xs) := rdI_E (J1.fE b hbn) hb
  obtain ⟨M, R1, e1⟩ := J1.2.1
  simp only [eL_law_1599, eL_law_1601, eL_law_1602, eL_law_1603, eL_law_1605, eL_law_1606, eL_law_1607, eL_law_1608, isA_r, isA_n, isI_i, isF_f, isL_l, is1_i, is1_r, is1_n, is1_f, true_and, and_true, List.length_cons, List.length_nil, Nat.reduceAdd, Nat.reduceLeDiff, Nat.reduceSub, Option.some.injEq, exists_eq_left', aft_s, aft_n, ite_true, ite_false, if_true, if_false, Nat.zero_le, Nat.le_refl, reduceCtorEq, r1, i1, i2, i3, i4, i5, B1, B2, B3, B4, B5, C1, C2, C3, C4, C5]
  refine ⟨J1.mob, inv0 (crdm e1 (c_waitingAt (v := xs (i + 1)) D.1 R1 O (fun M' R' => ?_)))⟩
  have J2 := J1.mod D R'
  generalize mv H1 mo ad M' = H2 at J2 ⊢
  obtain ⟨M2, R2, e2⟩ := J2.2.1
  simp only [eL_law_1611, eL_law_1613, eL_law_1614, isA_r, isA_n, isI_i, isF_f, isL_l, is1_i, is1_r, is1_n, is1_f, true_and, and_true, List.length_cons, List.length_nil, Nat.reduceAdd, Nat.reduceLeDiff, Nat.reduceSub, Option.some.injEq, exists_eq_left', aft_s, aft_n, ite_true, ite_false, if_true, if_false, Nat.zero_le, Nat.le_refl, reduceCtorEq]
  refine ⟨J2.mob, inv0 (crdm e2 (c_thrown R2 ?_))⟩
  rw [e2]
  obtain ⟨f, q1, q2⟩ := J2.2.2.1
  by_cases hz : (q_waitingAt σ (xs (i + 1))).1 = 0
  · have e5 : (nI (q_waitingAt σ (xs (i + 1))).1 = 0) = True := by rw [hz]; exact eq_true rfl
    have hv := hv hz
    simp only [eL_law_1617, eL_law_1619, eL_law_1622, eL_law_1623, eL_law_1624, eL_law_1626, eL_law_1629, eL_law_1630, eL_law_1631, eL_law_1632, eL_law_1634, eL_law_1635, eL_law_1636, eL_law_1639, eL_law_1640, eL_law_1641, isA_r, isA_n, isI_i, isF_f, isL_l, is1_i, is1_r, is1_n, is1_f, true_and, and_true, List.length_cons, List.length_nil, Nat.reduceAdd, Nat.reduceLeDiff, Nat.reduceSub, Option.some.injEq, exists_eq_left', aft_s, aft_n, ite_true, ite_false, if_true, if_false, Nat.zero_le, Nat.le_refl, reduceCtorEq, eq_self, e5, rdJ_of q1, b01_0, c0_0, q2, hv, lg_self]
    exact next _ _ _ _ _ _ _ _ _ J2 x1 k5 k6
  · have e5 : (nI (q_waitingAt σ (xs (i + 1))).1 = 0) = False := ar3 z1 hz
    simp only [eL_law_1617, eL_law_1619, eL_law_1622, eL_law_1623, eL_law_1624, eL_law_1626, eL_law_1629, eL_law_1630, eL_law_1631, eL_law_1632, eL_law_1634, eL_law_1635, eL_law_1636, eL_law_1639, eL_law_1640, eL_law_1641, isA_r, isA_n, isI_i, isF_f, isL_l, is1_i, is1_r, is1_n, is1_f, true_and, and_true, List.length_cons, List.length_nil, Nat.reduceAdd, Nat.reduceLeDiff, Nat.reduceSub, Option.some.injEq, exists_eq_left', aft_s, aft_n, ite_true, ite_false, if_true, if_false, Nat.zero_le, Nat.le_refl, reduceCtorEq, eq_self, e5]
    exact next _ _ _ _ _ _ _ _ _ J2 x1 k5 k6
theorem w_blockers (D : LD mo ad ra rD) (hb : E.1 b = some (arI L xs)) (hL : L ≤ 3072) (hi : i + 6 ≤ L) (J : LJ E x mo ad ra rD σ σ th v w H) (G : Good σ T) (hT : T + 200 < 16384) (hc : 16384 + 420 * (R + 1) ≤ JJ σ + c) (hn : 65536 + 1700 * (R + 1) ≤ 4 * JJ σ + n) (next : NX E d K b x mo ad ra rD i T R) : Ev E (d + 14) mL_law K 1644 [.ref b, .ref x, .ref mo, .ref ra, .ref rD, .int (nI i), a6, a7] [] H c n := by
  have hbn : E.1 b ≠ none := by rw [hb]; simp
  have O := G.1
  have hjl := G.2.1.len O.J
  have hj16 : (s_jn σ).length ≤ 16384 := Nat.le_trans hjl (by omega)
  have hj32 : (s_jn σ).length < 32000 := Nat.lt_of_le_of_lt hj16 (by decide)
  have hT6 : T + 60 + 1 < 31000 := by omega
  have hT9 : T < 30900 := by omega
  have hT1 : T + 61 < 30999 := by omega
  have hT3 : T + 30 + 60 ≤ 16384 := by omega
  have r0 : rdI E H b 0 = some (L, xs) := rdI_E (J.fE b hbn) hb
  have i1 : nI i + 1 = nI (i + 1) := nI_1 i
  have i2 : nI i + 2 = nI (i + 2) := nI_add i 2
  have i3 : nI i + 3 = nI (i + 3) := nI_add i 3
  have i4 : nI i + 4 = nI (i + 4) := nI_add i 4
  have i5 : nI i + 5 = nI (i + 5) := nI_add i 5
  have B1 : inB (nI (i + 1)) L = true := inB_nI (by omega) (by omega)
  have C1 : (nI (i + 1)).toNatClampNeg = i + 1 := nI_clamp (by omega)
  have B2 : inB (nI (i + 2)) L = true := inB_nI (by omega) (by omega)
  have C2 : (nI (i + 2)).toNatClampNeg = i + 2 := nI_clamp (by omega)
  have B3 : inB (nI (i + 3)) L = true := inB_nI (by omega) (by omega)
  have C3 : (nI (i + 3)).toNatClampNeg = i + 3 := nI_clamp (by omega)
  have B4 : inB (nI (i + 4)) L = true := inB_nI (by omega) (by omega)
  have C4 : (nI (i + 4)).toNatClampNeg = i + 4 := nI_clamp (by omega)
  have B5 : inB (nI (i + 5)) L = true := inB_nI (by omega) (by omega)
  have C5 : (nI (i + 5)).toNatClampNeg = i + 5 := nI_clamp (by omega)
  have y1 := y_blockers (σ := σ) (v1 := xs (i + 1))
  have x1 := x_blockers (σ := σ) (T := T) (v1 := xs (i + 1)) G
  have z1 := z_blockers (σ := σ) (v1 := xs (i + 1))
  obtain ⟨k1, k2, k3, k4, k5, k6, k7, k8, k9, k0⟩ := ar1 y1 (JJ_top x1 hT3) hc hn
  simp only [eL_law_1644, eL_law_1645, eL_law_1646, eL_law_1648, eL_law_1649, eL_law_1650, eL_law_1651, eL_law_1652, isA_r, isA_n, isI_i, isF_f, isL_l, is1_i, is1_r, is1_n, is1_f, true_and, and_true, List.length_cons, List.length_nil, Nat.reduceAdd, Nat.reduceLeDiff, Nat.reduceSub, Option.some.injEq, exists_eq_left', aft_s, aft_n, ite_true, ite_false, if_true, if_false, Nat.zero_le, Nat.le_refl, reduceCtorEq, r0, i1, i2, i3, i4, i5, B1, B2, B3, B4, B5, C1, C2, C3, C4, C5]
  refine invk (JJ (q_blockers σ (xs (i + 1))).2.2 - JJ σ + 400) (4 * (JJ (q_blockers σ (xs (i + 1))).2.2 - JJ σ + 400)) k1 k2 (h_blockers D J O  (v1 := xs (i + 1)) k9 k0 (fun v' H1 J1 hv => ?_))
  have r1 : rdI E H1 b 0 = some (L, xs) := rdI_E (J1.fE b hbn) hb
  obtain ⟨M, R1, e1⟩ := J1.2.1
  simp only [eL_law_1655, eL_law_1657, eL_law_1658, eL_law_1659, eL_law_1661, eL_law_1662, eL_law_1663, eL_law_1664, isA_r, isA_n, isI_i, isF_f, isL_l, is1_i, is1_r, is1_n, is1_f, true_and, and_true, List.length_cons, List.length_nil, Nat.reduceAdd, Nat.reduceLeDiff, Nat.reduceSub, Option.some.injEq, exists_eq_left', aft_s, aft_n, ite_true, ite_false, if_true, if_false, Nat.zero_le, Nat.le_refl, reduceCtorEq, r1, i1, i2, i3, i4, i5, B1, B2, B3, B4, B5, C1, C2, C3, C4, C5]
  refine ⟨J1.mob, inv0 (crdm e1 (c_blockers (v := xs (i + 1)) D.1 R1 O (fun M' R' => ?_)))⟩
  have J2 := J1.mod D R'
  generalize mv H1 mo ad M' = H2 at J2 ⊢
  obtain ⟨M2, R2, e2⟩ := J2.2.1
  simp only [eL_law_1667, eL_law_1669, eL_law_1670, isA_r, isA_n, isI_i, isF_f, isL_l, is1_i, is1_r, is1_n, is1_f, true_and, and_true, List.length_cons, List.length_nil, Nat.reduceAdd, Nat.reduceLeDiff, Nat.reduceSub, Option.some.injEq, exists_eq_left', aft_s, aft_n, ite_true, ite_false, if_true, if_false, Nat.zero_le, Nat.le_refl, reduceCtorEq]
  refine ⟨J2.mob, inv0 (crdm e2 (c_thrown R2 ?_))⟩
  rw [e2]
  obtain ⟨f, q1, q2⟩ := J2.2.2.1
  by_cases hz : (q_blockers σ (xs (i + 1))).1 = 0
  · have e5 : (nI (q_blockers σ (xs (i + 1))).1 = 0) = True := by rw [hz]; exact eq_true rfl
    have hv := hv hz
    simp only [eL_law_1673, eL_law_1675, eL_law_1678, eL_law_1679, eL_law_1680, eL_law_1682, eL_law_1685, eL_law_1686, eL_law_1687, eL_law_1688, eL_law_1690, eL_law_1691, eL_law_1692, eL_law_1695, eL_law_1696, eL_law_1697, isA_r, isA_n, isI_i, isF_f, isL_l, is1_i, is1_r, is1_n, is1_f, true_and, and_true, List.length_cons, List.length_nil, Nat.reduceAdd, Nat.reduceLeDiff, Nat.reduceSub, Option.some.injEq, exists_eq_left', aft_s, aft_n, ite_true, ite_false, if_true, if_false, Nat.zero_le, Nat.le_refl, reduceCtorEq, eq_self, e5, rdJ_of q1, b01_0, c0_0, q2, hv, lg_self]
    exact next _ _ _ _ _ _ _ _ _ J2 x1 k5 k6
  · have e5 : (nI (q_blockers σ (xs (i + 1))).1 = 0) = False := ar3 z1 hz
    simp only [eL_law_1673, eL_law_1675, eL_law_1678, eL_law_1679, eL_law_1680, eL_law_1682, eL_law_1685, eL_law_1686, eL_law_1687, eL_law_1688, eL_law_1690, eL_law_1691, eL_law_1692, eL_law_1695, eL_law_1696, eL_law_1697, isA_r, isA_n, isI_i, isF_f, isL_l, is1_i, is1_r, is1_n, is1_f, true_and, and_true, List.length_cons, List.length_nil, Nat.reduceAdd, Nat.reduceLeDiff, Nat.reduceSub, Option.some.injEq, exists_eq_left', aft_s, aft_n, ite_true, ite_false, if_true, if_false, Nat.zero_le, Nat.le_refl, reduceCtorEq, eq_self, e5]
    exact next _ _ _ _ _ _ _ _ _ J2 x1 k5 k6
theorem w_stop (D : LD mo ad ra rD) (hb : E.1 b = some (arI L xs)) (hL : L ≤ 3072) (hi : i + 6 ≤ L) (J : LJ E x mo ad ra rD σ σ th v w H) (G : Good σ T) (hT : T + 200 < 16384) (hc : 16384 + 420 * (R + 1) ≤ JJ σ + c) (hn : 65536 + 1700 * (R + 1) ≤ 4 * JJ σ + n) (next : NX E d K b x mo ad ra rD i T R) : Ev E (d + 14) mL_law K 1700 [.ref b, .ref x, .ref mo, .ref ra, .ref rD, .int (nI i), a6, a7] [] H c n := by
  have hbn : E.1 b ≠ none := by rw [hb]; simp
  have O := G.1
  have hjl := G.2.1.len O.J
  have hj16 : (s_jn σ).length ≤ 16384 := Nat.le_trans hjl (by omega)
  have hj32 : (s_jn σ).length < 32000 := Nat.lt_of_le_of_lt hj16 (by decide)
  have hT6 : T + 60 + 1 < 31000 := by omega
  have hT9 : T < 30900 := by omega
  have hT1 : T + 61 < 30999 := by omega
  have hT3 : T + 30 + 60 ≤ 16384 := by omega
  have r0 : rdI E H b 0 = some (L, xs) := rdI_E (J.fE b hbn) hb
  have i1 : nI i + 1 = nI (i + 1) := nI_1 i
  have i2 : nI i + 2 = nI (i + 2) := nI_add i 2
  have i3 : nI i + 3 = nI (i + 3) := nI_add i 3
  have i4 : nI i + 4 = nI (i + 4) := nI_add i 4
  have i5 : nI i + 5 = nI (i + 5) := nI_add i 5
  have B1 : inB (nI (i + 1)) L = true := inB_nI (by omega) (by omega)
  have C1 : (nI (i + 1)).toNatClampNeg = i + 1 := nI_clamp (by omega)
  have B2 : inB (nI (i + 2)) L = true := inB_nI (by omega) (by omega)
  have C2 : (nI (i + 2)).toNatClampNeg = i + 2 := nI_clamp (by omega)
  have B3 : inB (nI (i + 3)) L = true := inB_nI (by omega) (by omega)
  have C3 : (nI (i + 3)).toNatClampNeg = i + 3 := nI_clamp (by omega)
  have B4 : inB (nI (i + 4)) L = true := inB_nI (by omega) (by omega)
  have C4 : (nI (i + 4)).toNatClampNeg = i + 4 := nI_clamp (by omega)
  have B5 : inB (nI (i + 5)) L = true := inB_nI (by omega) (by omega)
  have C5 : (nI (i + 5)).toNatClampNeg = i + 5 := nI_clamp (by omega)
  have y1 := y_stop (σ := σ) (v1 := xs (i + 1))
  have x1 := x_stop (σ := σ) (T := T) (v1 := xs (i + 1)) G
  have z1 := z_stop (σ := σ) (v1 := xs (i + 1))
  obtain ⟨k1, k2, k3, k4, k5, k6, k7, k8, k9, k0⟩ := ar1 y1 (JJ_top x1 hT3) hc hn
  simp only [eL_law_1700, eL_law_1701, eL_law_1702, eL_law_1704, eL_law_1705, eL_law_1706, eL_law_1707, eL_law_1708, isA_r, isA_n, isI_i, isF_f, isL_l, is1_i, is1_r, is1_n, is1_f, true_and, and_true, List.length_cons, List.length_nil, Nat.reduceAdd, Nat.reduceLeDiff, Nat.reduceSub, Option.some.injEq, exists_eq_left', aft_s, aft_n, ite_true, ite_false, if_true, if_false, Nat.zero_le, Nat.le_refl, reduceCtorEq, r0, i1, i2, i3, i4, i5, B1, B2, B3, B4, B5, C1, C2, C3, C4, C5]
  refine invk (JJ (a_stop σ (xs (i + 1))).2.2 - JJ σ + 400) (4 * (JJ (a_stop σ (xs (i + 1))).2.2 - JJ σ + 400)) k1 k2 (h_stop D J G hT  (v1 := xs (i + 1)) k3 k4 (fun v' H1 J1 hv => ?_))
  have r1 : rdI E H1 b 0 = some (L, xs) := rdI_E (J1.fE b hbn) hb
  obtain ⟨M, R1, e1⟩ := J1.2.1
  simp only [eL_law_1711, eL_law_1713, eL_law_1714, eL_law_1715, eL_law_1717, eL_law_1718, eL_law_1719, eL_law_1720, isA_r, isA_n, isI_i, isF_f, isL_l, is1_i, is1_r, is1_n, is1_f, true_and, and_true, List.length_cons, List.length_nil, Nat.reduceAdd, Nat.reduceLeDiff, Nat.reduceSub, Option.some.injEq, exists_eq_left', aft_s, aft_n, ite_true, ite_false, if_true, if_false, Nat.zero_le, Nat.le_refl, reduceCtorEq, r1, i1, i2, i3, i4, i5, B1, B2, B3, B4, B5, C1, C2, C3, C4, C5]
  refine ⟨J1.mob, inv0 (crdm e1 (c_stop (v := xs (i + 1)) D.1 R1 O (B := T + 60) hT6 hjl (fun M' R' => ?_)))⟩
  have J2 := J1.mod D R'
  generalize mv H1 mo ad M' = H2 at J2 ⊢
  obtain ⟨M2, R2, e2⟩ := J2.2.1
  simp only [eL_law_1723, eL_law_1725, eL_law_1726, isA_r, isA_n, isI_i, isF_f, isL_l, is1_i, is1_r, is1_n, is1_f, true_and, and_true, List.length_cons, List.length_nil, Nat.reduceAdd, Nat.reduceLeDiff, Nat.reduceSub, Option.some.injEq, exists_eq_left', aft_s, aft_n, ite_true, ite_false, if_true, if_false, Nat.zero_le, Nat.le_refl, reduceCtorEq]
  refine ⟨J2.mob, inv0 (crdm e2 (c_thrown R2 ?_))⟩
  rw [e2]
  obtain ⟨f, q1, q2⟩ := J2.2.2.1
  by_cases hz : (a_stop σ (xs (i + 1))).1 = 0
  · have e5 : (nI (a_stop σ (xs (i + 1))).1 = 0) = True := by rw [hz]; exact eq_true rfl
    have hv := hv hz
    simp only [eL_law_1729, eL_law_1731, eL_law_1734, eL_law_1735, eL_law_1736, eL_law_1738, eL_law_1741, eL_law_1742, eL_law_1743, eL_law_1744, eL_law_1746, eL_law_1747, eL_law_1748, eL_law_1751, eL_law_1752, eL_law_1753, isA_r, isA_n, isI_i, isF_f, isL_l, is1_i, is1_r, is1_n, is1_f, true_and, and_true, List.length_cons, List.length_nil, Nat.reduceAdd, Nat.reduceLeDiff, Nat.reduceSub, Option.some.injEq, exists_eq_left', aft_s, aft_n, ite_true, ite_false, if_true, if_false, Nat.zero_le, Nat.le_refl, reduceCtorEq, eq_self, e5, rdJ_of q1, b01_0, c0_0, q2, hv, lg_self]
    exact next _ _ _ _ _ _ _ _ _ J2 x1 k5 k6
  · have e5 : (nI (a_stop σ (xs (i + 1))).1 = 0) = False := ar3 z1 hz
    simp only [eL_law_1729, eL_law_1731, eL_law_1734, eL_law_1735, eL_law_1736, eL_law_1738, eL_law_1741, eL_law_1742, eL_law_1743, eL_law_1744, eL_law_1746, eL_law_1747, eL_law_1748, eL_law_1751, eL_law_1752, eL_law_1753, isA_r, isA_n, isI_i, isF_f, isL_l, is1_i, is1_r, is1_n, is1_f, true_and, and_true, List.length_cons, List.length_nil, Nat.reduceAdd, Nat.reduceLeDiff, Nat.reduceSub, Option.some.injEq, exists_eq_left', aft_s, aft_n, ite_true, ite_false, if_true, if_false, Nat.zero_le, Nat.le_refl, reduceCtorEq, eq_self, e5]
    exact next _ _ _ _ _ _ _ _ _ J2 x1 k5 k6
theorem w_goOn (D : LD mo ad ra rD) (hb : E.1 b = some (arI L xs)) (hL : L ≤ 3072) (hi : i + 6 ≤ L) (J : LJ E x mo ad ra rD σ σ th v w H) (G : Good σ T) (hT : T + 200 < 16384) (hc : 16384 + 420 * (R + 1) ≤ JJ σ + c) (hn : 65536 + 1700 * (R + 1) ≤ 4 * JJ σ + n) (next : NX E d K b x mo ad ra rD i T R) : Ev E (d + 14) mL_law K 1756 [.ref b, .ref x, .ref mo, .ref ra, .ref rD, .int (nI i), a6, a7] [] H c n := by
  have hbn : E.1 b ≠ none := by rw [hb]; simp
  have O := G.1
  have hjl := G.2.1.len O.J
  have hj16 : (s_jn σ).length ≤ 16384 := Nat.le_trans hjl (by omega)
  have hj32 : (s_jn σ).length < 32000 := Nat.lt_of_le_of_lt hj16 (by decide)
  have hT6 : T + 60 + 1 < 31000 := by omega
  have hT9 : T < 30900 := by omega
  have hT1 : T + 61 < 30999 := by omega
  have hT3 : T + 30 + 60 ≤ 16384 := by omega
  have r0 : rdI E H b 0 = some (L, xs) := rdI_E (J.fE b hbn) hb
  have i1 : nI i + 1 = nI (i + 1) := nI_1 i
  have i2 : nI i + 2 = nI (i + 2) := nI_add i 2
  have i3 : nI i + 3 = nI (i + 3) := nI_add i 3
  have i4 : nI i + 4 = nI (i + 4) := nI_add i 4
  have i5 : nI i + 5 = nI (i + 5) := nI_add i 5
  have B1 : inB (nI (i + 1)) L = true := inB_nI (by omega) (by omega)
  have C1 : (nI (i + 1)).toNatClampNeg = i + 1 := nI_clamp (by omega)
  have B2 : inB (nI (i + 2)) L = true := inB_nI (by omega) (by omega)
  have C2 : (nI (i + 2)).toNatClampNeg = i + 2 := nI_clamp (by omega)
  have B3 : inB (nI (i + 3)) L = true := inB_nI (by omega) (by omega)
  have C3 : (nI (i + 3)).toNatClampNeg = i + 3 := nI_clamp (by omega)
  have B4 : inB (nI (i + 4)) L = true := inB_nI (by omega) (by omega)
  have C4 : (nI (i + 4)).toNatClampNeg = i + 4 := nI_clamp (by omega)
  have B5 : inB (nI (i + 5)) L = true := inB_nI (by omega) (by omega)
  have C5 : (nI (i + 5)).toNatClampNeg = i + 5 := nI_clamp (by omega)
  have y1 := y_goOn (σ := σ) (v1 := xs (i + 1))
  have x1 := x_goOn (σ := σ) (T := T) (v1 := xs (i + 1)) G
  have z1 := z_goOn (σ := σ) (v1 := xs (i + 1))
  obtain ⟨k1, k2, k3, k4, k5, k6, k7, k8, k9, k0⟩ := ar1 y1 (JJ_top x1 hT3) hc hn
  simp only [eL_law_1756, eL_law_1757, eL_law_1758, eL_law_1760, eL_law_1761, eL_law_1762, eL_law_1763, eL_law_1764, isA_r, isA_n, isI_i, isF_f, isL_l, is1_i, is1_r, is1_n, is1_f, true_and, and_true, List.length_cons, List.length_nil, Nat.reduceAdd, Nat.reduceLeDiff, Nat.reduceSub, Option.some.injEq, exists_eq_left', aft_s, aft_n, ite_true, ite_false, if_true, if_false, Nat.zero_le, Nat.le_refl, reduceCtorEq, r0, i1, i2, i3, i4, i5, B1, B2, B3, B4, B5, C1, C2, C3, C4, C5]
  refine invk (JJ (a_goOn σ (xs (i + 1))).2.2 - JJ σ + 400) (4 * (JJ (a_goOn σ (xs (i + 1))).2.2 - JJ σ + 400)) k1 k2 (h_goOn D J G hT  (v1 := xs (i + 1)) k3 k4 (fun v' H1 J1 hv => ?_))
  have r1 : rdI E H1 b 0 = some (L, xs) := rdI_E (J1.fE b hbn) hb
  obtain ⟨M, R1, e1⟩ := J1.2.1
  simp only [eL_law_1767, eL_law_1769, eL_law_1770, eL_law_1771, eL_law_1773, eL_law_1774, eL_law_1775, eL_law_1776, isA_r, isA_n, isI_i, isF_f, isL_l, is1_i, is1_r, is1_n, is1_f, true_and, and_true, List.length_cons, List.length_nil, Nat.reduceAdd, Nat.reduceLeDiff, Nat.reduceSub, Option.some.injEq, exists_eq_left', aft_s, aft_n, ite_true, ite_false, if_true, if_false, Nat.zero_le, Nat.le_refl, reduceCtorEq, r1, i1, i2, i3, i4, i5, B1, B2, B3, B4, B5, C1, C2, C3, C4, C5]
  refine ⟨J1.mob, inv0 (crdm e1 (c_goOn (v := xs (i + 1)) D.1 R1 O (B := T + 60) hT6 hjl (fun M' R' => ?_)))⟩
  have J2 := J1.mod D R'
  generalize mv H1 mo ad M' = H2 at J2 ⊢
  obtain ⟨M2, R2, e2⟩ := J2.2.1
  simp only [eL_law_1779, eL_law_1781, eL_law_1782, isA_r, isA_n, isI_i, isF_f, isL_l, is1_i, is1_r, is1_n, is1_f, true_and, and_true, List.length_cons, List.length_nil, Nat.reduceAdd, Nat.reduceLeDiff, Nat.reduceSub, Option.some.injEq, exists_eq_left', aft_s, aft_n, ite_true, ite_false, if_true, if_false, Nat.zero_le, Nat.le_refl, reduceCtorEq]
  refine ⟨J2.mob, inv0 (crdm e2 (c_thrown R2 ?_))⟩
  rw [e2]
  obtain ⟨f, q1, q2⟩ := J2.2.2.1
  by_cases hz : (a_goOn σ (xs (i + 1))).1 = 0
  · have e5 : (nI (a_goOn σ (xs (i + 1))).1 = 0) = True := by rw [hz]; exact eq_true rfl
    have hv := hv hz
    simp only [eL_law_1785, eL_law_1787, eL_law_1790, eL_law_1791, eL_law_1792, eL_law_1794, eL_law_1797, eL_law_1798, eL_law_1799, eL_law_1800, eL_law_1802, eL_law_1803, eL_law_1804, eL_law_1807, eL_law_1808, eL_law_1809, isA_r, isA_n, isI_i, isF_f, isL_l, is1_i, is1_r, is1_n, is1_f, true_and, and_true, List.length_cons, List.length_nil, Nat.reduceAdd, Nat.reduceLeDiff, Nat.reduceSub, Option.some.injEq, exists_eq_left', aft_s, aft_n, ite_true, ite_false, if_true, if_false, Nat.zero_le, Nat.le_refl, reduceCtorEq, eq_self, e5, rdJ_of q1, b01_0, c0_0, q2, hv, lg_self]
    exact next _ _ _ _ _ _ _ _ _ J2 x1 k5 k6
  · have e5 : (nI (a_goOn σ (xs (i + 1))).1 = 0) = False := ar3 z1 hz
    simp only [eL_law_1785, eL_law_1787, eL_law_1790, eL_law_1791, eL_law_1792, eL_law_1794, eL_law_1797, eL_law_1798, eL_law_1799, eL_law_1800, eL_law_1802, eL_law_1803, eL_law_1804, eL_law_1807, eL_law_1808, eL_law_1809, isA_r, isA_n, isI_i, isF_f, isL_l, is1_i, is1_r, is1_n, is1_f, true_and, and_true, List.length_cons, List.length_nil, Nat.reduceAdd, Nat.reduceLeDiff, Nat.reduceSub, Option.some.injEq, exists_eq_left', aft_s, aft_n, ite_true, ite_false, if_true, if_false, Nat.zero_le, Nat.le_refl, reduceCtorEq, eq_self, e5]
    exact next _ _ _ _ _ _ _ _ _ J2 x1 k5 k6
theorem w_end (D : LD mo ad ra rD) (hb : E.1 b = some (arI L xs)) (hL : L ≤ 3072) (hi : i + 6 ≤ L) (J : LJ E x mo ad ra rD σ σ th v w H) (G : Good σ T) (hT : T + 200 < 16384) (hc : 16384 + 420 * (R + 1) ≤ JJ σ + c) (hn : 65536 + 1700 * (R + 1) ≤ 4 * JJ σ + n) (next : NX E d K b x mo ad ra rD i T R) : Ev E (d + 14) mL_law K 1812 [.ref b, .ref x, .ref mo, .ref ra, .ref rD, .int (nI i), a6, a7] [] H c n := by
  have hbn : E.1 b ≠ none := by rw [hb]; simp
  have O := G.1
  have hjl := G.2.1.len O.J
  have hj16 : (s_jn σ).length ≤ 16384 := Nat.le_trans hjl (by omega)
  have hj32 : (s_jn σ).length < 32000 := Nat.lt_of_le_of_lt hj16 (by decide)
  have hT6 : T + 60 + 1 < 31000 := by omega
  have hT9 : T < 30900 := by omega
  have hT1 : T + 61 < 30999 := by omega
  have hT3 : T + 30 + 60 ≤ 16384 := by omega
  have r0 : rdI E H b 0 = some (L, xs) := rdI_E (J.fE b hbn) hb
  have i1 : nI i + 1 = nI (i + 1) := nI_1 i
  have i2 : nI i + 2 = nI (i + 2) := nI_add i 2
  have i3 : nI i + 3 = nI (i + 3) := nI_add i 3
  have i4 : nI i + 4 = nI (i + 4) := nI_add i 4
  have i5 : nI i + 5 = nI (i + 5) := nI_add i 5
  have B1 : inB (nI (i + 1)) L = true := inB_nI (by omega) (by omega)
  have C1 : (nI (i + 1)).toNatClampNeg = i + 1 := nI_clamp (by omega)
  have B2 : inB (nI (i + 2)) L = true := inB_nI (by omega) (by omega)
  have C2 : (nI (i + 2)).toNatClampNeg = i + 2 := nI_clamp (by omega)
  have B3 : inB (nI (i + 3)) L = true := inB_nI (by omega) (by omega)
  have C3 : (nI (i + 3)).toNatClampNeg = i + 3 := nI_clamp (by omega)
  have B4 : inB (nI (i + 4)) L = true := inB_nI (by omega) (by omega)
  have C4 : (nI (i + 4)).toNatClampNeg = i + 4 := nI_clamp (by omega)
  have B5 : inB (nI (i + 5)) L = true := inB_nI (by omega) (by omega)
  have C5 : (nI (i + 5)).toNatClampNeg = i + 5 := nI_clamp (by omega)
  have y1 := y_end (σ := σ) (v1 := xs (i + 1))
  have x1 := x_end (σ := σ) (T := T) (v1 := xs (i + 1)) G
  have z1 := z_end (σ := σ) (v1 := xs (i + 1))
  obtain ⟨k1, k2, k3, k4, k5, k6, k7, k8, k9, k0⟩ := ar1 y1 (JJ_top x1 hT3) hc hn
  simp only [eL_law_1812, eL_law_1813, eL_law_1814, eL_law_1816, eL_law_1817, eL_law_1818, eL_law_1819, eL_law_1820, isA_r, isA_n, isI_i, isF_f, isL_l, is1_i, is1_r, is1_n, is1_f, true_and, and_true, List.length_cons, List.length_nil, Nat.reduceAdd, Nat.reduceLeDiff, Nat.reduceSub, Option.some.injEq, exists_eq_left', aft_s, aft_n, ite_true, ite_false, if_true, if_false, Nat.zero_le, Nat.le_refl, reduceCtorEq, r0, i1, i2, i3, i4, i5, B1, B2, B3, B4, B5, C1, C2, C3, C4, C5]
  refine invk (JJ (a_end σ (xs (i + 1))).2.2 - JJ σ + 400) (4 * (JJ (a_end σ (xs (i + 1))).2.2 - JJ σ + 400)) k1 k2 (h_end D J G hT  (v1 := xs (i + 1)) k3 k4 (fun v' H1 J1 hv => ?_))
  have r1 : rdI E H1 b 0 = some (L, xs) := rdI_E (J1.fE b hbn) hb
  obtain ⟨M, R1, e1⟩ := J1.2.1
  simp only [eL_law_1823, eL_law_1825, eL_law_1826, eL_law_1827, eL_law_1829, eL_law_1830, eL_law_1831, eL_law_1832, isA_r, isA_n, isI_i, isF_f, isL_l, is1_i, is1_r, is1_n, is1_f, true_and, and_true, List.length_cons, List.length_nil, Nat.reduceAdd, Nat.reduceLeDiff, Nat.reduceSub, Option.some.injEq, exists_eq_left', aft_s, aft_n, ite_true, ite_false, if_true, if_false, Nat.zero_le, Nat.le_refl, reduceCtorEq, r1, i1, i2, i3, i4, i5, B1, B2, B3, B4, B5, C1, C2, C3, C4, C5]
  refine ⟨J1.mob, inv0 (crdm e1 (c_end (v := xs (i + 1)) D.1 R1 O (B := T + 60) hT6 hjl (fun M' R' => ?_)))⟩
  have J2 := J1.mod D R'
  generalize mv H1 mo ad M' = H2 at J2 ⊢
  obtain ⟨M2, R2, e2⟩ := J2.2.1
  simp only [eL_law_1835, eL_law_1837, eL_law_1838, isA_r, isA_n, isI_i, isF_f, isL_l, is1_i, is1_r, is1_n, is1_f, true_and, and_true, List.length_cons, List.length_nil, Nat.reduceAdd, Nat.reduceLeDiff, Nat.reduceSub, Option.some.injEq, exists_eq_left', aft_s, aft_n, ite_true, ite_false, if_true, if_false, Nat.zero_le, Nat.le_refl, reduceCtorEq]
  refine ⟨J2.mob, inv0 (crdm e2 (c_thrown R2 ?_))⟩
  rw [e2]
  obtain ⟨f, q1, q2⟩ := J2.2.2.1
  by_cases hz : (a_end σ (xs (i + 1))).1 = 0
  · have e5 : (nI (a_end σ (xs (i + 1))).1 = 0) = True := by rw [hz]; exact eq_true rfl
    have hv := hv hz
    simp only [eL_law_1841, eL_law_1843, eL_law_1846, eL_law_1847, eL_law_1848, eL_law_1850, eL_law_1853, eL_law_1854, eL_law_1855, eL_law_1856, eL_law_1858, eL_law_1859, eL_law_1860, eL_law_1863, eL_law_1864, eL_law_1865, isA_r, isA_n, isI_i, isF_f, isL_l, is1_i, is1_r, is1_n, is1_f, true_and, and_true, List.length_cons, List.length_nil, Nat.reduceAdd, Nat.reduceLeDiff, Nat.reduceSub, Option.some.injEq, exists_eq_left', aft_s, aft_n, ite_true, ite_false, if_true, if_false, Nat.zero_le, Nat.le_refl, reduceCtorEq, eq_self, e5, rdJ_of q1, b01_0, c0_0, q2, hv, lg_self]
    exact next _ _ _ _ _ _ _ _ _ J2 x1 k5 k6
  · have e5 : (nI (a_end σ (xs (i + 1))).1 = 0) = False := ar3 z1 hz
    simp only [eL_law_1841, eL_law_1843, eL_law_1846, eL_law_1847, eL_law_1848, eL_law_1850, eL_law_1853, eL_law_1854, eL_law_1855, eL_law_1856, eL_law_1858, eL_law_1859, eL_law_1860, eL_law_1863, eL_law_1864, eL_law_1865, isA_r, isA_n, isI_i, isF_f, isL_l, is1_i, is1_r, is1_n, is1_f, true_and, and_true, List.length_cons, List.length_nil, Nat.reduceAdd, Nat.reduceLeDiff, Nat.reduceSub, Option.some.injEq, exists_eq_left', aft_s, aft_n, ite_true, ite_false, if_true, if_false, Nat.zero_le, Nat.le_refl, reduceCtorEq, eq_self, e5]
    exact next _ _ _ _ _ _ _ _ _ J2 x1 k5 k6
theorem w_signal (D : LD mo ad ra rD) (hb : E.1 b = some (arI L xs)) (hL : L ≤ 3072) (hi : i + 6 ≤ L) (J : LJ E x mo ad ra rD σ σ th v w H) (G : Good σ T) (hT : T + 200 < 16384) (hc : 16384 + 420 * (R + 1) ≤ JJ σ + c) (hn : 65536 + 1700 * (R + 1) ≤ 4 * JJ σ + n) (next : NX E d K b x mo ad ra rD i T R) : Ev E (d + 14) mL_law K 1868 [.ref b, .ref x, .ref mo, .ref ra, .ref rD, .int (nI i), a6, a7] [] H c n := by
  have hbn : E.1 b ≠ none := by rw [hb]; simp
  have O := G.1
  have hjl := G.2.1.len O.J
  have hj16 : (s_jn σ).length ≤ 16384 := Nat.le_trans hjl (by omega)
  have hj32 : (s_jn σ).length < 32000 := Nat.lt_of_le_of_lt hj16 (by decide)
  have hT6 : T + 60 + 1 < 31000 := by omega
  have hT9 : T < 30900 := by omega
  have hT1 : T + 61 < 30999 := by omega
  have hT3 : T + 30 + 60 ≤ 16384 := by omega
  have r0 : rdI E H b 0 = some (L, xs) := rdI_E (J.fE b hbn) hb
  have i1 : nI i + 1 = nI (i + 1) := nI_1 i
  have i2 : nI i + 2 = nI (i + 2) := nI_add i 2
  have i3 : nI i + 3 = nI (i + 3) := nI_add i 3
  have i4 : nI i + 4 = nI (i + 4) := nI_add i 4
  have i5 : nI i + 5 = nI (i + 5) := nI_add i 5
  have B1 : inB (nI (i + 1)) L = true := inB_nI (by omega) (by omega)
  have C1 : (nI (i + 1)).toNatClampNeg = i + 1 := nI_clamp (by omega)
  have B2 : inB (nI (i + 2)) L = true := inB_nI (by omega) (by omega)
  have C2 : (nI (i + 2)).toNatClampNeg = i + 2 := nI_clamp (by omega)
  have B3 : inB (nI (i + 3)) L = true := inB_nI (by omega) (by omega)
  have C3 : (nI (i + 3)).toNatClampNeg = i + 3 := nI_clamp (by omega)
  have B4 : inB (nI (i + 4)) L = true := inB_nI (by omega) (by omega)
  have C4 : (nI (i + 4)).toNatClampNeg = i + 4 := nI_clamp (by omega)
  have B5 : inB (nI (i + 5)) L = true := inB_nI (by omega) (by omega)
  have C5 : (nI (i + 5)).toNatClampNeg = i + 5 := nI_clamp (by omega)
  have y1 := y_signal (σ := σ) (v1 := xs (i + 1)) (v2 := ((xs (i + 2)).toUInt32 % 65536).toInt32)
  have x1 := x_signal (σ := σ) (T := T) (v1 := xs (i + 1)) (v2 := ((xs (i + 2)).toUInt32 % 65536).toInt32) G
  have z1 := z_signal (σ := σ) (v1 := xs (i + 1)) (v2 := ((xs (i + 2)).toUInt32 % 65536).toInt32)
  obtain ⟨k1, k2, k3, k4, k5, k6, k7, k8, k9, k0⟩ := ar1 y1 (JJ_top x1 hT3) hc hn
  simp only [eL_law_1868, eL_law_1869, eL_law_1870, eL_law_1872, eL_law_1873, eL_law_1874, eL_law_1875, eL_law_1876, eL_law_1878, eL_law_1879, eL_law_1880, eL_law_1881, eL_law_1882, eL_law_1883, isA_r, isA_n, isI_i, isF_f, isL_l, is1_i, is1_r, is1_n, is1_f, true_and, and_true, List.length_cons, List.length_nil, Nat.reduceAdd, Nat.reduceLeDiff, Nat.reduceSub, Option.some.injEq, exists_eq_left', aft_s, aft_n, ite_true, ite_false, if_true, if_false, Nat.zero_le, Nat.le_refl, reduceCtorEq, r0, i1, i2, i3, i4, i5, B1, B2, B3, B4, B5, C1, C2, C3, C4, C5]
  refine invk (JJ (a_signal σ (xs (i + 1)) ((xs (i + 2)).toUInt32 % 65536).toInt32).2.2 - JJ σ + 400) (4 * (JJ (a_signal σ (xs (i + 1)) ((xs (i + 2)).toUInt32 % 65536).toInt32).2.2 - JJ σ + 400)) k1 k2 (h_signal D J G hT  (v1 := xs (i + 1)) (v2 := ((xs (i + 2)).toUInt32 % 65536).toInt32) k3 k4 (fun v' H1 J1 hv => ?_))
  have r1 : rdI E H1 b 0 = some (L, xs) := rdI_E (J1.fE b hbn) hb
  obtain ⟨M, R1, e1⟩ := J1.2.1
  simp only [eL_law_1886, eL_law_1888, eL_law_1889, eL_law_1890, eL_law_1892, eL_law_1893, eL_law_1894, eL_law_1895, eL_law_1896, eL_law_1898, eL_law_1899, eL_law_1900, eL_law_1901, eL_law_1902, isA_r, isA_n, isI_i, isF_f, isL_l, is1_i, is1_r, is1_n, is1_f, true_and, and_true, List.length_cons, List.length_nil, Nat.reduceAdd, Nat.reduceLeDiff, Nat.reduceSub, Option.some.injEq, exists_eq_left', aft_s, aft_n, ite_true, ite_false, if_true, if_false, Nat.zero_le, Nat.le_refl, reduceCtorEq, r1, i1, i2, i3, i4, i5, B1, B2, B3, B4, B5, C1, C2, C3, C4, C5]
  refine ⟨J1.mob, inv0 (crdm e1 (c_signal (v := xs (i + 1)) (g := ((xs (i + 2)).toUInt32 % 65536).toInt32) D.1 R1 O G.2.1 hT9 (fun M' R' => ?_)))⟩
  have J2 := J1.mod D R'
  generalize mv H1 mo ad M' = H2 at J2 ⊢
  obtain ⟨M2, R2, e2⟩ := J2.2.1
  simp only [eL_law_1905, eL_law_1907, eL_law_1908, isA_r, isA_n, isI_i, isF_f, isL_l, is1_i, is1_r, is1_n, is1_f, true_and, and_true, List.length_cons, List.length_nil, Nat.reduceAdd, Nat.reduceLeDiff, Nat.reduceSub, Option.some.injEq, exists_eq_left', aft_s, aft_n, ite_true, ite_false, if_true, if_false, Nat.zero_le, Nat.le_refl, reduceCtorEq]
  refine ⟨J2.mob, inv0 (crdm e2 (c_thrown R2 ?_))⟩
  rw [e2]
  obtain ⟨f, q1, q2⟩ := J2.2.2.1
  by_cases hz : (a_signal σ (xs (i + 1)) ((xs (i + 2)).toUInt32 % 65536).toInt32).1 = 0
  · have e5 : (nI (a_signal σ (xs (i + 1)) ((xs (i + 2)).toUInt32 % 65536).toInt32).1 = 0) = True := by rw [hz]; exact eq_true rfl
    have hv := hv hz
    simp only [eL_law_1911, eL_law_1913, eL_law_1916, eL_law_1917, eL_law_1918, eL_law_1920, eL_law_1923, eL_law_1924, eL_law_1925, eL_law_1926, eL_law_1928, eL_law_1929, eL_law_1930, eL_law_1933, eL_law_1934, eL_law_1935, isA_r, isA_n, isI_i, isF_f, isL_l, is1_i, is1_r, is1_n, is1_f, true_and, and_true, List.length_cons, List.length_nil, Nat.reduceAdd, Nat.reduceLeDiff, Nat.reduceSub, Option.some.injEq, exists_eq_left', aft_s, aft_n, ite_true, ite_false, if_true, if_false, Nat.zero_le, Nat.le_refl, reduceCtorEq, eq_self, e5, rdJ_of q1, b01_0, c0_0, q2, hv, lg_self]
    exact next _ _ _ _ _ _ _ _ _ J2 x1 k5 k6
  · have e5 : (nI (a_signal σ (xs (i + 1)) ((xs (i + 2)).toUInt32 % 65536).toInt32).1 = 0) = False := ar3 z1 hz
    simp only [eL_law_1911, eL_law_1913, eL_law_1916, eL_law_1917, eL_law_1918, eL_law_1920, eL_law_1923, eL_law_1924, eL_law_1925, eL_law_1926, eL_law_1928, eL_law_1929, eL_law_1930, eL_law_1933, eL_law_1934, eL_law_1935, isA_r, isA_n, isI_i, isF_f, isL_l, is1_i, is1_r, is1_n, is1_f, true_and, and_true, List.length_cons, List.length_nil, Nat.reduceAdd, Nat.reduceLeDiff, Nat.reduceSub, Option.some.injEq, exists_eq_left', aft_s, aft_n, ite_true, ite_false, if_true, if_false, Nat.zero_le, Nat.le_refl, reduceCtorEq, eq_self, e5]
    exact next _ _ _ _ _ _ _ _ _ J2 x1 k5 k6
theorem w_tick (D : LD mo ad ra rD) (hb : E.1 b = some (arI L xs)) (hL : L ≤ 3072) (hi : i + 6 ≤ L) (J : LJ E x mo ad ra rD σ σ th v w H) (G : Good σ T) (hT : T + 200 < 16384) (hc : 16384 + 420 * (R + 1) ≤ JJ σ + c) (hn : 65536 + 1700 * (R + 1) ≤ 4 * JJ σ + n) (next : NX E d K b x mo ad ra rD i T R) : Ev E (d + 14) mL_law K 1938 [.ref b, .ref x, .ref mo, .ref ra, .ref rD, .int (nI i), a6, a7] [] H c n := by
  have hbn : E.1 b ≠ none := by rw [hb]; simp
  have O := G.1
  have hjl := G.2.1.len O.J
  have hj16 : (s_jn σ).length ≤ 16384 := Nat.le_trans hjl (by omega)
  have hj32 : (s_jn σ).length < 32000 := Nat.lt_of_le_of_lt hj16 (by decide)
  have hT6 : T + 60 + 1 < 31000 := by omega
  have hT9 : T < 30900 := by omega
  have hT1 : T + 61 < 30999 := by omega
  have hT3 : T + 30 + 60 ≤ 16384 := by omega
  have r0 : rdI E H b 0 = some (L, xs) := rdI_E (J.fE b hbn) hb
  have i1 : nI i + 1 = nI (i + 1) := nI_1 i
  have i2 : nI i + 2 = nI (i + 2) := nI_add i 2
  have i3 : nI i + 3 = nI (i + 3) := nI_add i 3
  have i4 : nI i + 4 = nI (i + 4) := nI_add i 4
  have i5 : nI i + 5 = nI (i + 5) := nI_add i 5
  have B1 : inB (nI (i + 1)) L = true := inB_nI (by omega) (by omega)
  have C1 : (nI (i + 1)).toNatClampNeg = i + 1 := nI_clamp (by omega)
  have B2 : inB (nI (i + 2)) L = true := inB_nI (by omega) (by omega)
  have C2 : (nI (i + 2)).toNatClampNeg = i + 2 := nI_clamp (by omega)
  have B3 : inB (nI (i + 3)) L = true := inB_nI (by omega) (by omega)
  have C3 : (nI (i + 3)).toNatClampNeg = i + 3 := nI_clamp (by omega)
  have B4 : inB (nI (i + 4)) L = true := inB_nI (by omega) (by omega)
  have C4 : (nI (i + 4)).toNatClampNeg = i + 4 := nI_clamp (by omega)
  have B5 : inB (nI (i + 5)) L = true := inB_nI (by omega) (by omega)
  have C5 : (nI (i + 5)).toNatClampNeg = i + 5 := nI_clamp (by omega)
  have y1 := y_tick (σ := σ) (v1 := xs (i + 1))
  have x1 := x_tick (σ := σ) (T := T) (v1 := xs (i + 1)) G
  have z1 := z_tick (σ := σ) (v1 := xs (i + 1))
  obtain ⟨k1, k2, k3, k4, k5, k6, k7, k8, k9, k0⟩ := ar1 y1 (JJ_top x1 hT3) hc hn
  simp only [eL_law_1938, eL_law_1939, eL_law_1940, eL_law_1942, eL_law_1943, eL_law_1944, eL_law_1945, eL_law_1946, isA_r, isA_n, isI_i, isF_f, isL_l, is1_i, is1_r, is1_n, is1_f, true_and, and_true, List.length_cons, List.length_nil, Nat.reduceAdd, Nat.reduceLeDiff, Nat.reduceSub, Option.some.injEq, exists_eq_left', aft_s, aft_n, ite_true, ite_false, if_true, if_false, Nat.zero_le, Nat.le_refl, reduceCtorEq, r0, i1, i2, i3, i4, i5, B1, B2, B3, B4, B5, C1, C2, C3, C4, C5]
  refine invk (JJ (a_tick σ (xs (i + 1))).2.2 - JJ σ + 400) (4 * (JJ (a_tick σ (xs (i + 1))).2.2 - JJ σ + 400)) k1 k2 (h_tick D J G hT  (v1 := xs (i + 1)) k3 k4 (fun v' H1 J1 hv => ?_))
  have r1 : rdI E H1 b 0 = some (L, xs) := rdI_E (J1.fE b hbn) hb
  obtain ⟨M, R1, e1⟩ := J1.2.1
  simp only [eL_law_1949, eL_law_1951, eL_law_1952, eL_law_1953, eL_law_1955, eL_law_1956, eL_law_1957, eL_law_1958, isA_r, isA_n, isI_i, isF_f, isL_l, is1_i, is1_r, is1_n, is1_f, true_and, and_true, List.length_cons, List.length_nil, Nat.reduceAdd, Nat.reduceLeDiff, Nat.reduceSub, Option.some.injEq, exists_eq_left', aft_s, aft_n, ite_true, ite_false, if_true, if_false, Nat.zero_le, Nat.le_refl, reduceCtorEq, r1, i1, i2, i3, i4, i5, B1, B2, B3, B4, B5, C1, C2, C3, C4, C5]
  refine ⟨J1.mob, inv0 (crdm e1 (c_tick (v := xs (i + 1)) D.1 R1 O G.2.1 G.2.2 hT1 (fun M' R' => ?_)))⟩
  have J2 := J1.mod D R'
  generalize mv H1 mo ad M' = H2 at J2 ⊢
  obtain ⟨M2, R2, e2⟩ := J2.2.1
  simp only [eL_law_1961, eL_law_1963, eL_law_1964, isA_r, isA_n, isI_i, isF_f, isL_l, is1_i, is1_r, is1_n, is1_f, true_and, and_true, List.length_cons, List.length_nil, Nat.reduceAdd, Nat.reduceLeDiff, Nat.reduceSub, Option.some.injEq, exists_eq_left', aft_s, aft_n, ite_true, ite_false, if_true, if_false, Nat.zero_le, Nat.le_refl, reduceCtorEq]
  refine ⟨J2.mob, inv0 (crdm e2 (c_thrown R2 ?_))⟩
  rw [e2]
  obtain ⟨f, q1, q2⟩ := J2.2.2.1
  by_cases hz : (a_tick σ (xs (i + 1))).1 = 0
  · have e5 : (nI (a_tick σ (xs (i + 1))).1 = 0) = True := by rw [hz]; exact eq_true rfl
    have hv := hv hz
    simp only [eL_law_1967, eL_law_1969, eL_law_1972, eL_law_1973, eL_law_1974, eL_law_1976, eL_law_1979, eL_law_1980, eL_law_1981, eL_law_1982, eL_law_1984, eL_law_1985, eL_law_1986, eL_law_1989, eL_law_1990, eL_law_1991, isA_r, isA_n, isI_i, isF_f, isL_l, is1_i, is1_r, is1_n, is1_f, true_and, and_true, List.length_cons, List.length_nil, Nat.reduceAdd, Nat.reduceLeDiff, Nat.reduceSub, Option.some.injEq, exists_eq_left', aft_s, aft_n, ite_true, ite_false, if_true, if_false, Nat.zero_le, Nat.le_refl, reduceCtorEq, eq_self, e5, rdJ_of q1, b01_0, c0_0, q2, hv, lg_self]
    exact next _ _ _ _ _ _ _ _ _ J2 x1 k5 k6
  · have e5 : (nI (a_tick σ (xs (i + 1))).1 = 0) = False := ar3 z1 hz
    simp only [eL_law_1967, eL_law_1969, eL_law_1972, eL_law_1973, eL_law_1974, eL_law_1976, eL_law_1979, eL_law_1980, eL_law_1981, eL_law_1982, eL_law_1984, eL_law_1985, eL_law_1986, eL_law_1989, eL_law_1990, eL_law_1991, isA_r, isA_n, isI_i, isF_f, isL_l, is1_i, is1_r, is1_n, is1_f, true_and, and_true, List.length_cons, List.length_nil, Nat.reduceAdd, Nat.reduceLeDiff, Nat.reduceSub, Option.some.injEq, exists_eq_left', aft_s, aft_n, ite_true, ite_false, if_true, if_false, Nat.zero_le, Nat.le_refl, reduceCtorEq, eq_self, e5]
    exact next _ _ _ _ _ _ _ _ _ J2 x1 k5 k6
theorem w_entryJob (D : LD mo ad ra rD) (hb : E.1 b = some (arI L xs)) (hL : L ≤ 3072) (hi : i + 6 ≤ L) (J : LJ E x mo ad ra rD σ σ th v w H) (G : Good σ T) (hT : T + 200 < 16384) (hc : 16384 + 420 * (R + 1) ≤ JJ σ + c) (hn : 65536 + 1700 * (R + 1) ≤ 4 * JJ σ + n) (next : NX E d K b x mo ad ra rD i T R) : Ev E (d + 14) mL_law K 2007 [.ref b, .ref x, .ref mo, .ref ra, .ref rD, .int (nI i), a6, a7] [] H c n := by
  have hbn : E.1 b ≠ none := by rw [hb]; simp
  have O := G.1
  have hjl := G.2.1.len O.J
  have hj16 : (s_jn σ).length ≤ 16384 := Nat.le_trans hjl (by omega)
  have hj32 : (s_jn σ).length < 32000 := Nat.lt_of_le_of_lt hj16 (by decide)
  have hT6 : T + 60 + 1 < 31000 := by omega
  have hT9 : T < 30900 := by omega
  have hT1 : T + 61 < 30999 := by omega
  have hT3 : T + 30 + 60 ≤ 16384 := by omega
  have r0 : rdI E H b 0 = some (L, xs) := rdI_E (J.fE b hbn) hb
  have i1 : nI i + 1 = nI (i + 1) := nI_1 i
  have i2 : nI i + 2 = nI (i + 2) := nI_add i 2
  have i3 : nI i + 3 = nI (i + 3) := nI_add i 3
  have i4 : nI i + 4 = nI (i + 4) := nI_add i 4
  have i5 : nI i + 5 = nI (i + 5) := nI_add i 5
  have B1 : inB (nI (i + 1)) L = true := inB_nI (by omega) (by omega)
  have C1 : (nI (i + 1)).toNatClampNeg = i + 1 := nI_clamp (by omega)
  have B2 : inB (nI (i + 2)) L = true := inB_nI (by omega) (by omega)
  have C2 : (nI (i + 2)).toNatClampNeg = i + 2 := nI_clamp (by omega)
  have B3 : inB (nI (i + 3)) L = true := inB_nI (by omega) (by omega)
  have C3 : (nI (i + 3)).toNatClampNeg = i + 3 := nI_clamp (by omega)
  have B4 : inB (nI (i + 4)) L = true := inB_nI (by omega) (by omega)
  have C4 : (nI (i + 4)).toNatClampNeg = i + 4 := nI_clamp (by omega)
  have B5 : inB (nI (i + 5)) L = true := inB_nI (by omega) (by omega)
  have C5 : (nI (i + 5)).toNatClampNeg = i + 5 := nI_clamp (by omega)
  have y1 := y_entryJob (σ := σ) (v1 := xs (i + 1))
  have x1 := x_entryJob (σ := σ) (T := T) (v1 := xs (i + 1)) G
  have z1 := z_entryJob (σ := σ) (v1 := xs (i + 1))
  obtain ⟨k1, k2, k3, k4, k5, k6, k7, k8, k9, k0⟩ := ar1 y1 (JJ_top x1 hT3) hc hn
  simp only [eL_law_2007, eL_law_2008, eL_law_2009, eL_law_2011, eL_law_2012, eL_law_2013, eL_law_2014, eL_law_2015, isA_r, isA_n, isI_i, isF_f, isL_l, is1_i, is1_r, is1_n, is1_f, true_and, and_true, List.length_cons, List.length_nil, Nat.reduceAdd, Nat.reduceLeDiff, Nat.reduceSub, Option.some.injEq, exists_eq_left', aft_s, aft_n, ite_true, ite_false, if_true, if_false, Nat.zero_le, Nat.le_refl, reduceCtorEq, r0, i1, i2, i3, i4, i5, B1, B2, B3, B4, B5, C1, C2, C3, C4, C5]
  refine invk (JJ (q_entryJob σ (xs (i + 1))).2.2 - JJ σ + 400) (4 * (JJ (q_entryJob σ (xs (i + 1))).2.2 - JJ σ + 400)) k1 k2 (h_entryJob D J O hj16  (v1 := xs (i + 1)) k9 k0 (fun v' H1 J1 hv => ?_))
  have r1 : rdI E H1 b 0 = some (L, xs) := rdI_E (J1.fE b hbn) hb
  obtain ⟨M, R1, e1⟩ := J1.2.1
  simp only [eL_law_2018, eL_law_2020, eL_law_2021, eL_law_2022, eL_law_2024, eL_law_2025, eL_law_2026, eL_law_2027, isA_r, isA_n, isI_i, isF_f, isL_l, is1_i, is1_r, is1_n, is1_f, true_and, and_true, List.length_cons, List.length_nil, Nat.reduceAdd, Nat.reduceLeDiff, Nat.reduceSub, Option.some.injEq, exists_eq_left', aft_s, aft_n, ite_true, ite_false, if_true, if_false, Nat.zero_le, Nat.le_refl, reduceCtorEq, r1, i1, i2, i3, i4, i5, B1, B2, B3, B4, B5, C1, C2, C3, C4, C5]
  refine ⟨J1.mob, inv0 (crdm e1 (c_entryJob (v := xs (i + 1)) D.1 R1 O hj32 (fun M' R' => ?_)))⟩
  have J2 := J1.mod D R'
  generalize mv H1 mo ad M' = H2 at J2 ⊢
  obtain ⟨M2, R2, e2⟩ := J2.2.1
  simp only [eL_law_2030, eL_law_2032, eL_law_2033, isA_r, isA_n, isI_i, isF_f, isL_l, is1_i, is1_r, is1_n, is1_f, true_and, and_true, List.length_cons, List.length_nil, Nat.reduceAdd, Nat.reduceLeDiff, Nat.reduceSub, Option.some.injEq, exists_eq_left', aft_s, aft_n, ite_true, ite_false, if_true, if_false, Nat.zero_le, Nat.le_refl, reduceCtorEq]
  refine ⟨J2.mob, inv0 (crdm e2 (c_thrown R2 ?_))⟩
  rw [e2]
  obtain ⟨f, q1, q2⟩ := J2.2.2.1
  by_cases hz : (q_entryJob σ (xs (i + 1))).1 = 0
  · have e5 : (nI (q_entryJob σ (xs (i + 1))).1 = 0) = True := by rw [hz]; exact eq_true rfl
    have hv := hv hz
    simp only [eL_law_2036, eL_law_2038, eL_law_2041, eL_law_2042, eL_law_2043, eL_law_2045, eL_law_2048, eL_law_2049, eL_law_2050, eL_law_2051, eL_law_2053, eL_law_2054, eL_law_2055, eL_law_2058, eL_law_2059, eL_law_2060, isA_r, isA_n, isI_i, isF_f, isL_l, is1_i, is1_r, is1_n, is1_f, true_and, and_true, List.length_cons, List.length_nil, Nat.reduceAdd, Nat.reduceLeDiff, Nat.reduceSub, Option.some.injEq, exists_eq_left', aft_s, aft_n, ite_true, ite_false, if_true, if_false, Nat.zero_le, Nat.le_refl, reduceCtorEq, eq_self, e5, rdJ_of q1, b01_0, c0_0, q2, hv, lg_self]
    exact next _ _ _ _ _ _ _ _ _ J2 x1 k5 k6
  · have e5 : (nI (q_entryJob σ (xs (i + 1))).1 = 0) = False := ar3 z1 hz
    simp only [eL_law_2036, eL_law_2038, eL_law_2041, eL_law_2042, eL_law_2043, eL_law_2045, eL_law_2048, eL_law_2049, eL_law_2050, eL_law_2051, eL_law_2053, eL_law_2054, eL_law_2055, eL_law_2058, eL_law_2059, eL_law_2060, isA_r, isA_n, isI_i, isF_f, isL_l, is1_i, is1_r, is1_n, is1_f, true_and, and_true, List.length_cons, List.length_nil, Nat.reduceAdd, Nat.reduceLeDiff, Nat.reduceSub, Option.some.injEq, exists_eq_left', aft_s, aft_n, ite_true, ite_false, if_true, if_false, Nat.zero_le, Nat.le_refl, reduceCtorEq, eq_self, e5]
    exact next _ _ _ _ _ _ _ _ _ J2 x1 k5 k6
theorem w_entryState (D : LD mo ad ra rD) (hb : E.1 b = some (arI L xs)) (hL : L ≤ 3072) (hi : i + 6 ≤ L) (J : LJ E x mo ad ra rD σ σ th v w H) (G : Good σ T) (hT : T + 200 < 16384) (hc : 16384 + 420 * (R + 1) ≤ JJ σ + c) (hn : 65536 + 1700 * (R + 1) ≤ 4 * JJ σ + n) (next : NX E d K b x mo ad ra rD i T R) : Ev E (d + 14) mL_law K 2063 [.ref b, .ref x, .ref mo, .ref ra, .ref rD, .int (nI i), a6, a7] [] H c n := by
  have hbn : E.1 b ≠ none := by rw [hb]; simp
  have O := G.1
  have hjl := G.2.1.len O.J
  have hj16 : (s_jn σ).length ≤ 16384 := Nat.le_trans hjl (by omega)
  have hj32 : (s_jn σ).length < 32000 := Nat.lt_of_le_of_lt hj16 (by decide)
  have hT6 : T + 60 + 1 < 31000 := by omega
  have hT9 : T < 30900 := by omega
  have hT1 : T + 61 < 30999 := by omega
  have hT3 : T + 30 + 60 ≤ 16384 := by omega
  have r0 : rdI E H b 0 = some (L, xs) := rdI_E (J.fE b hbn) hb
  have i1 : nI i + 1 = nI (i + 1) := nI_1 i
  have i2 : nI i + 2 = nI (i + 2) := nI_add i 2
  have i3 : nI i + 3 = nI (i + 3) := nI_add i 3
  have i4 : nI i + 4 = nI (i + 4) := nI_add i 4
  have i5 : nI i + 5 = nI (i + 5) := nI_add i 5
  have B1 : inB (nI (i + 1)) L = true := inB_nI (by omega) (by omega)
  have C1 : (nI (i + 1)).toNatClampNeg = i + 1 := nI_clamp (by omega)
  have B2 : inB (nI (i + 2)) L = true := inB_nI (by omega) (by omega)
  have C2 : (nI (i + 2)).toNatClampNeg = i + 2 := nI_clamp (by omega)
  have B3 : inB (nI (i + 3)) L = true := inB_nI (by omega) (by omega)
  have C3 : (nI (i + 3)).toNatClampNeg = i + 3 := nI_clamp (by omega)
  have B4 : inB (nI (i + 4)) L = true := inB_nI (by omega) (by omega)
  have C4 : (nI (i + 4)).toNatClampNeg = i + 4 := nI_clamp (by omega)
  have B5 : inB (nI (i + 5)) L = true := inB_nI (by omega) (by omega)
  have C5 : (nI (i + 5)).toNatClampNeg = i + 5 := nI_clamp (by omega)
  have y1 := y_entryState (σ := σ) (v1 := xs (i + 1))
  have x1 := x_entryState (σ := σ) (T := T) (v1 := xs (i + 1)) G
  have z1 := z_entryState (σ := σ) (v1 := xs (i + 1))
  obtain ⟨k1, k2, k3, k4, k5, k6, k7, k8, k9, k0⟩ := ar1 y1 (JJ_top x1 hT3) hc hn
  simp only [eL_law_2063, eL_law_2064, eL_law_2065, eL_law_2067, eL_law_2068, eL_law_2069, eL_law_2070, eL_law_2071, isA_r, isA_n, isI_i, isF_f, isL_l, is1_i, is1_r, is1_n, is1_f, true_and, and_true, List.length_cons, List.length_nil, Nat.reduceAdd, Nat.reduceLeDiff, Nat.reduceSub, Option.some.injEq, exists_eq_left', aft_s, aft_n, ite_true, ite_false, if_true, if_false, Nat.zero_le, Nat.le_refl, reduceCtorEq, r0, i1, i2, i3, i4, i5, B1, B2, B3, B4, B5, C1, C2, C3, C4, C5]
  refine invk (JJ (q_entryState σ (xs (i + 1))).2.2 - JJ σ + 400) (4 * (JJ (q_entryState σ (xs (i + 1))).2.2 - JJ σ + 400)) k1 k2 (h_entryState D J O hj16  (v1 := xs (i + 1)) k9 k0 (fun v' H1 J1 hv => ?_))
  have r1 : rdI E H1 b 0 = some (L, xs) := rdI_E (J1.fE b hbn) hb
  obtain ⟨M, R1, e1⟩ := J1.2.1
  simp only [eL_law_2074, eL_law_2076, eL_law_2077, eL_law_2078, eL_law_2080, eL_law_2081, eL_law_2082, eL_law_2083, isA_r, isA_n, isI_i, isF_f, isL_l, is1_i, is1_r, is1_n, is1_f, true_and, and_true, List.length_cons, List.length_nil, Nat.reduceAdd, Nat.reduceLeDiff, Nat.reduceSub, Option.some.injEq, exists_eq_left', aft_s, aft_n, ite_true, ite_false, if_true, if_false, Nat.zero_le, Nat.le_refl, reduceCtorEq, r1, i1, i2, i3, i4, i5, B1, B2, B3, B4, B5, C1, C2, C3, C4, C5]
  refine ⟨J1.mob, inv0 (crdm e1 (c_entryState (v := xs (i + 1)) D.1 R1 O hj32 (fun M' R' => ?_)))⟩
  have J2 := J1.mod D R'
  generalize mv H1 mo ad M' = H2 at J2 ⊢
  obtain ⟨M2, R2, e2⟩ := J2.2.1
  simp only [eL_law_2086, eL_law_2088, eL_law_2089, isA_r, isA_n, isI_i, isF_f, isL_l, is1_i, is1_r, is1_n, is1_f, true_and, and_true, List.length_cons, List.length_nil, Nat.reduceAdd, Nat.reduceLeDiff, Nat.reduceSub, Option.some.injEq, exists_eq_left', aft_s, aft_n, ite_true, ite_false, if_true, if_false, Nat.zero_le, Nat.le_refl, reduceCtorEq]
  refine ⟨J2.mob, inv0 (crdm e2 (c_thrown R2 ?_))⟩
  rw [e2]
  obtain ⟨f, q1, q2⟩ := J2.2.2.1
  by_cases hz : (q_entryState σ (xs (i + 1))).1 = 0
  · have e5 : (nI (q_entryState σ (xs (i + 1))).1 = 0) = True := by rw [hz]; exact eq_true rfl
    have hv := hv hz
    simp only [eL_law_2092, eL_law_2094, eL_law_2097, eL_law_2098, eL_law_2099, eL_law_2101, eL_law_2104, eL_law_2105, eL_law_2106, eL_law_2107, eL_law_2109, eL_law_2110, eL_law_2111, eL_law_2114, eL_law_2115, eL_law_2116, isA_r, isA_n, isI_i, isF_f, isL_l, is1_i, is1_r, is1_n, is1_f, true_and, and_true, List.length_cons, List.length_nil, Nat.reduceAdd, Nat.reduceLeDiff, Nat.reduceSub, Option.some.injEq, exists_eq_left', aft_s, aft_n, ite_true, ite_false, if_true, if_false, Nat.zero_le, Nat.le_refl, reduceCtorEq, eq_self, e5, rdJ_of q1, b01_0, c0_0, q2, hv, lg_self]
    exact next _ _ _ _ _ _ _ _ _ J2 x1 k5 k6
  · have e5 : (nI (q_entryState σ (xs (i + 1))).1 = 0) = False := ar3 z1 hz
    simp only [eL_law_2092, eL_law_2094, eL_law_2097, eL_law_2098, eL_law_2099, eL_law_2101, eL_law_2104, eL_law_2105, eL_law_2106, eL_law_2107, eL_law_2109, eL_law_2110, eL_law_2111, eL_law_2114, eL_law_2115, eL_law_2116, isA_r, isA_n, isI_i, isF_f, isL_l, is1_i, is1_r, is1_n, is1_f, true_and, and_true, List.length_cons, List.length_nil, Nat.reduceAdd, Nat.reduceLeDiff, Nat.reduceSub, Option.some.injEq, exists_eq_left', aft_s, aft_n, ite_true, ite_false, if_true, if_false, Nat.zero_le, Nat.le_refl, reduceCtorEq, eq_self, e5]
    exact next _ _ _ _ _ _ _ _ _ J2 x1 k5 k6
theorem w_common (D : LD mo ad ra rD) (hb : E.1 b = some (arI L xs)) (hL : L ≤ 3072) (hi : i + 6 ≤ L) (J : LJ E x mo ad ra rD σ σ th v w H) (G : Good σ T) (hT : T + 200 < 16384) (hc : 16384 + 420 * (R + 1) ≤ JJ σ + c) (hn : 65536 + 1700 * (R + 1) ≤ 4 * JJ σ + n) (next : NX E d K b x mo ad ra rD i T R) : Ev E (d + 14) mL_law K 662 [.ref b, .ref x, .ref mo, .ref ra, .ref rD, .int (nI i), a6, a7] [] H c n := by
  simp only [eL_law_662, eL_law_663, isA_r, isA_n, isI_i, isF_f, isL_l, is1_i, is1_r, is1_n, is1_f, true_and, and_true, List.length_cons, List.length_nil, Nat.reduceAdd, Nat.reduceLeDiff, Nat.reduceSub, Option.some.injEq, exists_eq_left', aft_s, aft_n, ite_true, ite_false, if_true, if_false, Nat.zero_le, Nat.le_refl, reduceCtorEq]
  refine ⟨J.1.xo, inv0 (p_common J.1 ?_)⟩
  obtain ⟨M, R1, e1⟩ := J.2.1
  simp only [eL_law_666, eL_law_667, isA_r, isA_n, isI_i, isF_f, isL_l, is1_i, is1_r, is1_n, is1_f, true_and, and_true, List.length_cons, List.length_nil, Nat.reduceAdd, Nat.reduceLeDiff, Nat.reduceSub, Option.some.injEq, exists_eq_left', aft_s, aft_n, ite_true, ite_false, if_true, if_false, Nat.zero_le, Nat.le_refl, reduceCtorEq]
  refine ⟨J.mob, inv0 (crdm e1 (c_common R1 (fun M' R' => ?_)))⟩
  have J2 := J.mod D R'
  generalize mv H mo ad M' = H2 at J2 ⊢
  simp only [eL_law_670, eL_law_673, eL_law_674, isA_r, isA_n, isI_i, isF_f, isL_l, is1_i, is1_r, is1_n, is1_f, true_and, and_true, List.length_cons, List.length_nil, Nat.reduceAdd, Nat.reduceLeDiff, Nat.reduceSub, Option.some.injEq, exists_eq_left', aft_s, aft_n, ite_true, ite_false, if_true, if_false, Nat.zero_le, Nat.le_refl, reduceCtorEq, eq_self]
  exact next _ _ _ _ _ _ _ _ _ J2 (G.up (by omega)) (ar2 hc hn).1 (ar2 hc hn).2
theorem w_waiting (D : LD mo ad ra rD) (hb : E.1 b = some (arI L xs)) (hL : L ≤ 3072) (hi : i + 6 ≤ L) (J : LJ E x mo ad ra rD σ σ th v w H) (G : Good σ T) (hT : T + 200 < 16384) (hc : 16384 + 420 * (R + 1) ≤ JJ σ + c) (hn : 65536 + 1700 * (R + 1) ≤ 4 * JJ σ + n) (next : NX E d K b x mo ad ra rD i T R) : Ev E (d + 14) mL_law K 1575 [.ref b, .ref x, .ref mo, .ref ra, .ref rD, .int (nI i), a6, a7] [] H c n := by
  simp only [eL_law_1575, eL_law_1576, isA_r, isA_n, isI_i, isF_f, isL_l, is1_i, is1_r, is1_n, is1_f, true_and, and_true, List.length_cons, List.length_nil, Nat.reduceAdd, Nat.reduceLeDiff, Nat.reduceSub, Option.some.injEq, exists_eq_left', aft_s, aft_n, ite_true, ite_false, if_true, if_false, Nat.zero_le, Nat.le_refl, reduceCtorEq]
  refine ⟨J.1.xo, inv0 (p_waiting J.1 ?_)⟩
  obtain ⟨M, R1, e1⟩ := J.2.1
  simp only [eL_law_1579, eL_law_1580, isA_r, isA_n, isI_i, isF_f, isL_l, is1_i, is1_r, is1_n, is1_f, true_and, and_true, List.length_cons, List.length_nil, Nat.reduceAdd, Nat.reduceLeDiff, Nat.reduceSub, Option.some.injEq, exists_eq_left', aft_s, aft_n, ite_true, ite_false, if_true, if_false, Nat.zero_le, Nat.le_refl, reduceCtorEq]
  refine ⟨J.mob, inv0 (crdm e1 (c_waiting R1 (fun M' R' => ?_)))⟩
  have J2 := J.mod D R'
  generalize mv H mo ad M' = H2 at J2 ⊢
  simp only [eL_law_1583, eL_law_1586, eL_law_1587, isA_r, isA_n, isI_i, isF_f, isL_l, is1_i, is1_r, is1_n, is1_f, true_and, and_true, List.length_cons, List.length_nil, Nat.reduceAdd, Nat.reduceLeDiff, Nat.reduceSub, Option.some.injEq, exists_eq_left', aft_s, aft_n, ite_true, ite_false, if_true, if_false, Nat.zero_le, Nat.le_refl, reduceCtorEq, eq_self]
  exact next _ _ _ _ _ _ _ _ _ J2 (G.up (by omega)) (ar2 hc hn).1 (ar2 hc hn).2
theorem w_entries (D : LD mo ad ra rD) (hb : E.1 b = some (arI L xs)) (hL : L ≤ 3072) (hi : i + 6 ≤ L) (J : LJ E x mo ad ra rD σ σ th v w H) (G : Good σ T) (hT : T + 200 < 16384) (hc : 16384 + 420 * (R + 1) ≤ JJ σ + c) (hn : 65536 + 1700 * (R + 1) ≤ 4 * JJ σ + n) (next : NX E d K b x mo ad ra rD i T R) : Ev E (d + 14) mL_law K 1994 [.ref b, .ref x, .ref mo, .ref ra, .ref rD, .int (nI i), a6, a7] [] H c n := by
  simp only [eL_law_1994, eL_law_1995, isA_r, isA_n, isI_i, isF_f, isL_l, is1_i, is1_r, is1_n, is1_f, true_and, and_true, List.length_cons, List.length_nil, Nat.reduceAdd, Nat.reduceLeDiff, Nat.reduceSub, Option.some.injEq, exists_eq_left', aft_s, aft_n, ite_true, ite_false, if_true, if_false, Nat.zero_le, Nat.le_refl, reduceCtorEq]
  refine ⟨J.1.xo, inv0 (p_entries J.1 ?_)⟩
  obtain ⟨M, R1, e1⟩ := J.2.1
  simp only [eL_law_1998, eL_law_1999, isA_r, isA_n, isI_i, isF_f, isL_l, is1_i, is1_r, is1_n, is1_f, true_and, and_true, List.length_cons, List.length_nil, Nat.reduceAdd, Nat.reduceLeDiff, Nat.reduceSub, Option.some.injEq, exists_eq_left', aft_s, aft_n, ite_true, ite_false, if_true, if_false, Nat.zero_le, Nat.le_refl, reduceCtorEq]
  refine ⟨J.mob, inv0 (crdm e1 (c_entries R1 (fun M' R' => ?_)))⟩
  have J2 := J.mod D R'
  generalize mv H mo ad M' = H2 at J2 ⊢
  simp only [eL_law_2002, eL_law_2005, eL_law_2006, isA_r, isA_n, isI_i, isF_f, isL_l, is1_i, is1_r, is1_n, is1_f, true_and, and_true, List.length_cons, List.length_nil, Nat.reduceAdd, Nat.reduceLeDiff, Nat.reduceSub, Option.some.injEq, exists_eq_left', aft_s, aft_n, ite_true, ite_false, if_true, if_false, Nat.zero_le, Nat.le_refl, reduceCtorEq, eq_self]
  exact next _ _ _ _ _ _ _ _ _ J2 (G.up (by omega)) (ar2 hc hn).1 (ar2 hc hn).2
theorem w_worked (D : LD mo ad ra rD) (hb : E.1 b = some (arI L xs)) (hL : L ≤ 3072) (hi : i + 6 ≤ L) (J : LJ E x mo ad ra rD σ σ th v w H) (G : Good σ T) (hT : T + 200 < 16384) (hc : 16384 + 420 * (R + 1) ≤ JJ σ + c) (hn : 65536 + 1700 * (R + 1) ≤ 4 * JJ σ + n) (next : NX E d K b x mo ad ra rD i T R) : Ev E (d + 14) mL_law K 2119 [.ref b, .ref x, .ref mo, .ref ra, .ref rD, .int (nI i), a6, a7] [] H c n := by
  simp only [eL_law_2119, eL_law_2120, isA_r, isA_n, isI_i, isF_f, isL_l, is1_i, is1_r, is1_n, is1_f, true_and, and_true, List.length_cons, List.length_nil, Nat.reduceAdd, Nat.reduceLeDiff, Nat.reduceSub, Option.some.injEq, exists_eq_left', aft_s, aft_n, ite_true, ite_false, if_true, if_false, Nat.zero_le, Nat.le_refl, reduceCtorEq]
  refine ⟨J.1.xo, inv0 (p_worked J.1 ?_)⟩
  obtain ⟨M, R1, e1⟩ := J.2.1
  simp only [eL_law_2123, eL_law_2124, isA_r, isA_n, isI_i, isF_f, isL_l, is1_i, is1_r, is1_n, is1_f, true_and, and_true, List.length_cons, List.length_nil, Nat.reduceAdd, Nat.reduceLeDiff, Nat.reduceSub, Option.some.injEq, exists_eq_left', aft_s, aft_n, ite_true, ite_false, if_true, if_false, Nat.zero_le, Nat.le_refl, reduceCtorEq]
  refine ⟨J.mob, inv0 (crdm e1 (c_worked R1 (fun M' R' => ?_)))⟩
  have J2 := J.mod D R'
  generalize mv H mo ad M' = H2 at J2 ⊢
  simp only [eL_law_2127, eL_law_2128, eL_law_2131, eL_law_2132, isA_r, isA_n, isI_i, isF_f, isL_l, is1_i, is1_r, is1_n, is1_f, true_and, and_true, List.length_cons, List.length_nil, Nat.reduceAdd, Nat.reduceLeDiff, Nat.reduceSub, Option.some.injEq, exists_eq_left', aft_s, aft_n, ite_true, ite_false, if_true, if_false, Nat.zero_le, Nat.le_refl, reduceCtorEq, eq_self, lg_self]
  exact next _ _ _ _ _ _ _ _ _ J2 (G.up (by omega)) (ar2 hc hn).1 (ar2 hc hn).2
end CASES
