/-! the law's step: a start -/
section STA
variable {E : EN} {P : Nat → Prop} {H0 : AH} {b x aw al ao k i T X Y : Nat} {bf : Int64} {σ : Sg} {fw : Nat → Nat} {fW fL fO : Nat → Int32} {H : AH} {d c n : Nat} {K : Out → AH → Prop}
theorem w_start3 (g : GI E P H0 x aw al ao σ T fw fW fL fO H) (hbf : sumF σ (s_nS σ) = bf) (hT : T + 200 < 16384) (hX : 82000 ≤ X) (hY : 459000 ≤ Y) (hc : X + 2390 ≤ JJ σ + c) (hn : Y + 14900 ≤ 4 * JJ σ + n) {m a j : Nat} (hm : m < 1000) (ha : a ≤ s_nS σ) (hj : j ≤ s_nJ σ) {nd : Nat} (hnd : nd < 64) {pp : Bool} (hpp : pp = true ↔ m % 2 = 0) (hD : aw ≠ al ∧ aw ≠ ao ∧ al ≠ ao) (nx : NX E P d K b x aw al ao k i T X Y bf) {a12 a19 : Value} : Ev E (d + 14) mL_law K 467 (lwF b x aw al ao (s_nS σ) (s_nJ σ) k i (.long bf) (.retAddr 0) a12 (.int (nI m)) (.int (nI a)) (.int (nI j)) (.int 0) (.int (nI nd)) (.int (hx [-77] (q_kept σ (nI a)))) a19) [.int (b2 pp), .int (nI nd), .int (nI (m % 41)), .int (nI (m % 23)), .int (nI a), .ref x] H c n := by
  have g0 := g
  obtain ⟨C, G, I, A, F, h2⟩ := g
  have O := G.1
  have h4 := O.1.1
  have h30 := O.1.2
  have hT3 : T + 30 + 60 ≤ 16384 := by omega
  have hJ1 := JJ_top G (by omega)
  have m23 := Nat.mod_lt m (show 0 < 23 by omega)
  have m41 := Nat.mod_lt m (show 0 < 41 by omega)
  have y1 := y_start (σ := σ) (v1 := nI a) (v2 := nI (m % 23)) (v3 := nI (m % 41)) (v4 := nI nd) (p5 := pp)
  have x1 := x_start (v1 := nI a) (v2 := nI (m % 23)) (v3 := nI (m % 41)) (v4 := nI nd) (p5 := pp) G
  have q1 := p_st_start G I (v := nI a) (x := nI (m % 23)) (w := nI (m % 41)) (l := nI nd) (f := pp)
  have hJ3 := JJ_top x1 hT3
  simp only [eL_law_467, isA_r, isA_n, isI_i, isF_f, isL_l, is1_i, is1_r, is1_n, is1_f, true_and, and_true, List.length_cons, List.length_nil, Nat.reduceAdd, Nat.reduceLeDiff, Nat.reduceSub, Option.some.injEq, exists_eq_left', aft_s, aft_n, ite_true, ite_false, if_true, if_false, Nat.zero_le, Nat.le_refl, reduceCtorEq]
  refine inv_act y1 hJ3 hX hY hc hn (fun kc kn c2 n2 k3 k4 k5 k6 => h_start C G hT k3 k4 (fun H2 C2 => ?_))
  clear hJ3
  generalize a_start σ (nI a) (nI (m % 23)) (nI (m % 41)) (nI nd) pp = p at y1 x1 q1 k3 k4 k5 k6 C2 ⊢
  obtain ⟨pc, pv, τ⟩ := p
  dsimp only at y1 x1 q1 k3 k4 k5 k6 C2 ⊢
  have hJ2 := JJ_top x1 hT3
  clear hc hn hJ1 y1 k3 k4
  generalize hx [-77, -78, -76, -79] (pc, pv, τ) = w at q1 ⊢
  rcases q1 with ⟨q1, rfl⟩ | ⟨s, xx, ww, ll, ⟨hs, es⟩, ⟨hxx, exx⟩, ⟨hww, eww⟩, ⟨hll, ell⟩, hJ, rfl, eτ, i1⟩
  · have ew : (w < 0) = True := by rcases q1 with q1 | q1 | q1 | q1 <;> (rw [q1]; exact eq_true (by decide))
    simp only [eL_law_470, eL_law_472, eL_law_474, eL_law_477, eL_law_478, eL_law_481, eL_law_482, eL_law_484, eL_law_486, eL_law_489, eL_law_490, eL_law_492, eL_law_494, eL_law_496, eL_law_497, eL_law_498, eL_law_499, eL_law_501, eL_law_503, eL_law_504, eL_law_506, eL_law_508, eL_law_510, eL_law_511, eL_law_514, eL_law_516, eL_law_518, eL_law_519, eL_law_520, eL_law_523, eL_law_524, eL_law_526, eL_law_529, eL_law_531, eL_law_534, eL_law_535, eL_law_537, eL_law_538, eL_law_541, eL_law_543, eL_law_545, eL_law_546, eL_law_549, eL_law_550, eL_law_552, eL_law_555, eL_law_557, eL_law_559, eL_law_560, eL_law_561, eL_law_564, eL_law_567, eL_law_569, eL_law_570, eL_law_571, eL_law_574, eL_law_575, eL_law_577, eL_law_580, eL_law_582, eL_law_585, eL_law_586, eL_law_588, eL_law_590, eL_law_592, eL_law_593, eL_law_595, eL_law_597, eL_law_598, eL_law_601, eL_law_603, eL_law_605, eL_law_606, eL_law_609, eL_law_610, eL_law_613, eL_law_614, eL_law_616, isA_r, isA_n, isI_i, isF_f, isL_l, is1_i, is1_r, is1_n, is1_f, true_and, and_true, List.length_cons, List.length_nil, Nat.reduceAdd, Nat.reduceLeDiff, Nat.reduceSub, Option.some.injEq, exists_eq_left', aft_s, aft_n, ite_true, ite_false, if_true, if_false, Nat.zero_le, Nat.le_refl, reduceCtorEq, ew]
    exact nx.go ⟨C2, x1, I, A, F, h2⟩ rfl rfl (Or.inr ⟨rfl, hbf⟩) (by omega) (by omega)
  · have ess : a = s := (nI_eq (by omega) (by omega)).mp es
    have exs : m % 23 = xx := (nI_eq (by omega) (by omega)).mp exx
    have ews : m % 41 = ww := (nI_eq (by omega) (by omega)).mp eww
    have els : nd = ll := (nI_eq (by omega) (by omega)).mp ell
    obtain ⟨f1, f2, f3, f4, f5, f6⟩ := sta_all (σ := σ) (s := s) (x := xx) (w := ww) (l := ll) (f := pp)
    rw [← eτ] at f1 f2 f3 f4 f5 f6 i1
    rw [← ess] at f3 f5 f6
    rw [← exs] at f5
    rw [← ews] at i1
    rw [← els] at f4
    rw [← ess] at hs
    clear eτ es exx eww ell ess exs ews els hxx hww hll
    have O' := x1.1
    have r41 := rm_41 hm
    have r23 := rm_23 hm
    have r2 := rm_2 hm
    have ew : (nI (s_nJ σ) < 0) = False := eq_false (nI_pos (by omega))
    have e2 : inB (nI (s_nJ σ)) 30 = true := inB_nI (by omega) (by omega)
    have e3 : (nI (s_nJ σ)).toNatClampNeg = s_nJ σ := nI_clamp (by omega)
    have w2 : rwI H2 aw 0 = some (30, fW) := rwI_of (by rw [C2.at A.1.1]; exact A.1.2)
    simp only [eL_law_470, eL_law_472, eL_law_474, eL_law_477, eL_law_478, eL_law_481, eL_law_482, eL_law_484, eL_law_486, eL_law_489, eL_law_490, eL_law_492, eL_law_494, eL_law_496, eL_law_497, isA_r, isA_n, isI_i, isF_f, isL_l, is1_i, is1_r, is1_n, is1_f, true_and, and_true, List.length_cons, List.length_nil, Nat.reduceAdd, Nat.reduceLeDiff, Nat.reduceSub, Option.some.injEq, exists_eq_left', aft_s, aft_n, ite_true, ite_false, if_true, if_false, Nat.zero_le, Nat.le_refl, reduceCtorEq, ew, nz_2, nz_3, nz_4, nz_6, nz_8, nz_11, nz_23, nz_29, nz_31, nz_41, not_false_eq_true, r41, w2, e2, e3]
    have C3 := C2.put (y := (.inl (0, 30, .inl (upd fW (s_nJ σ) (nI (m % 41)))) : AC)) A.1.1
    have w3 : (hset H2 aw (.inl (0, 30, .inl (upd fW (s_nJ σ) (nI (m % 41)))))) aw = some (arI 30 (upd fW (s_nJ σ) (nI (m % 41)))) := hs_e
    have l3 : (hset H2 aw (.inl (0, 30, .inl (upd fW (s_nJ σ) (nI (m % 41)))))) al = some (arI 30 fL) := by rw [hs_n hD.1.symm, C2.at A.2.1.1]; exact A.2.1.2
    have o3 : (hset H2 aw (.inl (0, 30, .inl (upd fW (s_nJ σ) (nI (m % 41)))))) ao = some (arI 30 fO) := by rw [hs_n hD.2.1.symm, C2.at F.1.1]; exact F.1.2
    generalize hset H2 aw (.inl (0, 30, .inl (upd fW (s_nJ σ) (nI (m % 41))))) = H3 at C3 w3 l3 o3 ⊢
    have w4 := rwI_of l3
    simp only [eL_law_498, eL_law_499, eL_law_501, eL_law_503, isA_r, isA_n, isI_i, isF_f, isL_l, is1_i, is1_r, is1_n, is1_f, true_and, and_true, List.length_cons, List.length_nil, Nat.reduceAdd, Nat.reduceLeDiff, Nat.reduceSub, Option.some.injEq, exists_eq_left', aft_s, aft_n, ite_true, ite_false, if_true, if_false, Nat.zero_le, Nat.le_refl, reduceCtorEq, w4, e2, e3]
    have C4 := C3.put (y := (.inl (0, 30, .inl (upd fL (s_nJ σ) (nI nd))) : AC)) A.2.1.1
    have a4 : (hset H3 al (.inl (0, 30, .inl (upd fL (s_nJ σ) (nI nd))))) aw = some (arI 30 (upd fW (s_nJ σ) (nI (m % 41)))) := by rw [hs_n hD.1]; exact w3
    have l4 : (hset H3 al (.inl (0, 30, .inl (upd fL (s_nJ σ) (nI nd))))) al = some (arI 30 (upd fL (s_nJ σ) (nI nd))) := hs_e
    have o4 : (hset H3 al (.inl (0, 30, .inl (upd fL (s_nJ σ) (nI nd))))) ao = some (arI 30 fO) := by rw [hs_n hD.2.2.symm]; exact o3
    generalize hset H3 al (.inl (0, 30, .inl (upd fL (s_nJ σ) (nI nd)))) = H4 at C4 a4 l4 o4 ⊢
    have w5 := rwI_of o4
    simp only [eL_law_504, eL_law_506, eL_law_508, eL_law_510, isA_r, isA_n, isI_i, isF_f, isL_l, is1_i, is1_r, is1_n, is1_f, true_and, and_true, List.length_cons, List.length_nil, Nat.reduceAdd, Nat.reduceLeDiff, Nat.reduceSub, Option.some.injEq, exists_eq_left', aft_s, aft_n, ite_true, ite_false, if_true, if_false, Nat.zero_le, Nat.le_refl, reduceCtorEq, w5, e2, e3]
    have C5 := C4.put (y := (.inl (0, 30, .inl (upd fO (s_nJ σ) (nI a))) : AC)) F.1.1
    have a5 : (hset H4 ao (.inl (0, 30, .inl (upd fO (s_nJ σ) (nI a))))) aw = some (arI 30 (upd fW (s_nJ σ) (nI (m % 41)))) := by rw [hs_n hD.2.1]; exact a4
    have l5 : (hset H4 ao (.inl (0, 30, .inl (upd fO (s_nJ σ) (nI a))))) al = some (arI 30 (upd fL (s_nJ σ) (nI nd))) := by rw [hs_n hD.2.2]; exact l4
    have o5 : (hset H4 ao (.inl (0, 30, .inl (upd fO (s_nJ σ) (nI a))))) ao = some (arI 30 (upd fO (s_nJ σ) (nI a))) := hs_e
    generalize hset H4 ao (.inl (0, 30, .inl (upd fO (s_nJ σ) (nI a)))) = H5 at C5 a5 l5 o5 ⊢
    have A' : AJ P H5 aw al τ (upN fw (s_nJ σ) (m % 41)) (upd fW (s_nJ σ) (nI (m % 41))) (upd fL (s_nJ σ) (nI nd)) := by
      refine ⟨⟨A.1.1, a5⟩, ⟨A.2.1.1, l5⟩, fun q hq => ?_⟩
      rw [f2] at hq
      rw [f4]
      by_cases hqj : q = s_nJ σ
      · rw [hqj, pk_us, pk_us, upN_s, upN_s]; exact ⟨rfl, rfl⟩
      · rw [pk_un hqj, pk_un hqj, upN_n hqj, upN_n hqj]; exact A.2.2 q (by omega)
    have F' : AF P H5 ao τ (upd fO (s_nJ σ) (nI a)) := by
      refine ⟨⟨F.1.1, o5⟩, fun q hq => ?_⟩
      rw [f2] at hq
      rw [f3]
      by_cases hqj : q = s_nJ σ
      · rw [hqj, pk_us, upN_s]
      · rw [pk_un hqj, upN_n hqj]; exact F.2 q (by omega)
    clear C2 C3 C4 w2 w3 w4 w5 l3 o3 a4 l4 o4 H2 H3 H4
    have hJ1 : s_nJ σ < s_nJ τ := by rw [f2]; exact Nat.lt_succ_self _
    have h4t := O'.1.1
    have h30t := O'.1.2
    have ha2 : a < s_nS τ := by rw [f1]; exact hs
    have v1 : hx [-77] (q_sessionOf τ (nI (s_nJ σ))) = nI a := by rw [v_ses hJ1 h30t, f3, upN_s]
    have hi : s_hi τ a = fitHi (s_hi σ a) ++ [m % 23] := by rw [f5, upN_s]
    have hl8 := (O.2.2.2.2.2.2.2.1.1 a).1
    have hl9 := fitHi_len hl8 (m % 23)
    have v2 := v_last ha2 h4t hl9 hi
    have v3 : hx [-77] (q_kept τ (nI a)) = nI (if (s_hi σ a).length + 1 < 8 then (s_hi σ a).length + 1 else 8) := by rw [v_kept ha2 h4t, hi, fit_len hl8]
    have v4 := v_search ha2 h4t (show m % 23 < 100 by omega) hi
    have v5 := v_kept hs h4
    have hd14 : (1 ≤ d + 14) = True := eq_true (by omega)
    simp only [eL_law_511, eL_law_514, eL_law_516, eL_law_518, eL_law_519, eL_law_520, eL_law_523, eL_law_524, eL_law_526, isA_r, isA_n, isI_i, isF_f, isL_l, is1_i, is1_r, is1_n, is1_f, true_and, and_true, List.length_cons, List.length_nil, Nat.reduceAdd, Nat.reduceLeDiff, Nat.reduceSub, Option.some.injEq, exists_eq_left', aft_s, aft_n, ite_true, ite_false, if_true, if_false, Nat.zero_le, Nat.le_refl, reduceCtorEq, nI_1, nI_pred, eq_self]
    refine invk 2 12 (by omega) (by omega) (h_sessionOf C5 O' (by omega) (by omega) (fun H6 C6 => ?_))
    simp only [eL_law_529, eL_law_531, eL_law_534, eL_law_535, eL_law_537, eL_law_538, isA_r, isA_n, isI_i, isF_f, isL_l, is1_i, is1_r, is1_n, is1_f, true_and, and_true, List.length_cons, List.length_nil, Nat.reduceAdd, Nat.reduceLeDiff, Nat.reduceSub, Option.some.injEq, exists_eq_left', aft_s, aft_n, ite_true, ite_false, if_true, if_false, Nat.zero_le, Nat.le_refl, reduceCtorEq, v1, eq_self]
    refine invk 2 12 (by omega) (by omega) (h_commandAt C6 O' (by omega) (by omega) (fun H7 C7 => ?_))
    simp only [eL_law_541, eL_law_543, eL_law_545, eL_law_546, eL_law_549, eL_law_550, eL_law_552, isA_r, isA_n, isI_i, isF_f, isL_l, is1_i, is1_r, is1_n, is1_f, true_and, and_true, List.length_cons, List.length_nil, Nat.reduceAdd, Nat.reduceLeDiff, Nat.reduceSub, Option.some.injEq, exists_eq_left', aft_s, aft_n, ite_true, ite_false, if_true, if_false, Nat.zero_le, Nat.le_refl, reduceCtorEq, v2, nz_2, nz_3, nz_4, nz_6, nz_8, nz_11, nz_23, nz_29, nz_31, nz_41, not_false_eq_true, r23, eq_self]
    refine invk 2 12 (by omega) (by omega) (h_kept C7 O' (by omega) (by omega) (fun H8 C8 => ?_))
    have go : ∀ (H9 : AH) (c9 n9 : Nat) (a12' : Value), CW E P H5 x τ H9 → X + 1800 ≤ JJ τ + c9 → Y + 12000 ≤ 4 * JJ τ + n9 → Ev E (d + 14) mL_law K 585 (lwF b x aw al ao (s_nS σ) (s_nJ σ + 1) k i (.long bf) (.retAddr 0) a12' (.int (nI m)) (.int (nI a)) (.int (nI j)) (.int 0) (.int (nI nd)) (.int (nI (s_hi σ a).length)) (.int (nI (s_nJ σ)))) [] H9 c9 n9 := by
      intro H9 c9 n9 a12' C9 hc9 hn9
      simp only [eL_law_585, eL_law_586, eL_law_588, eL_law_590, eL_law_592, eL_law_593, eL_law_595, eL_law_597, eL_law_598, isA_r, isA_n, isI_i, isF_f, isL_l, is1_i, is1_r, is1_n, is1_f, true_and, and_true, List.length_cons, List.length_nil, Nat.reduceAdd, Nat.reduceLeDiff, Nat.reduceSub, Option.some.injEq, exists_eq_left', aft_s, aft_n, ite_true, ite_false, if_true, if_false, Nat.zero_le, Nat.le_refl, reduceCtorEq, nz_2, nz_3, nz_4, nz_6, nz_8, nz_11, nz_23, nz_29, nz_31, nz_41, not_false_eq_true, r23]
      refine invk 2 12 (by omega) (by omega) (h_search C9 O' (by omega) (by omega) (fun H10 C10 => ?_))
      simp only [eL_law_601, eL_law_603, eL_law_605, eL_law_606, eL_law_609, eL_law_610, eL_law_613, eL_law_614, eL_law_616, isA_r, isA_n, isI_i, isF_f, isL_l, is1_i, is1_r, is1_n, is1_f, true_and, and_true, List.length_cons, List.length_nil, Nat.reduceAdd, Nat.reduceLeDiff, Nat.reduceSub, Option.some.injEq, exists_eq_left', aft_s, aft_n, ite_true, ite_false, if_true, if_false, Nat.zero_le, Nat.le_refl, reduceCtorEq, v4, nz_2, nz_3, nz_4, nz_6, nz_8, nz_11, nz_23, nz_29, nz_31, nz_41, not_false_eq_true, r23, eq_self]
      exact nx.go ⟨C10, x1, i1, A', F', by rw [f1]; exact h2⟩ f1 f2 (Or.inl rfl) (by omega) (by omega)
    have st2 : ∀ (e8 : (nI (if (s_hi σ a).length + 1 < 8 then (s_hi σ a).length + 1 else 8) = (if nI ((s_hi σ a).length + 1) < 8 then nI ((s_hi σ a).length + 1) else 8)) = True), Ev E (d + 14) mL_law K 555 (lwF b x aw al ao (s_nS σ) (s_nJ σ + 1) k i (.long bf) (.retAddr 0) a12 (.int (nI m)) (.int (nI a)) (.int (nI j)) (.int 0) (.int (nI nd)) (.int (nI (s_hi σ a).length)) (.int (nI (s_nJ σ)))) [.int (nI (if (s_hi σ a).length + 1 < 8 then (s_hi σ a).length + 1 else 8))] H8 (c2 - 2 - 2 - 2) (n2 - 12 - 12 - 12) := by
      intro e8
      cases pp with
      | false =>
        have h2' : ¬ m % 2 = 0 := fun z => Bool.noConfusion (hpp.mpr z)
        have e9 : (0 < nI (m % 2)) = True := eq_true (nI_lt (a := 0) (by omega) (by omega))
        simp only [eL_law_555, eL_law_557, eL_law_559, eL_law_560, eL_law_561, eL_law_564, eL_law_567, eL_law_569, eL_law_570, eL_law_571, isA_r, isA_n, isI_i, isF_f, isL_l, is1_i, is1_r, is1_n, is1_f, true_and, and_true, List.length_cons, List.length_nil, Nat.reduceAdd, Nat.reduceLeDiff, Nat.reduceSub, Option.some.injEq, exists_eq_left', aft_s, aft_n, ite_true, ite_false, if_true, if_false, Nat.zero_le, Nat.le_refl, reduceCtorEq, nI_1, hd14, e8, nz_2, nz_3, nz_4, nz_6, nz_8, nz_11, nz_23, nz_29, nz_31, nz_41, not_false_eq_true, r2, e9]
        exact go H8 _ _ _ C8 (by omega) (by omega)
      | true =>
        have h2' : m % 2 = 0 := hpp.mp rfl
        have e9 : (0 < nI (m % 2)) = False := eq_false (by rw [h2']; decide)
        have e10 : frI (some (s_nJ σ)) = nI (s_nJ σ) := rfl
        simp only [eL_law_555, eL_law_557, eL_law_559, eL_law_560, eL_law_561, eL_law_564, eL_law_567, eL_law_569, eL_law_570, eL_law_571, eL_law_574, eL_law_575, eL_law_577, isA_r, isA_n, isI_i, isF_f, isL_l, is1_i, is1_r, is1_n, is1_f, true_and, and_true, List.length_cons, List.length_nil, Nat.reduceAdd, Nat.reduceLeDiff, Nat.reduceSub, Option.some.injEq, exists_eq_left', aft_s, aft_n, ite_true, ite_false, if_true, if_false, Nat.zero_le, Nat.le_refl, reduceCtorEq, nI_1, hd14, e8, nz_2, nz_3, nz_4, nz_6, nz_8, nz_11, nz_23, nz_29, nz_31, nz_41, not_false_eq_true, r2, e9]
        refine invk 2 12 (by omega) (by omega) (h_front C8 O' (by omega) (by omega) (fun H9 C9 => ?_))
        simp only [eL_law_580, eL_law_582, isA_r, isA_n, isI_i, isF_f, isL_l, is1_i, is1_r, is1_n, is1_f, true_and, and_true, List.length_cons, List.length_nil, Nat.reduceAdd, Nat.reduceLeDiff, Nat.reduceSub, Option.some.injEq, exists_eq_left', aft_s, aft_n, ite_true, ite_false, if_true, if_false, Nat.zero_le, Nat.le_refl, reduceCtorEq, v_front ha2 h4t, f6 rfl, e10, eq_self]
        exact go H9 _ _ _ C9 (by omega) (by omega)
    rw [v3, v5]
    refine st2 ?_
    by_cases hlt : (s_hi σ a).length + 1 < 8
    · have e8 : nI ((s_hi σ a).length + 1) < 8 := nI_lt (b := 8) hlt (by omega)
      rw [if_pos hlt, if_pos e8]
      exact eq_self _
    · have e8 : ¬ nI ((s_hi σ a).length + 1) < 8 := nI_nlt (b := 8) (by omega) (by omega)
      rw [if_neg hlt, if_neg e8]
      exact eq_true rfl
theorem w_start2 (g : GI E P H0 x aw al ao σ T fw fW fL fO H) (hbf : sumF σ (s_nS σ) = bf) (hT : T + 200 < 16384) (hX : 82000 ≤ X) (hY : 459000 ≤ Y) (hc : X + 2400 ≤ JJ σ + c) (hn : Y + 15000 ≤ 4 * JJ σ + n) {m a j : Nat} (hm : m < 1000) (ha : a ≤ s_nS σ) (hj : j ≤ s_nJ σ) {nd : Nat} (hnd : nd < 64) (hD : aw ≠ al ∧ aw ≠ ao ∧ al ≠ ao) (nx : NX E P d K b x aw al ao k i T X Y bf) {a12 a17 a18 a19 : Value} : Ev E (d + 14) mL_law K 430 (lwF b x aw al ao (s_nS σ) (s_nJ σ) k i (.long bf) (.retAddr 0) a12 (.int (nI m)) (.int (nI a)) (.int (nI j)) (.int 0) a17 a18 a19) [.int (nI nd)] H c n := by
  have g0 := g
  obtain ⟨C, G, I, A, F, h2⟩ := g
  have O := G.1
  have h4 := O.1.1
  have h30 := O.1.2
  have hT3 : T + 30 + 60 ≤ 16384 := by omega
  have hJ1 := JJ_top G (by omega)
  have r41 := rm_41 hm
  have r23 := rm_23 hm
  have r2 := rm_2 hm
  simp only [eL_law_430, eL_law_432, eL_law_433, eL_law_435, isA_r, isA_n, isI_i, isF_f, isL_l, is1_i, is1_r, is1_n, is1_f, true_and, and_true, List.length_cons, List.length_nil, Nat.reduceAdd, Nat.reduceLeDiff, Nat.reduceSub, Option.some.injEq, exists_eq_left', aft_s, aft_n, ite_true, ite_false, if_true, if_false, Nat.zero_le, Nat.le_refl, reduceCtorEq]
  refine invk 2 12 (by omega) (by omega) (h_kept C O (by omega) (by omega) (fun H1 C1 => ?_))
  have g1 : GI E P H0 x aw al ao σ T fw fW fL fO H1 := ⟨C1, G, I, A, F, h2⟩
  by_cases h0 : m % 2 = 0
  · have e0 : (nI (m % 2) = 0) = True := eq_true (by rw [h0]; rfl)
    simp only [eL_law_438, eL_law_440, eL_law_441, eL_law_443, eL_law_445, eL_law_447, eL_law_448, eL_law_450, eL_law_452, eL_law_453, eL_law_455, eL_law_457, eL_law_458, eL_law_459, eL_law_462, eL_law_463, eL_law_466, isA_r, isA_n, isI_i, isF_f, isL_l, is1_i, is1_r, is1_n, is1_f, true_and, and_true, List.length_cons, List.length_nil, Nat.reduceAdd, Nat.reduceLeDiff, Nat.reduceSub, Option.some.injEq, exists_eq_left', aft_s, aft_n, ite_true, ite_false, if_true, if_false, Nat.zero_le, Nat.le_refl, reduceCtorEq, nz_2, nz_3, nz_4, nz_6, nz_8, nz_11, nz_23, nz_29, nz_31, nz_41, not_false_eq_true, r41, r23, r2, e0]
    exact w_start3 g1 hbf hT hX hY (by omega) (by omega) hm ha hj hnd (pp := true) ⟨fun _ => h0, fun _ => rfl⟩ hD nx
  · have e0 : (nI (m % 2) = 0) = False := eq_false (nI_ne0 (by omega) (by omega))
    simp only [eL_law_438, eL_law_440, eL_law_441, eL_law_443, eL_law_445, eL_law_447, eL_law_448, eL_law_450, eL_law_452, eL_law_453, eL_law_455, eL_law_457, eL_law_458, eL_law_459, eL_law_462, eL_law_463, eL_law_466, isA_r, isA_n, isI_i, isF_f, isL_l, is1_i, is1_r, is1_n, is1_f, true_and, and_true, List.length_cons, List.length_nil, Nat.reduceAdd, Nat.reduceLeDiff, Nat.reduceSub, Option.some.injEq, exists_eq_left', aft_s, aft_n, ite_true, ite_false, if_true, if_false, Nat.zero_le, Nat.le_refl, reduceCtorEq, nz_2, nz_3, nz_4, nz_6, nz_8, nz_11, nz_23, nz_29, nz_31, nz_41, not_false_eq_true, r41, r23, r2, e0]
    exact w_start3 g1 hbf hT hX hY (by omega) (by omega) hm ha hj hnd (pp := false) ⟨fun z => Bool.noConfusion z, fun z => absurd z h0⟩ hD nx
theorem w_start (g : GI E P H0 x aw al ao σ T fw fW fL fO H) (hbf : sumF σ (s_nS σ) = bf) (hT : T + 200 < 16384) (hX : 82000 ≤ X) (hY : 459000 ≤ Y) (hc : X + 2400 ≤ JJ σ + c) (hn : Y + 15000 ≤ 4 * JJ σ + n) {m a j : Nat} (hm : m < 1000) (ha : a ≤ s_nS σ) (hj : j ≤ s_nJ σ) {L : Nat} {xs : Nat → Int32} (eb : E.1 b = some (arI L xs)) (hL : L ≤ 260) (hk : k + 3 ≤ 1000) (hD : aw ≠ al ∧ aw ≠ ao ∧ al ≠ ao) (nx : NX E P d K b x aw al ao k i T X Y bf) {a12 a17 a18 a19 : Value} : Ev E (d + 14) mL_law K 409 (lwF b x aw al ao (s_nS σ) (s_nJ σ) k i (.long bf) (.retAddr 0) a12 (.int (nI m)) (.int (nI a)) (.int (nI j)) (.int 0) a17 a18 a19) [] H c n := by
  have g0 := g
  obtain ⟨C, G, I, A, F, h2⟩ := g
  have O := G.1
  have h4 := O.1.1
  have h30 := O.1.2
  have hT3 : T + 30 + 60 ≤ 16384 := by omega
  have hJ1 := JJ_top G (by omega)
  have r3 := rm_3 hm
  have i3 : nI k + 3 = nI (k + 3) := nI_add k 3
  by_cases h0 : m % 3 = 0
  · have e0 : (nI (m % 3) = 0) = True := eq_true (by rw [h0]; rfl)
    simp only [eL_law_409, eL_law_411, eL_law_412, eL_law_413, eL_law_416, eL_law_417, eL_law_420, eL_law_421, eL_law_423, eL_law_424, eL_law_425, eL_law_427, isA_r, isA_n, isI_i, isF_f, isL_l, is1_i, is1_r, is1_n, is1_f, true_and, and_true, List.length_cons, List.length_nil, Nat.reduceAdd, Nat.reduceLeDiff, Nat.reduceSub, Option.some.injEq, exists_eq_left', aft_s, aft_n, ite_true, ite_false, if_true, if_false, Nat.zero_le, Nat.le_refl, reduceCtorEq, nz_2, nz_3, nz_4, nz_6, nz_8, nz_11, nz_23, nz_29, nz_31, nz_41, not_false_eq_true, r3, e0]
    exact w_start2 (nd := 0) g0 hbf hT hX hY hc hn hm ha hj (by omega) hD nx
  · have hlt := Nat.mod_lt m (show 0 < 3 by omega)
    have e0 : (nI (m % 3) = 0) = False := eq_false (nI_ne0 (by omega) (by omega))
    simp only [eL_law_409, eL_law_411, eL_law_412, eL_law_413, eL_law_416, eL_law_417, eL_law_420, eL_law_421, eL_law_423, eL_law_424, eL_law_425, eL_law_427, isA_r, isA_n, isI_i, isF_f, isL_l, is1_i, is1_r, is1_n, is1_f, true_and, and_true, List.length_cons, List.length_nil, Nat.reduceAdd, Nat.reduceLeDiff, Nat.reduceSub, Option.some.injEq, exists_eq_left', aft_s, aft_n, ite_true, ite_false, if_true, if_false, Nat.zero_le, Nat.le_refl, reduceCtorEq, nz_2, nz_3, nz_4, nz_6, nz_8, nz_11, nz_23, nz_29, nz_31, nz_41, not_false_eq_true, r3, e0, i3]
    refine inv0 (k_pick (m := 64) (C.fr.2.1 b (by rw [eb]; simp)) eb hL hk (by omega) (by omega) (fun r hr => ?_))
    simp only [aft_s]
    exact w_start2 g0 hbf hT hX hY hc hn hm ha hj hr hD nx
end STA
