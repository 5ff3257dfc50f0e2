/-! doneShare in the law, the law's loop, its start: THE PURE STATEMENT -/
theorem f2d_all : ∀ a : Fin 31, ∀ b : Fin 31, b.1 = 0 ∨ (FP.f2d (FP.fdiv (FP.i2f (nI a.1)) (FP.i2f (nI b.1))) &&& 0x7fffffffffffffff ≤ 0x7ff0000000000000 ∧ Op.cmpValue (FP.dcmp (FP.f2d (FP.fdiv (FP.i2f (nI a.1)) (FP.i2f (nI b.1)))) (FP.f2d (FP.fdiv (FP.i2f (nI a.1)) (FP.i2f (nI b.1))))) .l = 0) := by decide +kernel
theorem sh_ok {σ : Sg} (hJ : s_nJ σ ≤ 30) (h0 : s_nJ σ ≠ 0) : FP.f2d (shF σ) &&& 0x7fffffffffffffff ≤ 0x7ff0000000000000 ∧ Op.cmpValue (FP.dcmp (FP.f2d (shF σ)) (FP.f2d (shF σ))) .l = 0 := by
  have hle : cN (dnF σ) (s_nJ σ) ≤ s_nJ σ := cN_le
  exact (f2d_all ⟨cN (dnF σ) (s_nJ σ), by omega⟩ ⟨s_nJ σ, by omega⟩).resolve_left h0
theorem sw_d : ∀ k : Fin 64, 35 ≤ k.1 → sw_t.getD k.1 2199 = 2199 := by decide
theorem w_hd {L i : Nat} (hL : L ≤ 3072) (hi : i ≤ 4000) : (Int32.ofNat L - 6 < nI i) = (L < i + 6) := by
  have e : (nI L - nI 6).toInt = (L : Int) - 6 := pk_sub_toInt (a := L) (b := 6) (by omega) (by decide)
  have e2 : (nI i).toInt = (i : Int) := nI_toInt (by omega)
  refine propext ?_
  show nI L - nI 6 < nI i ↔ _
  rw [Int32.lt_iff_toInt_lt, e, e2]
  omega
section LOOP
variable {E : EN} {x mo : Nat} {ad : Nat → Nat} {ra rD : Nat} {d b L : Nat} {xs : Nat → Int32} {K : Out → AH → Prop}
theorem h_doneShare {σ σm : Sg} {th c n : Nat} {v : Int64} {w : UInt64} {H : AH} (D : LD mo ad ra rD) (J : LJ E x mo ad ra rD σ σm th v w H) (hJ : s_nJ σ ≤ 30) (hc : 2 ≤ c) (hn : 12 ≤ n) (h0 : s_nJ σ = 0 → K (.inl (some (.int 1))) H) (h1 : s_nJ σ ≠ 0 → ∀ H', LJ E x mo ad ra rD σ σm th v (FP.f2d (shF σ)) H' → K (.inl (some (.int 0))) H') : CRd TTv E (d + 14) mL_doneShare [.ref x, .ref rD] H c n K := by
  refine crd rfl ?_
  show Ev E (d + 13) mL_doneShare K 0 [.ref x, .ref rD, .retAddr 0] [] H c n
  obtain ⟨f, q1, q2⟩ := J.2.2.2
  simp only [eL_doneShare_0, eL_doneShare_1, eL_doneShare_2, eL_doneShare_3, eL_doneShare_6, eL_doneShare_7, eL_doneShare_8, eL_doneShare_11, eL_doneShare_12, eL_doneShare_13, eL_doneShare_14, eL_doneShare_15, isA_r, isA_n, isI_i, isF_f, isL_l, is1_i, is1_r, is1_n, is1_f, true_and, and_true, List.length_cons, List.length_nil, Nat.reduceAdd, Nat.reduceLeDiff, Nat.reduceSub, Option.some.injEq, exists_eq_left', aft_s, aft_n, ite_true, ite_false, if_true, if_false, Nat.zero_le, Nat.le_refl, reduceCtorEq]
  refine ⟨J.1.xo, invk c n (Nat.le_refl _) (Nat.le_refl _) (p_doneShare J.1 hc hn (fun hz => ?_) (fun hz => ?_))⟩
  · refine aft_h rfl rfl (fun q => ?_)
    simp only [eL_doneShare_0, eL_doneShare_1, eL_doneShare_2, eL_doneShare_3, eL_doneShare_6, eL_doneShare_7, eL_doneShare_8, eL_doneShare_11, eL_doneShare_12, eL_doneShare_13, eL_doneShare_14, eL_doneShare_15, isA_r, isA_n, isI_i, isF_f, isL_l, is1_i, is1_r, is1_n, is1_f, true_and, and_true, List.length_cons, List.length_nil, Nat.reduceAdd, Nat.reduceLeDiff, Nat.reduceSub, Option.some.injEq, exists_eq_left', aft_s, aft_n, ite_true, ite_false, if_true, if_false, Nat.zero_le, Nat.le_refl, reduceCtorEq]
    exact h0 hz
  · simp only [eL_doneShare_0, eL_doneShare_1, eL_doneShare_2, eL_doneShare_3, eL_doneShare_6, eL_doneShare_7, eL_doneShare_8, eL_doneShare_11, eL_doneShare_12, eL_doneShare_13, eL_doneShare_14, eL_doneShare_15, isA_r, isA_n, isI_i, isF_f, isL_l, is1_i, is1_r, is1_n, is1_f, true_and, and_true, List.length_cons, List.length_nil, Nat.reduceAdd, Nat.reduceLeDiff, Nat.reduceSub, Option.some.injEq, exists_eq_left', aft_s, aft_n, ite_true, ite_false, if_true, if_false, Nat.zero_le, Nat.le_refl, reduceCtorEq, (sh_ok hJ hz).1, rwD_of q1, b01_0, c0_0]
    exact h1 hz _ (J.outD D (if_pos rfl))
theorem w_doneShare {σ : Sg} {th T R c n i : Nat} {v : Int64} {w : UInt64} {H : AH} {a6 a7 : Value} (D : LD mo ad ra rD) (hb : E.1 b = some (arI L xs)) (hL : L ≤ 3072) (hi : i + 6 ≤ L) (J : LJ E x mo ad ra rD σ σ th v w H) (G : Good σ T) (hT : T + 200 < 16384) (hc : 16384 + 420 * (R + 1) ≤ JJ σ + c) (hn : 65536 + 1700 * (R + 1) ≤ 4 * JJ σ + n) (next : NX E d K b x mo ad ra rD i T R) : Ev E (d + 14) mL_law K 2133 [.ref b, .ref x, .ref mo, .ref ra, .ref rD, .int (nI i), a6, a7] [] H c n := by
  have O := G.1
  have hJ := O.J
  obtain ⟨k1, k2, k3, k4, k5, k6, k7, k8, k9, k0⟩ := ar1 (Nat.le_refl (JJ σ)) (JJ_top G (by omega)) hc hn
  simp only [eL_law_2133, eL_law_2134, eL_law_2136, isA_r, isA_n, isI_i, isF_f, isL_l, is1_i, is1_r, is1_n, is1_f, true_and, and_true, List.length_cons, List.length_nil, Nat.reduceAdd, Nat.reduceLeDiff, Nat.reduceSub, Option.some.injEq, exists_eq_left', aft_s, aft_n, ite_true, ite_false, if_true, if_false, Nat.zero_le, Nat.le_refl, reduceCtorEq]
  refine invk (JJ σ - JJ σ + 400) (4 * (JJ σ - JJ σ + 400)) k1 k2 (h_doneShare D J hJ k9 k0 (fun hz => ?_) (fun hz H1 J1 => ?_))
  · obtain ⟨M, R1, e1⟩ := J.2.1
    simp only [eL_law_2139, eL_law_2141, eL_law_2142, isA_r, isA_n, isI_i, isF_f, isL_l, is1_i, is1_r, is1_n, is1_f, true_and, and_true, List.length_cons, List.length_nil, Nat.reduceAdd, Nat.reduceLeDiff, Nat.reduceSub, Option.some.injEq, exists_eq_left', aft_s, aft_n, ite_true, ite_false, if_true, if_false, Nat.zero_le, Nat.le_refl, reduceCtorEq]
    refine ⟨J.mob, inv0 (crdm e1 (c_doneShare D.1 R1 O (fun M' R' => ?_)))⟩
    rw [if_pos hz] at R'
    have J2 := J.mod D R'
    generalize mv H mo ad M' = H2 at J2 ⊢
    obtain ⟨M2, R2, e2⟩ := J2.2.1
    simp only [eL_law_2145, eL_law_2147, eL_law_2148, isA_r, isA_n, isI_i, isF_f, isL_l, is1_i, is1_r, is1_n, is1_f, true_and, and_true, List.length_cons, List.length_nil, Nat.reduceAdd, Nat.reduceLeDiff, Nat.reduceSub, Option.some.injEq, exists_eq_left', aft_s, aft_n, ite_true, ite_false, if_true, if_false, Nat.zero_le, Nat.le_refl, reduceCtorEq]
    refine ⟨J2.mob, inv0 (crdm e2 (c_thrown R2 ?_))⟩
    rw [e2]
    have e3 : ((nI 1 : Int32) = 1) = True := eq_true rfl
    have e4 : ((1 : Int32) = 0) = False := eq_false (by decide)
    simp only [eL_law_2151, eL_law_2153, eL_law_2156, eL_law_2157, eL_law_2158, eL_law_2160, eL_law_2163, eL_law_2165, eL_law_2166, eL_law_2167, eL_law_2169, eL_law_2170, eL_law_2171, eL_law_2174, eL_law_2176, eL_law_2177, eL_law_2178, eL_law_2180, eL_law_2181, eL_law_2182, eL_law_2183, eL_law_2186, eL_law_2188, eL_law_2190, eL_law_2191, eL_law_2194, eL_law_2195, eL_law_2196, isA_r, isA_n, isI_i, isF_f, isL_l, is1_i, is1_r, is1_n, is1_f, true_and, and_true, List.length_cons, List.length_nil, Nat.reduceAdd, Nat.reduceLeDiff, Nat.reduceSub, Option.some.injEq, exists_eq_left', aft_s, aft_n, ite_true, ite_false, if_true, if_false, Nat.zero_le, Nat.le_refl, reduceCtorEq, e3, e4]
    exact next _ _ _ _ _ _ _ _ _ J2 (G.up (by omega)) k5 k6
  · obtain ⟨M, R1, e1⟩ := J1.2.1
    simp only [eL_law_2139, eL_law_2141, eL_law_2142, isA_r, isA_n, isI_i, isF_f, isL_l, is1_i, is1_r, is1_n, is1_f, true_and, and_true, List.length_cons, List.length_nil, Nat.reduceAdd, Nat.reduceLeDiff, Nat.reduceSub, Option.some.injEq, exists_eq_left', aft_s, aft_n, ite_true, ite_false, if_true, if_false, Nat.zero_le, Nat.le_refl, reduceCtorEq]
    refine ⟨J1.mob, inv0 (crdm e1 (c_doneShare D.1 R1 O (fun M' R' => ?_)))⟩
    rw [if_neg hz] at R'
    have J2 := J1.mod D R'
    generalize mv H1 mo ad M' = H2 at J2 ⊢
    obtain ⟨M2, R2, e2⟩ := J2.2.1
    rw [if_neg hz]
    simp only [eL_law_2145, eL_law_2147, eL_law_2148, isA_r, isA_n, isI_i, isF_f, isL_l, is1_i, is1_r, is1_n, is1_f, true_and, and_true, List.length_cons, List.length_nil, Nat.reduceAdd, Nat.reduceLeDiff, Nat.reduceSub, Option.some.injEq, exists_eq_left', aft_s, aft_n, ite_true, ite_false, if_true, if_false, Nat.zero_le, Nat.le_refl, reduceCtorEq]
    refine ⟨J2.mob, inv0 (crdm e2 (c_thrown R2 ?_))⟩
    rw [e2]
    obtain ⟨f, q1, q2⟩ := J2.2.2.2
    have e3 : ((nI 0 : Int32) = 0) = True := eq_true rfl
    have e4 : ((0 : Int32) = 0) = True := eq_true rfl
    simp only [eL_law_2151, eL_law_2153, eL_law_2156, eL_law_2157, eL_law_2158, eL_law_2160, eL_law_2163, eL_law_2165, eL_law_2166, eL_law_2167, eL_law_2169, eL_law_2170, eL_law_2171, eL_law_2174, eL_law_2176, eL_law_2177, eL_law_2178, eL_law_2180, eL_law_2181, eL_law_2182, eL_law_2183, eL_law_2186, eL_law_2188, eL_law_2190, eL_law_2191, eL_law_2194, eL_law_2195, eL_law_2196, isA_r, isA_n, isI_i, isF_f, isL_l, is1_i, is1_r, is1_n, is1_f, true_and, and_true, List.length_cons, List.length_nil, Nat.reduceAdd, Nat.reduceLeDiff, Nat.reduceSub, Option.some.injEq, exists_eq_left', aft_s, aft_n, ite_true, ite_false, if_true, if_false, Nat.zero_le, Nat.le_refl, reduceCtorEq, e3, e4, rdD_of q1, b01_0, c0_0, q2, (sh_ok hJ hz).1, (sh_ok hJ hz).2]
    exact next _ _ _ _ _ _ _ _ _ J2 (G.up (by omega)) k5 k6
theorem l_law (D : LD mo ad ra rD) (hb : E.1 b = some (arI L xs)) (hL : L ≤ 3072) (hK : ∀ H, K (.inl (some (.int 1))) H) : ∀ (R m : Nat) (σ : Sg) (th : Nat) (v : Int64) (w : UInt64) (H : AH) (c n : Nat) (a6 a7 : Value), R + m = 512 → LJ E x mo ad ra rD σ σ th v w H → Good σ (30 * m) → 16384 + 420 * R ≤ JJ σ + c → 65536 + 1700 * R ≤ 4 * JJ σ + n → Ev E (d + 14) mL_law K 28 [.ref b, .ref x, .ref mo, .ref ra, .ref rD, .int (nI (6 * m)), a6, a7] [] H c n := by
  intro R
  induction R with
  | zero =>
    intro m σ th v w H c n a6 a7 hm J G hc hn
    have hl : rdN E H b = some L := rdN_E (J.fE b (by rw [hb]; simp)) hb
    have e := w_hd (L := L) (i := 6 * m) hL (by omega)
    have e1 : (Int32.ofNat L - 6 < nI (6 * m)) = True := by rw [e]; exact eq_true (by omega)
    rw [hL_law_28]
    simp only [eL_law_30, eL_law_31, eL_law_32, eL_law_34, eL_law_35, eL_law_2205, eL_law_2206, isA_r, isA_n, isI_i, isF_f, isL_l, is1_i, is1_r, is1_n, is1_f, true_and, and_true, List.length_cons, List.length_nil, Nat.reduceAdd, Nat.reduceLeDiff, Nat.reduceSub, Option.some.injEq, exists_eq_left', aft_s, aft_n, ite_true, ite_false, if_true, if_false, Nat.zero_le, Nat.le_refl, reduceCtorEq, hl, e1, ok01_1]
    exact hK H
  | succ R ih =>
    intro m σ th v w H c n a6 a7 hm J G hc hn
    have hbn : E.1 b ≠ none := by rw [hb]; simp
    have hl : rdN E H b = some L := rdN_E (J.fE b hbn) hb
    have r0 : rdI E H b 0 = some (L, xs) := rdI_E (J.fE b hbn) hb
    have e := w_hd (L := L) (i := 6 * m) hL (by omega)
    rw [hL_law_28]
    by_cases hlt : L < 6 * m + 6
    · have e1 : (Int32.ofNat L - 6 < nI (6 * m)) = True := by rw [e]; exact eq_true hlt
      simp only [eL_law_30, eL_law_31, eL_law_32, eL_law_34, eL_law_35, eL_law_2205, eL_law_2206, isA_r, isA_n, isI_i, isF_f, isL_l, is1_i, is1_r, is1_n, is1_f, true_and, and_true, List.length_cons, List.length_nil, Nat.reduceAdd, Nat.reduceLeDiff, Nat.reduceSub, Option.some.injEq, exists_eq_left', aft_s, aft_n, ite_true, ite_false, if_true, if_false, Nat.zero_le, Nat.le_refl, reduceCtorEq, hl, e1, ok01_1]
      exact hK H
    · have e1 : (Int32.ofNat L - 6 < nI (6 * m)) = False := by rw [e]; exact eq_false hlt
      have hi : 6 * m + 6 ≤ L := by omega
      have hT : 30 * m + 200 < 16384 := by omega
      have B0 : inB (nI (6 * m)) L = true := inB_nI (by omega) (by omega)
      have C0 : (nI (6 * m)).toNatClampNeg = 6 * m := nI_clamp (by omega)
      obtain ⟨k, hk, ek⟩ := and_63 (xs (6 * m))
      simp only [eL_law_30, eL_law_31, eL_law_32, eL_law_34, eL_law_35, eL_law_38, eL_law_39, eL_law_41, eL_law_42, eL_law_44, isA_r, isA_n, isI_i, isF_f, isL_l, is1_i, is1_r, is1_n, is1_f, true_and, and_true, List.length_cons, List.length_nil, Nat.reduceAdd, Nat.reduceLeDiff, Nat.reduceSub, Option.some.injEq, exists_eq_left', aft_s, aft_n, ite_true, ite_false, if_true, if_false, Nat.zero_le, Nat.le_refl, reduceCtorEq, hl, e1, r0, B0, C0]
      rw [ek, L_sw hk]
      have nx : ∀ (σ' : Sg) (th' : Nat) (v' : Int64) (w' : UInt64) (H' : AH) (c' n' : Nat) (a6 a7 : Value), LJ E x mo ad ra rD σ' σ' th' v' w' H' → Good σ' (30 * m + 30) → 16384 + 420 * R ≤ JJ σ' + c' → 65536 + 1700 * R ≤ 4 * JJ σ' + n' → Ev E (d + 14) mL_law K 2199 [.ref b, .ref x, .ref mo, .ref ra, .ref rD, .int (nI (6 * m)), a6, a7] [] H' c' n' := by
        intro σ' th' v' w' H' c' n' a6 a7 J' G' h1 h2
        have e6 : nI (6 * m) + 6 = nI (6 * (m + 1)) := nI_add (6 * m) 6
        simp only [eL_law_2199, eL_law_2202, isA_r, isA_n, isI_i, isF_f, isL_l, is1_i, is1_r, is1_n, is1_f, true_and, and_true, List.length_cons, List.length_nil, Nat.reduceAdd, Nat.reduceLeDiff, Nat.reduceSub, Option.some.injEq, exists_eq_left', aft_s, aft_n, ite_true, ite_false, if_true, if_false, Nat.zero_le, Nat.le_refl, reduceCtorEq, e6]
        exact ih (m + 1) σ' th' v' w' H' c' n' a6 a7 (by omega) J' G' h1 h2
      have nx : NX E d K b x mo ad ra rD (6 * m) (30 * m) R := nx
      clear ih hK
      have hks : k = 0 ∨ k = 1 ∨ k = 2 ∨ k = 3 ∨ k = 4 ∨ k = 5 ∨ k = 6 ∨ k = 7 ∨ k = 8 ∨ k = 9 ∨ k = 10 ∨ k = 11 ∨ k = 12 ∨ k = 13 ∨ k = 14 ∨ k = 15 ∨ k = 16 ∨ k = 17 ∨ k = 18 ∨ k = 19 ∨ k = 20 ∨ k = 21 ∨ k = 22 ∨ k = 23 ∨ k = 24 ∨ k = 25 ∨ k = 26 ∨ k = 27 ∨ k = 28 ∨ k = 29 ∨ k = 30 ∨ k = 31 ∨ k = 32 ∨ k = 33 ∨ k = 34 ∨ 35 ≤ k := by omega
      rcases hks with rfl | rfl | rfl | rfl | rfl | rfl | rfl | rfl | rfl | rfl | rfl | rfl | rfl | rfl | rfl | rfl | rfl | rfl | rfl | rfl | rfl | rfl | rfl | rfl | rfl | rfl | rfl | rfl | rfl | rfl | rfl | rfl | rfl | rfl | rfl | hk35
      · exact w_open D hb hL hi J G hT hc hn nx
      · exact w_setPrivate D hb hL hi J G hT hc hn nx
      · exact w_drop D hb hL hi J G hT hc hn nx
      · exact w_takeUp D hb hL hi J G hT hc hn nx
      · exact w_isAttached D hb hL hi J G hT hc hn nx
      · exact w_kept D hb hL hi J G hT hc hn nx
      · exact w_commandAt D hb hL hi J G hT hc hn nx
      · exact w_common D hb hL hi J G hT hc hn nx
      · exact w_commonAt D hb hL hi J G hT hc hn nx
      · exact w_search D hb hL hi J G hT hc hn nx
      · exact w_start D hb hL hi J G hT hc hn nx
      · exact w_state D hb hL hi J G hT hc hn nx
      · exact w_stateByJournal D hb hL hi J G hT hc hn nx
      · exact w_toDo D hb hL hi J G hT hc hn nx
      · exact w_sessionOf D hb hL hi J G hT hc hn nx
      · exact w_front D hb hL hi J G hT hc hn nx
      · exact w_toFront D hb hL hi J G hT hc hn nx
      · exact w_toBack D hb hL hi J G hT hc hn nx
      · exact w_count D hb hL hi J G hT hc hn nx
      · exact w_holder D hb hL hi J G hT hc hn nx
      · exact w_holderByJobs D hb hL hi J G hT hc hn nx
      · exact w_holds D hb hL hi J G hT hc hn nx
      · exact w_waiting D hb hL hi J G hT hc hn nx
      · exact w_waitingAt D hb hL hi J G hT hc hn nx
      · exact w_blockers D hb hL hi J G hT hc hn nx
      · exact w_stop D hb hL hi J G hT hc hn nx
      · exact w_goOn D hb hL hi J G hT hc hn nx
      · exact w_end D hb hL hi J G hT hc hn nx
      · exact w_signal D hb hL hi J G hT hc hn nx
      · exact w_tick D hb hL hi J G hT hc hn nx
      · exact w_entries D hb hL hi J G hT hc hn nx
      · exact w_entryJob D hb hL hi J G hT hc hn nx
      · exact w_entryState D hb hL hi J G hT hc hn nx
      · exact w_worked D hb hL hi J G hT hc hn nx
      · exact w_doneShare D hb hL hi J G hT hc hn nx
      · rw [sw_d ⟨k, hk⟩ hk35]
        exact nx _ _ _ _ _ _ _ _ _ J (G.up (by omega)) (ar2 hc hn).1 (ar2 hc hn).2
end LOOP
theorem pure_law : PureLaw := by
  intro b L eA mi xs hL hne
  show Ev (enV b L eA mi xs) 14 mL_law _ 0 [.ref b, .retAddr 0, .retAddr 0, .retAddr 0, .retAddr 0, .retAddr 0, .retAddr 0, .retAddr 0] [] _ _ _
  have hb : (enV b L eA mi xs).1 b = some (arI L xs) := if_pos rfl
  have hE : EA (enV b L eA mi xs) := by
    show (if eA = b then _ else if eA = eA then _ else _) = _
    rw [if_neg hne.symm, if_pos rfl]
  generalize enV b L eA mi xs = E at *
  have hK : ∀ H : AH, (fun (o : Out) (_ : AH) => o = .inl (some (.int 1))) (.inl (some (.int 1))) H := fun H => rfl
  generalize (fun (o : Out) (_ : AH) => o = (.inl (some (.int 1)) : Out)) = K at *
  simp only [eL_law_0, isA_r, isA_n, isI_i, isF_f, isL_l, is1_i, is1_r, is1_n, is1_f, true_and, and_true, List.length_cons, List.length_nil, Nat.reduceAdd, Nat.reduceLeDiff, Nat.reduceSub, Option.some.injEq, exists_eq_left', aft_s, aft_n, ite_true, ite_false, if_true, if_false, Nat.zero_le, Nat.le_refl, reduceCtorEq]
  refine fun x _ hxE => ?_
  simp only [eL_law_3, eL_law_4, isA_r, isA_n, isI_i, isF_f, isL_l, is1_i, is1_r, is1_n, is1_f, true_and, and_true, List.length_cons, List.length_nil, Nat.reduceAdd, Nat.reduceLeDiff, Nat.reduceSub, Option.some.injEq, exists_eq_left', aft_s, aft_n, ite_true, ite_false, if_true, if_false, Nat.zero_le, Nat.le_refl, reduceCtorEq]
  refine invk 20 400 (by omega) (by omega) (p_init (P := fun _ => False) hE hxE hs_e (fun q hq => ?_) (Nat.le_refl _) (Nat.le_refl _) (fun H1 A wr hA C1 hF1 => ?_))
  · rw [hs_n (fun e => hq (by rw [e]; exact hxE))]
  have hx1 : H1 x ≠ none := by rw [← hA, C1.top]; simp
  have hE1 := C1.fr.2.1
  simp only [eL_law_7, eL_law_8, isA_r, isA_n, isI_i, isF_f, isL_l, is1_i, is1_r, is1_n, is1_f, true_and, and_true, List.length_cons, List.length_nil, Nat.reduceAdd, Nat.reduceLeDiff, Nat.reduceSub, Option.some.injEq, exists_eq_left', aft_s, aft_n, ite_true, ite_false, if_true, if_false, Nat.zero_le, Nat.le_refl, reduceCtorEq]
  refine fun mo hmo hmoE => ?_
  simp only [eL_law_11, eL_law_12, isA_r, isA_n, isI_i, isF_f, isL_l, is1_i, is1_r, is1_n, is1_f, true_and, and_true, List.length_cons, List.length_nil, Nat.reduceAdd, Nat.reduceLeDiff, Nat.reduceSub, Option.some.injEq, exists_eq_left', aft_s, aft_n, ite_true, ite_false, if_true, if_false, Nat.zero_le, Nat.le_refl, reduceCtorEq]
  refine invk 15 64300 (by omega) (by omega) (c_init5 hs_e (Nat.le_refl _) (Nat.le_refl _) (fun H2 ad hA2 g1 g2 g3 g4 => ?_))
  have e1 : (1 : Int32).toNatClampNeg = 1 := rfl
  have e2 : ¬ (1 : Int32) < 0 := by decide
  simp only [eL_law_15, eL_law_16, eL_law_17, isA_r, isA_n, isI_i, isF_f, isL_l, is1_i, is1_r, is1_n, is1_f, true_and, and_true, List.length_cons, List.length_nil, Nat.reduceAdd, Nat.reduceLeDiff, Nat.reduceSub, Option.some.injEq, exists_eq_left', aft_s, aft_n, ite_true, ite_false, if_true, if_false, Nat.zero_le, Nat.le_refl, reduceCtorEq, e1, e2, not_false_eq_true, Nat.reduceLeDiff]
  refine fun ra hra hraE => ?_
  simp only [eL_law_19, eL_law_20, eL_law_21, isA_r, isA_n, isI_i, isF_f, isL_l, is1_i, is1_r, is1_n, is1_f, true_and, and_true, List.length_cons, List.length_nil, Nat.reduceAdd, Nat.reduceLeDiff, Nat.reduceSub, Option.some.injEq, exists_eq_left', aft_s, aft_n, ite_true, ite_false, if_true, if_false, Nat.zero_le, Nat.le_refl, reduceCtorEq, e1, e2, not_false_eq_true, Nat.reduceLeDiff]
  refine fun rD hrD hrDE => ?_
  have n1 : rD ≠ ra := by rintro rfl; rw [hs_e] at hrD; cases hrD
  rw [hs_n n1] at hrD
  have n2 : ra ≠ mo := by rintro rfl; rw [g1] at hra; cases hra
  have n3 : rD ≠ mo := by rintro rfl; rw [g1] at hrD; cases hrD
  have n4 : ∀ k, k < 15 → ad k ≠ ra ∧ ad k ≠ rD := fun k hk => ⟨(fun e => by rw [← e, g2 k hk] at hra; cases hra), (fun e => by rw [← e, g2 k hk] at hrD; cases hrD)⟩
  have D : LD mo ad ra rD := ⟨hA2, n4, n2, n3, n1.symm⟩
  have J : LJ E x mo ad ra rD sgZ sgZ 0 0 0 (hset (hset H2 ra (acL (fun _ => 0))) rD (acD (fun _ => 0))) := by
    have CW1 : CW E (fun _ => False) _ x sgZ H1 := ⟨A, wr, hA, C1⟩
    have hno : ∀ y, LPp mo ad ra rD y → H1 y = none := by
      intro y hy
      have old : ∀ z, H2 z = none → H1 z = none := fun z hz => by
        by_cases h1 : z = mo
        · rw [h1]; exact hmo
        · have hnk : ∀ k, k < 15 → z ≠ ad k := fun k hk e => by rw [e, g2 k hk] at hz; cases hz
          rw [g4 z h1 hnk, hs_n h1] at hz
          exact hz
      rcases hy with h | ⟨k, hk, h⟩ | h | h
      · rw [h]; exact hmo
      · rw [h]
        have := (g3 k hk).1
        rw [hs_n (hA2.2 k hk)] at this
        exact this
      · rw [h]; exact old ra hra
      · rw [h]; exact old rD hrD
    refine ⟨CW1.reP (fun y hy hyn => ?_) (fun y hy => ⟨?_, Or.inr (hno y hy)⟩) (fun q hq => ?_), ⟨M00, rm_0, ?_⟩, ⟨fun _ => 0, by rw [hs_n n1.symm, hs_e], rfl⟩, ⟨fun _ => 0, hs_e, rfl⟩⟩
    · have h1 : y ≠ mo := fun e => hy (Or.inl e)
      rw [hs_n (fun e => hy (Or.inr (Or.inr (Or.inr e)))), hs_n (fun e => hy (Or.inr (Or.inr (Or.inl e)))), g4 y h1 (fun k hk e => hy (Or.inr (Or.inl ⟨k, hk, e⟩))), hs_n h1]
    · rcases hy with h | ⟨k, hk, h⟩ | h | h
      · rw [h, hs_n n3.symm, hs_n n2.symm, g1]; simp
      · rw [h, hs_n (n4 k hk).2, hs_n (n4 k hk).1, g2 k hk]; simp
      · rw [h, hs_n n1.symm, hs_e]; simp
      · rw [h, hs_e]; simp
    · have q1 : q ≠ mo := fun e => hq (by rw [e]; exact hmoE)
      rw [hs_n (fun e => hq (by rw [e]; exact hrDE)), hs_n (fun e => hq (by rw [e]; exact hraE)), g4 q q1 (fun k hk e => hq (by rw [e]; exact (g3 k hk).2)), hs_n q1]
      exact hE1 q hq
    · refine mv_self ?_ (fun k hk => ?_)
      · rw [hs_n n3.symm, hs_n n2.symm]; exact g1
      · rw [hs_n (n4 k hk).2, hs_n (n4 k hk).1]; exact g2 k hk
  simp only [eL_law_23, eL_law_25, eL_law_26, isA_r, isA_n, isI_i, isF_f, isL_l, is1_i, is1_r, is1_n, is1_f, true_and, and_true, List.length_cons, List.length_nil, Nat.reduceAdd, Nat.reduceLeDiff, Nat.reduceSub, Option.some.injEq, exists_eq_left', aft_s, aft_n, ite_true, ite_false, if_true, if_false, Nat.zero_le, Nat.le_refl, reduceCtorEq]
  have j0 : JJ sgZ = 64 := rfl
  refine l_law (d := 0) D hb hL hK 512 0 sgZ 0 0 0 _ _ _ _ _ rfl J good_0 ?_ ?_
  · rw [j0]; decide
  · rw [j0]; decide
