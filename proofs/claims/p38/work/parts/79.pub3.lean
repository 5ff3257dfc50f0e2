theorem JJ_att {σ : Sg} {s : Nat} {b : Bool} : JJ (attF σ s b) = JJ σ := JJ_e g_jn_dr
theorem JJ_park {σ : Sg} {s : Nat} {o : Option Nat} : JJ (parkF σ s o) = JJ σ := JJ_e g_jn_pk
theorem hd_att {σ : Sg} {s : Nat} {b : Bool} : hdF (attF σ s b) = hdF σ := hd_c g_nJ_dr g_hl_dr g_nd_dr
theorem hd_park {σ : Sg} {s : Nat} {o : Option Nat} : hdF (parkF σ s o) = hdF σ := hd_c g_nJ_pk g_hl_pk g_nd_pk
theorem att_1 {σ : Sg} {s : Nat} {b : Bool} : s_nS (attF σ s b) = s_nS σ ∧ s_nJ (attF σ s b) = s_nJ σ ∧ s_fr (attF σ s b) = s_fr σ ∧ s_pk (attF σ s b) = s_pk σ ∧ s_st (attF σ s b) = s_st σ := ⟨g_nS_dr, g_nJ_dr, g_fr_dr, g_pk_dr, g_st_dr⟩
theorem park_1 {σ : Sg} {s : Nat} {o : Option Nat} : s_nS (parkF σ s o) = s_nS σ ∧ s_nJ (parkF σ s o) = s_nJ σ ∧ s_st (parkF σ s o) = s_st σ := ⟨g_nS_pk, g_nJ_pk, g_st_pk⟩
theorem cstop_e {σ τ : Sg} (h : s_st τ = s_st σ) {j : Nat} : cstop τ j = cstop σ j := by unfold cstop; rw [h]
section PUB3
variable {E : EN} {P : Nat → Prop} {H0 : AH} {x : Nat} {d : Nat} {K : Out → AH → Prop} {σ : Sg} {H : AH} {c n T : Nat}
theorem p_drop (C : CW E P H0 x σ H) (G : Good σ T) (hT : T + 200 < 16384) {v : Int32} (hc : JJ (a_drop σ v).2.2 + 400 ≤ JJ σ + c) (hn : 4 * JJ (a_drop σ v).2.2 + 1600 ≤ 4 * JJ σ + n) (hK : ∀ H', CW E P H0 x (a_drop σ v).2.2 H' → K (ou [2, 1] (a_drop σ v)) H') : CRd TTv E (d + 13) mX4_drop [.ref x, .int v] H c n K := by
  obtain ⟨A, wr, rfl, C⟩ := C
  refine crd rfl ?_
  show Ev E (d + 12) mX4_drop K 0 [.ref (A 0 0), .int v, .retAddr 0, .retAddr 0] [] H c n
  have hm : JJ σ ≤ JJ (a_drop σ v).2.2 := by
    unfold a_drop
    split
    · exact Nat.le_refl _
    · split
      · split
        · rw [JJ_att]; exact Nat.le_refl _
        · split
          · rw [JJ_att]; exact Nat.le_refl _
          · rw [JJ_park]
            refine Nat.le_trans ?_ JJ_stops
            rw [JJ_att]; exact Nat.le_refl _
      · exact Nat.le_refl _
  have c1 : 1 ≤ c - 1 := by omega
  have n1 : 6 ≤ n - 6 := by omega
  simp only [eX4_drop_0, eX4_drop_1, eX4_drop_2, eX4_drop_5, eX4_drop_6, eX4_drop_7, eX4_drop_10, eX4_drop_13, eX4_drop_16, eX4_drop_23, eX4_drop_24, eX4_drop_25, eX4_drop_28, eX4_drop_29, eX4_drop_32, eX4_drop_33, eX4_drop_34, eX4_drop_37, eX4_drop_38, eX4_drop_41, eX4_drop_44, eX4_drop_45, eX4_drop_46, eX4_drop_47, eX4_drop_48, eX4_drop_51, eX4_drop_52, eX4_drop_53, eX4_drop_56, eX4_drop_57, eX4_drop_60, isA_r, isA_n, isI_i, isF_f, isL_l, is1_i, is1_r, is1_n, is1_f, true_and, and_true, List.length_cons, List.length_nil, Nat.reduceAdd, Nat.reduceLeDiff, Nat.reduceSub, Option.some.injEq, exists_eq_left', aft_s, aft_n, ite_true, ite_false, if_true, if_false, Nat.zero_le, Nat.le_refl, reduceCtorEq]
  refine ⟨C.oT, invk 1 6 (by omega) (by omega) (k_sesNum C (by omega) (by omega) (fun s hs e => ?_) (fun e => ?_))⟩
  · cases hdr : s_dr σ s with
    | true =>
      have q : a_drop σ v = (2, 0, σ) := by unfold a_drop; rw [e]; dsimp only; rw [if_neg (by rw [hdr]; decide)]
      rw [q] at hK
      have b0 : (b2 (!true) = 0) = True := eq_true rfl
      simp only [eX4_drop_0, eX4_drop_1, eX4_drop_2, eX4_drop_5, eX4_drop_6, eX4_drop_7, eX4_drop_10, eX4_drop_13, eX4_drop_16, eX4_drop_23, eX4_drop_24, eX4_drop_25, eX4_drop_28, eX4_drop_29, eX4_drop_32, eX4_drop_33, eX4_drop_34, eX4_drop_37, eX4_drop_38, eX4_drop_41, eX4_drop_44, eX4_drop_45, eX4_drop_46, eX4_drop_47, eX4_drop_48, eX4_drop_51, eX4_drop_52, eX4_drop_53, eX4_drop_56, eX4_drop_57, eX4_drop_60, isA_r, isA_n, isI_i, isF_f, isL_l, is1_i, is1_r, is1_n, is1_f, true_and, and_true, List.length_cons, List.length_nil, Nat.reduceAdd, Nat.reduceLeDiff, Nat.reduceSub, Option.some.injEq, exists_eq_left', aft_s, aft_n, ite_true, ite_false, if_true, if_false, Nat.zero_le, Nat.le_refl, reduceCtorEq, ob_of (C.ses hs), sg3, hdr, b0, Nat.le_add_left, c1, n1]
      exact hK H ⟨A, wr, rfl, C⟩
    | false =>
      have b1 : (b2 (!false) = 0) = False := eq_false (by decide)
      have C1 := C.pdr (v := true) hs
      have e5 : (.int (0 : Int32) : Value) = .int (b2 (!true)) := rfl
      simp only [eX4_drop_5, eX4_drop_6, eX4_drop_7, eX4_drop_10, eX4_drop_13, eX4_drop_16, eX4_drop_23, eX4_drop_24, eX4_drop_25, isA_r, isA_n, isI_i, isF_f, isL_l, is1_i, is1_r, is1_n, is1_f, true_and, and_true, List.length_cons, List.length_nil, Nat.reduceAdd, Nat.reduceLeDiff, Nat.reduceSub, Option.some.injEq, exists_eq_left', aft_s, aft_n, ite_true, ite_false, if_true, if_false, Nat.zero_le, Nat.le_refl, reduceCtorEq, ob_of (C.ses hs), sg3, sgl, hdr, b1, Nat.reduceLT, ok01_0]
      rw [e5, sf_dr]
      have ea : w_dr σ (upN (s_dr σ) s true) = attF σ s true := rfl
      have G1 : Good (attF σ s true) T := G.wdr hs
      obtain ⟨a1, a2, a3, a4, a5⟩ := att_1 (σ := σ) (s := s) (b := true)
      have a6 : JJ (attF σ s true) = JJ σ := JJ_att
      have a7 : hdF (attF σ s true) = hdF σ := hd_att
      have q0 : s_fr σ s = none → a_drop σ v = (0, -1, attF σ s true) := fun h => by unfold a_drop; rw [e]; dsimp only; rw [if_pos hdr, h]
      have q1 : ∀ j, s_fr σ s = some j → cstop σ j = false → a_drop σ v = (0, -1, attF σ s true) := fun j h h2 => by unfold a_drop; rw [e]; dsimp only; rw [if_pos hdr, h]; dsimp only; rw [if_pos h2]
      have q2 : ∀ j, s_fr σ s = some j → cstop σ j = true → a_drop σ v = (0, nI j, parkF (stopsF (attF σ s true) j) s (some j)) := fun j h h2 => by unfold a_drop; rw [e]; dsimp only; rw [if_pos hdr, h]; dsimp only; rw [if_neg (by rw [h2]; decide)]
      rw [ea] at C1 ⊢
      rw [← a7] at C1
      generalize attF σ s true = σ1 at *
      have hs1 : s < s_nS σ1 := by rw [a1]; exact hs
      cases hf : s_fr σ s with
      | none =>
        rw [q0 hf] at hK
        have hf1 : s_fr σ1 s = none := by rw [a3]; exact hf
        simp only [eX4_drop_0, eX4_drop_1, eX4_drop_2, eX4_drop_5, eX4_drop_6, eX4_drop_7, eX4_drop_10, eX4_drop_13, eX4_drop_16, eX4_drop_23, eX4_drop_24, eX4_drop_25, eX4_drop_28, eX4_drop_29, eX4_drop_32, eX4_drop_33, eX4_drop_34, eX4_drop_37, eX4_drop_38, eX4_drop_41, eX4_drop_44, eX4_drop_45, eX4_drop_46, eX4_drop_47, eX4_drop_48, eX4_drop_51, eX4_drop_52, eX4_drop_53, eX4_drop_56, eX4_drop_57, eX4_drop_60, isA_r, isA_n, isI_i, isF_f, isL_l, is1_i, is1_r, is1_n, is1_f, true_and, and_true, List.length_cons, List.length_nil, Nat.reduceAdd, Nat.reduceLeDiff, Nat.reduceSub, Option.some.injEq, exists_eq_left', aft_s, aft_n, ite_true, ite_false, if_true, if_false, Nat.zero_le, Nat.le_refl, reduceCtorEq, ob_of (C1.ses hs1), sg4, j_n hf1]
        exact hK _ ⟨A, wr, rfl, C1⟩
      | some j =>
        have hf1 : s_fr σ1 s = some j := by rw [a3]; exact hf
        have hj := (G.1.2.2.2.2.2.1.1 s j hf).1
        have hj1 : j < s_nJ σ1 := by rw [a2]; exact hj
        have e1 : ((.ref (A 16 j) : Value) = .null) = False := eq_false (fun h => nomatch h)
        simp only [eX4_drop_0, eX4_drop_1, eX4_drop_2, eX4_drop_5, eX4_drop_6, eX4_drop_7, eX4_drop_10, eX4_drop_13, eX4_drop_16, eX4_drop_23, eX4_drop_24, eX4_drop_25, eX4_drop_28, eX4_drop_29, eX4_drop_32, eX4_drop_33, eX4_drop_34, eX4_drop_37, eX4_drop_38, eX4_drop_41, eX4_drop_44, eX4_drop_45, eX4_drop_46, eX4_drop_47, eX4_drop_48, eX4_drop_51, eX4_drop_52, eX4_drop_53, eX4_drop_56, eX4_drop_57, eX4_drop_60, isA_r, isA_n, isI_i, isF_f, isL_l, is1_i, is1_r, is1_n, is1_f, true_and, and_true, List.length_cons, List.length_nil, Nat.reduceAdd, Nat.reduceLeDiff, Nat.reduceSub, Option.some.injEq, exists_eq_left', aft_s, aft_n, ite_true, ite_false, if_true, if_false, Nat.zero_le, Nat.le_refl, reduceCtorEq, ob_of (C1.ses hs1), sg4, j_s hf1, e1]
        refine inv0 (k_cbs C1 hj1 ?_)
        cases hcs : cstop σ1 j with
        | false =>
          have b0 : (b2 false = 0) = True := eq_true rfl
          rw [q1 j hf (by rw [← cstop_e a5]; exact hcs)] at hK
          simp only [eX4_drop_0, eX4_drop_1, eX4_drop_2, eX4_drop_5, eX4_drop_6, eX4_drop_7, eX4_drop_10, eX4_drop_13, eX4_drop_16, eX4_drop_23, eX4_drop_24, eX4_drop_25, eX4_drop_28, eX4_drop_29, eX4_drop_32, eX4_drop_33, eX4_drop_34, eX4_drop_37, eX4_drop_38, eX4_drop_41, eX4_drop_44, eX4_drop_45, eX4_drop_46, eX4_drop_47, eX4_drop_48, eX4_drop_51, eX4_drop_52, eX4_drop_53, eX4_drop_56, eX4_drop_57, eX4_drop_60, isA_r, isA_n, isI_i, isF_f, isL_l, is1_i, is1_r, is1_n, is1_f, true_and, and_true, List.length_cons, List.length_nil, Nat.reduceAdd, Nat.reduceLeDiff, Nat.reduceSub, Option.some.injEq, exists_eq_left', aft_s, aft_n, ite_true, ite_false, if_true, if_false, Nat.zero_le, Nat.le_refl, reduceCtorEq, b0]
          exact hK _ ⟨A, wr, rfl, C1⟩
        | true =>
          have b1 : (b2 true = 0) = False := eq_false (by decide)
          rw [q2 j hf (by rw [← cstop_e a5]; exact hcs)] at hK hc hn hm
          dsimp only at hc hn hm
          have m1 := JJ_stops (σ := σ1) (j := j)
          rw [JJ_park] at hc hn hm
          simp only [eX4_drop_0, eX4_drop_1, eX4_drop_2, eX4_drop_5, eX4_drop_6, eX4_drop_7, eX4_drop_10, eX4_drop_13, eX4_drop_16, eX4_drop_23, eX4_drop_24, eX4_drop_25, eX4_drop_28, eX4_drop_29, eX4_drop_32, eX4_drop_33, eX4_drop_34, eX4_drop_37, eX4_drop_38, eX4_drop_41, eX4_drop_44, eX4_drop_45, eX4_drop_46, eX4_drop_47, eX4_drop_48, eX4_drop_51, eX4_drop_52, eX4_drop_53, eX4_drop_56, eX4_drop_57, eX4_drop_60, isA_r, isA_n, isI_i, isF_f, isL_l, is1_i, is1_r, is1_n, is1_f, true_and, and_true, List.length_cons, List.length_nil, Nat.reduceAdd, Nat.reduceLeDiff, Nat.reduceSub, Option.some.injEq, exists_eq_left', aft_s, aft_n, ite_true, ite_false, if_true, if_false, Nat.zero_le, Nat.le_refl, reduceCtorEq, b1]
          refine ⟨C1.oT, invk (JJ (stopsF σ1 j) - JJ σ1) (4 * (JJ (stopsF σ1 j) - JJ σ1)) (by omega) (by omega) (k_pause C1 G1.1 G1.2.1 (by omega) hj1 (cstop_over hcs) (by omega) (by omega) (fun H2 C2 => ?_))⟩
          have S2 := same_stops (σ := σ1) (j := j)
          have hs2 : s < s_nS (stopsF σ1 j) := by rw [S2.1]; exact hs1
          have hj2 : j < s_nJ (stopsF σ1 j) := by rw [S2.2.1]; exact hj1
          generalize stopsF σ1 j = σ2 at *
          have C3 := C2.ppk (v := some j) hs2
          have ea : w_pk σ2 (upN (s_pk σ2) s (some j)) = parkF σ2 s (some j) := rfl
          have hd : hdF (parkF σ2 s (some j)) = hdF σ2 := hd_park
          have e6 : (.ref (A 16 j) : Value) = jrf A (some j) := rfl
          simp only [eX4_drop_51, eX4_drop_52, eX4_drop_53, isA_r, isA_n, isI_i, isF_f, isL_l, is1_i, is1_r, is1_n, is1_f, true_and, and_true, List.length_cons, List.length_nil, Nat.reduceAdd, Nat.reduceLeDiff, Nat.reduceSub, Option.some.injEq, exists_eq_left', aft_s, aft_n, ite_true, ite_false, if_true, if_false, Nat.zero_le, Nat.le_refl, reduceCtorEq, ob_of (C2.ses hs2), sgl, Nat.reduceLT]
          have e7 : (sfs A σ2 s).set 5 (.ref (A 16 j)) = sfs A (w_pk σ2 (upN (s_pk σ2) s (some j))) s := by rw [e6, sf_pk]
          rw [e7]
          rw [ea] at C3 ⊢
          rw [← hd] at C3
          have hj3 : j < s_nJ (parkF σ2 s (some j)) := by rw [park_1.2.1]; exact hj2
          generalize parkF σ2 s (some j) = σ3 at *
          simp only [eX4_drop_0, eX4_drop_1, eX4_drop_2, eX4_drop_5, eX4_drop_6, eX4_drop_7, eX4_drop_10, eX4_drop_13, eX4_drop_16, eX4_drop_23, eX4_drop_24, eX4_drop_25, eX4_drop_28, eX4_drop_29, eX4_drop_32, eX4_drop_33, eX4_drop_34, eX4_drop_37, eX4_drop_38, eX4_drop_41, eX4_drop_44, eX4_drop_45, eX4_drop_46, eX4_drop_47, eX4_drop_48, eX4_drop_51, eX4_drop_52, eX4_drop_53, eX4_drop_56, eX4_drop_57, eX4_drop_60, isA_r, isA_n, isI_i, isF_f, isL_l, is1_i, is1_r, is1_n, is1_f, true_and, and_true, List.length_cons, List.length_nil, Nat.reduceAdd, Nat.reduceLeDiff, Nat.reduceSub, Option.some.injEq, exists_eq_left', aft_s, aft_n, ite_true, ite_false, if_true, if_false, Nat.zero_le, Nat.le_refl, reduceCtorEq, ob_of (C3.job hj3), jg0]
          exact hK _ ⟨A, wr, rfl, C3⟩
  · have q : a_drop σ v = (1, 0, σ) := by unfold a_drop; rw [e]
    rw [q] at hK
    exact aft_i rfl rfl (hK H ⟨A, wr, rfl, C⟩)
theorem p_takeUp (C : CW E P H0 x σ H) (G : Good σ T) (hT : T + 200 < 16384) {v : Int32} (hc : JJ (a_takeUp σ v).2.2 + 400 ≤ JJ σ + c) (hn : 4 * JJ (a_takeUp σ v).2.2 + 1600 ≤ 4 * JJ σ + n) (hK : ∀ H', CW E P H0 x (a_takeUp σ v).2.2 H' → K (ou [2, 1] (a_takeUp σ v)) H') : CRd TTv E (d + 13) mX4_takeUp [.ref x, .int v] H c n K := by
  obtain ⟨A, wr, rfl, C⟩ := C
  refine crd rfl ?_
  show Ev E (d + 12) mX4_takeUp K 0 [.ref (A 0 0), .int v, .retAddr 0, .retAddr 0] [] H c n
  have hm : JJ σ ≤ JJ (a_takeUp σ v).2.2 := by
    unfold a_takeUp
    split
    · exact Nat.le_refl _
    · split
      · exact Nat.le_refl _
      · split
        · rw [JJ_park, JJ_att]; exact Nat.le_refl _
        · split
          · refine Nat.le_trans ?_ JJ_goesOn
            rw [JJ_park, JJ_att]; exact Nat.le_refl _
          · rw [JJ_park, JJ_att]; exact Nat.le_refl _
  have c1 : 1 ≤ c - 1 := by omega
  have n1 : 6 ≤ n - 6 := by omega
  simp only [eX4_takeUp_0, eX4_takeUp_1, eX4_takeUp_2, eX4_takeUp_5, eX4_takeUp_6, eX4_takeUp_7, eX4_takeUp_10, eX4_takeUp_13, eX4_takeUp_16, eX4_takeUp_23, eX4_takeUp_24, eX4_takeUp_25, eX4_takeUp_28, eX4_takeUp_29, eX4_takeUp_32, eX4_takeUp_33, eX4_takeUp_34, eX4_takeUp_35, eX4_takeUp_38, eX4_takeUp_39, eX4_takeUp_42, eX4_takeUp_43, eX4_takeUp_46, eX4_takeUp_49, eX4_takeUp_50, eX4_takeUp_51, eX4_takeUp_52, eX4_takeUp_53, eX4_takeUp_56, eX4_takeUp_57, eX4_takeUp_60, isA_r, isA_n, isI_i, isF_f, isL_l, is1_i, is1_r, is1_n, is1_f, true_and, and_true, List.length_cons, List.length_nil, Nat.reduceAdd, Nat.reduceLeDiff, Nat.reduceSub, Option.some.injEq, exists_eq_left', aft_s, aft_n, ite_true, ite_false, if_true, if_false, Nat.zero_le, Nat.le_refl, reduceCtorEq]
  refine ⟨C.oT, invk 1 6 (by omega) (by omega) (k_sesNum C (by omega) (by omega) (fun s hs e => ?_) (fun e => ?_))⟩
  · cases hdr : s_dr σ s with
    | false =>
      have q : a_takeUp σ v = (2, 0, σ) := by unfold a_takeUp; rw [e]; dsimp only; rw [if_pos hdr]
      rw [q] at hK
      have b1 : (b2 (!false) = 0) = False := eq_false (by decide)
      simp only [eX4_takeUp_0, eX4_takeUp_1, eX4_takeUp_2, eX4_takeUp_5, eX4_takeUp_6, eX4_takeUp_7, eX4_takeUp_10, eX4_takeUp_13, eX4_takeUp_16, eX4_takeUp_23, eX4_takeUp_24, eX4_takeUp_25, eX4_takeUp_28, eX4_takeUp_29, eX4_takeUp_32, eX4_takeUp_33, eX4_takeUp_34, eX4_takeUp_35, eX4_takeUp_38, eX4_takeUp_39, eX4_takeUp_42, eX4_takeUp_43, eX4_takeUp_46, eX4_takeUp_49, eX4_takeUp_50, eX4_takeUp_51, eX4_takeUp_52, eX4_takeUp_53, eX4_takeUp_56, eX4_takeUp_57, eX4_takeUp_60, isA_r, isA_n, isI_i, isF_f, isL_l, is1_i, is1_r, is1_n, is1_f, true_and, and_true, List.length_cons, List.length_nil, Nat.reduceAdd, Nat.reduceLeDiff, Nat.reduceSub, Option.some.injEq, exists_eq_left', aft_s, aft_n, ite_true, ite_false, if_true, if_false, Nat.zero_le, Nat.le_refl, reduceCtorEq, ob_of (C.ses hs), sg3, hdr, b1, Nat.le_add_left, c1, n1]
      exact hK H ⟨A, wr, rfl, C⟩
    | true =>
      have b0 : (b2 (!true) = 0) = True := eq_true rfl
      have hdr2 : ¬ s_dr σ s = false := by rw [hdr]; decide
      have C1 := C.pdr (v := false) hs
      have e5 : (.int (1 : Int32) : Value) = .int (b2 (!false)) := rfl
      simp only [eX4_takeUp_5, eX4_takeUp_6, eX4_takeUp_7, eX4_takeUp_10, eX4_takeUp_13, eX4_takeUp_16, eX4_takeUp_23, eX4_takeUp_24, eX4_takeUp_25, isA_r, isA_n, isI_i, isF_f, isL_l, is1_i, is1_r, is1_n, is1_f, true_and, and_true, List.length_cons, List.length_nil, Nat.reduceAdd, Nat.reduceLeDiff, Nat.reduceSub, Option.some.injEq, exists_eq_left', aft_s, aft_n, ite_true, ite_false, if_true, if_false, Nat.zero_le, Nat.le_refl, reduceCtorEq, ob_of (C.ses hs), sg3, sgl, hdr, b0, Nat.reduceLT, ok01_1]
      rw [e5, sf_dr]
      have ea : w_dr σ (upN (s_dr σ) s false) = attF σ s false := rfl
      have G1 : Good (attF σ s false) T := G.wdr hs
      obtain ⟨a1, a2, a3, a4, a5⟩ := att_1 (σ := σ) (s := s) (b := false)
      have a6 : JJ (attF σ s false) = JJ σ := JJ_att
      have a7 : hdF (attF σ s false) = hdF σ := hd_att
      have q0 : s_pk σ s = none → a_takeUp σ v = (0, -1, parkF (attF σ s false) s none) := fun h => by unfold a_takeUp; rw [e]; dsimp only; rw [if_neg hdr2, h]
      have q1 : ∀ j, s_pk σ s = some j → ¬ s_st σ j = 115 → a_takeUp σ v = (0, -1, parkF (attF σ s false) s none) := fun j h h2 => by unfold a_takeUp; rw [e]; dsimp only; rw [if_neg hdr2, h]; dsimp only; rw [if_neg h2]
      have q2 : ∀ j, s_pk σ s = some j → s_st σ j = 115 → a_takeUp σ v = (0, nI j, goesOnF (parkF (attF σ s false) s none) j) := fun j h h2 => by unfold a_takeUp; rw [e]; dsimp only; rw [if_neg hdr2, h]; dsimp only; rw [if_pos h2]
      rw [ea] at C1 ⊢
      rw [← a7] at C1
      generalize attF σ s false = σ1 at *
      have hs1 : s < s_nS σ1 := by rw [a1]; exact hs
      have C2 := C1.ppk (v := none) hs1
      have e4 : (.null : Value) = jrf A none := rfl
      simp only [eX4_takeUp_28, eX4_takeUp_29, eX4_takeUp_32, eX4_takeUp_33, eX4_takeUp_34, eX4_takeUp_35, isA_r, isA_n, isI_i, isF_f, isL_l, is1_i, is1_r, is1_n, is1_f, true_and, and_true, List.length_cons, List.length_nil, Nat.reduceAdd, Nat.reduceLeDiff, Nat.reduceSub, Option.some.injEq, exists_eq_left', aft_s, aft_n, ite_true, ite_false, if_true, if_false, Nat.zero_le, Nat.le_refl, reduceCtorEq, ob_of (C1.ses hs1), sg5, sgl, isA_j, Nat.reduceLT]
      have e8 : (sfs A σ1 s).set 5 .null = sfs A (w_pk σ1 (upN (s_pk σ1) s none)) s := by rw [e4, sf_pk]
      rw [e8]
      have eb : w_pk σ1 (upN (s_pk σ1) s none) = parkF σ1 s none := rfl
      have G2 : Good (parkF σ1 s none) T := park_good G1 (fun j h => nomatch h)
      obtain ⟨b1', b2', b3'⟩ := park_1 (σ := σ1) (s := s) (o := none)
      have b4' : JJ (parkF σ1 s none) = JJ σ1 := JJ_park
      have b5' : hdF (parkF σ1 s none) = hdF σ1 := hd_park
      rw [eb] at C2 ⊢
      rw [← b5'] at C2
      generalize parkF σ1 s none = σ2 at *
      cases hf : s_pk σ s with
      | none =>
        rw [q0 hf] at hK
        have hf1 : s_pk σ1 s = none := by rw [a4]; exact hf
        simp only [eX4_takeUp_0, eX4_takeUp_1, eX4_takeUp_2, eX4_takeUp_5, eX4_takeUp_6, eX4_takeUp_7, eX4_takeUp_10, eX4_takeUp_13, eX4_takeUp_16, eX4_takeUp_23, eX4_takeUp_24, eX4_takeUp_25, eX4_takeUp_28, eX4_takeUp_29, eX4_takeUp_32, eX4_takeUp_33, eX4_takeUp_34, eX4_takeUp_35, eX4_takeUp_38, eX4_takeUp_39, eX4_takeUp_42, eX4_takeUp_43, eX4_takeUp_46, eX4_takeUp_49, eX4_takeUp_50, eX4_takeUp_51, eX4_takeUp_52, eX4_takeUp_53, eX4_takeUp_56, eX4_takeUp_57, eX4_takeUp_60, isA_r, isA_n, isI_i, isF_f, isL_l, is1_i, is1_r, is1_n, is1_f, true_and, and_true, List.length_cons, List.length_nil, Nat.reduceAdd, Nat.reduceLeDiff, Nat.reduceSub, Option.some.injEq, exists_eq_left', aft_s, aft_n, ite_true, ite_false, if_true, if_false, Nat.zero_le, Nat.le_refl, reduceCtorEq, j_n hf1]
        exact hK _ ⟨A, wr, rfl, C2⟩
      | some j =>
        have hf1 : s_pk σ1 s = some j := by rw [a4]; exact hf
        have hj := (G.1.2.2.2.2.2.1.2 s j hf).1
        have hj2 : j < s_nJ σ2 := by rw [b2', a2]; exact hj
        have e1 : ((.ref (A 16 j) : Value) = .null) = False := eq_false (fun h => nomatch h)
        simp only [eX4_takeUp_0, eX4_takeUp_1, eX4_takeUp_2, eX4_takeUp_5, eX4_takeUp_6, eX4_takeUp_7, eX4_takeUp_10, eX4_takeUp_13, eX4_takeUp_16, eX4_takeUp_23, eX4_takeUp_24, eX4_takeUp_25, eX4_takeUp_28, eX4_takeUp_29, eX4_takeUp_32, eX4_takeUp_33, eX4_takeUp_34, eX4_takeUp_35, eX4_takeUp_38, eX4_takeUp_39, eX4_takeUp_42, eX4_takeUp_43, eX4_takeUp_46, eX4_takeUp_49, eX4_takeUp_50, eX4_takeUp_51, eX4_takeUp_52, eX4_takeUp_53, eX4_takeUp_56, eX4_takeUp_57, eX4_takeUp_60, isA_r, isA_n, isI_i, isF_f, isL_l, is1_i, is1_r, is1_n, is1_f, true_and, and_true, List.length_cons, List.length_nil, Nat.reduceAdd, Nat.reduceLeDiff, Nat.reduceSub, Option.some.injEq, exists_eq_left', aft_s, aft_n, ite_true, ite_false, if_true, if_false, Nat.zero_le, Nat.le_refl, reduceCtorEq, j_s hf1, e1]
        refine inv0 (k_cgo C2 hj2 ?_)
        by_cases hcs : s_st σ2 j = 115
        · have b1 : (b2 (s_st σ2 j == 115) = 0) = False := by rw [hcs]; exact eq_false (by decide)
          rw [q2 j hf (by rw [← a5, ← b3']; exact hcs)] at hK hc hn hm
          dsimp only at hc hn hm
          have m1 := JJ_goesOn (σ := σ2) (j := j)
          have S2 := same_goesOn (σ := σ2) (j := j)
          have hj3 : j < s_nJ (goesOnF σ2 j) := by rw [S2.2.1]; exact hj2
          simp only [eX4_takeUp_0, eX4_takeUp_1, eX4_takeUp_2, eX4_takeUp_5, eX4_takeUp_6, eX4_takeUp_7, eX4_takeUp_10, eX4_takeUp_13, eX4_takeUp_16, eX4_takeUp_23, eX4_takeUp_24, eX4_takeUp_25, eX4_takeUp_28, eX4_takeUp_29, eX4_takeUp_32, eX4_takeUp_33, eX4_takeUp_34, eX4_takeUp_35, eX4_takeUp_38, eX4_takeUp_39, eX4_takeUp_42, eX4_takeUp_43, eX4_takeUp_46, eX4_takeUp_49, eX4_takeUp_50, eX4_takeUp_51, eX4_takeUp_52, eX4_takeUp_53, eX4_takeUp_56, eX4_takeUp_57, eX4_takeUp_60, isA_r, isA_n, isI_i, isF_f, isL_l, is1_i, is1_r, is1_n, is1_f, true_and, and_true, List.length_cons, List.length_nil, Nat.reduceAdd, Nat.reduceLeDiff, Nat.reduceSub, Option.some.injEq, exists_eq_left', aft_s, aft_n, ite_true, ite_false, if_true, if_false, Nat.zero_le, Nat.le_refl, reduceCtorEq, b1]
          refine ⟨C2.oT, invk (JJ (goesOnF σ2 j) - JJ σ2 + 11) (4 * (JJ (goesOnF σ2 j) - JJ σ2 + 11)) (by omega) (by omega) (k_resume C2 G2.1 G2.2.1 (by omega) hj2 hcs (by omega) (by omega) (fun H3 C3 => ?_))⟩
          generalize goesOnF σ2 j = σ3 at *
          simp only [eX4_takeUp_0, eX4_takeUp_1, eX4_takeUp_2, eX4_takeUp_5, eX4_takeUp_6, eX4_takeUp_7, eX4_takeUp_10, eX4_takeUp_13, eX4_takeUp_16, eX4_takeUp_23, eX4_takeUp_24, eX4_takeUp_25, eX4_takeUp_28, eX4_takeUp_29, eX4_takeUp_32, eX4_takeUp_33, eX4_takeUp_34, eX4_takeUp_35, eX4_takeUp_38, eX4_takeUp_39, eX4_takeUp_42, eX4_takeUp_43, eX4_takeUp_46, eX4_takeUp_49, eX4_takeUp_50, eX4_takeUp_51, eX4_takeUp_52, eX4_takeUp_53, eX4_takeUp_56, eX4_takeUp_57, eX4_takeUp_60, isA_r, isA_n, isI_i, isF_f, isL_l, is1_i, is1_r, is1_n, is1_f, true_and, and_true, List.length_cons, List.length_nil, Nat.reduceAdd, Nat.reduceLeDiff, Nat.reduceSub, Option.some.injEq, exists_eq_left', aft_s, aft_n, ite_true, ite_false, if_true, if_false, Nat.zero_le, Nat.le_refl, reduceCtorEq, ob_of (C3.job hj3), jg0]
          exact hK _ ⟨A, wr, rfl, C3⟩
        · have hf : (s_st σ2 j == 115) = false := by simp [hcs]
          have b0 : (b2 (s_st σ2 j == 115) = 0) = True := by rw [hf]; exact eq_true rfl
          rw [q1 j (by assumption) (by rw [← a5, ← b3']; exact hcs)] at hK
          simp only [eX4_takeUp_0, eX4_takeUp_1, eX4_takeUp_2, eX4_takeUp_5, eX4_takeUp_6, eX4_takeUp_7, eX4_takeUp_10, eX4_takeUp_13, eX4_takeUp_16, eX4_takeUp_23, eX4_takeUp_24, eX4_takeUp_25, eX4_takeUp_28, eX4_takeUp_29, eX4_takeUp_32, eX4_takeUp_33, eX4_takeUp_34, eX4_takeUp_35, eX4_takeUp_38, eX4_takeUp_39, eX4_takeUp_42, eX4_takeUp_43, eX4_takeUp_46, eX4_takeUp_49, eX4_takeUp_50, eX4_takeUp_51, eX4_takeUp_52, eX4_takeUp_53, eX4_takeUp_56, eX4_takeUp_57, eX4_takeUp_60, isA_r, isA_n, isI_i, isF_f, isL_l, is1_i, is1_r, is1_n, is1_f, true_and, and_true, List.length_cons, List.length_nil, Nat.reduceAdd, Nat.reduceLeDiff, Nat.reduceSub, Option.some.injEq, exists_eq_left', aft_s, aft_n, ite_true, ite_false, if_true, if_false, Nat.zero_le, Nat.le_refl, reduceCtorEq, b0]
          exact hK _ ⟨A, wr, rfl, C2⟩
  · have q : a_takeUp σ v = (1, 0, σ) := by unfold a_takeUp; rw [e]
    rw [q] at hK
    exact aft_i rfl rfl (hK H ⟨A, wr, rfl, C⟩)
theorem p_toFront (C : CW E P H0 x σ H) (O : Ok σ) {v : Int32} (hc : 2 ≤ c) (hn : 12 ≤ n) (hK : ∀ H', CW E P H0 x (a_toFront σ v).2.2 H' → K (ou [2, 5, 1] (a_toFront σ v)) H') : CRd TTv E (d + 13) mX4_toFront [.ref x, .int v] H c n K := by
  obtain ⟨A, wr, rfl, C⟩ := C
  refine crd rfl ?_
  show Ev E (d + 12) mX4_toFront K 0 [.ref (A 0 0), .int v, .retAddr 0, .retAddr 0, .retAddr 0] [] H c n
  have c1 : 1 ≤ c - 1 := by omega
  have n1 : 6 ≤ n - 6 := by omega
  simp only [eX4_toFront_0, eX4_toFront_1, eX4_toFront_2, eX4_toFront_5, eX4_toFront_6, eX4_toFront_7, eX4_toFront_10, eX4_toFront_11, eX4_toFront_12, eX4_toFront_15, eX4_toFront_16, eX4_toFront_19, eX4_toFront_20, eX4_toFront_23, eX4_toFront_26, eX4_toFront_29, eX4_toFront_36, eX4_toFront_37, eX4_toFront_40, eX4_toFront_43, eX4_toFront_46, eX4_toFront_53, eX4_toFront_54, eX4_toFront_57, eX4_toFront_60, eX4_toFront_61, eX4_toFront_64, eX4_toFront_65, eX4_toFront_67, eX4_toFront_68, eX4_toFront_69, eX4_toFront_72, eX4_toFront_74, isA_r, isA_n, isI_i, isF_f, isL_l, is1_i, is1_r, is1_n, is1_f, true_and, and_true, List.length_cons, List.length_nil, Nat.reduceAdd, Nat.reduceLeDiff, Nat.reduceSub, Option.some.injEq, exists_eq_left', aft_s, aft_n, ite_true, ite_false, if_true, if_false, Nat.zero_le, Nat.le_refl, reduceCtorEq]
  refine ⟨C.oT, invk 1 6 (by omega) (by omega) (k_jobNum C (by omega) (by omega) (fun j hj e => ?_) (fun e => ?_))⟩
  · have hs := (O.job hj).1
    have hfr : ∀ i, s_fr σ (s_se σ j) = some i → i < s_nJ σ := fun i h => (O.2.2.2.2.2.1.1 _ i h).1
    have hjr := C.pjr hfr hj
    by_cases he : s_fr σ (s_se σ j) = some j
    · have q : a_toFront σ v = (2, 0, σ) := by unfold a_toFront; rw [e]; dsimp only; rw [if_pos he]
      rw [q] at hK
      have e3 : (jrf A (s_fr σ (s_se σ j)) = .ref (A 16 j)) = True := by rw [hjr]; exact eq_true he
      simp only [eX4_toFront_0, eX4_toFront_1, eX4_toFront_2, eX4_toFront_5, eX4_toFront_6, eX4_toFront_7, eX4_toFront_10, eX4_toFront_11, eX4_toFront_12, eX4_toFront_15, eX4_toFront_16, eX4_toFront_19, eX4_toFront_20, eX4_toFront_23, eX4_toFront_26, eX4_toFront_29, eX4_toFront_36, eX4_toFront_37, eX4_toFront_40, eX4_toFront_43, eX4_toFront_46, eX4_toFront_53, eX4_toFront_54, eX4_toFront_57, eX4_toFront_60, eX4_toFront_61, eX4_toFront_64, eX4_toFront_65, eX4_toFront_67, eX4_toFront_68, eX4_toFront_69, eX4_toFront_72, eX4_toFront_74, isA_r, isA_n, isI_i, isF_f, isL_l, is1_i, is1_r, is1_n, is1_f, true_and, and_true, List.length_cons, List.length_nil, Nat.reduceAdd, Nat.reduceLeDiff, Nat.reduceSub, Option.some.injEq, exists_eq_left', aft_s, aft_n, ite_true, ite_false, if_true, if_false, Nat.zero_le, Nat.le_refl, reduceCtorEq, ob_of (C.job hj), jg1, ob_of (C.ses hs), sg4, isA_j, e3, Nat.le_add_left, c1, n1]
      exact hK H ⟨A, wr, rfl, C⟩
    · have e3 : (jrf A (s_fr σ (s_se σ j)) = .ref (A 16 j)) = False := by rw [hjr]; exact eq_false he
      cases hdr : s_dr σ (s_se σ j) with
      | true =>
        have q : a_toFront σ v = (2, 0, σ) := by unfold a_toFront; rw [e]; dsimp only; rw [if_neg he, if_neg (by rw [hdr]; decide)]
        rw [q] at hK
        have b0 : (b2 (!true) = 0) = True := eq_true rfl
        simp only [eX4_toFront_0, eX4_toFront_1, eX4_toFront_2, eX4_toFront_5, eX4_toFront_6, eX4_toFront_7, eX4_toFront_10, eX4_toFront_11, eX4_toFront_12, eX4_toFront_15, eX4_toFront_16, eX4_toFront_19, eX4_toFront_20, eX4_toFront_23, eX4_toFront_26, eX4_toFront_29, eX4_toFront_36, eX4_toFront_37, eX4_toFront_40, eX4_toFront_43, eX4_toFront_46, eX4_toFront_53, eX4_toFront_54, eX4_toFront_57, eX4_toFront_60, eX4_toFront_61, eX4_toFront_64, eX4_toFront_65, eX4_toFront_67, eX4_toFront_68, eX4_toFront_69, eX4_toFront_72, eX4_toFront_74, isA_r, isA_n, isI_i, isF_f, isL_l, is1_i, is1_r, is1_n, is1_f, true_and, and_true, List.length_cons, List.length_nil, Nat.reduceAdd, Nat.reduceLeDiff, Nat.reduceSub, Option.some.injEq, exists_eq_left', aft_s, aft_n, ite_true, ite_false, if_true, if_false, Nat.zero_le, Nat.le_refl, reduceCtorEq, ob_of (C.job hj), jg1, ob_of (C.ses hs), sg4, sg3, hdr, b0, isA_j, e3, Nat.le_add_left, c1, n1]
        exact hK H ⟨A, wr, rfl, C⟩
      | false =>
        have b1 : (b2 (!false) = 0) = False := eq_false (by decide)
        simp only [eX4_toFront_5, eX4_toFront_6, eX4_toFront_7, eX4_toFront_10, eX4_toFront_11, eX4_toFront_12, eX4_toFront_15, eX4_toFront_16, eX4_toFront_19, eX4_toFront_20, eX4_toFront_23, eX4_toFront_26, eX4_toFront_29, eX4_toFront_36, eX4_toFront_37, isA_r, isA_n, isI_i, isF_f, isL_l, is1_i, is1_r, is1_n, is1_f, true_and, and_true, List.length_cons, List.length_nil, Nat.reduceAdd, Nat.reduceLeDiff, Nat.reduceSub, Option.some.injEq, exists_eq_left', aft_s, aft_n, ite_true, ite_false, if_true, if_false, Nat.zero_le, Nat.le_refl, reduceCtorEq, ob_of (C.job hj), jg1, ob_of (C.ses hs), sg4, sg3, hdr, b1, isA_j, e3]
        refine inv0 (k_ovr C hj ?_)
        cases hov : over σ j with
        | true =>
          have q : a_toFront σ v = (3, 0, σ) := by unfold a_toFront; rw [e]; dsimp only; rw [if_neg he, if_pos hdr, if_neg (by rw [hov]; decide)]
          rw [q] at hK
          have b1 : (b2 true = 0) = False := eq_false (by decide)
          simp only [eX4_toFront_0, eX4_toFront_1, eX4_toFront_2, eX4_toFront_5, eX4_toFront_6, eX4_toFront_7, eX4_toFront_10, eX4_toFront_11, eX4_toFront_12, eX4_toFront_15, eX4_toFront_16, eX4_toFront_19, eX4_toFront_20, eX4_toFront_23, eX4_toFront_26, eX4_toFront_29, eX4_toFront_36, eX4_toFront_37, eX4_toFront_40, eX4_toFront_43, eX4_toFront_46, eX4_toFront_53, eX4_toFront_54, eX4_toFront_57, eX4_toFront_60, eX4_toFront_61, eX4_toFront_64, eX4_toFront_65, eX4_toFront_67, eX4_toFront_68, eX4_toFront_69, eX4_toFront_72, eX4_toFront_74, isA_r, isA_n, isI_i, isF_f, isL_l, is1_i, is1_r, is1_n, is1_f, true_and, and_true, List.length_cons, List.length_nil, Nat.reduceAdd, Nat.reduceLeDiff, Nat.reduceSub, Option.some.injEq, exists_eq_left', aft_s, aft_n, ite_true, ite_false, if_true, if_false, Nat.zero_le, Nat.le_refl, reduceCtorEq, b1, Nat.le_add_left, c1, n1]
          exact hK H ⟨A, wr, rfl, C⟩
        | false =>
          have q : a_toFront σ v = (0, b2 (s_fr σ (s_se σ j)).isSome, w_fr σ (upN (s_fr σ) (s_se σ j) (some j))) := by unfold a_toFront; rw [e]; dsimp only; rw [if_neg he, if_pos hdr, if_pos hov]
          rw [q] at hK
          have b0 : (b2 false = 0) = True := eq_true rfl
          have hd : hdF (w_fr σ (upN (s_fr σ) (s_se σ j) (some j))) = hdF σ := hd_c g_nJ_fr g_hl_fr g_nd_fr
          have C1 := C.pfr (v := some j) hs
          rw [← hd] at C1
          have e6 : (.ref (A 16 j) : Value) = jrf A (some j) := rfl
          have e7 : (sfs A σ (s_se σ j)).set 4 (.ref (A 16 j)) = sfs A (w_fr σ (upN (s_fr σ) (s_se σ j) (some j))) (s_se σ j) := by rw [e6, sf_fr]
          cases hf : s_fr σ (s_se σ j) with
          | none =>
            rw [hf] at hK
            simp only [eX4_toFront_0, eX4_toFront_1, eX4_toFront_2, eX4_toFront_5, eX4_toFront_6, eX4_toFront_7, eX4_toFront_10, eX4_toFront_11, eX4_toFront_12, eX4_toFront_15, eX4_toFront_16, eX4_toFront_19, eX4_toFront_20, eX4_toFront_23, eX4_toFront_26, eX4_toFront_29, eX4_toFront_36, eX4_toFront_37, eX4_toFront_40, eX4_toFront_43, eX4_toFront_46, eX4_toFront_53, eX4_toFront_54, eX4_toFront_57, eX4_toFront_60, eX4_toFront_61, eX4_toFront_64, eX4_toFront_65, eX4_toFront_67, eX4_toFront_68, eX4_toFront_69, eX4_toFront_72, eX4_toFront_74, isA_r, isA_n, isI_i, isF_f, isL_l, is1_i, is1_r, is1_n, is1_f, true_and, and_true, List.length_cons, List.length_nil, Nat.reduceAdd, Nat.reduceLeDiff, Nat.reduceSub, Option.some.injEq, exists_eq_left', aft_s, aft_n, ite_true, ite_false, if_true, if_false, Nat.zero_le, Nat.le_refl, reduceCtorEq, b0, ob_of (C.ses hs), sg4, sgl, j_n hf, isA_n, Nat.reduceLT, e7, ok01_0]
            exact hK _ ⟨A, wr, rfl, C1⟩
          | some i =>
            rw [hf] at hK
            have e1 : ((.ref (A 16 i) : Value) = .null) = False := eq_false (fun h => nomatch h)
            simp only [eX4_toFront_0, eX4_toFront_1, eX4_toFront_2, eX4_toFront_5, eX4_toFront_6, eX4_toFront_7, eX4_toFront_10, eX4_toFront_11, eX4_toFront_12, eX4_toFront_15, eX4_toFront_16, eX4_toFront_19, eX4_toFront_20, eX4_toFront_23, eX4_toFront_26, eX4_toFront_29, eX4_toFront_36, eX4_toFront_37, eX4_toFront_40, eX4_toFront_43, eX4_toFront_46, eX4_toFront_53, eX4_toFront_54, eX4_toFront_57, eX4_toFront_60, eX4_toFront_61, eX4_toFront_64, eX4_toFront_65, eX4_toFront_67, eX4_toFront_68, eX4_toFront_69, eX4_toFront_72, eX4_toFront_74, isA_r, isA_n, isI_i, isF_f, isL_l, is1_i, is1_r, is1_n, is1_f, true_and, and_true, List.length_cons, List.length_nil, Nat.reduceAdd, Nat.reduceLeDiff, Nat.reduceSub, Option.some.injEq, exists_eq_left', aft_s, aft_n, ite_true, ite_false, if_true, if_false, Nat.zero_le, Nat.le_refl, reduceCtorEq, b0, ob_of (C.ses hs), sg4, sgl, j_s hf, isA_r, e1, Nat.reduceLT, e7, ok01_1]
            exact hK _ ⟨A, wr, rfl, C1⟩
  · have q : a_toFront σ v = (1, 0, σ) := by unfold a_toFront; rw [e]
    rw [q] at hK
    exact aft_i rfl rfl (hK H ⟨A, wr, rfl, C⟩)
end PUB3
