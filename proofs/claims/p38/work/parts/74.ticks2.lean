section C11
variable {E : EN} {P : Nat → Prop} {H0 : AH} {A : AD} {d : Nat} {K : Out → AH → Prop}
theorem l_pt1 {σ : Sg} {c n : Nat} {a3 : Value} : ∀ (m j : Nat) (wr : Nat → Bool) (H : AH) (a2 : Value), CV E P H0 A σ (hdF σ) wr H → m + j = s_nJ σ → (∀ i, i < j → wr i = runs σ i) → (∀ wr' H' a1 a2, CV E P H0 A σ (hdF σ) wr' H' → (∀ i, i < s_nJ σ → wr' i = runs σ i) → Ev E (d + 3) mX4_passOneTick K 49 [.ref (A 0 0), a1, a2, a3] [] H' c n) → Ev E (d + 3) mX4_passOneTick K 2 [.ref (A 0 0), .int (nI j), a2, a3] [] H c n := by
  intro m
  induction m with
  | zero =>
    intro j wr H a2 C hm hw hK
    have h30 := C.J30
    rw [hX4_passOneTick_2]
    simp only [eX4_passOneTick_3, eX4_passOneTick_4, eX4_passOneTick_7, isA_r, isA_n, isI_i, isF_f, isL_l, is1_i, is1_r, is1_n, is1_f, true_and, and_true, List.length_cons, List.length_nil, Nat.reduceAdd, Nat.reduceLeDiff, Nat.reduceSub, Option.some.injEq, exists_eq_left', aft_s, aft_n, ite_true, ite_false, if_true, if_false, Nat.zero_le, Nat.le_refl, reduceCtorEq, ob_of C.top, og1]
    refine ⟨C.lJ, inv0 (k_jSize C ?_)⟩
    have e1 : (nI j < nI (s_nJ σ)) = False := eq_false (nI_nlt (by omega) (by omega))
    simp only [eX4_passOneTick_10, isA_r, isA_n, isI_i, isF_f, isL_l, is1_i, is1_r, is1_n, is1_f, true_and, and_true, List.length_cons, List.length_nil, Nat.reduceAdd, Nat.reduceLeDiff, Nat.reduceSub, Option.some.injEq, exists_eq_left', aft_s, aft_n, ite_true, ite_false, if_true, if_false, Nat.zero_le, Nat.le_refl, reduceCtorEq, e1]
    exact hK wr H _ _ C (fun i hi => hw i (by omega))
  | succ m ih =>
    intro j wr H a2 C hm hw hK
    have h30 := C.J30
    have hj : j < s_nJ σ := by omega
    rw [hX4_passOneTick_2]
    simp only [eX4_passOneTick_3, eX4_passOneTick_4, eX4_passOneTick_7, isA_r, isA_n, isI_i, isF_f, isL_l, is1_i, is1_r, is1_n, is1_f, true_and, and_true, List.length_cons, List.length_nil, Nat.reduceAdd, Nat.reduceLeDiff, Nat.reduceSub, Option.some.injEq, exists_eq_left', aft_s, aft_n, ite_true, ite_false, if_true, if_false, Nat.zero_le, Nat.le_refl, reduceCtorEq, ob_of C.top, og1]
    refine ⟨C.lJ, inv0 (k_jSize C ?_)⟩
    have e1 : (nI j < nI (s_nJ σ)) = True := eq_true (nI_lt hj (by omega))
    simp only [eX4_passOneTick_10, eX4_passOneTick_13, eX4_passOneTick_14, eX4_passOneTick_17, eX4_passOneTick_18, isA_r, isA_n, isI_i, isF_f, isL_l, is1_i, is1_r, is1_n, is1_f, true_and, and_true, List.length_cons, List.length_nil, Nat.reduceAdd, Nat.reduceLeDiff, Nat.reduceSub, Option.some.injEq, exists_eq_left', aft_s, aft_n, ite_true, ite_false, if_true, if_false, Nat.zero_le, Nat.le_refl, reduceCtorEq, e1, ob_of C.top, og1]
    refine ⟨C.lJ, inv0 (k_jGet C hj ?_)⟩
    have h1 : (nI (s_st σ j) = 114) = (s_st σ j = 114) := propext (st_114 (C.stk hj))
    have C1 := C.pwr (v := runs σ j) hj
    have hw' : ∀ i, i < j + 1 → upN wr j (runs σ j) i = runs σ i := fun i hi => by
      by_cases hij : i = j
      · subst hij; rw [upN_s]
      · rw [upN_n hij]; exact hw i (by omega)
    by_cases g1 : s_st σ j = 114
    · have h3 : (nI (s_st σ j) = 114) = True := by rw [h1]; exact eq_true g1
      have hr : runs σ j = true := by unfold runs; rw [g1]; rfl
      have e5 : (.int (1 : Int32) : Value) = .int (b2 (runs σ j)) := by rw [hr]; rfl
      simp only [eX4_passOneTick_21, eX4_passOneTick_24, eX4_passOneTick_25, eX4_passOneTick_26, eX4_passOneTick_27, eX4_passOneTick_30, eX4_passOneTick_32, eX4_passOneTick_35, eX4_passOneTick_36, eX4_passOneTick_39, eX4_passOneTick_40, isA_r, isA_n, isI_i, isF_f, isL_l, is1_i, is1_r, is1_n, is1_f, true_and, and_true, List.length_cons, List.length_nil, Nat.reduceAdd, Nat.reduceLeDiff, Nat.reduceSub, Option.some.injEq, exists_eq_left', aft_s, aft_n, ite_true, ite_false, if_true, if_false, Nat.zero_le, Nat.le_refl, reduceCtorEq, ob_of (C.job hj), jg4, h3, jgl, Nat.reduceLT, ok01_1]
      rw [e5, jf_wr]
      simp only [eX4_passOneTick_43, eX4_passOneTick_46, isA_r, isA_n, isI_i, isF_f, isL_l, is1_i, is1_r, is1_n, is1_f, true_and, and_true, List.length_cons, List.length_nil, Nat.reduceAdd, Nat.reduceLeDiff, Nat.reduceSub, Option.some.injEq, exists_eq_left', aft_s, aft_n, ite_true, ite_false, if_true, if_false, Nat.zero_le, Nat.le_refl, reduceCtorEq, nI_1]
      exact ih (j + 1) _ _ _ C1 (by omega) hw' hK
    · have h3 : (nI (s_st σ j) = 114) = False := by rw [h1]; exact eq_false g1
      have hr : runs σ j = false := by unfold runs; simp [g1]
      have e5 : (.int (0 : Int32) : Value) = .int (b2 (runs σ j)) := by rw [hr]; rfl
      simp only [eX4_passOneTick_21, eX4_passOneTick_24, eX4_passOneTick_25, eX4_passOneTick_26, eX4_passOneTick_27, eX4_passOneTick_30, eX4_passOneTick_32, eX4_passOneTick_35, eX4_passOneTick_36, eX4_passOneTick_39, eX4_passOneTick_40, isA_r, isA_n, isI_i, isF_f, isL_l, is1_i, is1_r, is1_n, is1_f, true_and, and_true, List.length_cons, List.length_nil, Nat.reduceAdd, Nat.reduceLeDiff, Nat.reduceSub, Option.some.injEq, exists_eq_left', aft_s, aft_n, ite_true, ite_false, if_true, if_false, Nat.zero_le, Nat.le_refl, reduceCtorEq, ob_of (C.job hj), jg4, h3, jgl, Nat.reduceLT, ok01_0]
      rw [e5, jf_wr]
      simp only [eX4_passOneTick_43, eX4_passOneTick_46, isA_r, isA_n, isI_i, isF_f, isL_l, is1_i, is1_r, is1_n, is1_f, true_and, and_true, List.length_cons, List.length_nil, Nat.reduceAdd, Nat.reduceLeDiff, Nat.reduceSub, Option.some.injEq, exists_eq_left', aft_s, aft_n, ite_true, ite_false, if_true, if_false, Nat.zero_le, Nat.le_refl, reduceCtorEq, nI_1]
      exact ih (j + 1) _ _ _ C1 (by omega) hw' hK
theorem l_pt2 {ran : Nat → Bool} {wr : Nat → Bool} : ∀ (m j : Nat) (σ : Sg) (H : AH) (cnt T c n : Nat) (a3 : Value), CV E P H0 A σ (hdF σ) wr H → Ok σ → Jb σ T → Lf σ → T + 62 < 16384 → m + j = s_nJ σ → (∀ i, i < s_nJ σ → wr i = ran i) → (∀ i, j ≤ i → i < s_nJ σ → ran i = true → s_st σ i = 114) → JJ (tickL ran m j σ cnt).2 ≤ JJ σ + c → 4 * JJ (tickL ran m j σ cnt).2 ≤ 4 * JJ σ + n → (∀ H', CV E P H0 A (tickL ran m j σ cnt).2 (hdF (tickL ran m j σ cnt).2) wr H' → K (.inl (some (.int (nI (tickL ran m j σ cnt).1)))) H') →
    Ev E (d + 7) mX4_passOneTick K 53 [.ref (A 0 0), .int (nI cnt), .int (nI j), a3] [] H c n := by
  intro m
  induction m with
  | zero =>
    intro j σ H cnt T c n a3 C O J L hT hm hw hr hc hn hK
    have h30 := C.J30
    rw [hX4_passOneTick_53]
    simp only [eX4_passOneTick_54, eX4_passOneTick_55, eX4_passOneTick_58, isA_r, isA_n, isI_i, isF_f, isL_l, is1_i, is1_r, is1_n, is1_f, true_and, and_true, List.length_cons, List.length_nil, Nat.reduceAdd, Nat.reduceLeDiff, Nat.reduceSub, Option.some.injEq, exists_eq_left', aft_s, aft_n, ite_true, ite_false, if_true, if_false, Nat.zero_le, Nat.le_refl, reduceCtorEq, ob_of C.top, og1]
    refine ⟨C.lJ, inv0 (k_jSize C ?_)⟩
    have e1 : (nI j < nI (s_nJ σ)) = False := eq_false (nI_nlt (by omega) (by omega))
    simp only [eX4_passOneTick_61, eX4_passOneTick_64, eX4_passOneTick_65, eX4_passOneTick_68, eX4_passOneTick_69, eX4_passOneTick_72, eX4_passOneTick_75, eX4_passOneTick_76, eX4_passOneTick_77, eX4_passOneTick_80, eX4_passOneTick_83, eX4_passOneTick_84, eX4_passOneTick_85, eX4_passOneTick_88, eX4_passOneTick_91, eX4_passOneTick_92, eX4_passOneTick_93, eX4_passOneTick_95, eX4_passOneTick_98, eX4_passOneTick_101, eX4_passOneTick_104, eX4_passOneTick_107, eX4_passOneTick_108, isA_r, isA_n, isI_i, isF_f, isL_l, is1_i, is1_r, is1_n, is1_f, true_and, and_true, List.length_cons, List.length_nil, Nat.reduceAdd, Nat.reduceLeDiff, Nat.reduceSub, Option.some.injEq, exists_eq_left', aft_s, aft_n, ite_true, ite_false, if_true, if_false, Nat.zero_le, Nat.le_refl, reduceCtorEq, e1]
    exact hK H C
  | succ m ih =>
    intro j σ H cnt T c n a3 C O J L hT hm hw hr hc hn hK
    have h30 := C.J30
    have hj : j < s_nJ σ := by omega
    rw [hX4_passOneTick_53]
    simp only [eX4_passOneTick_54, eX4_passOneTick_55, eX4_passOneTick_58, isA_r, isA_n, isI_i, isF_f, isL_l, is1_i, is1_r, is1_n, is1_f, true_and, and_true, List.length_cons, List.length_nil, Nat.reduceAdd, Nat.reduceLeDiff, Nat.reduceSub, Option.some.injEq, exists_eq_left', aft_s, aft_n, ite_true, ite_false, if_true, if_false, Nat.zero_le, Nat.le_refl, reduceCtorEq, ob_of C.top, og1]
    refine ⟨C.lJ, inv0 (k_jSize C ?_)⟩
    have e1 : (nI j < nI (s_nJ σ)) = True := eq_true (nI_lt hj (by omega))
    simp only [eX4_passOneTick_61, eX4_passOneTick_64, eX4_passOneTick_65, eX4_passOneTick_68, eX4_passOneTick_69, isA_r, isA_n, isI_i, isF_f, isL_l, is1_i, is1_r, is1_n, is1_f, true_and, and_true, List.length_cons, List.length_nil, Nat.reduceAdd, Nat.reduceLeDiff, Nat.reduceSub, Option.some.injEq, exists_eq_left', aft_s, aft_n, ite_true, ite_false, if_true, if_false, Nat.zero_le, Nat.le_refl, reduceCtorEq, e1, ob_of C.top, og1]
    refine ⟨C.lJ, inv0 (k_jGet C hj ?_)⟩
    have hwj := hw j hj
    cases hrn : ran j with
    | false =>
      have el : tickL ran (m + 1) j σ cnt = tickL ran m (j + 1) σ cnt := by rw [tickL, hrn]
      rw [el] at hc hn hK
      rw [hrn] at hwj
      have b0 : (b2 false = 0) = True := eq_true rfl
      simp only [eX4_passOneTick_72, eX4_passOneTick_75, eX4_passOneTick_76, eX4_passOneTick_77, eX4_passOneTick_80, eX4_passOneTick_83, eX4_passOneTick_84, eX4_passOneTick_85, eX4_passOneTick_88, eX4_passOneTick_91, eX4_passOneTick_92, eX4_passOneTick_93, eX4_passOneTick_95, eX4_passOneTick_98, eX4_passOneTick_101, eX4_passOneTick_104, isA_r, isA_n, isI_i, isF_f, isL_l, is1_i, is1_r, is1_n, is1_f, true_and, and_true, List.length_cons, List.length_nil, Nat.reduceAdd, Nat.reduceLeDiff, Nat.reduceSub, Option.some.injEq, exists_eq_left', aft_s, aft_n, ite_true, ite_false, if_true, if_false, Nat.zero_le, Nat.le_refl, reduceCtorEq, ob_of (C.job hj), jg6, hwj, b0, nI_1]
      exact ih (j + 1) σ H cnt T c n _ C O J L hT (by omega) hw (fun i hi => hr i (by omega)) hc hn hK
    | true =>
      have el : tickL ran (m + 1) j σ cnt = tickL ran m (j + 1) (tick1 σ j).2 (cnt + (tick1 σ j).1) := by rw [tickL, hrn]
      rw [el] at hc hn hK
      rw [hrn] at hwj
      have b1 : (b2 true = 0) = False := eq_false (by decide)
      have b0 : (b2 false = 0) = True := eq_true rfl
      have h114 := hr j (Nat.le_refl j) hj hrn
      have hov : over σ j = false := by unfold over; rw [h114]; rfl
      have hl1 := L j hj hov
      have hl50 := (O.job hj).2.2.2
      obtain ⟨O', J', L', n1, n2, hs'⟩ := tick1_keep O J L hj h114
      have m1 := JJ_tick1 (σ := σ) (j := j)
      have m2 := JJ_tickL (ran := ran) m (j + 1) (tick1 σ j).2 (cnt + (tick1 σ j).1)
      simp only [eX4_passOneTick_72, eX4_passOneTick_75, eX4_passOneTick_76, eX4_passOneTick_77, eX4_passOneTick_80, eX4_passOneTick_83, eX4_passOneTick_84, eX4_passOneTick_85, isA_r, isA_n, isI_i, isF_f, isL_l, is1_i, is1_r, is1_n, is1_f, true_and, and_true, List.length_cons, List.length_nil, Nat.reduceAdd, Nat.reduceLeDiff, Nat.reduceSub, Option.some.injEq, exists_eq_left', aft_s, aft_n, ite_true, ite_false, if_true, if_false, Nat.zero_le, Nat.le_refl, reduceCtorEq, ob_of (C.job hj), jg6, hwj, b1]
      refine ⟨C.oT, inv0 (k_work C hj hl1 hl50 (fun H1 C1 => ?_))⟩
      have hrest : ∀ i, j + 1 ≤ i → i < s_nJ (tick1 σ j).2 → ran i = true → s_st (tick1 σ j).2 i = 114 := fun i h1 h2 h3 => hs' i (by omega) (hr i (by omega) (by omega) h3)
      by_cases hz : s_lf σ j = 1
      · have e3 : (s_lf σ j == 1) = true := by rw [hz]; rfl
        have ht : tick1 σ j = (1, endsF (w_wk (w_lf σ (upN (s_lf σ) j (s_lf σ j - 1))) (s_wk σ + 1)) j 100) := by
          unfold tick1; rw [if_pos hz, hz]
        have O1 : Ok (w_wk (w_lf σ (upN (s_lf σ) j (s_lf σ j - 1))) (s_wk σ + 1)) := O.wl (fun i hi => by
          unfold upN
          split
          · omega
          · exact (O.job hi).2.2.2)
        have J1 : Jb (w_wk (w_lf σ (upN (s_lf σ) j (s_lf σ j - 1))) (s_wk σ + 1)) T := J.wl
        have hd : hdF (w_wk (w_lf σ (upN (s_lf σ) j (s_lf σ j - 1))) (s_wk σ + 1)) = hdF σ := by
          rw [hd_c (σ := w_lf σ (upN (s_lf σ) j (s_lf σ j - 1))) g_nJ_wk g_hl_wk g_nd_wk, hd_c (σ := σ) g_nJ_lf g_hl_lf g_nd_lf]
        have jj : JJ (w_wk (w_lf σ (upN (s_lf σ) j (s_lf σ j - 1))) (s_wk σ + 1)) = JJ σ := by
          rw [JJ_e (σ := w_lf σ (upN (s_lf σ) j (s_lf σ j - 1))) g_jn_wk, JJ_e (σ := σ) g_jn_lf]
        have nj : s_nJ (w_wk (w_lf σ (upN (s_lf σ) j (s_lf σ j - 1))) (s_wk σ + 1)) = s_nJ σ := by rw [g_nJ_wk, g_nJ_lf]
        have ov : over (w_wk (w_lf σ (upN (s_lf σ) j (s_lf σ j - 1))) (s_wk σ + 1)) j = false := by
          unfold over; rw [g_st_wk, g_st_lf]; exact hov
        rw [← hd] at C1
        generalize w_wk (w_lf σ (upN (s_lf σ) j (s_lf σ j - 1))) (s_wk σ + 1) = σ1 at *
        have ht1 : (tick1 σ j).1 = 1 := by rw [ht]
        have ht2 : (tick1 σ j).2 = endsF σ1 j 100 := by rw [ht]
        rw [ht1] at hc hn hK m2
        rw [ht2] at O' J' L' n1 n2 hrest hc hn hK m1 m2
        simp only [eX4_passOneTick_88, eX4_passOneTick_91, eX4_passOneTick_92, eX4_passOneTick_93, eX4_passOneTick_95, isA_r, isA_n, isI_i, isF_f, isL_l, is1_i, is1_r, is1_n, is1_f, true_and, and_true, List.length_cons, List.length_nil, Nat.reduceAdd, Nat.reduceLeDiff, Nat.reduceSub, Option.some.injEq, exists_eq_left', aft_s, aft_n, ite_true, ite_false, if_true, if_false, Nat.zero_le, Nat.le_refl, reduceCtorEq, e3, b1]
        refine ⟨C1.oT, invk (JJ (endsF σ1 j 100) - JJ σ1) (4 * (JJ (endsF σ1 j 100) - JJ σ1)) (by omega) (by omega) (k_finish (how := 100) C1 O1 J1 (by omega) (by omega) ov (Or.inl rfl) (by omega) (by omega) (fun H2 C2 => ?_))⟩
        simp only [eX4_passOneTick_98, eX4_passOneTick_101, eX4_passOneTick_104, isA_r, isA_n, isI_i, isF_f, isL_l, is1_i, is1_r, is1_n, is1_f, true_and, and_true, List.length_cons, List.length_nil, Nat.reduceAdd, Nat.reduceLeDiff, Nat.reduceSub, Option.some.injEq, exists_eq_left', aft_s, aft_n, ite_true, ite_false, if_true, if_false, Nat.zero_le, Nat.le_refl, reduceCtorEq, nI_1]
        exact ih (j + 1) _ H2 (cnt + 1) T _ _ _ C2 O' J' L' hT (by omega) (fun i hi => hw i (by omega)) hrest (by omega) (by omega) hK
      · have e3 : (s_lf σ j == 1) = false := by simp [hz]
        have ht : tick1 σ j = (0, w_wk (w_lf σ (upN (s_lf σ) j (s_lf σ j - 1))) (s_wk σ + 1)) := by
          unfold tick1; rw [if_neg hz]
        have hd : hdF (w_wk (w_lf σ (upN (s_lf σ) j (s_lf σ j - 1))) (s_wk σ + 1)) = hdF σ := by
          rw [hd_c (σ := w_lf σ (upN (s_lf σ) j (s_lf σ j - 1))) g_nJ_wk g_hl_wk g_nd_wk, hd_c (σ := σ) g_nJ_lf g_hl_lf g_nd_lf]
        have jj : JJ (w_wk (w_lf σ (upN (s_lf σ) j (s_lf σ j - 1))) (s_wk σ + 1)) = JJ σ := by
          rw [JJ_e (σ := w_lf σ (upN (s_lf σ) j (s_lf σ j - 1))) g_jn_wk, JJ_e (σ := σ) g_jn_lf]
        rw [← hd] at C1
        generalize w_wk (w_lf σ (upN (s_lf σ) j (s_lf σ j - 1))) (s_wk σ + 1) = σ1 at *
        have ht1 : (tick1 σ j).1 = 0 := by rw [ht]
        have ht2 : (tick1 σ j).2 = σ1 := by rw [ht]
        rw [ht1] at hc hn hK m2
        rw [ht2] at O' J' L' n1 n2 hrest hc hn hK m1 m2
        simp only [eX4_passOneTick_88, eX4_passOneTick_91, eX4_passOneTick_92, eX4_passOneTick_93, eX4_passOneTick_95, eX4_passOneTick_98, eX4_passOneTick_101, eX4_passOneTick_104, isA_r, isA_n, isI_i, isF_f, isL_l, is1_i, is1_r, is1_n, is1_f, true_and, and_true, List.length_cons, List.length_nil, Nat.reduceAdd, Nat.reduceLeDiff, Nat.reduceSub, Option.some.injEq, exists_eq_left', aft_s, aft_n, ite_true, ite_false, if_true, if_false, Nat.zero_le, Nat.le_refl, reduceCtorEq, e3, b0, nI_1]
        exact ih (j + 1) _ H1 (cnt + 0) T _ _ _ C1 O' J' L' hT (by omega) (fun i hi => hw i (by omega)) hrest (by omega) (by omega) hK
theorem k_pass {σ : Sg} {H : AH} {wr : Nat → Bool} {T c n : Nat} (C : CV E P H0 A σ (hdF σ) wr H) (O : Ok σ) (J : Jb σ T) (L : Lf σ) (hT : T + 62 < 16384) (hc : JJ (ticksF σ).2 ≤ JJ σ + c) (hn : 4 * JJ (ticksF σ).2 ≤ 4 * JJ σ + n) (hK : ∀ H' wr', CV E P H0 A (ticksF σ).2 (hdF (ticksF σ).2) wr' H' → K (.inl (some (.int (nI (ticksF σ).1)))) H') : CRd TTv E (d + 8) mX4_passOneTick [.ref (A 0 0)] H c n K := by
  refine crd rfl ?_
  show Ev E (d + 7) mX4_passOneTick K 0 [.ref (A 0 0), .retAddr 0, .retAddr 0, .retAddr 0] [] H c n
  simp only [eX4_passOneTick_0, eX4_passOneTick_1, isA_r, isA_n, isI_i, isF_f, isL_l, is1_i, is1_r, is1_n, is1_f, true_and, and_true, List.length_cons, List.length_nil, Nat.reduceAdd, Nat.reduceLeDiff, Nat.reduceSub, Option.some.injEq, exists_eq_left', aft_s, aft_n, ite_true, ite_false, if_true, if_false, Nat.zero_le, Nat.le_refl, reduceCtorEq]
  refine l_pt1 (d := d + 4) (s_nJ σ) 0 wr H _ C rfl (fun i hi => absurd hi (by omega)) (fun wr' H' a1 a2 C' hw => ?_)
  simp only [eX4_passOneTick_49, eX4_passOneTick_50, eX4_passOneTick_51, eX4_passOneTick_52, isA_r, isA_n, isI_i, isF_f, isL_l, is1_i, is1_r, is1_n, is1_f, true_and, and_true, List.length_cons, List.length_nil, Nat.reduceAdd, Nat.reduceLeDiff, Nat.reduceSub, Option.some.injEq, exists_eq_left', aft_s, aft_n, ite_true, ite_false, if_true, if_false, Nat.zero_le, Nat.le_refl, reduceCtorEq]
  exact l_pt2 (ran := runs σ) (s_nJ σ) 0 σ H' 0 T c n _ C' O J L hT rfl hw (fun i _ _ h => by unfold runs at h; simpa using h) hc hn (fun H2 C2 => hK H2 wr' C2)
theorem l_tk {N : Nat} (hN : N ≤ 60) : ∀ (m j : Nat) (σ : Sg) (H : AH) (wr : Nat → Bool) (cnt T c n : Nat), CV E P H0 A σ (hdF σ) wr H → Ok σ → Jb σ T → Lf σ → T + 62 < 16384 → m + j = N → JJ (manyF m σ cnt).2 ≤ JJ σ + c → 4 * JJ (manyF m σ cnt).2 ≤ 4 * JJ σ + n → (∀ H' wr', CV E P H0 A (manyF m σ cnt).2 (hdF (manyF m σ cnt).2) wr' H' → K (.inl (some (.int (nI (manyF m σ cnt).1)))) H') → Ev E (d + 8) mX4_tick K 25 [.ref (A 0 0), .int (nI N), .int (nI cnt), .int (nI j)] [] H c n := by
  intro m
  induction m with
  | zero =>
    intro j σ H wr cnt T c n C O J L hT hm hc hn hK
    rw [hX4_tick_25]
    have e1 : (nI j < nI N) = False := eq_false (nI_nlt (by omega) (by omega))
    simp only [eX4_tick_26, eX4_tick_27, eX4_tick_30, eX4_tick_31, eX4_tick_32, eX4_tick_35, eX4_tick_36, eX4_tick_37, eX4_tick_40, eX4_tick_43, eX4_tick_44, isA_r, isA_n, isI_i, isF_f, isL_l, is1_i, is1_r, is1_n, is1_f, true_and, and_true, List.length_cons, List.length_nil, Nat.reduceAdd, Nat.reduceLeDiff, Nat.reduceSub, Option.some.injEq, exists_eq_left', aft_s, aft_n, ite_true, ite_false, if_true, if_false, Nat.zero_le, Nat.le_refl, reduceCtorEq, e1]
    exact hK H wr C
  | succ m ih =>
    intro j σ H wr cnt T c n C O J L hT hm hc hn hK
    obtain ⟨O', J', L', n1, n2⟩ := ticks_keep O J L
    have el : manyF (m + 1) σ cnt = manyF m (ticksF σ).2 (cnt + (ticksF σ).1) := rfl
    rw [el] at hc hn hK
    have m1 : JJ σ ≤ JJ (ticksF σ).2 := JJ_tickL _ _ _ _
    have m2 := JJ_manyF m (ticksF σ).2 (cnt + (ticksF σ).1)
    rw [hX4_tick_25]
    have e1 : (nI j < nI N) = True := eq_true (nI_lt (by omega) (by omega))
    simp only [eX4_tick_26, eX4_tick_27, eX4_tick_30, eX4_tick_31, eX4_tick_32, isA_r, isA_n, isI_i, isF_f, isL_l, is1_i, is1_r, is1_n, is1_f, true_and, and_true, List.length_cons, List.length_nil, Nat.reduceAdd, Nat.reduceLeDiff, Nat.reduceSub, Option.some.injEq, exists_eq_left', aft_s, aft_n, ite_true, ite_false, if_true, if_false, Nat.zero_le, Nat.le_refl, reduceCtorEq, e1]
    refine ⟨C.oT, invk (JJ (ticksF σ).2 - JJ σ) (4 * (JJ (ticksF σ).2 - JJ σ)) (by omega) (by omega) (k_pass C O J L hT (by omega) (by omega) (fun H1 wr1 C1 => ?_))⟩
    simp only [eX4_tick_35, eX4_tick_36, eX4_tick_37, eX4_tick_40, isA_r, isA_n, isI_i, isF_f, isL_l, is1_i, is1_r, is1_n, is1_f, true_and, and_true, List.length_cons, List.length_nil, Nat.reduceAdd, Nat.reduceLeDiff, Nat.reduceSub, Option.some.injEq, exists_eq_left', aft_s, aft_n, ite_true, ite_false, if_true, if_false, Nat.zero_le, Nat.le_refl, reduceCtorEq, nI_add, nI_1]
    exact ih (j + 1) _ H1 wr1 _ T _ _ C1 O' J' L' hT (by omega) (by omega) (by omega) hK
end C11
