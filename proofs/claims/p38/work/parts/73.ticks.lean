/-! signal's loop, ticks of the class -/
theorem JJ_tick1 {σ : Sg} {j : Nat} : JJ σ ≤ JJ (tick1 σ j).2 := by
  unfold tick1
  split
  · have h := JJ_ends (σ := w_wk (w_lf σ (upN (s_lf σ) j 0)) (s_wk σ + 1)) (j := j) (how := 100)
    rw [JJ_e (σ := w_lf σ (upN (s_lf σ) j 0)) g_jn_wk, JJ_e (σ := σ) g_jn_lf] at h
    exact h
  · rw [JJ_e (σ := w_lf σ (upN (s_lf σ) j (s_lf σ j - 1))) g_jn_wk, JJ_e (σ := σ) g_jn_lf]
    exact Nat.le_refl _
theorem JJ_tickL {ran : Nat → Bool} : ∀ (m j : Nat) (σ : Sg) (cnt : Nat), JJ σ ≤ JJ (tickL ran m j σ cnt).2 := by
  intro m
  induction m with
  | zero => intro j σ cnt; exact Nat.le_refl _
  | succ m ih =>
    intro j σ cnt
    unfold tickL
    cases ran j with
    | false => exact ih _ _ _
    | true => exact Nat.le_trans JJ_tick1 (ih _ _ _)
theorem JJ_manyF : ∀ (m : Nat) (σ : Sg) (cnt : Nat), JJ σ ≤ JJ (manyF m σ cnt).2 := by
  intro m
  induction m with
  | zero => intro σ cnt; exact Nat.le_refl _
  | succ m ih =>
    intro σ cnt
    unfold manyF
    exact Nat.le_trans (JJ_tickL _ _ _ _) (ih _ _)
section C10
variable {E : EN} {P : Nat → Prop} {H0 : AH} {A : AD} {d : Nat} {K : Out → AH → Prop}
theorem l_sigC {wr : Nat → Bool} {s k : Nat} {a1 : Value} (hk : k = 115 ∨ k = 103 ∨ k = 107) : ∀ (m j : Nat) (σ : Sg) (H : AH) (cnt T c n : Nat) (a6 : Value), CV E P H0 A σ (hdF σ) wr H → Ok σ → Jb σ T → T + m + 62 < 16384 → m + j = s_nJ σ → s < s_nS σ → JJ (sigL s k m j σ cnt).2 + 11 * m ≤ JJ σ + c → 4 * JJ (sigL s k m j σ cnt).2 + 44 * m ≤ 4 * JJ σ + n → (∀ H', CV E P H0 A (sigL s k m j σ cnt).2 (hdF (sigL s k m j σ cnt).2) wr H' → K (.inl (some (.int (nI (sigL s k m j σ cnt).1)))) H') →
    Ev E (d + 11) mX4_signal K 40 [.ref (A 0 0), a1, .int (nI k), .ref (A 13 s), .int (nI cnt), .int (nI j), a6] [] H c n := by
  intro m
  induction m with
  | zero =>
    intro j σ H cnt T c n a6 C O J hT hm hs hc hn hK
    have h30 := C.J30
    rw [hX4_signal_40]
    simp only [eX4_signal_42, eX4_signal_43, eX4_signal_46, isA_r, isA_n, isI_i, isF_f, isL_l, is1_i, is1_r, is1_n, is1_f, true_and, and_true, List.length_cons, List.length_nil, Nat.reduceAdd, Nat.reduceLeDiff, Nat.reduceSub, Option.some.injEq, exists_eq_left', aft_s, aft_n, ite_true, ite_false, if_true, if_false, Nat.zero_le, Nat.le_refl, reduceCtorEq, ob_of C.top, og1]
    refine ⟨C.lJ, inv0 (k_jSize C ?_)⟩
    have e1 : (nI j < nI (s_nJ σ)) = False := eq_false (nI_nlt (by omega) (by omega))
    simp only [eX4_signal_49, eX4_signal_52, eX4_signal_53, eX4_signal_56, eX4_signal_58, eX4_signal_61, eX4_signal_64, eX4_signal_66, eX4_signal_68, eX4_signal_71, eX4_signal_72, eX4_signal_75, eX4_signal_76, eX4_signal_78, eX4_signal_79, eX4_signal_82, eX4_signal_85, eX4_signal_88, eX4_signal_91, eX4_signal_94, eX4_signal_96, isA_r, isA_n, isI_i, isF_f, isL_l, is1_i, is1_r, is1_n, is1_f, true_and, and_true, List.length_cons, List.length_nil, Nat.reduceAdd, Nat.reduceLeDiff, Nat.reduceSub, Option.some.injEq, exists_eq_left', aft_s, aft_n, ite_true, ite_false, if_true, if_false, Nat.zero_le, Nat.le_refl, reduceCtorEq, e1]
    exact hK H C
  | succ m ih =>
    intro j σ H cnt T c n a6 C O J hT hm hs hc hn hK
    have h30 := C.J30
    have hj : j < s_nJ σ := by omega
    rw [hX4_signal_40]
    simp only [eX4_signal_42, eX4_signal_43, eX4_signal_46, isA_r, isA_n, isI_i, isF_f, isL_l, is1_i, is1_r, is1_n, is1_f, true_and, and_true, List.length_cons, List.length_nil, Nat.reduceAdd, Nat.reduceLeDiff, Nat.reduceSub, Option.some.injEq, exists_eq_left', aft_s, aft_n, ite_true, ite_false, if_true, if_false, Nat.zero_le, Nat.le_refl, reduceCtorEq, ob_of C.top, og1]
    refine ⟨C.lJ, inv0 (k_jSize C ?_)⟩
    have e1 : (nI j < nI (s_nJ σ)) = True := eq_true (nI_lt hj (by omega))
    simp only [eX4_signal_49, eX4_signal_52, eX4_signal_53, eX4_signal_56, eX4_signal_58, isA_r, isA_n, isI_i, isF_f, isL_l, is1_i, is1_r, is1_n, is1_f, true_and, and_true, List.length_cons, List.length_nil, Nat.reduceAdd, Nat.reduceLeDiff, Nat.reduceSub, Option.some.injEq, exists_eq_left', aft_s, aft_n, ite_true, ite_false, if_true, if_false, Nat.zero_le, Nat.le_refl, reduceCtorEq, e1, ob_of C.top, og1]
    refine ⟨C.lJ, inv0 (k_jGet C hj ?_)⟩
    have e2 := C.sinj (O.job hj).1 hs
    by_cases he : s_se σ j = s
    · have e3 : (Value.ref (A 13 (s_se σ j)) = .ref (A 13 s)) = True := by rw [e2]; exact eq_true he
      simp only [eX4_signal_61, eX4_signal_64, eX4_signal_66, eX4_signal_68, eX4_signal_71, eX4_signal_72, eX4_signal_75, eX4_signal_76, eX4_signal_78, eX4_signal_79, isA_r, isA_n, isI_i, isF_f, isL_l, is1_i, is1_r, is1_n, is1_f, true_and, and_true, List.length_cons, List.length_nil, Nat.reduceAdd, Nat.reduceLeDiff, Nat.reduceSub, Option.some.injEq, exists_eq_left', aft_s, aft_n, ite_true, ite_false, if_true, if_false, Nat.zero_le, Nat.le_refl, reduceCtorEq, ob_of (C.job hj), jg1, e3]
      have hmon : ∀ τ, sig1 σ s k j = some τ → JJ σ ≤ JJ τ ∧ JJ τ ≤ JJ (sigL s k (m + 1) j σ cnt).2 := fun τ hτ => ⟨JJ_sig1 hτ, by
        unfold sigL; rw [hτ]; exact JJ_sigL _ _ _ _⟩
      cases hg : sig1 σ s k j with
      | none =>
        have el : sigL s k (m + 1) j σ cnt = sigL s k m (j + 1) σ cnt := by rw [sigL, hg]
        rw [el] at hc hn hK
        refine ⟨C.oT, invk 0 0 (Nat.zero_le _) (Nat.zero_le _) (k_obeys (s := s) C O J (by omega) hj he hk (fun τ hτ => by rw [hg] at hτ; cases hτ) (fun _ => ?_) (fun τ hτ => by rw [hg] at hτ; cases hτ))⟩
        have b0 : ((0 : Int32) = 0) = True := eq_true rfl
        simp only [eX4_signal_82, eX4_signal_85, eX4_signal_88, eX4_signal_91, isA_r, isA_n, isI_i, isF_f, isL_l, is1_i, is1_r, is1_n, is1_f, true_and, and_true, List.length_cons, List.length_nil, Nat.reduceAdd, Nat.reduceLeDiff, Nat.reduceSub, Option.some.injEq, exists_eq_left', aft_s, aft_n, ite_true, ite_false, if_true, if_false, Nat.zero_le, Nat.le_refl, reduceCtorEq, b0, nI_1]
        exact ih (j + 1) σ H cnt T c n _ C O J (by omega) (by omega) hs (by omega) (by omega) hK
      | some τ =>
        have el : sigL s k (m + 1) j σ cnt = sigL s k m (j + 1) τ (cnt + 1) := by rw [sigL, hg]
        obtain ⟨q1, q2⟩ := hmon τ hg
        rw [el] at hc hn hK q2
        obtain ⟨O1, J1, S1⟩ := sig1_keep O J hj hg
        refine ⟨C.oT, invk (JJ τ - JJ σ + 11) (4 * (JJ τ - JJ σ + 11)) (by omega) (by omega) (k_obeys (s := s) C O J (by omega) hj he hk (fun τ' hτ => by rw [hg] at hτ; cases hτ; omega) (fun h => by rw [hg] at h; cases h) (fun τ' hτ H1 C1 => ?_))⟩
        rw [hg] at hτ
        cases hτ
        have b1 : ((1 : Int32) = 0) = False := eq_false (by decide)
        simp only [eX4_signal_82, eX4_signal_85, eX4_signal_88, eX4_signal_91, isA_r, isA_n, isI_i, isF_f, isL_l, is1_i, is1_r, is1_n, is1_f, true_and, and_true, List.length_cons, List.length_nil, Nat.reduceAdd, Nat.reduceLeDiff, Nat.reduceSub, Option.some.injEq, exists_eq_left', aft_s, aft_n, ite_true, ite_false, if_true, if_false, Nat.zero_le, Nat.le_refl, reduceCtorEq, b1, nI_1]
        have n1 := S1.2.1
        have n2 := S1.1
        exact ih (j + 1) τ H1 (cnt + 1) (T + 1) _ _ _ C1 O1 J1 (by omega) (by omega) (by omega) (by omega) (by omega) hK
    · have e3 : (Value.ref (A 13 (s_se σ j)) = .ref (A 13 s)) = False := by rw [e2]; exact eq_false he
      have hg : sig1 σ s k j = none := by unfold sig1; rw [if_neg he]
      have el : sigL s k (m + 1) j σ cnt = sigL s k m (j + 1) σ cnt := by rw [sigL, hg]
      rw [el] at hc hn hK
      simp only [eX4_signal_61, eX4_signal_64, eX4_signal_66, eX4_signal_68, eX4_signal_71, eX4_signal_72, eX4_signal_75, eX4_signal_76, eX4_signal_78, eX4_signal_79, eX4_signal_82, eX4_signal_85, eX4_signal_88, eX4_signal_91, isA_r, isA_n, isI_i, isF_f, isL_l, is1_i, is1_r, is1_n, is1_f, true_and, and_true, List.length_cons, List.length_nil, Nat.reduceAdd, Nat.reduceLeDiff, Nat.reduceSub, Option.some.injEq, exists_eq_left', aft_s, aft_n, ite_true, ite_false, if_true, if_false, Nat.zero_le, Nat.le_refl, reduceCtorEq, ob_of (C.job hj), jg1, e3, nI_1]
      exact ih (j + 1) σ H cnt T c n _ C O J (by omega) (by omega) hs (by omega) (by omega) hK
theorem k_work {σ : Sg} {ho : Nat → Option Nat} {wr : Nat → Bool} {H : AH} {c n : Nat} (C : CV E P H0 A σ ho wr H) {j : Nat} (hj : j < s_nJ σ) (h1 : 1 ≤ s_lf σ j) (h50 : s_lf σ j ≤ 50) (hK : ∀ H', CV E P H0 A (w_wk (w_lf σ (upN (s_lf σ) j (s_lf σ j - 1))) (s_wk σ + 1)) ho wr H' → K (.inl (some (.int (b2 (s_lf σ j == 1))))) H') : CRd TTv E (d + 1) mX4_workIsDone [.ref (A 0 0), .ref (A 16 j)] H c n K := by
  refine crd rfl ?_
  show Ev E d mX4_workIsDone K 0 [.ref (A 0 0), .ref (A 16 j)] [] H c n
  have hx : nI (s_lf σ j) - 1 = nI (s_lf σ j - 1) := by rw [show (1 : Int32) = nI 1 from rfl]; exact pk_sub h1
  have C1 := C.plf (v := s_lf σ j - 1) hj
  simp only [eX4_workIsDone_0, eX4_workIsDone_1, eX4_workIsDone_2, eX4_workIsDone_5, eX4_workIsDone_6, isA_r, isA_n, isI_i, isF_f, isL_l, is1_i, is1_r, is1_n, is1_f, true_and, and_true, List.length_cons, List.length_nil, Nat.reduceAdd, Nat.reduceLeDiff, Nat.reduceSub, Option.some.injEq, exists_eq_left', aft_s, aft_n, ite_true, ite_false, if_true, if_false, Nat.zero_le, Nat.le_refl, reduceCtorEq, ob_of (C.job hj), jg3, hx]
  simp only [eX4_workIsDone_7, isA_r, isA_n, isI_i, isF_f, isL_l, is1_i, is1_r, is1_n, is1_f, true_and, and_true, List.length_cons, List.length_nil, Nat.reduceAdd, Nat.reduceLeDiff, Nat.reduceSub, Option.some.injEq, exists_eq_left', aft_s, aft_n, ite_true, ite_false, if_true, if_false, Nat.zero_le, Nat.le_refl, reduceCtorEq, ob_of (C.job hj), jf_lf, jgl, Nat.reduceLT]
  obtain ⟨σ1, e1⟩ : ∃ x, x = w_lf σ (upN (s_lf σ) j (s_lf σ j - 1)) := ⟨_, rfl⟩
  have n1 : s_nJ σ1 = s_nJ σ := by rw [e1]; exact g_nJ_lf
  have n2 : s_wk σ1 = s_wk σ := by rw [e1]; exact g_wk_lf
  have n3 : s_lf σ1 j = s_lf σ j - 1 := by rw [e1, g_lf_lf, upN_s]
  rw [← e1] at C1 hK ⊢
  have C2 := C1.pwk (x := s_wk σ + 1)
  simp only [eX4_workIsDone_10, eX4_workIsDone_11, eX4_workIsDone_12, eX4_workIsDone_15, eX4_workIsDone_16, eX4_workIsDone_17, isA_r, isA_n, isI_i, isF_f, isL_l, is1_i, is1_r, is1_n, is1_f, true_and, and_true, List.length_cons, List.length_nil, Nat.reduceAdd, Nat.reduceLeDiff, Nat.reduceSub, Option.some.injEq, exists_eq_left', aft_s, aft_n, ite_true, ite_false, if_true, if_false, Nat.zero_le, Nat.le_refl, reduceCtorEq, ob_of C1.top, og6, ogl, of_w, Nat.reduceLT, n2]
  have hj2 : j < s_nJ (w_wk σ1 (s_wk σ + 1)) := by rw [g_nJ_wk, n1]; exact hj
  have n4 : s_lf (w_wk σ1 (s_wk σ + 1)) j = s_lf σ j - 1 := by rw [g_lf_wk]; exact n3
  simp only [eX4_workIsDone_20, eX4_workIsDone_21, isA_r, isA_n, isI_i, isF_f, isL_l, is1_i, is1_r, is1_n, is1_f, true_and, and_true, List.length_cons, List.length_nil, Nat.reduceAdd, Nat.reduceLeDiff, Nat.reduceSub, Option.some.injEq, exists_eq_left', aft_s, aft_n, ite_true, ite_false, if_true, if_false, Nat.zero_le, Nat.le_refl, reduceCtorEq, ob_of (C2.job hj2), jg3, n4]
  by_cases hz : s_lf σ j = 1
  · have e2 : (nI (s_lf σ j - 1) = 0) = True := by rw [hz]; exact eq_true rfl
    have e3 : (s_lf σ j == 1) = true := by rw [hz]; rfl
    rw [e3] at hK
    simp only [eX4_workIsDone_24, eX4_workIsDone_27, eX4_workIsDone_28, eX4_workIsDone_31, eX4_workIsDone_32, isA_r, isA_n, isI_i, isF_f, isL_l, is1_i, is1_r, is1_n, is1_f, true_and, and_true, List.length_cons, List.length_nil, Nat.reduceAdd, Nat.reduceLeDiff, Nat.reduceSub, Option.some.injEq, exists_eq_left', aft_s, aft_n, ite_true, ite_false, if_true, if_false, Nat.zero_le, Nat.le_refl, reduceCtorEq, e2, ok01_1]
    exact hK _ C2
  · have e2 : (nI (s_lf σ j - 1) = 0) = False := eq_false (fun h => by
      have := (nI_eq (a := s_lf σ j - 1) (b := 0) (by omega) (by omega)).mp h
      omega)
    have e3 : (s_lf σ j == 1) = false := by simp [hz]
    rw [e3] at hK
    simp only [eX4_workIsDone_24, eX4_workIsDone_27, eX4_workIsDone_28, eX4_workIsDone_31, eX4_workIsDone_32, isA_r, isA_n, isI_i, isF_f, isL_l, is1_i, is1_r, is1_n, is1_f, true_and, and_true, List.length_cons, List.length_nil, Nat.reduceAdd, Nat.reduceLeDiff, Nat.reduceSub, Option.some.injEq, exists_eq_left', aft_s, aft_n, ite_true, ite_false, if_true, if_false, Nat.zero_le, Nat.le_refl, reduceCtorEq, e2, ok01_0]
    exact hK _ C2
end C10
