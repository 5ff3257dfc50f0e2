theorem ok01_0 : ok01 (.int 0) = true := rfl
theorem ok01_1 : ok01 (.int 1) = true := rfl
theorem nI_m1 {n : Nat} (h : n < 2 ^ 30) : (nI n - 1).toInt = (n : Int) - 1 := by
  have := pk_sub_toInt (a := n) (b := 1) h (by decide)
  exact this
theorem in_case {v : Int32} {n : Nat} (hn : n < 2 ^ 30) : (∃ j : Nat, j < n ∧ v = nI j ∧ ¬ v < 0 ∧ ¬ nI n - 1 < v) ∨ ((∀ j : Nat, j < n → v ≠ nI j) ∧ (v < 0 ∨ (¬ v < 0 ∧ nI n - 1 < v))) := by
  by_cases h0 : v < 0
  · refine Or.inr ⟨fun j hj he => ?_, Or.inl h0⟩
    subst he
    exact nI_pos (by omega) h0
  · obtain ⟨j, hj, rfl⟩ := nI_of h0
    by_cases hlt : j < n
    · refine Or.inl ⟨j, hlt, rfl, h0, ?_⟩
      rw [Int32.lt_iff_toInt_lt, nI_m1 hn, nI_toInt hj]
      omega
    · refine Or.inr ⟨fun i hi he => ?_, Or.inr ⟨h0, ?_⟩⟩
      · have := (nI_eq hj (by omega)).mp he
        omega
      · rw [Int32.lt_iff_toInt_lt, nI_m1 hn, nI_toInt hj]
        omega
section MD1
variable {E : EN} {d : Nat} {h : AH} {c n : Nat} {K : Out → AH → Prop} {mo : Nat} {ad : Nat → Nat} {M : MS} {σ : Sg} {th : Nat}
theorem RM.t (R : RM σ th M) (t' : Nat) : RM σ t' (va_up M.1 0 (nI t'), M.2.1, M.2.2) := by
  obtain ⟨⟨a0, a1, a2, a3, a4, a5, a6⟩, r⟩ := R
  exact ⟨⟨by show va_up M.1 0 (nI t') 0 = nI t'; exact va_up_self _ _ _, a1, a2, a3, a4, a5, a6⟩, r⟩
theorem c_fails {x : Int32} (hk : K (.inl (some (.int 0))) (mv h mo ad (va_up M.1 0 x, M.2.1, M.2.2))) : CRd TTv E (d + 1) mX5_fails [.ref mo, .int x] (mv h mo ad M) c n K := by
  refine crd rfl ?_
  show Ev E d mX5_fails K 0 [.ref mo, .int x] [] _ c n
  simp only [eX5_fails_0, eX5_fails_1, eX5_fails_2, eX5_fails_5, eX5_fails_6, isA_r, isA_n, isI_i, isF_f, isL_l, is1_i, is1_r, is1_n, is1_f, true_and, and_true, List.length_cons, List.length_nil, Nat.reduceAdd, Nat.reduceLeDiff, Nat.reduceSub, Option.some.injEq, exists_eq_left', aft_s, aft_n, ite_true, ite_false, if_true, if_false, Nat.zero_le, Nat.le_refl, reduceCtorEq, mv_ob, mf0, mgl, Nat.reduceLT]
  exact hk
theorem c_in {v lo hi : Int32} (hk : if v < lo then K (.inl (some (.int 0))) h else if hi < v then K (.inl (some (.int 0))) h else K (.inl (some (.int 1))) h) : CRd TTv E (d + 1) mX5_in [.int v, .int lo, .int hi] h c n K := by
  refine crd rfl ?_
  show Ev E d mX5_in K 0 [.int v, .int lo, .int hi] [] h c n
  simp only [eX5_in_0, eX5_in_1, eX5_in_2, eX5_in_5, eX5_in_6, eX5_in_7, eX5_in_10, eX5_in_11, eX5_in_14, eX5_in_15, isA_r, isA_n, isI_i, isF_f, isL_l, is1_i, is1_r, is1_n, is1_f, true_and, and_true, List.length_cons, List.length_nil, Nat.reduceAdd, Nat.reduceLeDiff, Nat.reduceSub, Option.some.injEq, exists_eq_left', aft_s, aft_n, ite_true, ite_false, if_true, if_false, Nat.zero_le, Nat.le_refl, reduceCtorEq, ok01_0, ok01_1]
  exact hk
theorem c_in0 {v : Int32} {k : Nat} (hn : k < 2 ^ 30) (h1 : ∀ j, j < k → v = nI j → K (.inl (some (.int 1))) h) (h0 : (∀ j, j < k → v ≠ nI j) → K (.inl (some (.int 0))) h) : CRd TTv E (d + 1) mX5_in [.int v, .int 0, .int (nI k - 1)] h c n K := by
  refine c_in ?_
  rcases in_case (v := v) hn with ⟨j, hj, he, g1, g2⟩ | ⟨hne, g⟩
  · rw [if_neg g1, if_neg g2]; exact h1 j hj he
  · rcases g with g | ⟨g1, g2⟩
    · rw [if_pos g]; exact h0 hne
    · rw [if_neg g1, if_pos g2]; exact h0 hne
theorem c_isSession {v : Int32} (R : RM σ th M) (hS : s_nS σ ≤ 4) (h1 : ∀ j, j < s_nS σ → v = nI j → ∀ M', RM σ 0 M' → K (.inl (some (.int 1))) (mv h mo ad M')) (h0 : (∀ j, j < s_nS σ → v ≠ nI j) → ∀ M', RM σ 1 M' → K (.inl (some (.int 0))) (mv h mo ad M')) : CRd TTv E (d + 2) mX5_isSession [.ref mo, .int v] (mv h mo ad M) c n K := by
  refine crd rfl ?_
  show Ev E (d + 1) mX5_isSession K 0 [.ref mo, .int v] [] _ c n
  simp only [eX5_isSession_0, eX5_isSession_1, eX5_isSession_2, eX5_isSession_3, eX5_isSession_4, eX5_isSession_7, eX5_isSession_8, eX5_isSession_9, eX5_isSession_12, eX5_isSession_15, eX5_isSession_16, eX5_isSession_19, eX5_isSession_20, eX5_isSession_23, eX5_isSession_24, eX5_isSession_27, eX5_isSession_30, eX5_isSession_31, eX5_isSession_34, eX5_isSession_35, isA_r, isA_n, isI_i, isF_f, isL_l, is1_i, is1_r, is1_n, is1_f, true_and, and_true, List.length_cons, List.length_nil, Nat.reduceAdd, Nat.reduceLeDiff, Nat.reduceSub, Option.some.injEq, exists_eq_left', aft_s, aft_n, ite_true, ite_false, if_true, if_false, Nat.zero_le, Nat.le_refl, reduceCtorEq, mv_ob, mg1, R.1.2.1]
  refine inv0 (c_in0 (by omega) (fun j hj he => ?_) (fun hne => ?_))
  · simp only [eX5_isSession_0, eX5_isSession_1, eX5_isSession_2, eX5_isSession_3, eX5_isSession_4, eX5_isSession_7, eX5_isSession_8, eX5_isSession_9, eX5_isSession_12, eX5_isSession_15, eX5_isSession_16, eX5_isSession_19, eX5_isSession_20, eX5_isSession_23, eX5_isSession_24, eX5_isSession_27, eX5_isSession_30, eX5_isSession_31, eX5_isSession_34, eX5_isSession_35, isA_r, isA_n, isI_i, isF_f, isL_l, is1_i, is1_r, is1_n, is1_f, true_and, and_true, List.length_cons, List.length_nil, Nat.reduceAdd, Nat.reduceLeDiff, Nat.reduceSub, Option.some.injEq, exists_eq_left', aft_s, aft_n, ite_true, ite_false, if_true, if_false, Nat.zero_le, Nat.le_refl, reduceCtorEq, mv_ob, mf0, mg0, mgl, Nat.reduceLT, va_up_self, ok01_0, ok01_1]
    exact h1 j hj he _ (R.t 0)
  · simp only [eX5_isSession_0, eX5_isSession_1, eX5_isSession_2, eX5_isSession_3, eX5_isSession_4, eX5_isSession_7, eX5_isSession_8, eX5_isSession_9, eX5_isSession_12, eX5_isSession_15, eX5_isSession_16, eX5_isSession_19, eX5_isSession_20, eX5_isSession_23, eX5_isSession_24, eX5_isSession_27, eX5_isSession_30, eX5_isSession_31, eX5_isSession_34, eX5_isSession_35, isA_r, isA_n, isI_i, isF_f, isL_l, is1_i, is1_r, is1_n, is1_f, true_and, and_true, List.length_cons, List.length_nil, Nat.reduceAdd, Nat.reduceLeDiff, Nat.reduceSub, Option.some.injEq, exists_eq_left', aft_s, aft_n, ite_true, ite_false, if_true, if_false, Nat.zero_le, Nat.le_refl, reduceCtorEq, mv_ob, mf0, mg0, mgl, Nat.reduceLT, va_up_self, ok01_0, ok01_1]
    exact h0 hne _ (R.t 1)
theorem c_isJob {v : Int32} (R : RM σ th M) (hS : s_nJ σ ≤ 30) (h1 : ∀ j, j < s_nJ σ → v = nI j → ∀ M', RM σ 0 M' → K (.inl (some (.int 1))) (mv h mo ad M')) (h0 : (∀ j, j < s_nJ σ → v ≠ nI j) → ∀ M', RM σ 1 M' → K (.inl (some (.int 0))) (mv h mo ad M')) : CRd TTv E (d + 2) mX5_isJob [.ref mo, .int v] (mv h mo ad M) c n K := by
  refine crd rfl ?_
  show Ev E (d + 1) mX5_isJob K 0 [.ref mo, .int v] [] _ c n
  simp only [eX5_isJob_0, eX5_isJob_1, eX5_isJob_2, eX5_isJob_3, eX5_isJob_4, eX5_isJob_7, eX5_isJob_8, eX5_isJob_9, eX5_isJob_12, eX5_isJob_15, eX5_isJob_16, eX5_isJob_19, eX5_isJob_20, eX5_isJob_23, eX5_isJob_24, eX5_isJob_27, eX5_isJob_30, eX5_isJob_31, eX5_isJob_34, eX5_isJob_35, isA_r, isA_n, isI_i, isF_f, isL_l, is1_i, is1_r, is1_n, is1_f, true_and, and_true, List.length_cons, List.length_nil, Nat.reduceAdd, Nat.reduceLeDiff, Nat.reduceSub, Option.some.injEq, exists_eq_left', aft_s, aft_n, ite_true, ite_false, if_true, if_false, Nat.zero_le, Nat.le_refl, reduceCtorEq, mv_ob, mg2, R.1.2.2.1]
  refine inv0 (c_in0 (by omega) (fun j hj he => ?_) (fun hne => ?_))
  · simp only [eX5_isJob_0, eX5_isJob_1, eX5_isJob_2, eX5_isJob_3, eX5_isJob_4, eX5_isJob_7, eX5_isJob_8, eX5_isJob_9, eX5_isJob_12, eX5_isJob_15, eX5_isJob_16, eX5_isJob_19, eX5_isJob_20, eX5_isJob_23, eX5_isJob_24, eX5_isJob_27, eX5_isJob_30, eX5_isJob_31, eX5_isJob_34, eX5_isJob_35, isA_r, isA_n, isI_i, isF_f, isL_l, is1_i, is1_r, is1_n, is1_f, true_and, and_true, List.length_cons, List.length_nil, Nat.reduceAdd, Nat.reduceLeDiff, Nat.reduceSub, Option.some.injEq, exists_eq_left', aft_s, aft_n, ite_true, ite_false, if_true, if_false, Nat.zero_le, Nat.le_refl, reduceCtorEq, mv_ob, mf0, mg0, mgl, Nat.reduceLT, va_up_self, ok01_0, ok01_1]
    exact h1 j hj he _ (R.t 0)
  · simp only [eX5_isJob_0, eX5_isJob_1, eX5_isJob_2, eX5_isJob_3, eX5_isJob_4, eX5_isJob_7, eX5_isJob_8, eX5_isJob_9, eX5_isJob_12, eX5_isJob_15, eX5_isJob_16, eX5_isJob_19, eX5_isJob_20, eX5_isJob_23, eX5_isJob_24, eX5_isJob_27, eX5_isJob_30, eX5_isJob_31, eX5_isJob_34, eX5_isJob_35, isA_r, isA_n, isI_i, isF_f, isL_l, is1_i, is1_r, is1_n, is1_f, true_and, and_true, List.length_cons, List.length_nil, Nat.reduceAdd, Nat.reduceLeDiff, Nat.reduceSub, Option.some.injEq, exists_eq_left', aft_s, aft_n, ite_true, ite_false, if_true, if_false, Nat.zero_le, Nat.le_refl, reduceCtorEq, mv_ob, mf0, mg0, mgl, Nat.reduceLT, va_up_self, ok01_0, ok01_1]
    exact h0 hne _ (R.t 1)
end MD1
