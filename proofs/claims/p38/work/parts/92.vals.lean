/-! values of the queries; the law's small loops -/
def frI (o : Option Nat) : Int32 := match o with
  | none => -75
  | some j => nI j
theorem ix_e {n : Nat} (hn : n < 2 ^ 31) : ix (nI n) n = none := ix_n (fun j hj e => by
  have := (nI_eq hn (Nat.lt_trans hj hn)).mp e
  omega)
section VAL
variable {σ : Sg}
theorem v_state {j : Nat} (hj : j < s_nJ σ) (h : s_nJ σ ≤ 30) : hx [-77] (q_state σ (nI j)) = nI (s_st σ j) := by
  unfold q_state; rw [ix_s hj (by omega)]; rfl
theorem v_holds {j : Nat} (hj : j < s_nJ σ) (h : s_nJ σ ≤ 30) : hx [-77] (q_holds σ (nI j)) = b2 (s_hl σ j) := by
  unfold q_holds; rw [ix_s hj (by omega)]; rfl
theorem v_toDo {j : Nat} (hj : j < s_nJ σ) (h : s_nJ σ ≤ 30) : hx [-77] (q_toDo σ (nI j)) = nI (s_lf σ j) := by
  unfold q_toDo; rw [ix_s hj (by omega)]; rfl
theorem v_ses {j : Nat} (hj : j < s_nJ σ) (h : s_nJ σ ≤ 30) : hx [-77] (q_sessionOf σ (nI j)) = nI (s_se σ j) := by
  unfold q_sessionOf; rw [ix_s hj (by omega)]; rfl
theorem v_blk {j : Nat} (hj : j < s_nJ σ) (h : s_nJ σ ≤ 30) (h1 : s_st σ j = 119) : hx [-77, -79] (q_blockers σ (nI j)) = nI (cN (blk σ j) (s_nJ σ)) := by
  unfold q_blockers; rw [ix_s hj (by omega)]; dsimp only; rw [if_pos h1]; rfl
theorem v_front {a : Nat} (ha : a < s_nS σ) (h : s_nS σ ≤ 4) : hx [-77, -75] (q_front σ (nI a)) = frI (s_fr σ a) := by
  unfold q_front; rw [ix_s ha (by omega)]; dsimp only; cases s_fr σ a <;> rfl
theorem v_att {a : Nat} (ha : a < s_nS σ) (h : s_nS σ ≤ 4) : hx [-77] (q_isAttached σ (nI a)) = b2 (!s_dr σ a) := by
  unfold q_isAttached; rw [ix_s ha (by omega)]; rfl
theorem v_kept {a : Nat} (ha : a < s_nS σ) (h : s_nS σ ≤ 4) : hx [-77] (q_kept σ (nI a)) = nI (s_hi σ a).length := by
  unfold q_kept; rw [ix_s ha (by omega)]; rfl
theorem v_count {a : Nat} {g : Int32} (ha : a < s_nS σ) (h : s_nS σ ≤ 4) (hg : isLet g = true) : hx [-77, -78] (q_count σ (nI a) g) = nI (cN (pcnt σ a g) (s_nJ σ)) := by
  unfold q_count; rw [ix_s ha (by omega)]; dsimp only; rw [if_neg (by rw [hg]; decide)]; rfl
theorem v_cEnd {a : Nat} (ha : a < s_nS σ) (h : s_nS σ ≤ 4) (hl : (s_hi σ a).length ≤ 8) : hx [-77, -75] (q_commandAt σ (nI a) (nI (s_hi σ a).length)) = -75 := by
  unfold q_commandAt; rw [ix_s ha (by omega)]; dsimp only; rw [ix_e (by omega)]; rfl
theorem v_holder {l : Nat} (hl : l < 6) : hx [-78] (q_holder σ (nI l)) = o2 (hdF σ l) := by
  unfold q_holder; rw [ix_s hl (by omega)]; rfl
theorem v_wAt {k : Nat} (hk : k < (s_od σ).length) (h : (s_od σ).length ≤ 30) : hx [-75] (q_waitingAt σ (nI k)) = nI ((s_od σ).getD k 0) := by
  unfold q_waitingAt; rw [ix_s hk (by omega)]; rfl
theorem v_wEnd (h : (s_od σ).length ≤ 30) : hx [-75] (q_waitingAt σ (nI (s_od σ).length)) = -75 := by
  unfold q_waitingAt; rw [ix_e (by omega)]; rfl
theorem v_cAt {k : Nat} (hk : k < (s_cm σ).length) (h : (s_cm σ).length ≤ 12) : hx [-75] (q_commonAt σ (nI k)) = nI ((s_cm σ).getD ((s_cm σ).length - 1 - k) 0) := by
  unfold q_commonAt; rw [ix_s hk (by omega)]; rfl
theorem v_cmEnd (h : (s_cm σ).length ≤ 12) : hx [-75] (q_commonAt σ (nI (s_cm σ).length)) = -75 := by
  unfold q_commonAt; rw [ix_e (by omega)]; rfl
theorem v_eJ {k : Nat} (hk : k < (s_jn σ).length) (h : (s_jn σ).length ≤ 16384) : hx [-75] (q_entryJob σ (nI k)) = nI ((s_jn σ).getD k (0, 0)).1 := by
  unfold q_entryJob; rw [ix_s hk (by omega)]; rfl
theorem v_eS {k : Nat} (hk : k < (s_jn σ).length) (h : (s_jn σ).length ≤ 16384) : hx [-75] (q_entryState σ (nI k)) = nI ((s_jn σ).getD k (0, 0)).2 := by
  unfold q_entryState; rw [ix_s hk (by omega)]; rfl
theorem v_eEnd (h : (s_jn σ).length ≤ 16384) : hx [-75] (q_entryJob σ (nI (s_jn σ).length)) = -75 := by
  unfold q_entryJob; rw [ix_e (by omega)]; rfl
end VAL
section SML
variable {E : EN} {P : Nat → Prop} {H0 : AH} {x : Nat} {σ : Sg} {T : Nat} {H : AH} {d c n : Nat} {K : Out → AH → Prop}
/-- a cell of the script, whatever it is -/
theorem k_cell {b L k : Nat} {xs : Nat → Int32} (e : H b = none) (e2 : E.1 b = some (arI L xs)) (hL : L ≤ 260) (hk : k ≤ 1000) (hK : ∀ v, K (.inl (some (.int v))) H) : CRd TTv E (d + 1) mL_cell [.ref b, .int (nI k)] H c n K := by
  refine crd rfl ?_
  show Ev E d mL_cell K 0 [.ref b, .int (nI k)] [] H c n
  have e3 := rdN_E2 (E := E) e e2
  by_cases h : k < L
  · have e4 : (nI k < Int32.ofNat L) = True := eq_true (nI_lt h (by omega))
    have e5 := rdI_E (E := E) e e2
    have e6 : inB (nI k) L = true := inB_nI h (by omega)
    simp only [eL_cell_0, eL_cell_1, eL_cell_2, eL_cell_3, eL_cell_6, eL_cell_7, eL_cell_8, eL_cell_9, eL_cell_12, eL_cell_14, eL_cell_15, eL_cell_16, isA_r, isA_n, isI_i, isF_f, isL_l, is1_i, is1_r, is1_n, is1_f, true_and, and_true, List.length_cons, List.length_nil, Nat.reduceAdd, Nat.reduceLeDiff, Nat.reduceSub, Option.some.injEq, exists_eq_left', aft_s, aft_n, ite_true, ite_false, if_true, if_false, Nat.zero_le, Nat.le_refl, reduceCtorEq, e3, e4, e5, e6]
    exact hK _
  · have e4 : (nI k < Int32.ofNat L) = False := eq_false (nI_nlt (by omega) (by omega))
    simp only [eL_cell_0, eL_cell_1, eL_cell_2, eL_cell_3, eL_cell_6, eL_cell_7, eL_cell_8, eL_cell_9, eL_cell_12, eL_cell_14, eL_cell_15, eL_cell_16, isA_r, isA_n, isI_i, isF_f, isL_l, is1_i, is1_r, is1_n, is1_f, true_and, and_true, List.length_cons, List.length_nil, Nat.reduceAdd, Nat.reduceLeDiff, Nat.reduceSub, Option.some.injEq, exists_eq_left', aft_s, aft_n, ite_true, ite_false, if_true, if_false, Nat.zero_le, Nat.le_refl, reduceCtorEq, e3, e4]
    exact hK _
theorem i32_nat (x : Int32) : x = nI x.toBitVec.toNat := by
  apply Int32.toBitVec_inj.1
  show x.toBitVec = BitVec.ofNat 32 x.toBitVec.toNat
  simp
theorem ushr_1 (v : Int32) : ∃ a, a < 2 ^ 31 ∧ (v.toUInt32 >>> ((1 : Int32).toUInt32 &&& Int32.toUInt32 31)).toInt32 = nI a := by
  have h := pk_ushr v 1 1 (by decide)
  refine ⟨v.toBitVec.toNat / 2, ?_, ?_⟩
  · have := v.toBitVec.isLt
    omega
  · rw [i32_nat (v.toUInt32 >>> ((1 : Int32).toUInt32 &&& Int32.toUInt32 31)).toInt32, h]
theorem k_pick {b L k m : Nat} {xs : Nat → Int32} (e : H b = none) (e2 : E.1 b = some (arI L xs)) (hL : L ≤ 260) (hk : k ≤ 1000) (h0 : 0 < m) (hm : m ≤ 1000) (hK : ∀ r, r < m → K (.inl (some (.int (nI r)))) H) : CRd TTv E (d + 2) mL_pick [.ref b, .int (nI k), .int (nI m)] H c n K := by
  refine crd rfl ?_
  show Ev E (d + 1) mL_pick K 0 [.ref b, .int (nI k), .int (nI m)] [] H c n
  simp only [eL_pick_0, eL_pick_1, eL_pick_2, eL_pick_5, eL_pick_6, eL_pick_7, eL_pick_8, eL_pick_9, isA_r, isA_n, isI_i, isF_f, isL_l, is1_i, is1_r, is1_n, is1_f, true_and, and_true, List.length_cons, List.length_nil, Nat.reduceAdd, Nat.reduceLeDiff, Nat.reduceSub, Option.some.injEq, exists_eq_left', aft_s, aft_n, ite_true, ite_false, if_true, if_false, Nat.zero_le, Nat.le_refl, reduceCtorEq]
  refine inv0 (k_cell e e2 hL hk (fun v => ?_))
  obtain ⟨a, ha, ea⟩ := ushr_1 v
  have em : (nI m = 0) = False := eq_false (nI_ne0 h0 (by omega))
  simp only [eL_pick_0, eL_pick_1, eL_pick_2, eL_pick_5, eL_pick_6, eL_pick_7, eL_pick_8, eL_pick_9, isA_r, isA_n, isI_i, isF_f, isL_l, is1_i, is1_r, is1_n, is1_f, true_and, and_true, List.length_cons, List.length_nil, Nat.reduceAdd, Nat.reduceLeDiff, Nat.reduceSub, Option.some.injEq, exists_eq_left', aft_s, aft_n, ite_true, ite_false, if_true, if_false, Nat.zero_le, Nat.le_refl, reduceCtorEq, ea, em, not_false_eq_true, pk_rem ha h0 (show m < 2 ^ 31 by omega)]
  exact hK _ (Nat.mod_lt _ h0)
/-- jobs of a session -/
theorem k_ofS {ao J a : Nat} {fO : Nat → Int32} {se : Nat → Nat} (e : H ao = some (arI 30 fO)) (hJ : J ≤ 30) (ha : a ≤ 4) (hO : ∀ j, j < J → fO j = nI (se j) ∧ se j ≤ 4) (hK : K (.inl (some (.int (nI (cN (fun j => se j == a) J))))) H) : CRd TTv E (d + 1) mL_ofSession [.ref ao, .int (nI J), .int (nI a)] H c n K := by
  refine crd rfl ?_
  show Ev E d mL_ofSession K 0 [.ref ao, .int (nI J), .int (nI a), .retAddr 0, .retAddr 0] [] H c n
  have e2 := rdI_of (E := E) e
  have loop : ∀ (m j : Nat), m + j = J → Ev E d mL_ofSession K 5 [.ref ao, .int (nI J), .int (nI a), .int (nI (cN (fun j => se j == a) j)), .int (nI j)] [] H c n := by
    intro m
    induction m with
    | zero =>
      intro j hm
      have hj : j = J := by omega
      subst hj
      have e1 : (nI j < nI j) = False := eq_false (nI_nlt (Nat.le_refl _) (by omega))
      rw [hL_ofSession_5]
      simp only [eL_ofSession_0, eL_ofSession_1, eL_ofSession_2, eL_ofSession_3, eL_ofSession_7, eL_ofSession_8, eL_ofSession_11, eL_ofSession_12, eL_ofSession_13, eL_ofSession_15, eL_ofSession_16, eL_ofSession_17, eL_ofSession_20, eL_ofSession_21, eL_ofSession_24, eL_ofSession_25, eL_ofSession_26, eL_ofSession_27, eL_ofSession_30, eL_ofSession_33, eL_ofSession_34, isA_r, isA_n, isI_i, isF_f, isL_l, is1_i, is1_r, is1_n, is1_f, true_and, and_true, List.length_cons, List.length_nil, Nat.reduceAdd, Nat.reduceLeDiff, Nat.reduceSub, Option.some.injEq, exists_eq_left', aft_s, aft_n, ite_true, ite_false, if_true, if_false, Nat.zero_le, Nat.le_refl, reduceCtorEq, e1]
      exact hK
    | succ m ih =>
      intro j hm
      have hj : j < J := by omega
      have e1 : (nI j < nI J) = True := eq_true (nI_lt hj (by omega))
      have e3 : inB (nI j) 30 = true := inB_nI (by omega) (by omega)
      have e4 : (nI j).toNatClampNeg = j := nI_clamp (by omega)
      obtain ⟨e5, h5⟩ := hO j hj
      have := ih (j + 1) (by omega)
      rw [hL_ofSession_5]
      by_cases h : se j = a
      · have e6 : (nI (se j) = nI a) = True := eq_true (by rw [h])
        rw [cN_s, if_pos (by simpa using h)] at this
        simp only [eL_ofSession_0, eL_ofSession_1, eL_ofSession_2, eL_ofSession_3, eL_ofSession_7, eL_ofSession_8, eL_ofSession_11, eL_ofSession_12, eL_ofSession_13, eL_ofSession_15, eL_ofSession_16, eL_ofSession_17, eL_ofSession_20, eL_ofSession_21, eL_ofSession_24, eL_ofSession_25, eL_ofSession_26, eL_ofSession_27, eL_ofSession_30, eL_ofSession_33, eL_ofSession_34, isA_r, isA_n, isI_i, isF_f, isL_l, is1_i, is1_r, is1_n, is1_f, true_and, and_true, List.length_cons, List.length_nil, Nat.reduceAdd, Nat.reduceLeDiff, Nat.reduceSub, Option.some.injEq, exists_eq_left', aft_s, aft_n, ite_true, ite_false, if_true, if_false, Nat.zero_le, Nat.le_refl, reduceCtorEq, e1, e2, e3, e4, e5, e6, nI_1]
        exact this
      · have e6 : (nI (se j) = nI a) = False := eq_false (fun z => h ((nI_eq (by omega) (by omega)).mp z))
        rw [cN_s, if_neg (by simpa using h)] at this
        simp only [eL_ofSession_0, eL_ofSession_1, eL_ofSession_2, eL_ofSession_3, eL_ofSession_7, eL_ofSession_8, eL_ofSession_11, eL_ofSession_12, eL_ofSession_13, eL_ofSession_15, eL_ofSession_16, eL_ofSession_17, eL_ofSession_20, eL_ofSession_21, eL_ofSession_24, eL_ofSession_25, eL_ofSession_26, eL_ofSession_27, eL_ofSession_30, eL_ofSession_33, eL_ofSession_34, isA_r, isA_n, isI_i, isF_f, isL_l, is1_i, is1_r, is1_n, is1_f, true_and, and_true, List.length_cons, List.length_nil, Nat.reduceAdd, Nat.reduceLeDiff, Nat.reduceSub, Option.some.injEq, exists_eq_left', aft_s, aft_n, ite_true, ite_false, if_true, if_false, Nat.zero_le, Nat.le_refl, reduceCtorEq, e1, e2, e3, e4, e5, e6, nI_1, Int32.add_zero]
        exact this
  simp only [eL_ofSession_0, eL_ofSession_1, eL_ofSession_2, eL_ofSession_3, eL_ofSession_7, eL_ofSession_8, eL_ofSession_11, eL_ofSession_12, eL_ofSession_13, eL_ofSession_15, eL_ofSession_16, eL_ofSession_17, eL_ofSession_20, eL_ofSession_21, eL_ofSession_24, eL_ofSession_25, eL_ofSession_26, eL_ofSession_27, eL_ofSession_30, eL_ofSession_33, eL_ofSession_34, isA_r, isA_n, isI_i, isF_f, isL_l, is1_i, is1_r, is1_n, is1_f, true_and, and_true, List.length_cons, List.length_nil, Nat.reduceAdd, Nat.reduceLeDiff, Nat.reduceSub, Option.some.injEq, exists_eq_left', aft_s, aft_n, ite_true, ite_false, if_true, if_false, Nat.zero_le, Nat.le_refl, reduceCtorEq]
  exact loop J 0 rfl
/-- jobs that are done, session by session -/
def dnS (σ : Sg) : Nat → Nat
  | 0 => 0
  | a + 1 => dnS σ a + cN (pcnt σ a 100) (s_nJ σ)
theorem k_done (C : CW E P H0 x σ H) (O : Ok σ) {S : Nat} (hS : S ≤ s_nS σ) (hc : 2 * S ≤ c) (hn : 12 * S ≤ n) (hK : ∀ H', CW E P H0 x σ H' → K (.inl (some (.int (nI (dnS σ S))))) H') : CRd TTv E (d + 14) mL_done [.ref x, .int (nI S)] H c n K := by
  refine crd rfl ?_
  show Ev E (d + 13) mL_done K 0 [.ref x, .int (nI S), .retAddr 0, .retAddr 0] [] H c n
  have h4 := O.1.1
  have loop : ∀ (m a : Nat) (H : AH) (c n : Nat), m + a = S → CW E P H0 x σ H → 2 * m ≤ c → 12 * m ≤ n → Ev E (d + 13) mL_done K 4 [.ref x, .int (nI S), .int (nI (dnS σ a)), .int (nI a)] [] H c n := by
    intro m
    induction m with
    | zero =>
      intro a H c n hm C _ _
      have hj : a = S := by omega
      subst hj
      have e1 : (nI a < nI a) = False := eq_false (nI_nlt (Nat.le_refl _) (by omega))
      rw [hL_done_4]
      simp only [eL_done_0, eL_done_1, eL_done_2, eL_done_3, eL_done_5, eL_done_6, eL_done_9, eL_done_10, eL_done_11, eL_done_12, eL_done_14, eL_done_17, eL_done_18, eL_done_19, eL_done_22, eL_done_25, eL_done_26, isA_r, isA_n, isI_i, isF_f, isL_l, is1_i, is1_r, is1_n, is1_f, true_and, and_true, List.length_cons, List.length_nil, Nat.reduceAdd, Nat.reduceLeDiff, Nat.reduceSub, Option.some.injEq, exists_eq_left', aft_s, aft_n, ite_true, ite_false, if_true, if_false, Nat.zero_le, Nat.le_refl, reduceCtorEq, e1]
      exact hK H C
    | succ m ih =>
      intro a H c n hm C hc hn
      have ha : a < S := by omega
      have e1 : (nI a < nI S) = True := eq_true (nI_lt ha (by omega))
      rw [hL_done_4]
      simp only [eL_done_0, eL_done_1, eL_done_2, eL_done_3, eL_done_5, eL_done_6, eL_done_9, eL_done_10, eL_done_11, eL_done_12, eL_done_14, eL_done_17, eL_done_18, eL_done_19, eL_done_22, eL_done_25, eL_done_26, isA_r, isA_n, isI_i, isF_f, isL_l, is1_i, is1_r, is1_n, is1_f, true_and, and_true, List.length_cons, List.length_nil, Nat.reduceAdd, Nat.reduceLeDiff, Nat.reduceSub, Option.some.injEq, exists_eq_left', aft_s, aft_n, ite_true, ite_false, if_true, if_false, Nat.zero_le, Nat.le_refl, reduceCtorEq, e1]
      refine invk 2 12 (by omega) (by omega) (h_count C O (by omega) (by omega) (fun H' C' => ?_))
      simp only [eL_done_0, eL_done_1, eL_done_2, eL_done_3, eL_done_5, eL_done_6, eL_done_9, eL_done_10, eL_done_11, eL_done_12, eL_done_14, eL_done_17, eL_done_18, eL_done_19, eL_done_22, eL_done_25, eL_done_26, isA_r, isA_n, isI_i, isF_f, isL_l, is1_i, is1_r, is1_n, is1_f, true_and, and_true, List.length_cons, List.length_nil, Nat.reduceAdd, Nat.reduceLeDiff, Nat.reduceSub, Option.some.injEq, exists_eq_left', aft_s, aft_n, ite_true, ite_false, if_true, if_false, Nat.zero_le, Nat.le_refl, reduceCtorEq, v_count (σ := σ) (a := a) (g := 100) (by omega) h4 rfl, nI_add, nI_1]
      exact ih (a + 1) H' (c - 2) (n - 12) (by omega) C' (by omega) (by omega)
  simp only [eL_done_0, eL_done_1, eL_done_2, eL_done_3, eL_done_5, eL_done_6, eL_done_9, eL_done_10, eL_done_11, eL_done_12, eL_done_14, eL_done_17, eL_done_18, eL_done_19, eL_done_22, eL_done_25, eL_done_26, isA_r, isA_n, isI_i, isF_f, isL_l, is1_i, is1_r, is1_n, is1_f, true_and, and_true, List.length_cons, List.length_nil, Nat.reduceAdd, Nat.reduceLeDiff, Nat.reduceSub, Option.some.injEq, exists_eq_left', aft_s, aft_n, ite_true, ite_false, if_true, if_false, Nat.zero_le, Nat.le_refl, reduceCtorEq]
  exact loop S 0 H c n rfl C hc hn
/-! the law's sum -/
def stS (σ : Sg) (v : Int64) (a : Nat) : Int64 := 31 * v + (hx [-77, -75] (q_front σ (nI a))).toInt64 + 7 * (hx [-77] (q_isAttached σ (nI a))).toInt64 + 11 * (hx [-77] (q_kept σ (nI a))).toInt64 + 13 * (hx [-77, -75] (q_commandAt σ (nI a) 0)).toInt64 + 17 * (hx [-77, -78] (q_count σ (nI a) 115)).toInt64
def suS (σ : Sg) : Nat → Nat → Int64 → Int64
  | 0, _, v => v
  | m + 1, a, v => suS σ m (a + 1) (stS σ v a)
def suL (σ : Sg) : Nat → Nat → Int64 → Int64
  | 0, _, v => v
  | m + 1, l, v => suL σ m (l + 1) (31 * v + (hx [-78] (q_holder σ (nI l))).toInt64)
def su0 (σ : Sg) : Int64 := (nI (s_jn σ).length).toInt64 + 31 * s_wk σ + 7 * (nI (s_od σ).length).toInt64 + 101 * (nI (s_cm σ).length).toInt64
def sumF (σ : Sg) (S : Nat) : Int64 := suL σ 6 0 (suS σ S 0 (su0 σ))
theorem k_sum (C : CW E P H0 x σ H) (O : Ok σ) {S : Nat} (hS : S ≤ s_nS σ) (hc : 60 ≤ c) (hn : 400 ≤ n) (hK : ∀ H', CW E P H0 x σ H' → K (.inl (some (.long (sumF σ S)))) H') : CRd TTv E (d + 14) mL_sum [.ref x, .int (nI S)] H c n K := by
  refine crd rfl ?_
  show Ev E (d + 13) mL_sum K 0 [.ref x, .int (nI S), .retAddr 0, .retAddr 0, .retAddr 0] [] H c n
  have h4 := O.1.1
  have loop2 : ∀ (m l : Nat) (v : Int64) (H : AH) (c n : Nat), m + l = 6 → suL σ m l v = sumF σ S → CW E P H0 x σ H → 2 * m ≤ c → 12 * m ≤ n → Ev E (d + 13) mL_sum K 118 [.ref x, .int (nI S), .long v, .retAddr 0, .int (nI l)] [] H c n := by
    intro m
    induction m with
    | zero =>
      intro l v H c n hm hv C _ _
      have hj : l = 6 := by omega
      subst hj
      have e1 : (nI 6 < 6) = False := eq_false (by decide)
      rw [hL_sum_118]
      simp only [eL_sum_0, eL_sum_1, eL_sum_4, eL_sum_5, eL_sum_8, eL_sum_9, eL_sum_12, eL_sum_13, eL_sum_14, eL_sum_17, eL_sum_18, eL_sum_21, eL_sum_22, eL_sum_23, eL_sum_24, eL_sum_27, eL_sum_28, eL_sum_31, eL_sum_32, eL_sum_33, eL_sum_34, eL_sum_35, eL_sum_36, eL_sum_40, eL_sum_41, eL_sum_44, eL_sum_47, eL_sum_48, eL_sum_49, eL_sum_50, eL_sum_52, eL_sum_55, eL_sum_56, eL_sum_57, eL_sum_60, eL_sum_61, eL_sum_63, eL_sum_66, eL_sum_67, eL_sum_68, eL_sum_69, eL_sum_72, eL_sum_73, eL_sum_75, eL_sum_78, eL_sum_79, eL_sum_80, eL_sum_81, eL_sum_84, eL_sum_85, eL_sum_87, eL_sum_88, eL_sum_91, eL_sum_92, eL_sum_93, eL_sum_94, eL_sum_97, eL_sum_98, eL_sum_100, eL_sum_102, eL_sum_105, eL_sum_106, eL_sum_107, eL_sum_108, eL_sum_109, eL_sum_112, eL_sum_115, eL_sum_116, eL_sum_120, eL_sum_122, eL_sum_125, eL_sum_128, eL_sum_129, eL_sum_130, eL_sum_131, eL_sum_133, eL_sum_136, eL_sum_137, eL_sum_138, eL_sum_139, eL_sum_142, eL_sum_145, eL_sum_146, isA_r, isA_n, isI_i, isF_f, isL_l, is1_i, is1_r, is1_n, is1_f, true_and, and_true, List.length_cons, List.length_nil, Nat.reduceAdd, Nat.reduceLeDiff, Nat.reduceSub, Option.some.injEq, exists_eq_left', aft_s, aft_n, ite_true, ite_false, if_true, if_false, Nat.zero_le, Nat.le_refl, reduceCtorEq, e1]
      have hv : v = sumF σ S := hv
      rw [hv]
      exact hK H C
    | succ m ih =>
      intro l v H c n hm hv C hc hn
      have e1 : (nI l < 6) = True := eq_true (nI_lt (b := 6) (by omega) (by omega))
      rw [hL_sum_118]
      simp only [eL_sum_0, eL_sum_1, eL_sum_4, eL_sum_5, eL_sum_8, eL_sum_9, eL_sum_12, eL_sum_13, eL_sum_14, eL_sum_17, eL_sum_18, eL_sum_21, eL_sum_22, eL_sum_23, eL_sum_24, eL_sum_27, eL_sum_28, eL_sum_31, eL_sum_32, eL_sum_33, eL_sum_34, eL_sum_35, eL_sum_36, eL_sum_40, eL_sum_41, eL_sum_44, eL_sum_47, eL_sum_48, eL_sum_49, eL_sum_50, eL_sum_52, eL_sum_55, eL_sum_56, eL_sum_57, eL_sum_60, eL_sum_61, eL_sum_63, eL_sum_66, eL_sum_67, eL_sum_68, eL_sum_69, eL_sum_72, eL_sum_73, eL_sum_75, eL_sum_78, eL_sum_79, eL_sum_80, eL_sum_81, eL_sum_84, eL_sum_85, eL_sum_87, eL_sum_88, eL_sum_91, eL_sum_92, eL_sum_93, eL_sum_94, eL_sum_97, eL_sum_98, eL_sum_100, eL_sum_102, eL_sum_105, eL_sum_106, eL_sum_107, eL_sum_108, eL_sum_109, eL_sum_112, eL_sum_115, eL_sum_116, eL_sum_120, eL_sum_122, eL_sum_125, eL_sum_128, eL_sum_129, eL_sum_130, eL_sum_131, eL_sum_133, eL_sum_136, eL_sum_137, eL_sum_138, eL_sum_139, eL_sum_142, eL_sum_145, eL_sum_146, isA_r, isA_n, isI_i, isF_f, isL_l, is1_i, is1_r, is1_n, is1_f, true_and, and_true, List.length_cons, List.length_nil, Nat.reduceAdd, Nat.reduceLeDiff, Nat.reduceSub, Option.some.injEq, exists_eq_left', aft_s, aft_n, ite_true, ite_false, if_true, if_false, Nat.zero_le, Nat.le_refl, reduceCtorEq, e1]
      refine invk 2 12 (by omega) (by omega) (h_holder C O (by omega) (by omega) (fun H' C' => ?_))
      simp only [eL_sum_0, eL_sum_1, eL_sum_4, eL_sum_5, eL_sum_8, eL_sum_9, eL_sum_12, eL_sum_13, eL_sum_14, eL_sum_17, eL_sum_18, eL_sum_21, eL_sum_22, eL_sum_23, eL_sum_24, eL_sum_27, eL_sum_28, eL_sum_31, eL_sum_32, eL_sum_33, eL_sum_34, eL_sum_35, eL_sum_36, eL_sum_40, eL_sum_41, eL_sum_44, eL_sum_47, eL_sum_48, eL_sum_49, eL_sum_50, eL_sum_52, eL_sum_55, eL_sum_56, eL_sum_57, eL_sum_60, eL_sum_61, eL_sum_63, eL_sum_66, eL_sum_67, eL_sum_68, eL_sum_69, eL_sum_72, eL_sum_73, eL_sum_75, eL_sum_78, eL_sum_79, eL_sum_80, eL_sum_81, eL_sum_84, eL_sum_85, eL_sum_87, eL_sum_88, eL_sum_91, eL_sum_92, eL_sum_93, eL_sum_94, eL_sum_97, eL_sum_98, eL_sum_100, eL_sum_102, eL_sum_105, eL_sum_106, eL_sum_107, eL_sum_108, eL_sum_109, eL_sum_112, eL_sum_115, eL_sum_116, eL_sum_120, eL_sum_122, eL_sum_125, eL_sum_128, eL_sum_129, eL_sum_130, eL_sum_131, eL_sum_133, eL_sum_136, eL_sum_137, eL_sum_138, eL_sum_139, eL_sum_142, eL_sum_145, eL_sum_146, isA_r, isA_n, isI_i, isF_f, isL_l, is1_i, is1_r, is1_n, is1_f, true_and, and_true, List.length_cons, List.length_nil, Nat.reduceAdd, Nat.reduceLeDiff, Nat.reduceSub, Option.some.injEq, exists_eq_left', aft_s, aft_n, ite_true, ite_false, if_true, if_false, Nat.zero_le, Nat.le_refl, reduceCtorEq, nI_1]
      exact ih (l + 1) _ H' (c - 2) (n - 12) (by omega) hv C' (by omega) (by omega)
  have loop : ∀ (m a : Nat) (v : Int64) (a4 : Value) (H : AH) (c n : Nat), m + a = S → suL σ 6 0 (suS σ m a v) = sumF σ S → CW E P H0 x σ H → 10 * m + 12 ≤ c → 60 * m + 72 ≤ n → Ev E (d + 13) mL_sum K 38 [.ref x, .int (nI S), .long v, .retAddr 0, .int (nI a)] [] H c n := by
    intro m
    induction m with
    | zero =>
      intro a v a4 H c n hm hv C hc hn
      have hj : a = S := by omega
      subst hj
      have e1 : (nI a < nI a) = False := eq_false (nI_nlt (Nat.le_refl _) (by omega))
      rw [hL_sum_38]
      simp only [eL_sum_0, eL_sum_1, eL_sum_4, eL_sum_5, eL_sum_8, eL_sum_9, eL_sum_12, eL_sum_13, eL_sum_14, eL_sum_17, eL_sum_18, eL_sum_21, eL_sum_22, eL_sum_23, eL_sum_24, eL_sum_27, eL_sum_28, eL_sum_31, eL_sum_32, eL_sum_33, eL_sum_34, eL_sum_35, eL_sum_36, eL_sum_40, eL_sum_41, eL_sum_44, eL_sum_47, eL_sum_48, eL_sum_49, eL_sum_50, eL_sum_52, eL_sum_55, eL_sum_56, eL_sum_57, eL_sum_60, eL_sum_61, eL_sum_63, eL_sum_66, eL_sum_67, eL_sum_68, eL_sum_69, eL_sum_72, eL_sum_73, eL_sum_75, eL_sum_78, eL_sum_79, eL_sum_80, eL_sum_81, eL_sum_84, eL_sum_85, eL_sum_87, eL_sum_88, eL_sum_91, eL_sum_92, eL_sum_93, eL_sum_94, eL_sum_97, eL_sum_98, eL_sum_100, eL_sum_102, eL_sum_105, eL_sum_106, eL_sum_107, eL_sum_108, eL_sum_109, eL_sum_112, eL_sum_115, eL_sum_116, eL_sum_120, eL_sum_122, eL_sum_125, eL_sum_128, eL_sum_129, eL_sum_130, eL_sum_131, eL_sum_133, eL_sum_136, eL_sum_137, eL_sum_138, eL_sum_139, eL_sum_142, eL_sum_145, eL_sum_146, isA_r, isA_n, isI_i, isF_f, isL_l, is1_i, is1_r, is1_n, is1_f, true_and, and_true, List.length_cons, List.length_nil, Nat.reduceAdd, Nat.reduceLeDiff, Nat.reduceSub, Option.some.injEq, exists_eq_left', aft_s, aft_n, ite_true, ite_false, if_true, if_false, Nat.zero_le, Nat.le_refl, reduceCtorEq, e1]
      exact loop2 6 0 v H c n rfl hv C (by omega) (by omega)
    | succ m ih =>
      intro a v a4 H c n hm hv C hc hn
      have ha : a < S := by omega
      have e1 : (nI a < nI S) = True := eq_true (nI_lt ha (by omega))
      rw [hL_sum_38]
      simp only [eL_sum_0, eL_sum_1, eL_sum_4, eL_sum_5, eL_sum_8, eL_sum_9, eL_sum_12, eL_sum_13, eL_sum_14, eL_sum_17, eL_sum_18, eL_sum_21, eL_sum_22, eL_sum_23, eL_sum_24, eL_sum_27, eL_sum_28, eL_sum_31, eL_sum_32, eL_sum_33, eL_sum_34, eL_sum_35, eL_sum_36, eL_sum_40, eL_sum_41, eL_sum_44, eL_sum_47, eL_sum_48, eL_sum_49, eL_sum_50, eL_sum_52, eL_sum_55, eL_sum_56, eL_sum_57, eL_sum_60, eL_sum_61, eL_sum_63, eL_sum_66, eL_sum_67, eL_sum_68, eL_sum_69, eL_sum_72, eL_sum_73, eL_sum_75, eL_sum_78, eL_sum_79, eL_sum_80, eL_sum_81, eL_sum_84, eL_sum_85, eL_sum_87, eL_sum_88, eL_sum_91, eL_sum_92, eL_sum_93, eL_sum_94, eL_sum_97, eL_sum_98, eL_sum_100, eL_sum_102, eL_sum_105, eL_sum_106, eL_sum_107, eL_sum_108, eL_sum_109, eL_sum_112, eL_sum_115, eL_sum_116, eL_sum_120, eL_sum_122, eL_sum_125, eL_sum_128, eL_sum_129, eL_sum_130, eL_sum_131, eL_sum_133, eL_sum_136, eL_sum_137, eL_sum_138, eL_sum_139, eL_sum_142, eL_sum_145, eL_sum_146, isA_r, isA_n, isI_i, isF_f, isL_l, is1_i, is1_r, is1_n, is1_f, true_and, and_true, List.length_cons, List.length_nil, Nat.reduceAdd, Nat.reduceLeDiff, Nat.reduceSub, Option.some.injEq, exists_eq_left', aft_s, aft_n, ite_true, ite_false, if_true, if_false, Nat.zero_le, Nat.le_refl, reduceCtorEq, e1]
      refine invk 2 12 (by omega) (by omega) (h_front C O (by omega) (by omega) (fun H1 C1 => ?_))
      simp only [eL_sum_0, eL_sum_1, eL_sum_4, eL_sum_5, eL_sum_8, eL_sum_9, eL_sum_12, eL_sum_13, eL_sum_14, eL_sum_17, eL_sum_18, eL_sum_21, eL_sum_22, eL_sum_23, eL_sum_24, eL_sum_27, eL_sum_28, eL_sum_31, eL_sum_32, eL_sum_33, eL_sum_34, eL_sum_35, eL_sum_36, eL_sum_40, eL_sum_41, eL_sum_44, eL_sum_47, eL_sum_48, eL_sum_49, eL_sum_50, eL_sum_52, eL_sum_55, eL_sum_56, eL_sum_57, eL_sum_60, eL_sum_61, eL_sum_63, eL_sum_66, eL_sum_67, eL_sum_68, eL_sum_69, eL_sum_72, eL_sum_73, eL_sum_75, eL_sum_78, eL_sum_79, eL_sum_80, eL_sum_81, eL_sum_84, eL_sum_85, eL_sum_87, eL_sum_88, eL_sum_91, eL_sum_92, eL_sum_93, eL_sum_94, eL_sum_97, eL_sum_98, eL_sum_100, eL_sum_102, eL_sum_105, eL_sum_106, eL_sum_107, eL_sum_108, eL_sum_109, eL_sum_112, eL_sum_115, eL_sum_116, eL_sum_120, eL_sum_122, eL_sum_125, eL_sum_128, eL_sum_129, eL_sum_130, eL_sum_131, eL_sum_133, eL_sum_136, eL_sum_137, eL_sum_138, eL_sum_139, eL_sum_142, eL_sum_145, eL_sum_146, isA_r, isA_n, isI_i, isF_f, isL_l, is1_i, is1_r, is1_n, is1_f, true_and, and_true, List.length_cons, List.length_nil, Nat.reduceAdd, Nat.reduceLeDiff, Nat.reduceSub, Option.some.injEq, exists_eq_left', aft_s, aft_n, ite_true, ite_false, if_true, if_false, Nat.zero_le, Nat.le_refl, reduceCtorEq]
      refine invk 2 12 (by omega) (by omega) (h_isAttached C1 O (by omega) (by omega) (fun H2 C2 => ?_))
      simp only [eL_sum_0, eL_sum_1, eL_sum_4, eL_sum_5, eL_sum_8, eL_sum_9, eL_sum_12, eL_sum_13, eL_sum_14, eL_sum_17, eL_sum_18, eL_sum_21, eL_sum_22, eL_sum_23, eL_sum_24, eL_sum_27, eL_sum_28, eL_sum_31, eL_sum_32, eL_sum_33, eL_sum_34, eL_sum_35, eL_sum_36, eL_sum_40, eL_sum_41, eL_sum_44, eL_sum_47, eL_sum_48, eL_sum_49, eL_sum_50, eL_sum_52, eL_sum_55, eL_sum_56, eL_sum_57, eL_sum_60, eL_sum_61, eL_sum_63, eL_sum_66, eL_sum_67, eL_sum_68, eL_sum_69, eL_sum_72, eL_sum_73, eL_sum_75, eL_sum_78, eL_sum_79, eL_sum_80, eL_sum_81, eL_sum_84, eL_sum_85, eL_sum_87, eL_sum_88, eL_sum_91, eL_sum_92, eL_sum_93, eL_sum_94, eL_sum_97, eL_sum_98, eL_sum_100, eL_sum_102, eL_sum_105, eL_sum_106, eL_sum_107, eL_sum_108, eL_sum_109, eL_sum_112, eL_sum_115, eL_sum_116, eL_sum_120, eL_sum_122, eL_sum_125, eL_sum_128, eL_sum_129, eL_sum_130, eL_sum_131, eL_sum_133, eL_sum_136, eL_sum_137, eL_sum_138, eL_sum_139, eL_sum_142, eL_sum_145, eL_sum_146, isA_r, isA_n, isI_i, isF_f, isL_l, is1_i, is1_r, is1_n, is1_f, true_and, and_true, List.length_cons, List.length_nil, Nat.reduceAdd, Nat.reduceLeDiff, Nat.reduceSub, Option.some.injEq, exists_eq_left', aft_s, aft_n, ite_true, ite_false, if_true, if_false, Nat.zero_le, Nat.le_refl, reduceCtorEq]
      refine invk 2 12 (by omega) (by omega) (h_kept C2 O (by omega) (by omega) (fun H3 C3 => ?_))
      simp only [eL_sum_0, eL_sum_1, eL_sum_4, eL_sum_5, eL_sum_8, eL_sum_9, eL_sum_12, eL_sum_13, eL_sum_14, eL_sum_17, eL_sum_18, eL_sum_21, eL_sum_22, eL_sum_23, eL_sum_24, eL_sum_27, eL_sum_28, eL_sum_31, eL_sum_32, eL_sum_33, eL_sum_34, eL_sum_35, eL_sum_36, eL_sum_40, eL_sum_41, eL_sum_44, eL_sum_47, eL_sum_48, eL_sum_49, eL_sum_50, eL_sum_52, eL_sum_55, eL_sum_56, eL_sum_57, eL_sum_60, eL_sum_61, eL_sum_63, eL_sum_66, eL_sum_67, eL_sum_68, eL_sum_69, eL_sum_72, eL_sum_73, eL_sum_75, eL_sum_78, eL_sum_79, eL_sum_80, eL_sum_81, eL_sum_84, eL_sum_85, eL_sum_87, eL_sum_88, eL_sum_91, eL_sum_92, eL_sum_93, eL_sum_94, eL_sum_97, eL_sum_98, eL_sum_100, eL_sum_102, eL_sum_105, eL_sum_106, eL_sum_107, eL_sum_108, eL_sum_109, eL_sum_112, eL_sum_115, eL_sum_116, eL_sum_120, eL_sum_122, eL_sum_125, eL_sum_128, eL_sum_129, eL_sum_130, eL_sum_131, eL_sum_133, eL_sum_136, eL_sum_137, eL_sum_138, eL_sum_139, eL_sum_142, eL_sum_145, eL_sum_146, isA_r, isA_n, isI_i, isF_f, isL_l, is1_i, is1_r, is1_n, is1_f, true_and, and_true, List.length_cons, List.length_nil, Nat.reduceAdd, Nat.reduceLeDiff, Nat.reduceSub, Option.some.injEq, exists_eq_left', aft_s, aft_n, ite_true, ite_false, if_true, if_false, Nat.zero_le, Nat.le_refl, reduceCtorEq]
      refine invk 2 12 (by omega) (by omega) (h_commandAt C3 O (by omega) (by omega) (fun H4 C4 => ?_))
      simp only [eL_sum_0, eL_sum_1, eL_sum_4, eL_sum_5, eL_sum_8, eL_sum_9, eL_sum_12, eL_sum_13, eL_sum_14, eL_sum_17, eL_sum_18, eL_sum_21, eL_sum_22, eL_sum_23, eL_sum_24, eL_sum_27, eL_sum_28, eL_sum_31, eL_sum_32, eL_sum_33, eL_sum_34, eL_sum_35, eL_sum_36, eL_sum_40, eL_sum_41, eL_sum_44, eL_sum_47, eL_sum_48, eL_sum_49, eL_sum_50, eL_sum_52, eL_sum_55, eL_sum_56, eL_sum_57, eL_sum_60, eL_sum_61, eL_sum_63, eL_sum_66, eL_sum_67, eL_sum_68, eL_sum_69, eL_sum_72, eL_sum_73, eL_sum_75, eL_sum_78, eL_sum_79, eL_sum_80, eL_sum_81, eL_sum_84, eL_sum_85, eL_sum_87, eL_sum_88, eL_sum_91, eL_sum_92, eL_sum_93, eL_sum_94, eL_sum_97, eL_sum_98, eL_sum_100, eL_sum_102, eL_sum_105, eL_sum_106, eL_sum_107, eL_sum_108, eL_sum_109, eL_sum_112, eL_sum_115, eL_sum_116, eL_sum_120, eL_sum_122, eL_sum_125, eL_sum_128, eL_sum_129, eL_sum_130, eL_sum_131, eL_sum_133, eL_sum_136, eL_sum_137, eL_sum_138, eL_sum_139, eL_sum_142, eL_sum_145, eL_sum_146, isA_r, isA_n, isI_i, isF_f, isL_l, is1_i, is1_r, is1_n, is1_f, true_and, and_true, List.length_cons, List.length_nil, Nat.reduceAdd, Nat.reduceLeDiff, Nat.reduceSub, Option.some.injEq, exists_eq_left', aft_s, aft_n, ite_true, ite_false, if_true, if_false, Nat.zero_le, Nat.le_refl, reduceCtorEq]
      refine invk 2 12 (by omega) (by omega) (h_count C4 O (by omega) (by omega) (fun H5 C5 => ?_))
      simp only [eL_sum_0, eL_sum_1, eL_sum_4, eL_sum_5, eL_sum_8, eL_sum_9, eL_sum_12, eL_sum_13, eL_sum_14, eL_sum_17, eL_sum_18, eL_sum_21, eL_sum_22, eL_sum_23, eL_sum_24, eL_sum_27, eL_sum_28, eL_sum_31, eL_sum_32, eL_sum_33, eL_sum_34, eL_sum_35, eL_sum_36, eL_sum_40, eL_sum_41, eL_sum_44, eL_sum_47, eL_sum_48, eL_sum_49, eL_sum_50, eL_sum_52, eL_sum_55, eL_sum_56, eL_sum_57, eL_sum_60, eL_sum_61, eL_sum_63, eL_sum_66, eL_sum_67, eL_sum_68, eL_sum_69, eL_sum_72, eL_sum_73, eL_sum_75, eL_sum_78, eL_sum_79, eL_sum_80, eL_sum_81, eL_sum_84, eL_sum_85, eL_sum_87, eL_sum_88, eL_sum_91, eL_sum_92, eL_sum_93, eL_sum_94, eL_sum_97, eL_sum_98, eL_sum_100, eL_sum_102, eL_sum_105, eL_sum_106, eL_sum_107, eL_sum_108, eL_sum_109, eL_sum_112, eL_sum_115, eL_sum_116, eL_sum_120, eL_sum_122, eL_sum_125, eL_sum_128, eL_sum_129, eL_sum_130, eL_sum_131, eL_sum_133, eL_sum_136, eL_sum_137, eL_sum_138, eL_sum_139, eL_sum_142, eL_sum_145, eL_sum_146, isA_r, isA_n, isI_i, isF_f, isL_l, is1_i, is1_r, is1_n, is1_f, true_and, and_true, List.length_cons, List.length_nil, Nat.reduceAdd, Nat.reduceLeDiff, Nat.reduceSub, Option.some.injEq, exists_eq_left', aft_s, aft_n, ite_true, ite_false, if_true, if_false, Nat.zero_le, Nat.le_refl, reduceCtorEq, nI_1]
      exact ih (a + 1) _ a4 H5 _ _ (by omega) hv C5 (by omega) (by omega)
  simp only [eL_sum_0, eL_sum_1, eL_sum_4, eL_sum_5, eL_sum_8, eL_sum_9, eL_sum_12, eL_sum_13, eL_sum_14, eL_sum_17, eL_sum_18, eL_sum_21, eL_sum_22, eL_sum_23, eL_sum_24, eL_sum_27, eL_sum_28, eL_sum_31, eL_sum_32, eL_sum_33, eL_sum_34, eL_sum_35, eL_sum_36, eL_sum_40, eL_sum_41, eL_sum_44, eL_sum_47, eL_sum_48, eL_sum_49, eL_sum_50, eL_sum_52, eL_sum_55, eL_sum_56, eL_sum_57, eL_sum_60, eL_sum_61, eL_sum_63, eL_sum_66, eL_sum_67, eL_sum_68, eL_sum_69, eL_sum_72, eL_sum_73, eL_sum_75, eL_sum_78, eL_sum_79, eL_sum_80, eL_sum_81, eL_sum_84, eL_sum_85, eL_sum_87, eL_sum_88, eL_sum_91, eL_sum_92, eL_sum_93, eL_sum_94, eL_sum_97, eL_sum_98, eL_sum_100, eL_sum_102, eL_sum_105, eL_sum_106, eL_sum_107, eL_sum_108, eL_sum_109, eL_sum_112, eL_sum_115, eL_sum_116, eL_sum_120, eL_sum_122, eL_sum_125, eL_sum_128, eL_sum_129, eL_sum_130, eL_sum_131, eL_sum_133, eL_sum_136, eL_sum_137, eL_sum_138, eL_sum_139, eL_sum_142, eL_sum_145, eL_sum_146, isA_r, isA_n, isI_i, isF_f, isL_l, is1_i, is1_r, is1_n, is1_f, true_and, and_true, List.length_cons, List.length_nil, Nat.reduceAdd, Nat.reduceLeDiff, Nat.reduceSub, Option.some.injEq, exists_eq_left', aft_s, aft_n, ite_true, ite_false, if_true, if_false, Nat.zero_le, Nat.le_refl, reduceCtorEq]
  refine ⟨C.xo, inv0 (p_entries C ?_)⟩
  simp only [eL_sum_0, eL_sum_1, eL_sum_4, eL_sum_5, eL_sum_8, eL_sum_9, eL_sum_12, eL_sum_13, eL_sum_14, eL_sum_17, eL_sum_18, eL_sum_21, eL_sum_22, eL_sum_23, eL_sum_24, eL_sum_27, eL_sum_28, eL_sum_31, eL_sum_32, eL_sum_33, eL_sum_34, eL_sum_35, eL_sum_36, eL_sum_40, eL_sum_41, eL_sum_44, eL_sum_47, eL_sum_48, eL_sum_49, eL_sum_50, eL_sum_52, eL_sum_55, eL_sum_56, eL_sum_57, eL_sum_60, eL_sum_61, eL_sum_63, eL_sum_66, eL_sum_67, eL_sum_68, eL_sum_69, eL_sum_72, eL_sum_73, eL_sum_75, eL_sum_78, eL_sum_79, eL_sum_80, eL_sum_81, eL_sum_84, eL_sum_85, eL_sum_87, eL_sum_88, eL_sum_91, eL_sum_92, eL_sum_93, eL_sum_94, eL_sum_97, eL_sum_98, eL_sum_100, eL_sum_102, eL_sum_105, eL_sum_106, eL_sum_107, eL_sum_108, eL_sum_109, eL_sum_112, eL_sum_115, eL_sum_116, eL_sum_120, eL_sum_122, eL_sum_125, eL_sum_128, eL_sum_129, eL_sum_130, eL_sum_131, eL_sum_133, eL_sum_136, eL_sum_137, eL_sum_138, eL_sum_139, eL_sum_142, eL_sum_145, eL_sum_146, isA_r, isA_n, isI_i, isF_f, isL_l, is1_i, is1_r, is1_n, is1_f, true_and, and_true, List.length_cons, List.length_nil, Nat.reduceAdd, Nat.reduceLeDiff, Nat.reduceSub, Option.some.injEq, exists_eq_left', aft_s, aft_n, ite_true, ite_false, if_true, if_false, Nat.zero_le, Nat.le_refl, reduceCtorEq]
  refine ⟨C.xo, inv0 (p_worked C ?_)⟩
  simp only [eL_sum_0, eL_sum_1, eL_sum_4, eL_sum_5, eL_sum_8, eL_sum_9, eL_sum_12, eL_sum_13, eL_sum_14, eL_sum_17, eL_sum_18, eL_sum_21, eL_sum_22, eL_sum_23, eL_sum_24, eL_sum_27, eL_sum_28, eL_sum_31, eL_sum_32, eL_sum_33, eL_sum_34, eL_sum_35, eL_sum_36, eL_sum_40, eL_sum_41, eL_sum_44, eL_sum_47, eL_sum_48, eL_sum_49, eL_sum_50, eL_sum_52, eL_sum_55, eL_sum_56, eL_sum_57, eL_sum_60, eL_sum_61, eL_sum_63, eL_sum_66, eL_sum_67, eL_sum_68, eL_sum_69, eL_sum_72, eL_sum_73, eL_sum_75, eL_sum_78, eL_sum_79, eL_sum_80, eL_sum_81, eL_sum_84, eL_sum_85, eL_sum_87, eL_sum_88, eL_sum_91, eL_sum_92, eL_sum_93, eL_sum_94, eL_sum_97, eL_sum_98, eL_sum_100, eL_sum_102, eL_sum_105, eL_sum_106, eL_sum_107, eL_sum_108, eL_sum_109, eL_sum_112, eL_sum_115, eL_sum_116, eL_sum_120, eL_sum_122, eL_sum_125, eL_sum_128, eL_sum_129, eL_sum_130, eL_sum_131, eL_sum_133, eL_sum_136, eL_sum_137, eL_sum_138, eL_sum_139, eL_sum_142, eL_sum_145, eL_sum_146, isA_r, isA_n, isI_i, isF_f, isL_l, is1_i, is1_r, is1_n, is1_f, true_and, and_true, List.length_cons, List.length_nil, Nat.reduceAdd, Nat.reduceLeDiff, Nat.reduceSub, Option.some.injEq, exists_eq_left', aft_s, aft_n, ite_true, ite_false, if_true, if_false, Nat.zero_le, Nat.le_refl, reduceCtorEq]
  refine ⟨C.xo, inv0 (p_waiting C ?_)⟩
  simp only [eL_sum_0, eL_sum_1, eL_sum_4, eL_sum_5, eL_sum_8, eL_sum_9, eL_sum_12, eL_sum_13, eL_sum_14, eL_sum_17, eL_sum_18, eL_sum_21, eL_sum_22, eL_sum_23, eL_sum_24, eL_sum_27, eL_sum_28, eL_sum_31, eL_sum_32, eL_sum_33, eL_sum_34, eL_sum_35, eL_sum_36, eL_sum_40, eL_sum_41, eL_sum_44, eL_sum_47, eL_sum_48, eL_sum_49, eL_sum_50, eL_sum_52, eL_sum_55, eL_sum_56, eL_sum_57, eL_sum_60, eL_sum_61, eL_sum_63, eL_sum_66, eL_sum_67, eL_sum_68, eL_sum_69, eL_sum_72, eL_sum_73, eL_sum_75, eL_sum_78, eL_sum_79, eL_sum_80, eL_sum_81, eL_sum_84, eL_sum_85, eL_sum_87, eL_sum_88, eL_sum_91, eL_sum_92, eL_sum_93, eL_sum_94, eL_sum_97, eL_sum_98, eL_sum_100, eL_sum_102, eL_sum_105, eL_sum_106, eL_sum_107, eL_sum_108, eL_sum_109, eL_sum_112, eL_sum_115, eL_sum_116, eL_sum_120, eL_sum_122, eL_sum_125, eL_sum_128, eL_sum_129, eL_sum_130, eL_sum_131, eL_sum_133, eL_sum_136, eL_sum_137, eL_sum_138, eL_sum_139, eL_sum_142, eL_sum_145, eL_sum_146, isA_r, isA_n, isI_i, isF_f, isL_l, is1_i, is1_r, is1_n, is1_f, true_and, and_true, List.length_cons, List.length_nil, Nat.reduceAdd, Nat.reduceLeDiff, Nat.reduceSub, Option.some.injEq, exists_eq_left', aft_s, aft_n, ite_true, ite_false, if_true, if_false, Nat.zero_le, Nat.le_refl, reduceCtorEq]
  refine ⟨C.xo, inv0 (p_common C ?_)⟩
  simp only [eL_sum_0, eL_sum_1, eL_sum_4, eL_sum_5, eL_sum_8, eL_sum_9, eL_sum_12, eL_sum_13, eL_sum_14, eL_sum_17, eL_sum_18, eL_sum_21, eL_sum_22, eL_sum_23, eL_sum_24, eL_sum_27, eL_sum_28, eL_sum_31, eL_sum_32, eL_sum_33, eL_sum_34, eL_sum_35, eL_sum_36, eL_sum_40, eL_sum_41, eL_sum_44, eL_sum_47, eL_sum_48, eL_sum_49, eL_sum_50, eL_sum_52, eL_sum_55, eL_sum_56, eL_sum_57, eL_sum_60, eL_sum_61, eL_sum_63, eL_sum_66, eL_sum_67, eL_sum_68, eL_sum_69, eL_sum_72, eL_sum_73, eL_sum_75, eL_sum_78, eL_sum_79, eL_sum_80, eL_sum_81, eL_sum_84, eL_sum_85, eL_sum_87, eL_sum_88, eL_sum_91, eL_sum_92, eL_sum_93, eL_sum_94, eL_sum_97, eL_sum_98, eL_sum_100, eL_sum_102, eL_sum_105, eL_sum_106, eL_sum_107, eL_sum_108, eL_sum_109, eL_sum_112, eL_sum_115, eL_sum_116, eL_sum_120, eL_sum_122, eL_sum_125, eL_sum_128, eL_sum_129, eL_sum_130, eL_sum_131, eL_sum_133, eL_sum_136, eL_sum_137, eL_sum_138, eL_sum_139, eL_sum_142, eL_sum_145, eL_sum_146, isA_r, isA_n, isI_i, isF_f, isL_l, is1_i, is1_r, is1_n, is1_f, true_and, and_true, List.length_cons, List.length_nil, Nat.reduceAdd, Nat.reduceLeDiff, Nat.reduceSub, Option.some.injEq, exists_eq_left', aft_s, aft_n, ite_true, ite_false, if_true, if_false, Nat.zero_le, Nat.le_refl, reduceCtorEq]
  exact loop S 0 (su0 σ) (.retAddr 0) H c n rfl rfl C (by omega) (by omega)
end SML
