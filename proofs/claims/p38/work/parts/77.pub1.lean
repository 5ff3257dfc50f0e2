/-! public methods of the class: what each answers and leaves -/
def CW (E : EN) (P : Nat → Prop) (H0 : AH) (x : Nat) (σ : Sg) (H : AH) : Prop := ∃ A wr, A 0 0 = x ∧ CV E P H0 A σ (hdF σ) wr H
def ou (l : List Nat) (p : SP) : Out := if p.1 = 0 then .inl (some (.int p.2.1)) else .inr (l.getD (p.1 - 1) 0)
theorem aft_i {P : PT} {Q : Out → AH → Prop} {M : MD} {ini : Bool} {pc : Nat} {ls st : List Value} {X : Nat} {h : AH} {c n : Nat} (hM : mH M = []) (hi : ini = false) (hq : Q (.inr X) h) : Aft P Q M ini pc ls st (.inr X) h c n := by
  unfold Aft
  refine ⟨hi, ?_⟩
  have : hdl M pc X = none := by unfold hdl; rw [hM]; rfl
  rw [this]; exact hq
section PUB
variable {E : EN} {P : Nat → Prop} {H0 : AH} {x : Nat} {d : Nat} {K : Out → AH → Prop} {σ : Sg} {H : AH} {c n : Nat}
theorem p_kept (C : CW E P H0 x σ H) (O : Ok σ) {v : Int32} (hc : 2 ≤ c) (hn : 12 ≤ n) (hK : ∀ H', CW E P H0 x (q_kept σ v).2.2 H' → K (ou [2] (q_kept σ v)) H') : CRd TTv E (d + 12) mX4_kept [.ref x, .int v] H c n K := by
  obtain ⟨A, wr, rfl, C⟩ := C
  refine crd rfl ?_
  show Ev E (d + 11) mX4_kept K 0 [.ref (A 0 0), .int v] [] H c n
  simp only [eX4_kept_0, eX4_kept_1, eX4_kept_2, eX4_kept_5, eX4_kept_8, eX4_kept_11, isA_r, isA_n, isI_i, isF_f, isL_l, is1_i, is1_r, is1_n, is1_f, true_and, and_true, List.length_cons, List.length_nil, Nat.reduceAdd, Nat.reduceLeDiff, Nat.reduceSub, Option.some.injEq, exists_eq_left', aft_s, aft_n, ite_true, ite_false, if_true, if_false, Nat.zero_le, Nat.le_refl, reduceCtorEq]
  refine ⟨C.oT, invk 1 6 (by omega) (by omega) (k_sesNum C (by omega) (by omega) (fun s hs e => ?_) (fun e => ?_))⟩
  · have q : q_kept σ v = (0, nI (s_hi σ s).length, σ) := by unfold q_kept; rw [e]
    rw [q] at hK
    simp only [eX4_kept_0, eX4_kept_1, eX4_kept_2, eX4_kept_5, eX4_kept_8, eX4_kept_11, isA_r, isA_n, isI_i, isF_f, isL_l, is1_i, is1_r, is1_n, is1_f, true_and, and_true, List.length_cons, List.length_nil, Nat.reduceAdd, Nat.reduceLeDiff, Nat.reduceSub, Option.some.injEq, exists_eq_left', aft_s, aft_n, ite_true, ite_false, if_true, if_false, Nat.zero_le, Nat.le_refl, reduceCtorEq, ob_of (C.ses hs), sg1, ob_of (C.his hs), hg1]
    exact hK H ⟨A, wr, rfl, C⟩
  · have q : q_kept σ v = (1, 0, σ) := by unfold q_kept; rw [e]
    rw [q] at hK
    exact aft_i rfl rfl (hK H ⟨A, wr, rfl, C⟩)
theorem p_isAttached (C : CW E P H0 x σ H) (O : Ok σ) {v : Int32} (hc : 2 ≤ c) (hn : 12 ≤ n) (hK : ∀ H', CW E P H0 x (q_isAttached σ v).2.2 H' → K (ou [2] (q_isAttached σ v)) H') : CRd TTv E (d + 12) mX4_isAttached [.ref x, .int v] H c n K := by
  obtain ⟨A, wr, rfl, C⟩ := C
  refine crd rfl ?_
  show Ev E (d + 11) mX4_isAttached K 0 [.ref (A 0 0), .int v] [] H c n
  simp only [eX4_isAttached_0, eX4_isAttached_1, eX4_isAttached_2, eX4_isAttached_5, eX4_isAttached_8, isA_r, isA_n, isI_i, isF_f, isL_l, is1_i, is1_r, is1_n, is1_f, true_and, and_true, List.length_cons, List.length_nil, Nat.reduceAdd, Nat.reduceLeDiff, Nat.reduceSub, Option.some.injEq, exists_eq_left', aft_s, aft_n, ite_true, ite_false, if_true, if_false, Nat.zero_le, Nat.le_refl, reduceCtorEq]
  refine ⟨C.oT, invk 1 6 (by omega) (by omega) (k_sesNum C (by omega) (by omega) (fun s hs e => ?_) (fun e => ?_))⟩
  · have q : q_isAttached σ v = (0, b2 (!s_dr σ s), σ) := by unfold q_isAttached; rw [e]
    rw [q] at hK
    simp only [eX4_isAttached_0, eX4_isAttached_1, eX4_isAttached_2, eX4_isAttached_5, eX4_isAttached_8, isA_r, isA_n, isI_i, isF_f, isL_l, is1_i, is1_r, is1_n, is1_f, true_and, and_true, List.length_cons, List.length_nil, Nat.reduceAdd, Nat.reduceLeDiff, Nat.reduceSub, Option.some.injEq, exists_eq_left', aft_s, aft_n, ite_true, ite_false, if_true, if_false, Nat.zero_le, Nat.le_refl, reduceCtorEq, ob_of (C.ses hs), sg3, ok01_b2]
    exact hK H ⟨A, wr, rfl, C⟩
  · have q : q_isAttached σ v = (1, 0, σ) := by unfold q_isAttached; rw [e]
    rw [q] at hK
    exact aft_i rfl rfl (hK H ⟨A, wr, rfl, C⟩)
theorem p_state (C : CW E P H0 x σ H) (O : Ok σ) {v : Int32} (hc : 2 ≤ c) (hn : 12 ≤ n) (hK : ∀ H', CW E P H0 x (q_state σ v).2.2 H' → K (ou [2] (q_state σ v)) H') : CRd TTv E (d + 12) mX4_state [.ref x, .int v] H c n K := by
  obtain ⟨A, wr, rfl, C⟩ := C
  refine crd rfl ?_
  show Ev E (d + 11) mX4_state K 0 [.ref (A 0 0), .int v] [] H c n
  simp only [eX4_state_0, eX4_state_1, eX4_state_2, eX4_state_5, eX4_state_8, isA_r, isA_n, isI_i, isF_f, isL_l, is1_i, is1_r, is1_n, is1_f, true_and, and_true, List.length_cons, List.length_nil, Nat.reduceAdd, Nat.reduceLeDiff, Nat.reduceSub, Option.some.injEq, exists_eq_left', aft_s, aft_n, ite_true, ite_false, if_true, if_false, Nat.zero_le, Nat.le_refl, reduceCtorEq]
  refine ⟨C.oT, invk 1 6 (by omega) (by omega) (k_jobNum C (by omega) (by omega) (fun s hs e => ?_) (fun e => ?_))⟩
  · have q : q_state σ v = (0, nI (s_st σ s), σ) := by unfold q_state; rw [e]
    rw [q] at hK
    simp only [eX4_state_0, eX4_state_1, eX4_state_2, eX4_state_5, eX4_state_8, isA_r, isA_n, isI_i, isF_f, isL_l, is1_i, is1_r, is1_n, is1_f, true_and, and_true, List.length_cons, List.length_nil, Nat.reduceAdd, Nat.reduceLeDiff, Nat.reduceSub, Option.some.injEq, exists_eq_left', aft_s, aft_n, ite_true, ite_false, if_true, if_false, Nat.zero_le, Nat.le_refl, reduceCtorEq, ob_of (C.job hs), jg4, (st_ch (C.stk hs)).2.2]
    exact hK H ⟨A, wr, rfl, C⟩
  · have q : q_state σ v = (1, 0, σ) := by unfold q_state; rw [e]
    rw [q] at hK
    exact aft_i rfl rfl (hK H ⟨A, wr, rfl, C⟩)
theorem p_toDo (C : CW E P H0 x σ H) (O : Ok σ) {v : Int32} (hc : 2 ≤ c) (hn : 12 ≤ n) (hK : ∀ H', CW E P H0 x (q_toDo σ v).2.2 H' → K (ou [2] (q_toDo σ v)) H') : CRd TTv E (d + 12) mX4_toDo [.ref x, .int v] H c n K := by
  obtain ⟨A, wr, rfl, C⟩ := C
  refine crd rfl ?_
  show Ev E (d + 11) mX4_toDo K 0 [.ref (A 0 0), .int v] [] H c n
  simp only [eX4_toDo_0, eX4_toDo_1, eX4_toDo_2, eX4_toDo_5, eX4_toDo_8, isA_r, isA_n, isI_i, isF_f, isL_l, is1_i, is1_r, is1_n, is1_f, true_and, and_true, List.length_cons, List.length_nil, Nat.reduceAdd, Nat.reduceLeDiff, Nat.reduceSub, Option.some.injEq, exists_eq_left', aft_s, aft_n, ite_true, ite_false, if_true, if_false, Nat.zero_le, Nat.le_refl, reduceCtorEq]
  refine ⟨C.oT, invk 1 6 (by omega) (by omega) (k_jobNum C (by omega) (by omega) (fun s hs e => ?_) (fun e => ?_))⟩
  · have q : q_toDo σ v = (0, nI (s_lf σ s), σ) := by unfold q_toDo; rw [e]
    rw [q] at hK
    simp only [eX4_toDo_0, eX4_toDo_1, eX4_toDo_2, eX4_toDo_5, eX4_toDo_8, isA_r, isA_n, isI_i, isF_f, isL_l, is1_i, is1_r, is1_n, is1_f, true_and, and_true, List.length_cons, List.length_nil, Nat.reduceAdd, Nat.reduceLeDiff, Nat.reduceSub, Option.some.injEq, exists_eq_left', aft_s, aft_n, ite_true, ite_false, if_true, if_false, Nat.zero_le, Nat.le_refl, reduceCtorEq, ob_of (C.job hs), jg3]
    exact hK H ⟨A, wr, rfl, C⟩
  · have q : q_toDo σ v = (1, 0, σ) := by unfold q_toDo; rw [e]
    rw [q] at hK
    exact aft_i rfl rfl (hK H ⟨A, wr, rfl, C⟩)
theorem p_sessionOf (C : CW E P H0 x σ H) (O : Ok σ) {v : Int32} (hc : 2 ≤ c) (hn : 12 ≤ n) (hK : ∀ H', CW E P H0 x (q_sessionOf σ v).2.2 H' → K (ou [2] (q_sessionOf σ v)) H') : CRd TTv E (d + 12) mX4_sessionOf [.ref x, .int v] H c n K := by
  obtain ⟨A, wr, rfl, C⟩ := C
  refine crd rfl ?_
  show Ev E (d + 11) mX4_sessionOf K 0 [.ref (A 0 0), .int v] [] H c n
  simp only [eX4_sessionOf_0, eX4_sessionOf_1, eX4_sessionOf_2, eX4_sessionOf_5, eX4_sessionOf_8, eX4_sessionOf_11, isA_r, isA_n, isI_i, isF_f, isL_l, is1_i, is1_r, is1_n, is1_f, true_and, and_true, List.length_cons, List.length_nil, Nat.reduceAdd, Nat.reduceLeDiff, Nat.reduceSub, Option.some.injEq, exists_eq_left', aft_s, aft_n, ite_true, ite_false, if_true, if_false, Nat.zero_le, Nat.le_refl, reduceCtorEq]
  refine ⟨C.oT, invk 1 6 (by omega) (by omega) (k_jobNum C (by omega) (by omega) (fun s hs e => ?_) (fun e => ?_))⟩
  · have q : q_sessionOf σ v = (0, nI (s_se σ s), σ) := by unfold q_sessionOf; rw [e]
    rw [q] at hK
    simp only [eX4_sessionOf_0, eX4_sessionOf_1, eX4_sessionOf_2, eX4_sessionOf_5, eX4_sessionOf_8, eX4_sessionOf_11, isA_r, isA_n, isI_i, isF_f, isL_l, is1_i, is1_r, is1_n, is1_f, true_and, and_true, List.length_cons, List.length_nil, Nat.reduceAdd, Nat.reduceLeDiff, Nat.reduceSub, Option.some.injEq, exists_eq_left', aft_s, aft_n, ite_true, ite_false, if_true, if_false, Nat.zero_le, Nat.le_refl, reduceCtorEq, ob_of (C.job hs), jg1, ob_of (C.ses (O.job hs).1), sg0]
    exact hK H ⟨A, wr, rfl, C⟩
  · have q : q_sessionOf σ v = (1, 0, σ) := by unfold q_sessionOf; rw [e]
    rw [q] at hK
    exact aft_i rfl rfl (hK H ⟨A, wr, rfl, C⟩)
theorem p_holds (C : CW E P H0 x σ H) (O : Ok σ) {v : Int32} (hc : 2 ≤ c) (hn : 12 ≤ n) (hK : ∀ H', CW E P H0 x (q_holds σ v).2.2 H' → K (ou [2] (q_holds σ v)) H') : CRd TTv E (d + 12) mX4_holds [.ref x, .int v] H c n K := by
  obtain ⟨A, wr, rfl, C⟩ := C
  refine crd rfl ?_
  show Ev E (d + 11) mX4_holds K 0 [.ref (A 0 0), .int v] [] H c n
  simp only [eX4_holds_0, eX4_holds_1, eX4_holds_2, eX4_holds_5, eX4_holds_8, isA_r, isA_n, isI_i, isF_f, isL_l, is1_i, is1_r, is1_n, is1_f, true_and, and_true, List.length_cons, List.length_nil, Nat.reduceAdd, Nat.reduceLeDiff, Nat.reduceSub, Option.some.injEq, exists_eq_left', aft_s, aft_n, ite_true, ite_false, if_true, if_false, Nat.zero_le, Nat.le_refl, reduceCtorEq]
  refine ⟨C.oT, invk 1 6 (by omega) (by omega) (k_jobNum C (by omega) (by omega) (fun s hs e => ?_) (fun e => ?_))⟩
  · have q : q_holds σ v = (0, b2 (s_hl σ s), σ) := by unfold q_holds; rw [e]
    rw [q] at hK
    simp only [eX4_holds_0, eX4_holds_1, eX4_holds_2, eX4_holds_5, eX4_holds_8, isA_r, isA_n, isI_i, isF_f, isL_l, is1_i, is1_r, is1_n, is1_f, true_and, and_true, List.length_cons, List.length_nil, Nat.reduceAdd, Nat.reduceLeDiff, Nat.reduceSub, Option.some.injEq, exists_eq_left', aft_s, aft_n, ite_true, ite_false, if_true, if_false, Nat.zero_le, Nat.le_refl, reduceCtorEq, ob_of (C.job hs), jg5, ok01_b2]
    exact hK H ⟨A, wr, rfl, C⟩
  · have q : q_holds σ v = (1, 0, σ) := by unfold q_holds; rw [e]
    rw [q] at hK
    exact aft_i rfl rfl (hK H ⟨A, wr, rfl, C⟩)
theorem p_front (C : CW E P H0 x σ H) (O : Ok σ) {v : Int32} (hc : 2 ≤ c) (hn : 12 ≤ n) (hK : ∀ H', CW E P H0 x (q_front σ v).2.2 H' → K (ou [2, 3] (q_front σ v)) H') : CRd TTv E (d + 12) mX4_front [.ref x, .int v] H c n K := by
  obtain ⟨A, wr, rfl, C⟩ := C
  refine crd rfl ?_
  show Ev E (d + 11) mX4_front K 0 [.ref (A 0 0), .int v] [] H c n
  simp only [eX4_front_0, eX4_front_1, eX4_front_2, eX4_front_5, eX4_front_8, eX4_front_11, isA_r, isA_n, isI_i, isF_f, isL_l, is1_i, is1_r, is1_n, is1_f, true_and, and_true, List.length_cons, List.length_nil, Nat.reduceAdd, Nat.reduceLeDiff, Nat.reduceSub, Option.some.injEq, exists_eq_left', aft_s, aft_n, ite_true, ite_false, if_true, if_false, Nat.zero_le, Nat.le_refl, reduceCtorEq]
  refine ⟨C.oT, invk 1 6 (by omega) (by omega) (k_sesNum C (by omega) (by omega) (fun s hs e => ?_) (fun e => ?_))⟩
  · simp only [eX4_front_0, eX4_front_1, eX4_front_2, eX4_front_5, eX4_front_8, eX4_front_11, isA_r, isA_n, isI_i, isF_f, isL_l, is1_i, is1_r, is1_n, is1_f, true_and, and_true, List.length_cons, List.length_nil, Nat.reduceAdd, Nat.reduceLeDiff, Nat.reduceSub, Option.some.injEq, exists_eq_left', aft_s, aft_n, ite_true, ite_false, if_true, if_false, Nat.zero_le, Nat.le_refl, reduceCtorEq]
    refine invk 1 6 (by omega) (by omega) (k_fro C hs (by omega) (by omega) (fun j hj => ?_) (fun hj => ?_))
    · have q : q_front σ v = (0, nI j, σ) := by unfold q_front; rw [e]; dsimp only; rw [hj]
      have h30 := (O.2.2.2.2.2.1.1 s j hj).1
      rw [q] at hK
      simp only [eX4_front_0, eX4_front_1, eX4_front_2, eX4_front_5, eX4_front_8, eX4_front_11, isA_r, isA_n, isI_i, isF_f, isL_l, is1_i, is1_r, is1_n, is1_f, true_and, and_true, List.length_cons, List.length_nil, Nat.reduceAdd, Nat.reduceLeDiff, Nat.reduceSub, Option.some.injEq, exists_eq_left', aft_s, aft_n, ite_true, ite_false, if_true, if_false, Nat.zero_le, Nat.le_refl, reduceCtorEq, ob_of (C.job h30), jg0]
      exact hK H ⟨A, wr, rfl, C⟩
    · have q : q_front σ v = (2, 0, σ) := by unfold q_front; rw [e]; dsimp only; rw [hj]
      rw [q] at hK
      exact aft_i rfl rfl (hK H ⟨A, wr, rfl, C⟩)
  · have q : q_front σ v = (1, 0, σ) := by unfold q_front; rw [e]
    rw [q] at hK
    exact aft_i rfl rfl (hK H ⟨A, wr, rfl, C⟩)
theorem p_toBack (C : CW E P H0 x σ H) (O : Ok σ) {v : Int32} (hc : 2 ≤ c) (hn : 12 ≤ n) (hK : ∀ H', CW E P H0 x (q_toBack σ v).2.2 H' → K (ou [2, 3] (q_toBack σ v)) H') : CRd TTv E (d + 12) mX4_toBack [.ref x, .int v] H c n K := by
  obtain ⟨A, wr, rfl, C⟩ := C
  refine crd rfl ?_
  show Ev E (d + 11) mX4_toBack K 0 [.ref (A 0 0), .int v, .retAddr 0, .retAddr 0] [] H c n
  simp only [eX4_toBack_0, eX4_toBack_1, eX4_toBack_2, eX4_toBack_5, eX4_toBack_6, eX4_toBack_7, eX4_toBack_10, eX4_toBack_11, eX4_toBack_12, eX4_toBack_13, eX4_toBack_16, eX4_toBack_17, eX4_toBack_20, isA_r, isA_n, isI_i, isF_f, isL_l, is1_i, is1_r, is1_n, is1_f, true_and, and_true, List.length_cons, List.length_nil, Nat.reduceAdd, Nat.reduceLeDiff, Nat.reduceSub, Option.some.injEq, exists_eq_left', aft_s, aft_n, ite_true, ite_false, if_true, if_false, Nat.zero_le, Nat.le_refl, reduceCtorEq]
  refine ⟨C.oT, invk 1 6 (by omega) (by omega) (k_sesNum C (by omega) (by omega) (fun s hs e => ?_) (fun e => ?_))⟩
  · simp only [eX4_toBack_0, eX4_toBack_1, eX4_toBack_2, eX4_toBack_5, eX4_toBack_6, eX4_toBack_7, eX4_toBack_10, eX4_toBack_11, eX4_toBack_12, eX4_toBack_13, eX4_toBack_16, eX4_toBack_17, eX4_toBack_20, isA_r, isA_n, isI_i, isF_f, isL_l, is1_i, is1_r, is1_n, is1_f, true_and, and_true, List.length_cons, List.length_nil, Nat.reduceAdd, Nat.reduceLeDiff, Nat.reduceSub, Option.some.injEq, exists_eq_left', aft_s, aft_n, ite_true, ite_false, if_true, if_false, Nat.zero_le, Nat.le_refl, reduceCtorEq]
    refine invk 1 6 (by omega) (by omega) (k_fro C hs (by omega) (by omega) (fun j hj => ?_) (fun hj => ?_))
    · have q : q_toBack σ v = (0, nI j, w_fr σ (upN (s_fr σ) s none)) := by unfold q_toBack; rw [e]; dsimp only; rw [hj]
      have h30 := (O.2.2.2.2.2.1.1 s j hj).1
      rw [q] at hK
      have hd : hdF (w_fr σ (upN (s_fr σ) s none)) = hdF σ := hd_c g_nJ_fr g_hl_fr g_nd_fr
      have C1 := C.pfr (v := none) hs
      rw [← hd] at C1
      have e4 : (.null : Value) = jrf A none := rfl
      have hj2 : j < s_nJ (w_fr σ (upN (s_fr σ) s none)) := by rw [g_nJ_fr]; exact h30
      simp only [eX4_toBack_0, eX4_toBack_1, eX4_toBack_2, eX4_toBack_5, eX4_toBack_6, eX4_toBack_7, eX4_toBack_10, eX4_toBack_11, eX4_toBack_12, eX4_toBack_13, isA_r, isA_n, isI_i, isF_f, isL_l, is1_i, is1_r, is1_n, is1_f, true_and, and_true, List.length_cons, List.length_nil, Nat.reduceAdd, Nat.reduceLeDiff, Nat.reduceSub, Option.some.injEq, exists_eq_left', aft_s, aft_n, ite_true, ite_false, if_true, if_false, Nat.zero_le, Nat.le_refl, reduceCtorEq, ob_of (C.ses hs), sgl, Nat.reduceLT]
      rw [e4, sf_fr]
      generalize w_fr σ (upN (s_fr σ) s none) = σ1 at *
      simp only [eX4_toBack_0, eX4_toBack_1, eX4_toBack_2, eX4_toBack_5, eX4_toBack_6, eX4_toBack_7, eX4_toBack_10, eX4_toBack_11, eX4_toBack_12, eX4_toBack_13, eX4_toBack_16, eX4_toBack_17, eX4_toBack_20, isA_r, isA_n, isI_i, isF_f, isL_l, is1_i, is1_r, is1_n, is1_f, true_and, and_true, List.length_cons, List.length_nil, Nat.reduceAdd, Nat.reduceLeDiff, Nat.reduceSub, Option.some.injEq, exists_eq_left', aft_s, aft_n, ite_true, ite_false, if_true, if_false, Nat.zero_le, Nat.le_refl, reduceCtorEq, ob_of (C1.job hj2), jg0]
      exact hK _ ⟨A, wr, rfl, C1⟩
    · have q : q_toBack σ v = (2, 0, σ) := by unfold q_toBack; rw [e]; dsimp only; rw [hj]
      rw [q] at hK
      exact aft_i rfl rfl (hK H ⟨A, wr, rfl, C⟩)
  · have q : q_toBack σ v = (1, 0, σ) := by unfold q_toBack; rw [e]
    rw [q] at hK
    exact aft_i rfl rfl (hK H ⟨A, wr, rfl, C⟩)
theorem p_commandAt (C : CW E P H0 x σ H) (O : Ok σ) {v w : Int32} (hc : 2 ≤ c) (hn : 12 ≤ n) (hK : ∀ H', CW E P H0 x (q_commandAt σ v w).2.2 H' → K (ou [2, 3] (q_commandAt σ v w)) H') : CRd TTv E (d + 12) mX4_commandAt [.ref x, .int v, .int w] H c n K := by
  obtain ⟨A, wr, rfl, C⟩ := C
  refine crd rfl ?_
  show Ev E (d + 11) mX4_commandAt K 0 [.ref (A 0 0), .int v, .int w] [] H c n
  simp only [eX4_commandAt_0, eX4_commandAt_1, eX4_commandAt_2, eX4_commandAt_5, eX4_commandAt_8, eX4_commandAt_9, eX4_commandAt_12, isA_r, isA_n, isI_i, isF_f, isL_l, is1_i, is1_r, is1_n, is1_f, true_and, and_true, List.length_cons, List.length_nil, Nat.reduceAdd, Nat.reduceLeDiff, Nat.reduceSub, Option.some.injEq, exists_eq_left', aft_s, aft_n, ite_true, ite_false, if_true, if_false, Nat.zero_le, Nat.le_refl, reduceCtorEq]
  refine ⟨C.oT, invk 1 6 (by omega) (by omega) (k_sesNum C (by omega) (by omega) (fun s hs e => ?_) (fun e => ?_))⟩
  · simp only [eX4_commandAt_0, eX4_commandAt_1, eX4_commandAt_2, eX4_commandAt_5, eX4_commandAt_8, eX4_commandAt_9, eX4_commandAt_12, isA_r, isA_n, isI_i, isF_f, isL_l, is1_i, is1_r, is1_n, is1_f, true_and, and_true, List.length_cons, List.length_nil, Nat.reduceAdd, Nat.reduceLeDiff, Nat.reduceSub, Option.some.injEq, exists_eq_left', aft_s, aft_n, ite_true, ite_false, if_true, if_false, Nat.zero_le, Nat.le_refl, reduceCtorEq, ob_of (C.ses hs), sg1]
    refine invk 1 6 (by omega) (by omega) (k_cmd (C.hl hs (O.2.2.2.2.2.2.2.1.1 s).1) (by omega) (by omega) (fun b hb => ?_) (fun hb => ?_))
    · have q : q_commandAt σ v w = (0, nI ((s_hi σ s).getD ((s_hi σ s).length - 1 - b) 0), σ) := by unfold q_commandAt; rw [e]; dsimp only; rw [hb]
      rw [q] at hK
      simp only [eX4_commandAt_0, eX4_commandAt_1, eX4_commandAt_2, eX4_commandAt_5, eX4_commandAt_8, eX4_commandAt_9, eX4_commandAt_12, isA_r, isA_n, isI_i, isF_f, isL_l, is1_i, is1_r, is1_n, is1_f, true_and, and_true, List.length_cons, List.length_nil, Nat.reduceAdd, Nat.reduceLeDiff, Nat.reduceSub, Option.some.injEq, exists_eq_left', aft_s, aft_n, ite_true, ite_false, if_true, if_false, Nat.zero_le, Nat.le_refl, reduceCtorEq]
      exact hK H ⟨A, wr, rfl, C⟩
    · have q : q_commandAt σ v w = (2, 0, σ) := by unfold q_commandAt; rw [e]; dsimp only; rw [hb]
      rw [q] at hK
      exact aft_i rfl rfl (hK H ⟨A, wr, rfl, C⟩)
  · have q : q_commandAt σ v w = (1, 0, σ) := by unfold q_commandAt; rw [e]
    rw [q] at hK
    exact aft_i rfl rfl (hK H ⟨A, wr, rfl, C⟩)
theorem p_commonAt (C : CW E P H0 x σ H) (O : Ok σ) {v : Int32} (hc : 2 ≤ c) (hn : 12 ≤ n) (hK : ∀ H', CW E P H0 x (q_commonAt σ v).2.2 H' → K (ou [3] (q_commonAt σ v)) H') : CRd TTv E (d + 12) mX4_commonAt [.ref x, .int v] H c n K := by
  obtain ⟨A, wr, rfl, C⟩ := C
  refine crd rfl ?_
  show Ev E (d + 11) mX4_commonAt K 0 [.ref (A 0 0), .int v] [] H c n
  simp only [eX4_commonAt_0, eX4_commonAt_1, eX4_commonAt_4, eX4_commonAt_5, eX4_commonAt_8, isA_r, isA_n, isI_i, isF_f, isL_l, is1_i, is1_r, is1_n, is1_f, true_and, and_true, List.length_cons, List.length_nil, Nat.reduceAdd, Nat.reduceLeDiff, Nat.reduceSub, Option.some.injEq, exists_eq_left', aft_s, aft_n, ite_true, ite_false, if_true, if_false, Nat.zero_le, Nat.le_refl, reduceCtorEq, ob_of C.top, og4]
  refine invk 1 6 (by omega) (by omega) (k_cmd (C.hc O.2.2.2.2.2.2.2.1.2.1) (by omega) (by omega) (fun b hb => ?_) (fun hb => ?_))
  · have q : q_commonAt σ v = (0, nI ((s_cm σ).getD ((s_cm σ).length - 1 - b) 0), σ) := by unfold q_commonAt; rw [hb]
    rw [q] at hK
    simp only [eX4_commonAt_0, eX4_commonAt_1, eX4_commonAt_4, eX4_commonAt_5, eX4_commonAt_8, isA_r, isA_n, isI_i, isF_f, isL_l, is1_i, is1_r, is1_n, is1_f, true_and, and_true, List.length_cons, List.length_nil, Nat.reduceAdd, Nat.reduceLeDiff, Nat.reduceSub, Option.some.injEq, exists_eq_left', aft_s, aft_n, ite_true, ite_false, if_true, if_false, Nat.zero_le, Nat.le_refl, reduceCtorEq]
    exact hK H ⟨A, wr, rfl, C⟩
  · have q : q_commonAt σ v = (1, 0, σ) := by unfold q_commonAt; rw [hb]
    rw [q] at hK
    exact aft_i rfl rfl (hK H ⟨A, wr, rfl, C⟩)
theorem p_holder (C : CW E P H0 x σ H) (O : Ok σ) {v : Int32} (hc : 2 ≤ c) (hn : 12 ≤ n) (hK : ∀ H', CW E P H0 x (q_holder σ v).2.2 H' → K (ou [4] (q_holder σ v)) H') : CRd TTv E (d + 12) mX4_holder [.ref x, .int v] H c n K := by
  obtain ⟨A, wr, rfl, C⟩ := C
  refine crd rfl ?_
  show Ev E (d + 11) mX4_holder K 0 [.ref (A 0 0), .int v] [] H c n
  simp only [eX4_holder_0, eX4_holder_1, eX4_holder_4, eX4_holder_5, eX4_holder_8, eX4_holder_9, eX4_holder_10, isA_r, isA_n, isI_i, isF_f, isL_l, is1_i, is1_r, is1_n, is1_f, true_and, and_true, List.length_cons, List.length_nil, Nat.reduceAdd, Nat.reduceLeDiff, Nat.reduceSub, Option.some.injEq, exists_eq_left', aft_s, aft_n, ite_true, ite_false, if_true, if_false, Nat.zero_le, Nat.le_refl, reduceCtorEq]
  refine invk 1 6 (by omega) (by omega) (k_lock (by omega) (by omega) (fun l hl ev hb => ?_) (fun hb => ?_))
  · have q : q_holder σ v = (0, o2 (hdF σ l), σ) := by unfold q_holder; rw [hb]
    rw [q] at hK
    subst ev
    have C0 := C
    obtain ⟨Z, X, C, -⟩ := C
    have e3 : x_G X 4 l = o2 (hdF σ l) := C.rl.1 l hl
    simp only [eX4_holder_0, eX4_holder_1, eX4_holder_4, eX4_holder_5, eX4_holder_8, eX4_holder_9, eX4_holder_10, isA_r, isA_n, isI_i, isF_f, isL_l, is1_i, is1_r, is1_n, is1_f, true_and, and_true, List.length_cons, List.length_nil, Nat.reduceAdd, Nat.reduceLeDiff, Nat.reduceSub, Option.some.injEq, exists_eq_left', aft_s, aft_n, ite_true, ite_false, if_true, if_false, Nat.zero_le, Nat.le_refl, reduceCtorEq, ob_of C.top, og3, rdI_of C.hol, inB_nI hl (by omega), nI_clamp (show l < 2 ^ 31 by omega), e3]
    exact hK H ⟨A, wr, rfl, C0⟩
  · have q : q_holder σ v = (1, 0, σ) := by unfold q_holder; rw [hb]
    rw [q] at hK
    exact aft_i rfl rfl (hK H ⟨A, wr, rfl, C⟩)
theorem p_waitingAt (C : CW E P H0 x σ H) (O : Ok σ) {v : Int32} (hc : 2 ≤ c) (hn : 12 ≤ n) (hK : ∀ H', CW E P H0 x (q_waitingAt σ v).2.2 H' → K (ou [3] (q_waitingAt σ v)) H') : CRd TTv E (d + 12) mX4_waitingAt [.ref x, .int v] H c n K := by
  obtain ⟨A, wr, rfl, C⟩ := C
  refine crd rfl ?_
  show Ev E (d + 11) mX4_waitingAt K 0 [.ref (A 0 0), .int v] [] H c n
  have h30 := C.od30
  rcases ix_case (v := v) (n := (s_od σ).length) (by omega) with ⟨g1, g2⟩ | ⟨g1, g2, g3⟩ | ⟨j, g1, rfl, g2, g3, g4⟩
  · have q : q_waitingAt σ v = (1, 0, σ) := by unfold q_waitingAt; rw [g2]
    rw [q] at hK
    simp only [eX4_waitingAt_0, eX4_waitingAt_1, eX4_waitingAt_4, eX4_waitingAt_5, eX4_waitingAt_6, eX4_waitingAt_9, eX4_waitingAt_12, eX4_waitingAt_15, eX4_waitingAt_18, eX4_waitingAt_25, eX4_waitingAt_26, eX4_waitingAt_29, eX4_waitingAt_30, eX4_waitingAt_33, eX4_waitingAt_36, eX4_waitingAt_39, isA_r, isA_n, isI_i, isF_f, isL_l, is1_i, is1_r, is1_n, is1_f, true_and, and_true, List.length_cons, List.length_nil, Nat.reduceAdd, Nat.reduceLeDiff, Nat.reduceSub, Option.some.injEq, exists_eq_left', aft_s, aft_n, ite_true, ite_false, if_true, if_false, Nat.zero_le, Nat.le_refl, reduceCtorEq, g1, Nat.le_add_left, show 1 ≤ c by omega, show 6 ≤ n by omega]
    exact hK H ⟨A, wr, rfl, C⟩
  · have q : q_waitingAt σ v = (1, 0, σ) := by unfold q_waitingAt; rw [g3]
    rw [q] at hK
    simp only [eX4_waitingAt_0, eX4_waitingAt_1, eX4_waitingAt_4, eX4_waitingAt_5, eX4_waitingAt_6, eX4_waitingAt_9, eX4_waitingAt_12, eX4_waitingAt_15, eX4_waitingAt_18, eX4_waitingAt_25, eX4_waitingAt_26, eX4_waitingAt_29, eX4_waitingAt_30, eX4_waitingAt_33, eX4_waitingAt_36, eX4_waitingAt_39, isA_r, isA_n, isI_i, isF_f, isL_l, is1_i, is1_r, is1_n, is1_f, true_and, and_true, List.length_cons, List.length_nil, Nat.reduceAdd, Nat.reduceLeDiff, Nat.reduceSub, Option.some.injEq, exists_eq_left', aft_s, aft_n, ite_true, ite_false, if_true, if_false, Nat.zero_le, Nat.le_refl, reduceCtorEq, g1, ob_of C.top, og2]
    refine ⟨C.lO, inv0 (k_oSize C ?_)⟩
    simp only [eX4_waitingAt_0, eX4_waitingAt_1, eX4_waitingAt_4, eX4_waitingAt_5, eX4_waitingAt_6, eX4_waitingAt_9, eX4_waitingAt_12, eX4_waitingAt_15, eX4_waitingAt_18, eX4_waitingAt_25, eX4_waitingAt_26, eX4_waitingAt_29, eX4_waitingAt_30, eX4_waitingAt_33, eX4_waitingAt_36, eX4_waitingAt_39, isA_r, isA_n, isI_i, isF_f, isL_l, is1_i, is1_r, is1_n, is1_f, true_and, and_true, List.length_cons, List.length_nil, Nat.reduceAdd, Nat.reduceLeDiff, Nat.reduceSub, Option.some.injEq, exists_eq_left', aft_s, aft_n, ite_true, ite_false, if_true, if_false, Nat.zero_le, Nat.le_refl, reduceCtorEq, g2, Nat.le_add_left, show 1 ≤ c by omega, show 6 ≤ n by omega]
    exact hK H ⟨A, wr, rfl, C⟩
  · have q : q_waitingAt σ (nI j) = (0, nI ((s_od σ).getD j 0), σ) := by unfold q_waitingAt; rw [g4]
    rw [q] at hK
    simp only [eX4_waitingAt_0, eX4_waitingAt_1, eX4_waitingAt_4, eX4_waitingAt_5, eX4_waitingAt_6, eX4_waitingAt_9, eX4_waitingAt_12, eX4_waitingAt_15, eX4_waitingAt_18, eX4_waitingAt_25, eX4_waitingAt_26, eX4_waitingAt_29, eX4_waitingAt_30, eX4_waitingAt_33, eX4_waitingAt_36, eX4_waitingAt_39, isA_r, isA_n, isI_i, isF_f, isL_l, is1_i, is1_r, is1_n, is1_f, true_and, and_true, List.length_cons, List.length_nil, Nat.reduceAdd, Nat.reduceLeDiff, Nat.reduceSub, Option.some.injEq, exists_eq_left', aft_s, aft_n, ite_true, ite_false, if_true, if_false, Nat.zero_le, Nat.le_refl, reduceCtorEq, g2, ob_of C.top, og2]
    refine ⟨C.lO, inv0 (k_oSize C ?_)⟩
    simp only [eX4_waitingAt_0, eX4_waitingAt_1, eX4_waitingAt_4, eX4_waitingAt_5, eX4_waitingAt_6, eX4_waitingAt_9, eX4_waitingAt_12, eX4_waitingAt_15, eX4_waitingAt_18, eX4_waitingAt_25, eX4_waitingAt_26, eX4_waitingAt_29, eX4_waitingAt_30, eX4_waitingAt_33, eX4_waitingAt_36, eX4_waitingAt_39, isA_r, isA_n, isI_i, isF_f, isL_l, is1_i, is1_r, is1_n, is1_f, true_and, and_true, List.length_cons, List.length_nil, Nat.reduceAdd, Nat.reduceLeDiff, Nat.reduceSub, Option.some.injEq, exists_eq_left', aft_s, aft_n, ite_true, ite_false, if_true, if_false, Nat.zero_le, Nat.le_refl, reduceCtorEq, g3, ob_of C.top, og2]
    refine ⟨C.lO, inv0 (k_oGet C g1 ?_)⟩
    simp only [eX4_waitingAt_0, eX4_waitingAt_1, eX4_waitingAt_4, eX4_waitingAt_5, eX4_waitingAt_6, eX4_waitingAt_9, eX4_waitingAt_12, eX4_waitingAt_15, eX4_waitingAt_18, eX4_waitingAt_25, eX4_waitingAt_26, eX4_waitingAt_29, eX4_waitingAt_30, eX4_waitingAt_33, eX4_waitingAt_36, eX4_waitingAt_39, isA_r, isA_n, isI_i, isF_f, isL_l, is1_i, is1_r, is1_n, is1_f, true_and, and_true, List.length_cons, List.length_nil, Nat.reduceAdd, Nat.reduceLeDiff, Nat.reduceSub, Option.some.injEq, exists_eq_left', aft_s, aft_n, ite_true, ite_false, if_true, if_false, Nat.zero_le, Nat.le_refl, reduceCtorEq, ob_of (C.job (C.odj g1)), jg0]
    exact hK H ⟨A, wr, rfl, C⟩
theorem p_entryJob (C : CW E P H0 x σ H) (O : Ok σ) {v : Int32} (hj : (s_jn σ).length ≤ 16384) (hc : 2 ≤ c) (hn : 12 ≤ n) (hK : ∀ H', CW E P H0 x (q_entryJob σ v).2.2 H' → K (ou [3] (q_entryJob σ v)) H') : CRd TTv E (d + 12) mX4_entryJob [.ref x, .int v] H c n K := by
  obtain ⟨A, wr, rfl, C⟩ := C
  refine crd rfl ?_
  show Ev E (d + 11) mX4_entryJob K 0 [.ref (A 0 0), .int v] [] H c n
  simp only [eX4_entryJob_0, eX4_entryJob_1, eX4_entryJob_2, eX4_entryJob_5, eX4_entryJob_6, eX4_entryJob_9, eX4_entryJob_12, eX4_entryJob_13, eX4_entryJob_14, isA_r, isA_n, isI_i, isF_f, isL_l, is1_i, is1_r, is1_n, is1_f, true_and, and_true, List.length_cons, List.length_nil, Nat.reduceAdd, Nat.reduceLeDiff, Nat.reduceSub, Option.some.injEq, exists_eq_left', aft_s, aft_n, ite_true, ite_false, if_true, if_false, Nat.zero_le, Nat.le_refl, reduceCtorEq]
  refine ⟨C.oT, invk 1 6 (by omega) (by omega) (k_entry C hj (by omega) (by omega) (fun b hb ev e => ?_) (fun e => ?_))⟩
  · have q : q_entryJob σ v = (0, nI ((s_jn σ).getD b (0, 0)).1, σ) := by unfold q_entryJob; rw [e]
    rw [q] at hK
    subst ev
    have C0 := C
    obtain ⟨Z, X, C, ec⟩ := C
    have e3 := (C.rl.2.2.1 b hb).1
    have hcap : b < x_cap X 11 := by have := (jcap_ok (s_jn σ).length hj).2; omega
    have hcap2 : x_cap X 11 < 2 ^ 31 := by have := jcap_top (n := (s_jn σ).length) hj; omega
    simp only [eX4_entryJob_0, eX4_entryJob_1, eX4_entryJob_2, eX4_entryJob_5, eX4_entryJob_6, eX4_entryJob_9, eX4_entryJob_12, eX4_entryJob_13, eX4_entryJob_14, isA_r, isA_n, isI_i, isF_f, isL_l, is1_i, is1_r, is1_n, is1_f, true_and, and_true, List.length_cons, List.length_nil, Nat.reduceAdd, Nat.reduceLeDiff, Nat.reduceSub, Option.some.injEq, exists_eq_left', aft_s, aft_n, ite_true, ite_false, if_true, if_false, Nat.zero_le, Nat.le_refl, reduceCtorEq, ob_of C.top, og5, ob_of C.jou, ng0, rdI_of C.jar, inB_nI hcap hcap2, nI_clamp (show b < 2 ^ 31 by omega), e3]
    exact hK H ⟨A, wr, rfl, C0⟩
  · have q : q_entryJob σ v = (1, 0, σ) := by unfold q_entryJob; rw [e]
    rw [q] at hK
    exact aft_i rfl rfl (hK H ⟨A, wr, rfl, C⟩)
theorem k_cAt {A : AD} {wr : Nat → Bool} {ho : Nat → Option Nat} (C : CV E P H0 A σ ho wr H) (O : Ok σ) {b : Nat} (hj : (s_jn σ).length ≤ 16384) (hb : b < (s_jn σ).length) (hK : K (.inl (some (.int (nI ((s_jn σ).getD b (0, 0)).2)))) H) : CRd TTv E (d + 1) mX2_conditionAt [.ref (A 7 0), .int (nI b)] H c n K := by
  refine crd rfl ?_
  show Ev E d mX2_conditionAt K 0 [.ref (A 7 0), .int (nI b)] [] H c n
  obtain ⟨Z, X, C, ec⟩ := C
  have e3 := (C.rl.2.2.1 b hb).2
  have hm : (s_jn σ).getD b (0, 0) ∈ s_jn σ := by
    rw [List.getD_eq_getElem?_getD, List.getElem?_eq_getElem hb]
    exact List.getElem_mem hb
  have hst := (O.2.2.2.2.2.2.2.2.2.2 _ hm).2
  have hcap : b < x_cap X 12 := by have := (jcap_ok (s_jn σ).length hj).2; omega
  have hcap2 : x_cap X 12 < 2 ^ 31 := by have := jcap_top (n := (s_jn σ).length) hj; omega
  simp only [eX2_conditionAt_0, eX2_conditionAt_1, eX2_conditionAt_4, eX2_conditionAt_5, eX2_conditionAt_6, eX2_conditionAt_7, isA_r, isA_n, isI_i, isF_f, isL_l, is1_i, is1_r, is1_n, is1_f, true_and, and_true, List.length_cons, List.length_nil, Nat.reduceAdd, Nat.reduceLeDiff, Nat.reduceSub, Option.some.injEq, exists_eq_left', aft_s, aft_n, ite_true, ite_false, if_true, if_false, Nat.zero_le, Nat.le_refl, reduceCtorEq, ob_of C.jou, ng1, rdI_of C.kar, inB_nI hcap hcap2, nI_clamp (show b < 2 ^ 31 by omega), e3, st_c1 hst, (st_ch hst).2.2]
  exact hK
theorem p_entryState (C : CW E P H0 x σ H) (O : Ok σ) {v : Int32} (hj : (s_jn σ).length ≤ 16384) (hc : 2 ≤ c) (hn : 12 ≤ n) (hK : ∀ H', CW E P H0 x (q_entryState σ v).2.2 H' → K (ou [3] (q_entryState σ v)) H') : CRd TTv E (d + 12) mX4_entryState [.ref x, .int v] H c n K := by
  obtain ⟨A, wr, rfl, C⟩ := C
  refine crd rfl ?_
  show Ev E (d + 11) mX4_entryState K 0 [.ref (A 0 0), .int v] [] H c n
  simp only [eX4_entryState_0, eX4_entryState_1, eX4_entryState_2, eX4_entryState_5, eX4_entryState_6, eX4_entryState_9, eX4_entryState_10, eX4_entryState_13, isA_r, isA_n, isI_i, isF_f, isL_l, is1_i, is1_r, is1_n, is1_f, true_and, and_true, List.length_cons, List.length_nil, Nat.reduceAdd, Nat.reduceLeDiff, Nat.reduceSub, Option.some.injEq, exists_eq_left', aft_s, aft_n, ite_true, ite_false, if_true, if_false, Nat.zero_le, Nat.le_refl, reduceCtorEq]
  refine ⟨C.oT, invk 1 6 (by omega) (by omega) (k_entry C hj (by omega) (by omega) (fun b hb ev e => ?_) (fun e => ?_))⟩
  · have q : q_entryState σ v = (0, nI ((s_jn σ).getD b (0, 0)).2, σ) := by unfold q_entryState; rw [e]
    rw [q] at hK
    subst ev
    have hm : (s_jn σ).getD b (0, 0) ∈ s_jn σ := by
      rw [List.getD_eq_getElem?_getD, List.getElem?_eq_getElem hb]
      exact List.getElem_mem hb
    have hst := (O.2.2.2.2.2.2.2.2.2.2 _ hm).2
    have ho : ∃ z, ob H (A 7 0) 3 = some z := by
      obtain ⟨Z, X, C, -⟩ := C
      exact ⟨_, ob_of C.jou⟩
    simp only [eX4_entryState_0, eX4_entryState_1, eX4_entryState_2, eX4_entryState_5, eX4_entryState_6, eX4_entryState_9, eX4_entryState_10, eX4_entryState_13, isA_r, isA_n, isI_i, isF_f, isL_l, is1_i, is1_r, is1_n, is1_f, true_and, and_true, List.length_cons, List.length_nil, Nat.reduceAdd, Nat.reduceLeDiff, Nat.reduceSub, Option.some.injEq, exists_eq_left', aft_s, aft_n, ite_true, ite_false, if_true, if_false, Nat.zero_le, Nat.le_refl, reduceCtorEq, ob_of C.top, og5]
    refine ⟨ho, inv0 (k_cAt C O hj hb ?_)⟩
    simp only [eX4_entryState_0, eX4_entryState_1, eX4_entryState_2, eX4_entryState_5, eX4_entryState_6, eX4_entryState_9, eX4_entryState_10, eX4_entryState_13, isA_r, isA_n, isI_i, isF_f, isL_l, is1_i, is1_r, is1_n, is1_f, true_and, and_true, List.length_cons, List.length_nil, Nat.reduceAdd, Nat.reduceLeDiff, Nat.reduceSub, Option.some.injEq, exists_eq_left', aft_s, aft_n, ite_true, ite_false, if_true, if_false, Nat.zero_le, Nat.le_refl, reduceCtorEq, (st_ch hst).2.2]
    exact hK H ⟨A, wr, rfl, C⟩
  · have q : q_entryState σ v = (1, 0, σ) := by unfold q_entryState; rw [e]
    rw [q] at hK
    exact aft_i rfl rfl (hK H ⟨A, wr, rfl, C⟩)
theorem p_common (C : CW E P H0 x σ H) (hK : K (.inl (some (.int (nI (s_cm σ).length)))) H) : CRd TTv E (d + 1) mX4_common [.ref x] H c n K := by
  obtain ⟨A, wr, rfl, C⟩ := C
  refine crd rfl ?_
  show Ev E d mX4_common K 0 [.ref (A 0 0)] [] H c n
  simp only [eX4_common_0, eX4_common_1, eX4_common_4, eX4_common_7, isA_r, isA_n, isI_i, isF_f, isL_l, is1_i, is1_r, is1_n, is1_f, true_and, and_true, List.length_cons, List.length_nil, Nat.reduceAdd, Nat.reduceLeDiff, Nat.reduceSub, Option.some.injEq, exists_eq_left', aft_s, aft_n, ite_true, ite_false, if_true, if_false, Nat.zero_le, Nat.le_refl, reduceCtorEq, ob_of C.top, og4, ob_of C.com, hg1]
  exact hK
theorem p_waiting (C : CW E P H0 x σ H) (hK : K (.inl (some (.int (nI (s_od σ).length)))) H) : CRd TTv E (d + 2) mX4_waiting [.ref x] H c n K := by
  obtain ⟨A, wr, rfl, C⟩ := C
  refine crd rfl ?_
  show Ev E (d + 1) mX4_waiting K 0 [.ref (A 0 0)] [] H c n
  simp only [eX4_waiting_0, eX4_waiting_1, eX4_waiting_4, eX4_waiting_7, isA_r, isA_n, isI_i, isF_f, isL_l, is1_i, is1_r, is1_n, is1_f, true_and, and_true, List.length_cons, List.length_nil, Nat.reduceAdd, Nat.reduceLeDiff, Nat.reduceSub, Option.some.injEq, exists_eq_left', aft_s, aft_n, ite_true, ite_false, if_true, if_false, Nat.zero_le, Nat.le_refl, reduceCtorEq, ob_of C.top, og2]
  refine ⟨C.lO, inv0 (k_oSize C ?_)⟩
  simp only [eX4_waiting_0, eX4_waiting_1, eX4_waiting_4, eX4_waiting_7, isA_r, isA_n, isI_i, isF_f, isL_l, is1_i, is1_r, is1_n, is1_f, true_and, and_true, List.length_cons, List.length_nil, Nat.reduceAdd, Nat.reduceLeDiff, Nat.reduceSub, Option.some.injEq, exists_eq_left', aft_s, aft_n, ite_true, ite_false, if_true, if_false, Nat.zero_le, Nat.le_refl, reduceCtorEq]
  exact hK
theorem p_entries (C : CW E P H0 x σ H) (hK : K (.inl (some (.int (nI (s_jn σ).length)))) H) : CRd TTv E (d + 1) mX4_entries [.ref x] H c n K := by
  obtain ⟨A, wr, rfl, Z, X, C, -⟩ := C
  refine crd rfl ?_
  show Ev E d mX4_entries K 0 [.ref (A 0 0)] [] H c n
  simp only [eX4_entries_0, eX4_entries_1, eX4_entries_4, eX4_entries_7, isA_r, isA_n, isI_i, isF_f, isL_l, is1_i, is1_r, is1_n, is1_f, true_and, and_true, List.length_cons, List.length_nil, Nat.reduceAdd, Nat.reduceLeDiff, Nat.reduceSub, Option.some.injEq, exists_eq_left', aft_s, aft_n, ite_true, ite_false, if_true, if_false, Nat.zero_le, Nat.le_refl, reduceCtorEq, ob_of C.top, og5, ob_of C.jou, ng2]
  exact hK
theorem p_worked (C : CW E P H0 x σ H) (hK : K (.inl (some (.long (s_wk σ)))) H) : CRd TTv E (d + 1) mX4_worked [.ref x] H c n K := by
  obtain ⟨A, wr, rfl, C⟩ := C
  refine crd rfl ?_
  show Ev E d mX4_worked K 0 [.ref (A 0 0)] [] H c n
  simp only [eX4_worked_0, eX4_worked_1, eX4_worked_4, isA_r, isA_n, isI_i, isF_f, isL_l, is1_i, is1_r, is1_n, is1_f, true_and, and_true, List.length_cons, List.length_nil, Nat.reduceAdd, Nat.reduceLeDiff, Nat.reduceSub, Option.some.injEq, exists_eq_left', aft_s, aft_n, ite_true, ite_false, if_true, if_false, Nat.zero_le, Nat.le_refl, reduceCtorEq, ob_of C.top, og6]
  exact hK
theorem p_search (C : CW E P H0 x σ H) (O : Ok σ) {v a b : Int32} (hc : 2 ≤ c) (hn : 12 ≤ n) (hK : ∀ H', CW E P H0 x (a_search σ v a b).2.2 H' → K (ou [2, 4, 3] (a_search σ v a b)) H') : CRd TTv E (d + 12) mX4_search [.ref x, .int v, .int a, .int b] H c n K := by
  obtain ⟨A, wr, rfl, C⟩ := C
  refine crd rfl ?_
  show Ev E (d + 11) mX4_search K 0 [.ref (A 0 0), .int v, .int a, .int b, .retAddr 0, .retAddr 0] [] H c n
  simp only [eX4_search_0, eX4_search_1, eX4_search_2, eX4_search_5, eX4_search_7, eX4_search_8, eX4_search_11, eX4_search_12, eX4_search_13, eX4_search_16, eX4_search_17, eX4_search_19, eX4_search_22, eX4_search_25, eX4_search_32, eX4_search_34, eX4_search_37, eX4_search_38, eX4_search_39, eX4_search_42, eX4_search_44, eX4_search_46, eX4_search_47, eX4_search_50, eX4_search_52, eX4_search_55, eX4_search_58, eX4_search_59, eX4_search_62, eX4_search_63, eX4_search_64, eX4_search_67, eX4_search_69, eX4_search_71, eX4_search_72, eX4_search_75, eX4_search_78, eX4_search_85, eX4_search_87, isA_r, isA_n, isI_i, isF_f, isL_l, is1_i, is1_r, is1_n, is1_f, true_and, and_true, List.length_cons, List.length_nil, Nat.reduceAdd, Nat.reduceLeDiff, Nat.reduceSub, Option.some.injEq, exists_eq_left', aft_s, aft_n, ite_true, ite_false, if_true, if_false, Nat.zero_le, Nat.le_refl, reduceCtorEq]
  refine ⟨C.oT, invk 1 6 (by omega) (by omega) (k_sesNum C (by omega) (by omega) (fun s hs e => ?_) (fun e => ?_))⟩
  · have hl := C.hl hs (O.2.2.2.2.2.2.2.1.1 s).1
    have hcm := C.hc O.2.2.2.2.2.2.2.1.2.1
    have c1 : 1 ≤ c - 1 := by omega
    have n1 : 6 ≤ n - 6 := by omega
    have bad : badR a b = true → a_search σ v a b = (2, 0, σ) := fun h => by unfold a_search; rw [e]; dsimp only; rw [h]
    have good : badR a b = false → a_search σ v a b = sres σ s a b := fun h => by unfold a_search; rw [e]; dsimp only; rw [h]
    by_cases h1 : a < 0
    · rw [bad (badR_t (Or.inl h1))] at hK
      simp only [eX4_search_0, eX4_search_1, eX4_search_2, eX4_search_5, eX4_search_7, eX4_search_8, eX4_search_11, eX4_search_12, eX4_search_13, eX4_search_16, eX4_search_17, eX4_search_19, eX4_search_22, eX4_search_25, eX4_search_32, eX4_search_34, eX4_search_37, eX4_search_38, eX4_search_39, eX4_search_42, eX4_search_44, eX4_search_46, eX4_search_47, eX4_search_50, eX4_search_52, eX4_search_55, eX4_search_58, eX4_search_59, eX4_search_62, eX4_search_63, eX4_search_64, eX4_search_67, eX4_search_69, eX4_search_71, eX4_search_72, eX4_search_75, eX4_search_78, eX4_search_85, eX4_search_87, isA_r, isA_n, isI_i, isF_f, isL_l, is1_i, is1_r, is1_n, is1_f, true_and, and_true, List.length_cons, List.length_nil, Nat.reduceAdd, Nat.reduceLeDiff, Nat.reduceSub, Option.some.injEq, exists_eq_left', aft_s, aft_n, ite_true, ite_false, if_true, if_false, Nat.zero_le, Nat.le_refl, reduceCtorEq, h1, Nat.le_add_left, c1, n1]
      exact hK H ⟨A, wr, rfl, C⟩
    · by_cases h2 : b < a
      · rw [bad (badR_t (Or.inr (Or.inl h2)))] at hK
        simp only [eX4_search_0, eX4_search_1, eX4_search_2, eX4_search_5, eX4_search_7, eX4_search_8, eX4_search_11, eX4_search_12, eX4_search_13, eX4_search_16, eX4_search_17, eX4_search_19, eX4_search_22, eX4_search_25, eX4_search_32, eX4_search_34, eX4_search_37, eX4_search_38, eX4_search_39, eX4_search_42, eX4_search_44, eX4_search_46, eX4_search_47, eX4_search_50, eX4_search_52, eX4_search_55, eX4_search_58, eX4_search_59, eX4_search_62, eX4_search_63, eX4_search_64, eX4_search_67, eX4_search_69, eX4_search_71, eX4_search_72, eX4_search_75, eX4_search_78, eX4_search_85, eX4_search_87, isA_r, isA_n, isI_i, isF_f, isL_l, is1_i, is1_r, is1_n, is1_f, true_and, and_true, List.length_cons, List.length_nil, Nat.reduceAdd, Nat.reduceLeDiff, Nat.reduceSub, Option.some.injEq, exists_eq_left', aft_s, aft_n, ite_true, ite_false, if_true, if_false, Nat.zero_le, Nat.le_refl, reduceCtorEq, h1, h2, Nat.le_add_left, c1, n1]
        exact hK H ⟨A, wr, rfl, C⟩
      · by_cases h3 : (99 : Int32) < b
        · rw [bad (badR_t (Or.inr (Or.inr h3)))] at hK
          simp only [eX4_search_0, eX4_search_1, eX4_search_2, eX4_search_5, eX4_search_7, eX4_search_8, eX4_search_11, eX4_search_12, eX4_search_13, eX4_search_16, eX4_search_17, eX4_search_19, eX4_search_22, eX4_search_25, eX4_search_32, eX4_search_34, eX4_search_37, eX4_search_38, eX4_search_39, eX4_search_42, eX4_search_44, eX4_search_46, eX4_search_47, eX4_search_50, eX4_search_52, eX4_search_55, eX4_search_58, eX4_search_59, eX4_search_62, eX4_search_63, eX4_search_64, eX4_search_67, eX4_search_69, eX4_search_71, eX4_search_72, eX4_search_75, eX4_search_78, eX4_search_85, eX4_search_87, isA_r, isA_n, isI_i, isF_f, isL_l, is1_i, is1_r, is1_n, is1_f, true_and, and_true, List.length_cons, List.length_nil, Nat.reduceAdd, Nat.reduceLeDiff, Nat.reduceSub, Option.some.injEq, exists_eq_left', aft_s, aft_n, ite_true, ite_false, if_true, if_false, Nat.zero_le, Nat.le_refl, reduceCtorEq, h1, h2, h3, Nat.le_add_left, c1, n1]
          exact hK H ⟨A, wr, rfl, C⟩
        · rw [good (badR_f h1 h2 h3)] at hK
          have m100 : ∀ {l : List Nat}, (∀ y ∈ l, y < 100) → ∀ y, lastIn a b l = some y → y < 100 := fun hb y hy => hb y (by
            have := List.mem_of_find?_eq_some hy
            exact List.mem_reverse.mp this)
          have om : ∀ {y : Nat}, y < 100 → ((o2 (some y) = -1) = False) := fun {y} hy => eq_false (by
            show ¬ nI y = -1
            intro h
            have := nI_pos (n := y) (by omega)
            rw [h] at this
            exact this (by decide))
          have on : ((o2 none : Int32) = -1) = True := eq_true rfl
          simp only [eX4_search_0, eX4_search_1, eX4_search_2, eX4_search_5, eX4_search_7, eX4_search_8, eX4_search_11, eX4_search_12, eX4_search_13, eX4_search_16, eX4_search_17, eX4_search_19, eX4_search_22, eX4_search_25, eX4_search_32, eX4_search_34, eX4_search_37, eX4_search_38, eX4_search_39, eX4_search_42, eX4_search_44, eX4_search_46, eX4_search_47, eX4_search_50, eX4_search_52, eX4_search_55, eX4_search_58, eX4_search_59, eX4_search_62, eX4_search_63, eX4_search_64, eX4_search_67, eX4_search_69, eX4_search_71, eX4_search_72, eX4_search_75, eX4_search_78, eX4_search_85, eX4_search_87, isA_r, isA_n, isI_i, isF_f, isL_l, is1_i, is1_r, is1_n, is1_f, true_and, and_true, List.length_cons, List.length_nil, Nat.reduceAdd, Nat.reduceLeDiff, Nat.reduceSub, Option.some.injEq, exists_eq_left', aft_s, aft_n, ite_true, ite_false, if_true, if_false, Nat.zero_le, Nat.le_refl, reduceCtorEq, h1, h2, h3, ob_of (C.ses hs), sg1]
          refine ⟨⟨_, ob_of (C.his hs)⟩, inv0 (k_last hl ?_)⟩
          unfold sres at hK
          cases hf : lastIn a b (s_hi σ s) with
          | some y =>
            have hy := m100 (O.2.2.2.2.2.2.2.1.1 s).2 y hf
            rw [hf] at hK
            simp only [eX4_search_0, eX4_search_1, eX4_search_2, eX4_search_5, eX4_search_7, eX4_search_8, eX4_search_11, eX4_search_12, eX4_search_13, eX4_search_16, eX4_search_17, eX4_search_19, eX4_search_22, eX4_search_25, eX4_search_32, eX4_search_34, eX4_search_37, eX4_search_38, eX4_search_39, eX4_search_42, eX4_search_44, eX4_search_46, eX4_search_47, eX4_search_50, eX4_search_52, eX4_search_55, eX4_search_58, eX4_search_59, eX4_search_62, eX4_search_63, eX4_search_64, eX4_search_67, eX4_search_69, eX4_search_71, eX4_search_72, eX4_search_75, eX4_search_78, eX4_search_85, eX4_search_87, isA_r, isA_n, isI_i, isF_f, isL_l, is1_i, is1_r, is1_n, is1_f, true_and, and_true, List.length_cons, List.length_nil, Nat.reduceAdd, Nat.reduceLeDiff, Nat.reduceSub, Option.some.injEq, exists_eq_left', aft_s, aft_n, ite_true, ite_false, if_true, if_false, Nat.zero_le, Nat.le_refl, reduceCtorEq, om hy, ob_of (C.ses hs), sg2]
            exact hK H ⟨A, wr, rfl, C⟩
          | none =>
            rw [hf] at hK
            dsimp only at hK
            cases hp : s_pv σ s with
            | true =>
              have b1 : (b2 true = 0) = False := eq_false (by decide)
              rw [hp] at hK
              simp only [eX4_search_0, eX4_search_1, eX4_search_2, eX4_search_5, eX4_search_7, eX4_search_8, eX4_search_11, eX4_search_12, eX4_search_13, eX4_search_16, eX4_search_17, eX4_search_19, eX4_search_22, eX4_search_25, eX4_search_32, eX4_search_34, eX4_search_37, eX4_search_38, eX4_search_39, eX4_search_42, eX4_search_44, eX4_search_46, eX4_search_47, eX4_search_50, eX4_search_52, eX4_search_55, eX4_search_58, eX4_search_59, eX4_search_62, eX4_search_63, eX4_search_64, eX4_search_67, eX4_search_69, eX4_search_71, eX4_search_72, eX4_search_75, eX4_search_78, eX4_search_85, eX4_search_87, isA_r, isA_n, isI_i, isF_f, isL_l, is1_i, is1_r, is1_n, is1_f, true_and, and_true, List.length_cons, List.length_nil, Nat.reduceAdd, Nat.reduceLeDiff, Nat.reduceSub, Option.some.injEq, exists_eq_left', aft_s, aft_n, ite_true, ite_false, if_true, if_false, Nat.zero_le, Nat.le_refl, reduceCtorEq, on, ob_of (C.ses hs), sg2, hp, b1, Nat.le_add_left, c1, n1]
              exact hK H ⟨A, wr, rfl, C⟩
            | false =>
              have b0 : (b2 false = 0) = True := eq_true rfl
              rw [hp] at hK
              simp only [eX4_search_0, eX4_search_1, eX4_search_2, eX4_search_5, eX4_search_7, eX4_search_8, eX4_search_11, eX4_search_12, eX4_search_13, eX4_search_16, eX4_search_17, eX4_search_19, eX4_search_22, eX4_search_25, eX4_search_32, eX4_search_34, eX4_search_37, eX4_search_38, eX4_search_39, eX4_search_42, eX4_search_44, eX4_search_46, eX4_search_47, eX4_search_50, eX4_search_52, eX4_search_55, eX4_search_58, eX4_search_59, eX4_search_62, eX4_search_63, eX4_search_64, eX4_search_67, eX4_search_69, eX4_search_71, eX4_search_72, eX4_search_75, eX4_search_78, eX4_search_85, eX4_search_87, isA_r, isA_n, isI_i, isF_f, isL_l, is1_i, is1_r, is1_n, is1_f, true_and, and_true, List.length_cons, List.length_nil, Nat.reduceAdd, Nat.reduceLeDiff, Nat.reduceSub, Option.some.injEq, exists_eq_left', aft_s, aft_n, ite_true, ite_false, if_true, if_false, Nat.zero_le, Nat.le_refl, reduceCtorEq, on, ob_of (C.ses hs), sg2, hp, b0, ob_of C.top, og4]
              refine ⟨⟨_, ob_of C.com⟩, inv0 (k_last hcm ?_)⟩
              unfold sres2 at hK
              cases hf2 : lastIn a b (s_cm σ) with
              | some y =>
                have hy := m100 O.2.2.2.2.2.2.2.1.2.2.2 y hf2
                rw [hf2] at hK
                simp only [eX4_search_0, eX4_search_1, eX4_search_2, eX4_search_5, eX4_search_7, eX4_search_8, eX4_search_11, eX4_search_12, eX4_search_13, eX4_search_16, eX4_search_17, eX4_search_19, eX4_search_22, eX4_search_25, eX4_search_32, eX4_search_34, eX4_search_37, eX4_search_38, eX4_search_39, eX4_search_42, eX4_search_44, eX4_search_46, eX4_search_47, eX4_search_50, eX4_search_52, eX4_search_55, eX4_search_58, eX4_search_59, eX4_search_62, eX4_search_63, eX4_search_64, eX4_search_67, eX4_search_69, eX4_search_71, eX4_search_72, eX4_search_75, eX4_search_78, eX4_search_85, eX4_search_87, isA_r, isA_n, isI_i, isF_f, isL_l, is1_i, is1_r, is1_n, is1_f, true_and, and_true, List.length_cons, List.length_nil, Nat.reduceAdd, Nat.reduceLeDiff, Nat.reduceSub, Option.some.injEq, exists_eq_left', aft_s, aft_n, ite_true, ite_false, if_true, if_false, Nat.zero_le, Nat.le_refl, reduceCtorEq, om hy]
                exact hK H ⟨A, wr, rfl, C⟩
              | none =>
                rw [hf2] at hK
                simp only [eX4_search_0, eX4_search_1, eX4_search_2, eX4_search_5, eX4_search_7, eX4_search_8, eX4_search_11, eX4_search_12, eX4_search_13, eX4_search_16, eX4_search_17, eX4_search_19, eX4_search_22, eX4_search_25, eX4_search_32, eX4_search_34, eX4_search_37, eX4_search_38, eX4_search_39, eX4_search_42, eX4_search_44, eX4_search_46, eX4_search_47, eX4_search_50, eX4_search_52, eX4_search_55, eX4_search_58, eX4_search_59, eX4_search_62, eX4_search_63, eX4_search_64, eX4_search_67, eX4_search_69, eX4_search_71, eX4_search_72, eX4_search_75, eX4_search_78, eX4_search_85, eX4_search_87, isA_r, isA_n, isI_i, isF_f, isL_l, is1_i, is1_r, is1_n, is1_f, true_and, and_true, List.length_cons, List.length_nil, Nat.reduceAdd, Nat.reduceLeDiff, Nat.reduceSub, Option.some.injEq, exists_eq_left', aft_s, aft_n, ite_true, ite_false, if_true, if_false, Nat.zero_le, Nat.le_refl, reduceCtorEq, on, Nat.le_add_left, c1, n1]
                exact hK H ⟨A, wr, rfl, C⟩
  · have q : a_search σ v a b = (1, 0, σ) := by unfold a_search; rw [e]
    rw [q] at hK
    exact aft_i rfl rfl (hK H ⟨A, wr, rfl, C⟩)
end PUB
