theorem i10 : ((1 : Int32) = 0) = False := eq_false (by decide)
theorem i00 : ((0 : Int32) = 0) = True := eq_self _
def ix (v : Int32) (n : Nat) : Option Nat := if v < 0 then none else if v.toNatClampNeg < n then some v.toNatClampNeg else none
theorem ix_s {s n : Nat} (h : s < n) (hn : n < 2 ^ 31) : ix (nI s) n = some s := by
  unfold ix
  rw [if_neg (nI_pos (by omega)), nI_clamp (by omega), if_pos h]
theorem ix_n {v : Int32} {n : Nat} (h : ∀ j, j < n → v ≠ nI j) : ix v n = none := by
  unfold ix
  split
  · rfl
  · next h0 =>
    obtain ⟨j, hj, rfl⟩ := nI_of h0
    rw [nI_clamp hj]
    split
    · next hlt => exact absurd rfl (h j hlt)
    · rfl
abbrev SP : Type := Nat × Int32 × Sg
/-- the state between two calls -/
def Ok (σ : Sg) : Prop :=
  (s_nS σ ≤ 4 ∧ s_nJ σ ≤ 30) ∧
  (∀ j, j < s_nJ σ → s_se σ j < s_nS σ ∧ s_nd σ j ≤ 63 ∧ stOK (s_st σ j) ∧ s_lf σ j ≤ 50) ∧
  ((s_od σ).Nodup ∧ (∀ j, j ∈ s_od σ ↔ j < s_nJ σ ∧ s_st σ j = 119)) ∧
  (∀ j, s_hl σ j = true → j < s_nJ σ ∧ over σ j = false ∧ s_st σ j ≠ 119) ∧
  (∀ j, j < s_nJ σ → s_st σ j = 114 → s_hl σ j = true) ∧
  ((∀ s j, s_fr σ s = some j → j < s_nJ σ ∧ s_se σ j = s) ∧ (∀ s j, s_pk σ s = some j → j < s_nJ σ ∧ s_se σ j = s)) ∧
  (∀ i j, i ≠ j → s_hl σ i = true → s_hl σ j = true → s_nd σ i &&& s_nd σ j = 0) ∧
  ((∀ s, (s_hi σ s).length ≤ 8 ∧ ∀ x ∈ s_hi σ s, x < 100) ∧ (s_cm σ).length ≤ 12 ∧ (s_cm σ).Nodup ∧ ∀ x ∈ s_cm σ, x < 100) ∧
  (∀ s, s_nS σ ≤ s → s_dr σ s = false ∧ s_hi σ s = []) ∧
  ((∀ j, j < s_nJ σ → ∃ l r, s_jn σ = l ++ (j, s_st σ j) :: r ∧ ∀ e ∈ r, e.1 ≠ j) ∧ (∀ e ∈ s_jn σ, e.1 < s_nJ σ ∧ stOK e.2))
theorem Ok.S {σ : Sg} (O : Ok σ) : s_nS σ ≤ 4 := O.1.1
theorem Ok.J {σ : Sg} (O : Ok σ) : s_nJ σ ≤ 30 := O.1.2
theorem Ok.job {σ : Sg} (O : Ok σ) {j : Nat} (h : j < s_nJ σ) : s_se σ j < s_nS σ ∧ s_nd σ j ≤ 63 ∧ stOK (s_st σ j) ∧ s_lf σ j ≤ 50 := O.2.1 j h
theorem Ok.fr {σ : Sg} (O : Ok σ) {s j : Nat} (h : s_fr σ s = some j) : j < 30 := Nat.lt_of_lt_of_le (O.2.2.2.2.2.1.1 s j h).1 O.J
theorem Ok.pk {σ : Sg} (O : Ok σ) {s j : Nat} (h : s_pk σ s = some j) : j < 30 := Nat.lt_of_lt_of_le (O.2.2.2.2.2.1.2 s j h).1 O.J
theorem Ok.wf {σ : Sg} (O : Ok σ) {B : Nat} (h : (s_jn σ).length ≤ B) : Wf σ B := ⟨O.J, fun _ hj => (O.job hj).2.1, O.2.2.1.1, fun j hj => ((O.2.2.1.2 j).mp hj).1, h⟩
theorem Ok.odlen {σ : Sg} (O : Ok σ) : (s_od σ).length ≤ 30 := (O.wf (B := (s_jn σ).length) (Nat.le_refl _)).len
theorem st_ch {c : Nat} (h : stOK c) : (nI c).toUInt32 % 65536 = (nI c).toUInt32 ∧ (nI c).toUInt32.toInt32 = nI c ∧ ok16 (.int (nI c)) = true := by
  rcases h with rfl | rfl | rfl | rfl | rfl <;> decide
theorem st_c1 {c : Nat} (h : stOK c) : ((nI c).toUInt32 % 65536).toInt32 = nI c := by rw [(st_ch h).1]; exact (st_ch h).2.1
theorem ch_0 : (((0 : Int32).toUInt32 % 65536).toInt32) = 0 := by decide
theorem ok16_0 : ok16 (.int 0) = true := by decide
theorem st_100 {c : Nat} (h : stOK c) : (nI c = 100) ↔ c = 100 := by rcases h with rfl | rfl | rfl | rfl | rfl <;> decide
theorem st_107 {c : Nat} (h : stOK c) : (nI c = 107) ↔ c = 107 := by rcases h with rfl | rfl | rfl | rfl | rfl <;> decide
theorem st_114 {c : Nat} (h : stOK c) : (nI c = 114) ↔ c = 114 := by rcases h with rfl | rfl | rfl | rfl | rfl <;> decide
theorem st_115 {c : Nat} (h : stOK c) : (nI c = 115) ↔ c = 115 := by rcases h with rfl | rfl | rfl | rfl | rfl <;> decide
theorem st_119 {c : Nat} (h : stOK c) : (nI c = 119) ↔ c = 119 := by rcases h with rfl | rfl | rfl | rfl | rfl <;> decide
theorem o2_m1 {x : Option Nat} (hx : ∀ i, x = some i → i < 30) : (o2 x = -1) ↔ x = none := by
  cases x with
  | none => exact ⟨fun _ => rfl, fun _ => rfl⟩
  | some i =>
    have hi := hx i rfl
    refine ⟨fun h => ?_, fun h => absurd h (by simp)⟩
    have h : nI i = -1 := h
    have h2 := nI_pos (n := i) (by omega)
    rw [h] at h2
    exact absurd (by decide) h2
/-! what each query answers: code, value, state -/
def q_kept (σ : Sg) (v : Int32) : SP := match ix v (s_nS σ) with
  | none => (1, 0, σ)
  | some s => (0, nI (s_hi σ s).length, σ)
def q_isAttached (σ : Sg) (v : Int32) : SP := match ix v (s_nS σ) with
  | none => (1, 0, σ)
  | some s => (0, b2 (!s_dr σ s), σ)
def q_state (σ : Sg) (v : Int32) : SP := match ix v (s_nJ σ) with
  | none => (1, 0, σ)
  | some j => (0, nI (s_st σ j), σ)
def q_toDo (σ : Sg) (v : Int32) : SP := match ix v (s_nJ σ) with
  | none => (1, 0, σ)
  | some j => (0, nI (s_lf σ j), σ)
def q_sessionOf (σ : Sg) (v : Int32) : SP := match ix v (s_nJ σ) with
  | none => (1, 0, σ)
  | some j => (0, nI (s_se σ j), σ)
def q_holds (σ : Sg) (v : Int32) : SP := match ix v (s_nJ σ) with
  | none => (1, 0, σ)
  | some j => (0, b2 (s_hl σ j), σ)
def q_front (σ : Sg) (v : Int32) : SP := match ix v (s_nS σ) with
  | none => (1, 0, σ)
  | some s => match s_fr σ s with
    | none => (2, 0, σ)
    | some j => (0, nI j, σ)
def q_toBack (σ : Sg) (v : Int32) : SP := match ix v (s_nS σ) with
  | none => (1, 0, σ)
  | some s => match s_fr σ s with
    | none => (2, 0, σ)
    | some j => (0, nI j, w_fr σ (upN (s_fr σ) s none))
def q_setPrivate (σ : Sg) (v : Int32) (p : Bool) : SP := match ix v (s_nS σ) with
  | none => (1, 0, σ)
  | some s => (0, b2 (s_pv σ s), w_pv σ (upN (s_pv σ) s p))
def q_waitingAt (σ : Sg) (v : Int32) : SP := match ix v (s_od σ).length with
  | none => (1, 0, σ)
  | some k => (0, nI ((s_od σ).getD k 0), σ)
def q_entryJob (σ : Sg) (v : Int32) : SP := match ix v (s_jn σ).length with
  | none => (1, 0, σ)
  | some k => (0, nI ((s_jn σ).getD k (0, 0)).1, σ)
def q_entryState (σ : Sg) (v : Int32) : SP := match ix v (s_jn σ).length with
  | none => (1, 0, σ)
  | some k => (0, nI ((s_jn σ).getD k (0, 0)).2, σ)
def q_commonAt (σ : Sg) (v : Int32) : SP := match ix v (s_cm σ).length with
  | none => (1, 0, σ)
  | some k => (0, nI ((s_cm σ).getD ((s_cm σ).length - 1 - k) 0), σ)
def q_commandAt (σ : Sg) (v w : Int32) : SP := match ix v (s_nS σ) with
  | none => (1, 0, σ)
  | some s => match ix w (s_hi σ s).length with
    | none => (2, 0, σ)
    | some k => (0, nI ((s_hi σ s).getD ((s_hi σ s).length - 1 - k) 0), σ)
section MD6
variable {E : EN} {d : Nat} {h : AH} {c n : Nat} {K : Out → AH → Prop} {mo : Nat} {ad : Nat → Nat} {M : MS} {σ : Sg} {th : Nat}
theorem c_thrown (R : RM σ th M) (hk : K (.inl (some (.int (nI th)))) (mv h mo ad M)) : CRd TTv E (d + 1) mX5_thrown [.ref mo] (mv h mo ad M) c n K := by
  refine crd rfl ?_
  show Ev E d mX5_thrown K 0 [.ref mo] [] _ c n
  have a0 := R.1.1
  simp only [eX5_thrown_0, eX5_thrown_1, eX5_thrown_4, isA_r, isA_n, isI_i, isF_f, isL_l, is1_i, is1_r, is1_n, is1_f, true_and, and_true, List.length_cons, List.length_nil, Nat.reduceAdd, Nat.reduceLeDiff, Nat.reduceSub, Option.some.injEq, exists_eq_left', aft_s, aft_n, ite_true, ite_false, if_true, if_false, Nat.zero_le, Nat.le_refl, reduceCtorEq, mv_ob, mg0, a0]
  exact hk
theorem c_kept (A : ADok mo ad) (R : RM σ th M) (O : Ok σ) {v : Int32} (hk : ∀ M', RM (q_kept σ v).2.2 (q_kept σ v).1 M' → K (.inl (some (.int (q_kept σ v).2.1))) (mv h mo ad M')) : CRd TTv E (d + 4) mX5_kept [.ref mo, .int v] (mv h mo ad M) c n K := by
  refine crd rfl ?_
  show Ev E (d + 3) mX5_kept K 0 [.ref mo, .int v] [] _ c n
  have hS := O.S
  have hJ := O.J
  simp only [eX5_kept_0, eX5_kept_1, eX5_kept_2, eX5_kept_5, eX5_kept_8, eX5_kept_9, eX5_kept_12, eX5_kept_13, eX5_kept_14, eX5_kept_17, eX5_kept_18, isA_r, isA_n, isI_i, isF_f, isL_l, is1_i, is1_r, is1_n, is1_f, true_and, and_true, List.length_cons, List.length_nil, Nat.reduceAdd, Nat.reduceLeDiff, Nat.reduceSub, Option.some.injEq, exists_eq_left', aft_s, aft_n, ite_true, ite_false, if_true, if_false, Nat.zero_le, Nat.le_refl, reduceCtorEq, mv_ob, mr0 A, mw0 A, ms0 A, mr1 A, mw1 A, ms1 A, mr2 A, mw2 A, ms2 A, mr3 A, mw3 A, ms3 A, mr4 A, mw4 A, ms4 A, mr5 A, mw5 A, ms5 A, mr6 A, mw6 A, ms6 A, mr7 A, mw7 A, ms7 A, mr8 A, mw8 A, ms8 A, mr9 A, mw9 A, ms9 A, mr10 A, mw10 A, ms10 A, mr11 A, mw11 A, ms11 A, mr12 A, mw12 A, ms12 A, mr13 A, mw13 A, ms13 A, mr14 A, mw14 A, ms14 A, mf0, mf1, mf2, mf3, mf4, mf5, mf6, mg0, mg1, mg2, mg3, mg4, mg5, mg6, mg7, mg8, mg9, mg10, mg11, mg12, mg13, mg14, mg15, mg16, mg17, mg18, mg19, mg20, mg21, mgl, Nat.reduceLT, va_up_self, exists_eq']
  refine inv0 (c_isSession R O.S (fun s hs hv M1 R1 => ?_) (fun hne M1 R1 => ?_))
  · subst hv
    have e1 : (nI s).toNatClampNeg = s := nI_clamp (by omega)
    have i1 := ix_s hs (by omega)
    have ⟨⟨a0, a1, a2, a3, a4, a5, a6⟩, b0, b1, b2q, b3, b4, b5, b6, b7, b8, b9, b10, b11, b12, b13, b14⟩ := R1
    simp only [q_kept, i1] at hk
    simp only [eX5_kept_0, eX5_kept_1, eX5_kept_2, eX5_kept_5, eX5_kept_8, eX5_kept_9, eX5_kept_12, eX5_kept_13, eX5_kept_14, eX5_kept_17, eX5_kept_18, isA_r, isA_n, isI_i, isF_f, isL_l, is1_i, is1_r, is1_n, is1_f, true_and, and_true, List.length_cons, List.length_nil, Nat.reduceAdd, Nat.reduceLeDiff, Nat.reduceSub, Option.some.injEq, exists_eq_left', aft_s, aft_n, ite_true, ite_false, if_true, if_false, Nat.zero_le, Nat.le_refl, reduceCtorEq, mv_ob, mr0 A, mw0 A, ms0 A, mr1 A, mw1 A, ms1 A, mr2 A, mw2 A, ms2 A, mr3 A, mw3 A, ms3 A, mr4 A, mw4 A, ms4 A, mr5 A, mw5 A, ms5 A, mr6 A, mw6 A, ms6 A, mr7 A, mw7 A, ms7 A, mr8 A, mw8 A, ms8 A, mr9 A, mw9 A, ms9 A, mr10 A, mw10 A, ms10 A, mr11 A, mw11 A, ms11 A, mr12 A, mw12 A, ms12 A, mr13 A, mw13 A, ms13 A, mr14 A, mw14 A, ms14 A, mf0, mf1, mf2, mf3, mf4, mf5, mf6, mg0, mg1, mg2, mg3, mg4, mg5, mg6, mg7, mg8, mg9, mg10, mg11, mg12, mg13, mg14, mg15, mg16, mg17, mg18, mg19, mg20, mg21, mgl, Nat.reduceLT, va_up_self, i10, i00, inB_nI (show s < 4 by omega) (by decide), e1, b4 s (by omega)]
    exact hk M1 R1
  · simp only [q_kept, ix_n hne] at hk
    simp only [eX5_kept_0, eX5_kept_1, eX5_kept_2, eX5_kept_5, eX5_kept_8, eX5_kept_9, eX5_kept_12, eX5_kept_13, eX5_kept_14, eX5_kept_17, eX5_kept_18, isA_r, isA_n, isI_i, isF_f, isL_l, is1_i, is1_r, is1_n, is1_f, true_and, and_true, List.length_cons, List.length_nil, Nat.reduceAdd, Nat.reduceLeDiff, Nat.reduceSub, Option.some.injEq, exists_eq_left', aft_s, aft_n, ite_true, ite_false, if_true, if_false, Nat.zero_le, Nat.le_refl, reduceCtorEq, mv_ob, mr0 A, mw0 A, ms0 A, mr1 A, mw1 A, ms1 A, mr2 A, mw2 A, ms2 A, mr3 A, mw3 A, ms3 A, mr4 A, mw4 A, ms4 A, mr5 A, mw5 A, ms5 A, mr6 A, mw6 A, ms6 A, mr7 A, mw7 A, ms7 A, mr8 A, mw8 A, ms8 A, mr9 A, mw9 A, ms9 A, mr10 A, mw10 A, ms10 A, mr11 A, mw11 A, ms11 A, mr12 A, mw12 A, ms12 A, mr13 A, mw13 A, ms13 A, mr14 A, mw14 A, ms14 A, mf0, mf1, mf2, mf3, mf4, mf5, mf6, mg0, mg1, mg2, mg3, mg4, mg5, mg6, mg7, mg8, mg9, mg10, mg11, mg12, mg13, mg14, mg15, mg16, mg17, mg18, mg19, mg20, mg21, mgl, Nat.reduceLT, va_up_self, i00, i10, ok01_0, ok16_0, ch_0]
    exact hk M1 R1

theorem c_isAttached (A : ADok mo ad) (R : RM σ th M) (O : Ok σ) {v : Int32} (hk : ∀ M', RM (q_isAttached σ v).2.2 (q_isAttached σ v).1 M' → K (.inl (some (.int (q_isAttached σ v).2.1))) (mv h mo ad M')) : CRd TTv E (d + 4) mX5_isAttached [.ref mo, .int v] (mv h mo ad M) c n K := by
  refine crd rfl ?_
  show Ev E (d + 3) mX5_isAttached K 0 [.ref mo, .int v] [] _ c n
  have hS := O.S
  have hJ := O.J
  simp only [eX5_isAttached_0, eX5_isAttached_1, eX5_isAttached_2, eX5_isAttached_5, eX5_isAttached_8, eX5_isAttached_9, eX5_isAttached_12, eX5_isAttached_13, eX5_isAttached_14, eX5_isAttached_17, eX5_isAttached_18, eX5_isAttached_21, eX5_isAttached_22, isA_r, isA_n, isI_i, isF_f, isL_l, is1_i, is1_r, is1_n, is1_f, true_and, and_true, List.length_cons, List.length_nil, Nat.reduceAdd, Nat.reduceLeDiff, Nat.reduceSub, Option.some.injEq, exists_eq_left', aft_s, aft_n, ite_true, ite_false, if_true, if_false, Nat.zero_le, Nat.le_refl, reduceCtorEq, mv_ob, mr0 A, mw0 A, ms0 A, mr1 A, mw1 A, ms1 A, mr2 A, mw2 A, ms2 A, mr3 A, mw3 A, ms3 A, mr4 A, mw4 A, ms4 A, mr5 A, mw5 A, ms5 A, mr6 A, mw6 A, ms6 A, mr7 A, mw7 A, ms7 A, mr8 A, mw8 A, ms8 A, mr9 A, mw9 A, ms9 A, mr10 A, mw10 A, ms10 A, mr11 A, mw11 A, ms11 A, mr12 A, mw12 A, ms12 A, mr13 A, mw13 A, ms13 A, mr14 A, mw14 A, ms14 A, mf0, mf1, mf2, mf3, mf4, mf5, mf6, mg0, mg1, mg2, mg3, mg4, mg5, mg6, mg7, mg8, mg9, mg10, mg11, mg12, mg13, mg14, mg15, mg16, mg17, mg18, mg19, mg20, mg21, mgl, Nat.reduceLT, va_up_self, exists_eq']
  refine inv0 (c_isSession R O.S (fun s hs hv M1 R1 => ?_) (fun hne M1 R1 => ?_))
  · subst hv
    have e1 : (nI s).toNatClampNeg = s := nI_clamp (by omega)
    have i1 := ix_s hs (by omega)
    have ⟨⟨a0, a1, a2, a3, a4, a5, a6⟩, b0, b1, b2q, b3, b4, b5, b6, b7, b8, b9, b10, b11, b12, b13, b14⟩ := R1
    simp only [q_isAttached, i1] at hk
    simp only [eX5_isAttached_0, eX5_isAttached_1, eX5_isAttached_2, eX5_isAttached_5, eX5_isAttached_8, eX5_isAttached_9, eX5_isAttached_12, eX5_isAttached_13, eX5_isAttached_14, eX5_isAttached_17, eX5_isAttached_18, eX5_isAttached_21, eX5_isAttached_22, isA_r, isA_n, isI_i, isF_f, isL_l, is1_i, is1_r, is1_n, is1_f, true_and, and_true, List.length_cons, List.length_nil, Nat.reduceAdd, Nat.reduceLeDiff, Nat.reduceSub, Option.some.injEq, exists_eq_left', aft_s, aft_n, ite_true, ite_false, if_true, if_false, Nat.zero_le, Nat.le_refl, reduceCtorEq, mv_ob, mr0 A, mw0 A, ms0 A, mr1 A, mw1 A, ms1 A, mr2 A, mw2 A, ms2 A, mr3 A, mw3 A, ms3 A, mr4 A, mw4 A, ms4 A, mr5 A, mw5 A, ms5 A, mr6 A, mw6 A, ms6 A, mr7 A, mw7 A, ms7 A, mr8 A, mw8 A, ms8 A, mr9 A, mw9 A, ms9 A, mr10 A, mw10 A, ms10 A, mr11 A, mw11 A, ms11 A, mr12 A, mw12 A, ms12 A, mr13 A, mw13 A, ms13 A, mr14 A, mw14 A, ms14 A, mf0, mf1, mf2, mf3, mf4, mf5, mf6, mg0, mg1, mg2, mg3, mg4, mg5, mg6, mg7, mg8, mg9, mg10, mg11, mg12, mg13, mg14, mg15, mg16, mg17, mg18, mg19, mg20, mg21, mgl, Nat.reduceLT, va_up_self, i10, i00, inB_nI (show s < 4 by omega) (by decide), e1, b1 s (by omega), b2_0, ok01_1, ok01_0]
    cases hd : s_dr σ s
    · simp only [hd, if_true, reduceIte] at hk ⊢
      exact hk M1 R1
    · simp only [hd, Bool.true_eq_false, if_false, reduceIte] at hk ⊢
      exact hk M1 R1
  · simp only [q_isAttached, ix_n hne] at hk
    simp only [eX5_isAttached_0, eX5_isAttached_1, eX5_isAttached_2, eX5_isAttached_5, eX5_isAttached_8, eX5_isAttached_9, eX5_isAttached_12, eX5_isAttached_13, eX5_isAttached_14, eX5_isAttached_17, eX5_isAttached_18, eX5_isAttached_21, eX5_isAttached_22, isA_r, isA_n, isI_i, isF_f, isL_l, is1_i, is1_r, is1_n, is1_f, true_and, and_true, List.length_cons, List.length_nil, Nat.reduceAdd, Nat.reduceLeDiff, Nat.reduceSub, Option.some.injEq, exists_eq_left', aft_s, aft_n, ite_true, ite_false, if_true, if_false, Nat.zero_le, Nat.le_refl, reduceCtorEq, mv_ob, mr0 A, mw0 A, ms0 A, mr1 A, mw1 A, ms1 A, mr2 A, mw2 A, ms2 A, mr3 A, mw3 A, ms3 A, mr4 A, mw4 A, ms4 A, mr5 A, mw5 A, ms5 A, mr6 A, mw6 A, ms6 A, mr7 A, mw7 A, ms7 A, mr8 A, mw8 A, ms8 A, mr9 A, mw9 A, ms9 A, mr10 A, mw10 A, ms10 A, mr11 A, mw11 A, ms11 A, mr12 A, mw12 A, ms12 A, mr13 A, mw13 A, ms13 A, mr14 A, mw14 A, ms14 A, mf0, mf1, mf2, mf3, mf4, mf5, mf6, mg0, mg1, mg2, mg3, mg4, mg5, mg6, mg7, mg8, mg9, mg10, mg11, mg12, mg13, mg14, mg15, mg16, mg17, mg18, mg19, mg20, mg21, mgl, Nat.reduceLT, va_up_self, i00, i10, ok01_0, ok16_0, ch_0]
    exact hk M1 R1

theorem c_state (A : ADok mo ad) (R : RM σ th M) (O : Ok σ) {v : Int32} (hk : ∀ M', RM (q_state σ v).2.2 (q_state σ v).1 M' → K (.inl (some (.int (q_state σ v).2.1))) (mv h mo ad M')) : CRd TTv E (d + 4) mX5_state [.ref mo, .int v] (mv h mo ad M) c n K := by
  refine crd rfl ?_
  show Ev E (d + 3) mX5_state K 0 [.ref mo, .int v] [] _ c n
  have hS := O.S
  have hJ := O.J
  simp only [eX5_state_0, eX5_state_1, eX5_state_2, eX5_state_5, eX5_state_8, eX5_state_9, eX5_state_12, eX5_state_13, eX5_state_14, eX5_state_17, eX5_state_18, eX5_state_19, isA_r, isA_n, isI_i, isF_f, isL_l, is1_i, is1_r, is1_n, is1_f, true_and, and_true, List.length_cons, List.length_nil, Nat.reduceAdd, Nat.reduceLeDiff, Nat.reduceSub, Option.some.injEq, exists_eq_left', aft_s, aft_n, ite_true, ite_false, if_true, if_false, Nat.zero_le, Nat.le_refl, reduceCtorEq, mv_ob, mr0 A, mw0 A, ms0 A, mr1 A, mw1 A, ms1 A, mr2 A, mw2 A, ms2 A, mr3 A, mw3 A, ms3 A, mr4 A, mw4 A, ms4 A, mr5 A, mw5 A, ms5 A, mr6 A, mw6 A, ms6 A, mr7 A, mw7 A, ms7 A, mr8 A, mw8 A, ms8 A, mr9 A, mw9 A, ms9 A, mr10 A, mw10 A, ms10 A, mr11 A, mw11 A, ms11 A, mr12 A, mw12 A, ms12 A, mr13 A, mw13 A, ms13 A, mr14 A, mw14 A, ms14 A, mf0, mf1, mf2, mf3, mf4, mf5, mf6, mg0, mg1, mg2, mg3, mg4, mg5, mg6, mg7, mg8, mg9, mg10, mg11, mg12, mg13, mg14, mg15, mg16, mg17, mg18, mg19, mg20, mg21, mgl, Nat.reduceLT, va_up_self, exists_eq']
  refine inv0 (c_isJob R O.J (fun s hs hv M1 R1 => ?_) (fun hne M1 R1 => ?_))
  · subst hv
    have e1 : (nI s).toNatClampNeg = s := nI_clamp (by omega)
    have i1 := ix_s hs (by omega)
    have ⟨⟨a0, a1, a2, a3, a4, a5, a6⟩, b0, b1, b2q, b3, b4, b5, b6, b7, b8, b9, b10, b11, b12, b13, b14⟩ := R1
    simp only [q_state, i1] at hk
    simp only [eX5_state_0, eX5_state_1, eX5_state_2, eX5_state_5, eX5_state_8, eX5_state_9, eX5_state_12, eX5_state_13, eX5_state_14, eX5_state_17, eX5_state_18, eX5_state_19, isA_r, isA_n, isI_i, isF_f, isL_l, is1_i, is1_r, is1_n, is1_f, true_and, and_true, List.length_cons, List.length_nil, Nat.reduceAdd, Nat.reduceLeDiff, Nat.reduceSub, Option.some.injEq, exists_eq_left', aft_s, aft_n, ite_true, ite_false, if_true, if_false, Nat.zero_le, Nat.le_refl, reduceCtorEq, mv_ob, mr0 A, mw0 A, ms0 A, mr1 A, mw1 A, ms1 A, mr2 A, mw2 A, ms2 A, mr3 A, mw3 A, ms3 A, mr4 A, mw4 A, ms4 A, mr5 A, mw5 A, ms5 A, mr6 A, mw6 A, ms6 A, mr7 A, mw7 A, ms7 A, mr8 A, mw8 A, ms8 A, mr9 A, mw9 A, ms9 A, mr10 A, mw10 A, ms10 A, mr11 A, mw11 A, ms11 A, mr12 A, mw12 A, ms12 A, mr13 A, mw13 A, ms13 A, mr14 A, mw14 A, ms14 A, mf0, mf1, mf2, mf3, mf4, mf5, mf6, mg0, mg1, mg2, mg3, mg4, mg5, mg6, mg7, mg8, mg9, mg10, mg11, mg12, mg13, mg14, mg15, mg16, mg17, mg18, mg19, mg20, mg21, mgl, Nat.reduceLT, va_up_self, i10, i00, inB_nI (show s < 30 by omega) (by decide), e1, b10 s hs, st_c1 (O.job hs).2.2.1, (st_ch (O.job hs).2.2.1).2.2]
    exact hk M1 R1
  · simp only [q_state, ix_n hne] at hk
    simp only [eX5_state_0, eX5_state_1, eX5_state_2, eX5_state_5, eX5_state_8, eX5_state_9, eX5_state_12, eX5_state_13, eX5_state_14, eX5_state_17, eX5_state_18, eX5_state_19, isA_r, isA_n, isI_i, isF_f, isL_l, is1_i, is1_r, is1_n, is1_f, true_and, and_true, List.length_cons, List.length_nil, Nat.reduceAdd, Nat.reduceLeDiff, Nat.reduceSub, Option.some.injEq, exists_eq_left', aft_s, aft_n, ite_true, ite_false, if_true, if_false, Nat.zero_le, Nat.le_refl, reduceCtorEq, mv_ob, mr0 A, mw0 A, ms0 A, mr1 A, mw1 A, ms1 A, mr2 A, mw2 A, ms2 A, mr3 A, mw3 A, ms3 A, mr4 A, mw4 A, ms4 A, mr5 A, mw5 A, ms5 A, mr6 A, mw6 A, ms6 A, mr7 A, mw7 A, ms7 A, mr8 A, mw8 A, ms8 A, mr9 A, mw9 A, ms9 A, mr10 A, mw10 A, ms10 A, mr11 A, mw11 A, ms11 A, mr12 A, mw12 A, ms12 A, mr13 A, mw13 A, ms13 A, mr14 A, mw14 A, ms14 A, mf0, mf1, mf2, mf3, mf4, mf5, mf6, mg0, mg1, mg2, mg3, mg4, mg5, mg6, mg7, mg8, mg9, mg10, mg11, mg12, mg13, mg14, mg15, mg16, mg17, mg18, mg19, mg20, mg21, mgl, Nat.reduceLT, va_up_self, i00, i10, ok01_0, ok16_0, ch_0]
    exact hk M1 R1

theorem c_toDo (A : ADok mo ad) (R : RM σ th M) (O : Ok σ) {v : Int32} (hk : ∀ M', RM (q_toDo σ v).2.2 (q_toDo σ v).1 M' → K (.inl (some (.int (q_toDo σ v).2.1))) (mv h mo ad M')) : CRd TTv E (d + 4) mX5_toDo [.ref mo, .int v] (mv h mo ad M) c n K := by
  refine crd rfl ?_
  show Ev E (d + 3) mX5_toDo K 0 [.ref mo, .int v] [] _ c n
  have hS := O.S
  have hJ := O.J
  simp only [eX5_toDo_0, eX5_toDo_1, eX5_toDo_2, eX5_toDo_5, eX5_toDo_8, eX5_toDo_9, eX5_toDo_12, eX5_toDo_13, eX5_toDo_14, eX5_toDo_17, eX5_toDo_18, isA_r, isA_n, isI_i, isF_f, isL_l, is1_i, is1_r, is1_n, is1_f, true_and, and_true, List.length_cons, List.length_nil, Nat.reduceAdd, Nat.reduceLeDiff, Nat.reduceSub, Option.some.injEq, exists_eq_left', aft_s, aft_n, ite_true, ite_false, if_true, if_false, Nat.zero_le, Nat.le_refl, reduceCtorEq, mv_ob, mr0 A, mw0 A, ms0 A, mr1 A, mw1 A, ms1 A, mr2 A, mw2 A, ms2 A, mr3 A, mw3 A, ms3 A, mr4 A, mw4 A, ms4 A, mr5 A, mw5 A, ms5 A, mr6 A, mw6 A, ms6 A, mr7 A, mw7 A, ms7 A, mr8 A, mw8 A, ms8 A, mr9 A, mw9 A, ms9 A, mr10 A, mw10 A, ms10 A, mr11 A, mw11 A, ms11 A, mr12 A, mw12 A, ms12 A, mr13 A, mw13 A, ms13 A, mr14 A, mw14 A, ms14 A, mf0, mf1, mf2, mf3, mf4, mf5, mf6, mg0, mg1, mg2, mg3, mg4, mg5, mg6, mg7, mg8, mg9, mg10, mg11, mg12, mg13, mg14, mg15, mg16, mg17, mg18, mg19, mg20, mg21, mgl, Nat.reduceLT, va_up_self, exists_eq']
  refine inv0 (c_isJob R O.J (fun s hs hv M1 R1 => ?_) (fun hne M1 R1 => ?_))
  · subst hv
    have e1 : (nI s).toNatClampNeg = s := nI_clamp (by omega)
    have i1 := ix_s hs (by omega)
    have ⟨⟨a0, a1, a2, a3, a4, a5, a6⟩, b0, b1, b2q, b3, b4, b5, b6, b7, b8, b9, b10, b11, b12, b13, b14⟩ := R1
    simp only [q_toDo, i1] at hk
    simp only [eX5_toDo_0, eX5_toDo_1, eX5_toDo_2, eX5_toDo_5, eX5_toDo_8, eX5_toDo_9, eX5_toDo_12, eX5_toDo_13, eX5_toDo_14, eX5_toDo_17, eX5_toDo_18, isA_r, isA_n, isI_i, isF_f, isL_l, is1_i, is1_r, is1_n, is1_f, true_and, and_true, List.length_cons, List.length_nil, Nat.reduceAdd, Nat.reduceLeDiff, Nat.reduceSub, Option.some.injEq, exists_eq_left', aft_s, aft_n, ite_true, ite_false, if_true, if_false, Nat.zero_le, Nat.le_refl, reduceCtorEq, mv_ob, mr0 A, mw0 A, ms0 A, mr1 A, mw1 A, ms1 A, mr2 A, mw2 A, ms2 A, mr3 A, mw3 A, ms3 A, mr4 A, mw4 A, ms4 A, mr5 A, mw5 A, ms5 A, mr6 A, mw6 A, ms6 A, mr7 A, mw7 A, ms7 A, mr8 A, mw8 A, ms8 A, mr9 A, mw9 A, ms9 A, mr10 A, mw10 A, ms10 A, mr11 A, mw11 A, ms11 A, mr12 A, mw12 A, ms12 A, mr13 A, mw13 A, ms13 A, mr14 A, mw14 A, ms14 A, mf0, mf1, mf2, mf3, mf4, mf5, mf6, mg0, mg1, mg2, mg3, mg4, mg5, mg6, mg7, mg8, mg9, mg10, mg11, mg12, mg13, mg14, mg15, mg16, mg17, mg18, mg19, mg20, mg21, mgl, Nat.reduceLT, va_up_self, i10, i00, inB_nI (show s < 30 by omega) (by decide), e1, b8 s hs]
    exact hk M1 R1
  · simp only [q_toDo, ix_n hne] at hk
    simp only [eX5_toDo_0, eX5_toDo_1, eX5_toDo_2, eX5_toDo_5, eX5_toDo_8, eX5_toDo_9, eX5_toDo_12, eX5_toDo_13, eX5_toDo_14, eX5_toDo_17, eX5_toDo_18, isA_r, isA_n, isI_i, isF_f, isL_l, is1_i, is1_r, is1_n, is1_f, true_and, and_true, List.length_cons, List.length_nil, Nat.reduceAdd, Nat.reduceLeDiff, Nat.reduceSub, Option.some.injEq, exists_eq_left', aft_s, aft_n, ite_true, ite_false, if_true, if_false, Nat.zero_le, Nat.le_refl, reduceCtorEq, mv_ob, mr0 A, mw0 A, ms0 A, mr1 A, mw1 A, ms1 A, mr2 A, mw2 A, ms2 A, mr3 A, mw3 A, ms3 A, mr4 A, mw4 A, ms4 A, mr5 A, mw5 A, ms5 A, mr6 A, mw6 A, ms6 A, mr7 A, mw7 A, ms7 A, mr8 A, mw8 A, ms8 A, mr9 A, mw9 A, ms9 A, mr10 A, mw10 A, ms10 A, mr11 A, mw11 A, ms11 A, mr12 A, mw12 A, ms12 A, mr13 A, mw13 A, ms13 A, mr14 A, mw14 A, ms14 A, mf0, mf1, mf2, mf3, mf4, mf5, mf6, mg0, mg1, mg2, mg3, mg4, mg5, mg6, mg7, mg8, mg9, mg10, mg11, mg12, mg13, mg14, mg15, mg16, mg17, mg18, mg19, mg20, mg21, mgl, Nat.reduceLT, va_up_self, i00, i10, ok01_0, ok16_0, ch_0]
    exact hk M1 R1

theorem c_sessionOf (A : ADok mo ad) (R : RM σ th M) (O : Ok σ) {v : Int32} (hk : ∀ M', RM (q_sessionOf σ v).2.2 (q_sessionOf σ v).1 M' → K (.inl (some (.int (q_sessionOf σ v).2.1))) (mv h mo ad M')) : CRd TTv E (d + 4) mX5_sessionOf [.ref mo, .int v] (mv h mo ad M) c n K := by
  refine crd rfl ?_
  show Ev E (d + 3) mX5_sessionOf K 0 [.ref mo, .int v] [] _ c n
  have hS := O.S
  have hJ := O.J
  simp only [eX5_sessionOf_0, eX5_sessionOf_1, eX5_sessionOf_2, eX5_sessionOf_5, eX5_sessionOf_8, eX5_sessionOf_9, eX5_sessionOf_12, eX5_sessionOf_13, eX5_sessionOf_14, eX5_sessionOf_17, eX5_sessionOf_18, isA_r, isA_n, isI_i, isF_f, isL_l, is1_i, is1_r, is1_n, is1_f, true_and, and_true, List.length_cons, List.length_nil, Nat.reduceAdd, Nat.reduceLeDiff, Nat.reduceSub, Option.some.injEq, exists_eq_left', aft_s, aft_n, ite_true, ite_false, if_true, if_false, Nat.zero_le, Nat.le_refl, reduceCtorEq, mv_ob, mr0 A, mw0 A, ms0 A, mr1 A, mw1 A, ms1 A, mr2 A, mw2 A, ms2 A, mr3 A, mw3 A, ms3 A, mr4 A, mw4 A, ms4 A, mr5 A, mw5 A, ms5 A, mr6 A, mw6 A, ms6 A, mr7 A, mw7 A, ms7 A, mr8 A, mw8 A, ms8 A, mr9 A, mw9 A, ms9 A, mr10 A, mw10 A, ms10 A, mr11 A, mw11 A, ms11 A, mr12 A, mw12 A, ms12 A, mr13 A, mw13 A, ms13 A, mr14 A, mw14 A, ms14 A, mf0, mf1, mf2, mf3, mf4, mf5, mf6, mg0, mg1, mg2, mg3, mg4, mg5, mg6, mg7, mg8, mg9, mg10, mg11, mg12, mg13, mg14, mg15, mg16, mg17, mg18, mg19, mg20, mg21, mgl, Nat.reduceLT, va_up_self, exists_eq']
  refine inv0 (c_isJob R O.J (fun s hs hv M1 R1 => ?_) (fun hne M1 R1 => ?_))
  · subst hv
    have e1 : (nI s).toNatClampNeg = s := nI_clamp (by omega)
    have i1 := ix_s hs (by omega)
    have ⟨⟨a0, a1, a2, a3, a4, a5, a6⟩, b0, b1, b2q, b3, b4, b5, b6, b7, b8, b9, b10, b11, b12, b13, b14⟩ := R1
    simp only [q_sessionOf, i1] at hk
    simp only [eX5_sessionOf_0, eX5_sessionOf_1, eX5_sessionOf_2, eX5_sessionOf_5, eX5_sessionOf_8, eX5_sessionOf_9, eX5_sessionOf_12, eX5_sessionOf_13, eX5_sessionOf_14, eX5_sessionOf_17, eX5_sessionOf_18, isA_r, isA_n, isI_i, isF_f, isL_l, is1_i, is1_r, is1_n, is1_f, true_and, and_true, List.length_cons, List.length_nil, Nat.reduceAdd, Nat.reduceLeDiff, Nat.reduceSub, Option.some.injEq, exists_eq_left', aft_s, aft_n, ite_true, ite_false, if_true, if_false, Nat.zero_le, Nat.le_refl, reduceCtorEq, mv_ob, mr0 A, mw0 A, ms0 A, mr1 A, mw1 A, ms1 A, mr2 A, mw2 A, ms2 A, mr3 A, mw3 A, ms3 A, mr4 A, mw4 A, ms4 A, mr5 A, mw5 A, ms5 A, mr6 A, mw6 A, ms6 A, mr7 A, mw7 A, ms7 A, mr8 A, mw8 A, ms8 A, mr9 A, mw9 A, ms9 A, mr10 A, mw10 A, ms10 A, mr11 A, mw11 A, ms11 A, mr12 A, mw12 A, ms12 A, mr13 A, mw13 A, ms13 A, mr14 A, mw14 A, ms14 A, mf0, mf1, mf2, mf3, mf4, mf5, mf6, mg0, mg1, mg2, mg3, mg4, mg5, mg6, mg7, mg8, mg9, mg10, mg11, mg12, mg13, mg14, mg15, mg16, mg17, mg18, mg19, mg20, mg21, mgl, Nat.reduceLT, va_up_self, i10, i00, inB_nI (show s < 30 by omega) (by decide), e1, b7 s hs]
    exact hk M1 R1
  · simp only [q_sessionOf, ix_n hne] at hk
    simp only [eX5_sessionOf_0, eX5_sessionOf_1, eX5_sessionOf_2, eX5_sessionOf_5, eX5_sessionOf_8, eX5_sessionOf_9, eX5_sessionOf_12, eX5_sessionOf_13, eX5_sessionOf_14, eX5_sessionOf_17, eX5_sessionOf_18, isA_r, isA_n, isI_i, isF_f, isL_l, is1_i, is1_r, is1_n, is1_f, true_and, and_true, List.length_cons, List.length_nil, Nat.reduceAdd, Nat.reduceLeDiff, Nat.reduceSub, Option.some.injEq, exists_eq_left', aft_s, aft_n, ite_true, ite_false, if_true, if_false, Nat.zero_le, Nat.le_refl, reduceCtorEq, mv_ob, mr0 A, mw0 A, ms0 A, mr1 A, mw1 A, ms1 A, mr2 A, mw2 A, ms2 A, mr3 A, mw3 A, ms3 A, mr4 A, mw4 A, ms4 A, mr5 A, mw5 A, ms5 A, mr6 A, mw6 A, ms6 A, mr7 A, mw7 A, ms7 A, mr8 A, mw8 A, ms8 A, mr9 A, mw9 A, ms9 A, mr10 A, mw10 A, ms10 A, mr11 A, mw11 A, ms11 A, mr12 A, mw12 A, ms12 A, mr13 A, mw13 A, ms13 A, mr14 A, mw14 A, ms14 A, mf0, mf1, mf2, mf3, mf4, mf5, mf6, mg0, mg1, mg2, mg3, mg4, mg5, mg6, mg7, mg8, mg9, mg10, mg11, mg12, mg13, mg14, mg15, mg16, mg17, mg18, mg19, mg20, mg21, mgl, Nat.reduceLT, va_up_self, i00, i10, ok01_0, ok16_0, ch_0]
    exact hk M1 R1

theorem c_holds (A : ADok mo ad) (R : RM σ th M) (O : Ok σ) {v : Int32} (hk : ∀ M', RM (q_holds σ v).2.2 (q_holds σ v).1 M' → K (.inl (some (.int (q_holds σ v).2.1))) (mv h mo ad M')) : CRd TTv E (d + 4) mX5_holds [.ref mo, .int v] (mv h mo ad M) c n K := by
  refine crd rfl ?_
  show Ev E (d + 3) mX5_holds K 0 [.ref mo, .int v] [] _ c n
  have hS := O.S
  have hJ := O.J
  simp only [eX5_holds_0, eX5_holds_1, eX5_holds_2, eX5_holds_5, eX5_holds_8, eX5_holds_9, eX5_holds_12, eX5_holds_13, eX5_holds_14, eX5_holds_17, eX5_holds_18, eX5_holds_21, eX5_holds_22, isA_r, isA_n, isI_i, isF_f, isL_l, is1_i, is1_r, is1_n, is1_f, true_and, and_true, List.length_cons, List.length_nil, Nat.reduceAdd, Nat.reduceLeDiff, Nat.reduceSub, Option.some.injEq, exists_eq_left', aft_s, aft_n, ite_true, ite_false, if_true, if_false, Nat.zero_le, Nat.le_refl, reduceCtorEq, mv_ob, mr0 A, mw0 A, ms0 A, mr1 A, mw1 A, ms1 A, mr2 A, mw2 A, ms2 A, mr3 A, mw3 A, ms3 A, mr4 A, mw4 A, ms4 A, mr5 A, mw5 A, ms5 A, mr6 A, mw6 A, ms6 A, mr7 A, mw7 A, ms7 A, mr8 A, mw8 A, ms8 A, mr9 A, mw9 A, ms9 A, mr10 A, mw10 A, ms10 A, mr11 A, mw11 A, ms11 A, mr12 A, mw12 A, ms12 A, mr13 A, mw13 A, ms13 A, mr14 A, mw14 A, ms14 A, mf0, mf1, mf2, mf3, mf4, mf5, mf6, mg0, mg1, mg2, mg3, mg4, mg5, mg6, mg7, mg8, mg9, mg10, mg11, mg12, mg13, mg14, mg15, mg16, mg17, mg18, mg19, mg20, mg21, mgl, Nat.reduceLT, va_up_self, exists_eq']
  refine inv0 (c_isJob R O.J (fun s hs hv M1 R1 => ?_) (fun hne M1 R1 => ?_))
  · subst hv
    have e1 : (nI s).toNatClampNeg = s := nI_clamp (by omega)
    have i1 := ix_s hs (by omega)
    have ⟨⟨a0, a1, a2, a3, a4, a5, a6⟩, b0, b1, b2q, b3, b4, b5, b6, b7, b8, b9, b10, b11, b12, b13, b14⟩ := R1
    simp only [q_holds, i1] at hk
    simp only [eX5_holds_0, eX5_holds_1, eX5_holds_2, eX5_holds_5, eX5_holds_8, eX5_holds_9, eX5_holds_12, eX5_holds_13, eX5_holds_14, eX5_holds_17, eX5_holds_18, eX5_holds_21, eX5_holds_22, isA_r, isA_n, isI_i, isF_f, isL_l, is1_i, is1_r, is1_n, is1_f, true_and, and_true, List.length_cons, List.length_nil, Nat.reduceAdd, Nat.reduceLeDiff, Nat.reduceSub, Option.some.injEq, exists_eq_left', aft_s, aft_n, ite_true, ite_false, if_true, if_false, Nat.zero_le, Nat.le_refl, reduceCtorEq, mv_ob, mr0 A, mw0 A, ms0 A, mr1 A, mw1 A, ms1 A, mr2 A, mw2 A, ms2 A, mr3 A, mw3 A, ms3 A, mr4 A, mw4 A, ms4 A, mr5 A, mw5 A, ms5 A, mr6 A, mw6 A, ms6 A, mr7 A, mw7 A, ms7 A, mr8 A, mw8 A, ms8 A, mr9 A, mw9 A, ms9 A, mr10 A, mw10 A, ms10 A, mr11 A, mw11 A, ms11 A, mr12 A, mw12 A, ms12 A, mr13 A, mw13 A, ms13 A, mr14 A, mw14 A, ms14 A, mf0, mf1, mf2, mf3, mf4, mf5, mf6, mg0, mg1, mg2, mg3, mg4, mg5, mg6, mg7, mg8, mg9, mg10, mg11, mg12, mg13, mg14, mg15, mg16, mg17, mg18, mg19, mg20, mg21, mgl, Nat.reduceLT, va_up_self, i10, i00, inB_nI (show s < 30 by omega) (by decide), e1, b12 s (by omega), b2_0, ok01_1, ok01_0]
    cases hd : s_hl σ s
    · simp only [hd, if_true, reduceIte] at hk ⊢
      exact hk M1 R1
    · simp only [hd, Bool.true_eq_false, if_false, reduceIte] at hk ⊢
      exact hk M1 R1
  · simp only [q_holds, ix_n hne] at hk
    simp only [eX5_holds_0, eX5_holds_1, eX5_holds_2, eX5_holds_5, eX5_holds_8, eX5_holds_9, eX5_holds_12, eX5_holds_13, eX5_holds_14, eX5_holds_17, eX5_holds_18, eX5_holds_21, eX5_holds_22, isA_r, isA_n, isI_i, isF_f, isL_l, is1_i, is1_r, is1_n, is1_f, true_and, and_true, List.length_cons, List.length_nil, Nat.reduceAdd, Nat.reduceLeDiff, Nat.reduceSub, Option.some.injEq, exists_eq_left', aft_s, aft_n, ite_true, ite_false, if_true, if_false, Nat.zero_le, Nat.le_refl, reduceCtorEq, mv_ob, mr0 A, mw0 A, ms0 A, mr1 A, mw1 A, ms1 A, mr2 A, mw2 A, ms2 A, mr3 A, mw3 A, ms3 A, mr4 A, mw4 A, ms4 A, mr5 A, mw5 A, ms5 A, mr6 A, mw6 A, ms6 A, mr7 A, mw7 A, ms7 A, mr8 A, mw8 A, ms8 A, mr9 A, mw9 A, ms9 A, mr10 A, mw10 A, ms10 A, mr11 A, mw11 A, ms11 A, mr12 A, mw12 A, ms12 A, mr13 A, mw13 A, ms13 A, mr14 A, mw14 A, ms14 A, mf0, mf1, mf2, mf3, mf4, mf5, mf6, mg0, mg1, mg2, mg3, mg4, mg5, mg6, mg7, mg8, mg9, mg10, mg11, mg12, mg13, mg14, mg15, mg16, mg17, mg18, mg19, mg20, mg21, mgl, Nat.reduceLT, va_up_self, i00, i10, ok01_0, ok16_0, ch_0]
    exact hk M1 R1

end MD6
