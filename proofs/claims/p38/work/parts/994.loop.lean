/-! the law's loop -/
def bX (R : Nat) : Nat := 90000 + 2600 * R
def bY (R : Nat) : Nat := 470000 + 16000 * R
theorem b_fact {a c n R : Nat} (ha : a ≤ 16384) (hc : bX (R + 1) ≤ a + c) (hn : bY (R + 1) ≤ 4 * a + n) : 82000 ≤ bX R ∧ 459000 ≤ bY R ∧ 60 ≤ c ∧ 400 ≤ n ∧ bX R + 2400 ≤ a + (c - 60) ∧ bY R + 15000 ≤ 4 * a + (n - 400) := by
  unfold bX bY at *
  omega
theorem b_end {a c n l : Nat} (ha : a ≤ 16384) (hl : l ≤ 16384) (hc : bX 0 ≤ a + c) (hn : bY 0 ≤ 4 * a + n) : 4 * l + 100 ≤ c ∧ 24 * l + 500 ≤ n := by
  unfold bX bY at *
  omega
section LOOP
variable {E : EN} {P : Nat → Prop} {b x aw al ao : Nat} {d L : Nat} {xs : Nat → Int32} {K : Out → AH → Prop}
theorem w_kind {H0 H : AH} {k i T X Y : Nat} {bf : Int64} {σ : Sg} {fw : Nat → Nat} {fW fL fO : Nat → Int32} {c n : Nat} (g : GI E P H0 x aw al ao σ T fw fW fL fO H) (hbf : sumF σ (s_nS σ) = bf) (hT : T + 200 < 16384) (hX : 82000 ≤ X) (hY : 459000 ≤ Y) (hc : X + 2400 ≤ JJ σ + c) (hn : Y + 15000 ≤ 4 * JJ σ + n) {m a j kd : Nat} (hm : m < 1000) (ha : a ≤ s_nS σ) (hj : j ≤ s_nJ σ) (hkd : kd < 26) (eb : E.1 b = some (arI L xs)) (hL : L ≤ 260) (hk : k + 3 ≤ 1000) (hD : aw ≠ al ∧ aw ≠ ao ∧ al ≠ ao) (nx : NX E P d K b x aw al ao k i T X Y bf) {a17 a18 a19 : Value} : Ev E (d + 14) mL_law K 161 (lwF b x aw al ao (s_nS σ) (s_nJ σ) k i (.long bf) (.retAddr 0) (.int (nI kd)) (.int (nI m)) (.int (nI a)) (.int (nI j)) (.int 0) a17 a18 a19) [] H c n := by
  have hkk : (0 ≤ kd ∧ kd ≤ 0) ∨ (1 ≤ kd ∧ kd ≤ 2) ∨ (3 ≤ kd ∧ kd ≤ 4) ∨ (5 ≤ kd ∧ kd ≤ 11) ∨ (12 ≤ kd ∧ kd ≤ 12) ∨ (13 ≤ kd ∧ kd ≤ 13) ∨ (14 ≤ kd ∧ kd ≤ 15) ∨ (16 ≤ kd ∧ kd ≤ 18) ∨ (19 ≤ kd ∧ kd ≤ 19) ∨ (20 ≤ kd ∧ kd ≤ 21) ∨ (22 ≤ kd ∧ kd ≤ 25) := by omega
  rcases hkk with ⟨k1, k2⟩ | ⟨k1, k2⟩ | ⟨k1, k2⟩ | ⟨k1, k2⟩ | ⟨k1, k2⟩ | ⟨k1, k2⟩ | ⟨k1, k2⟩ | ⟨k1, k2⟩ | ⟨k1, k2⟩ | ⟨k1, k2⟩ | ⟨k1, k2⟩
  · have t0 : (nI kd = 0) = True := eq_true (show nI kd = 0 by rw [show kd = 0 by omega]; rfl)
    simp only [eL_law_161, eL_law_163, isA_r, isA_n, isI_i, isF_f, isL_l, is1_i, is1_r, is1_n, is1_f, true_and, and_true, List.length_cons, List.length_nil, Nat.reduceAdd, Nat.reduceLeDiff, Nat.reduceSub, Option.some.injEq, exists_eq_left', aft_s, aft_n, ite_true, ite_false, if_true, if_false, Nat.zero_le, Nat.le_refl, reduceCtorEq, t0]
    exact w_open g hbf hT hX hY hc hn hm ha hj nx
  · have t0 : (nI kd = 0) = False := eq_false (nI_ne0 (n := kd) (by omega) (by omega))
    have t1 : (nI kd < 3) = True := eq_true (nI_lt (a := kd) (b := 3) (by omega) (by omega))
    simp only [eL_law_161, eL_law_163, eL_law_226, eL_law_228, eL_law_229, isA_r, isA_n, isI_i, isF_f, isL_l, is1_i, is1_r, is1_n, is1_f, true_and, and_true, List.length_cons, List.length_nil, Nat.reduceAdd, Nat.reduceLeDiff, Nat.reduceSub, Option.some.injEq, exists_eq_left', aft_s, aft_n, ite_true, ite_false, if_true, if_false, Nat.zero_le, Nat.le_refl, reduceCtorEq, t0, t1]
    exact w_drop g hbf hT hX hY hc hn hm ha hj nx
  · have t0 : (nI kd = 0) = False := eq_false (nI_ne0 (n := kd) (by omega) (by omega))
    have t1 : (nI kd < 3) = False := eq_false (nI_nlt (a := kd) (b := 3) (by omega) (by omega))
    have t2 : (nI kd < 5) = True := eq_true (nI_lt (a := kd) (b := 5) (by omega) (by omega))
    simp only [eL_law_161, eL_law_163, eL_law_226, eL_law_228, eL_law_229, eL_law_321, eL_law_323, eL_law_324, isA_r, isA_n, isI_i, isF_f, isL_l, is1_i, is1_r, is1_n, is1_f, true_and, and_true, List.length_cons, List.length_nil, Nat.reduceAdd, Nat.reduceLeDiff, Nat.reduceSub, Option.some.injEq, exists_eq_left', aft_s, aft_n, ite_true, ite_false, if_true, if_false, Nat.zero_le, Nat.le_refl, reduceCtorEq, t0, t1, t2]
    exact w_takeUp g hbf hT hX hY hc hn hm ha hj nx
  · have t0 : (nI kd = 0) = False := eq_false (nI_ne0 (n := kd) (by omega) (by omega))
    have t1 : (nI kd < 3) = False := eq_false (nI_nlt (a := kd) (b := 3) (by omega) (by omega))
    have t2 : (nI kd < 5) = False := eq_false (nI_nlt (a := kd) (b := 5) (by omega) (by omega))
    have t3 : (nI kd < 12) = True := eq_true (nI_lt (a := kd) (b := 12) (by omega) (by omega))
    simp only [eL_law_161, eL_law_163, eL_law_226, eL_law_228, eL_law_229, eL_law_321, eL_law_323, eL_law_324, eL_law_402, eL_law_404, eL_law_406, isA_r, isA_n, isI_i, isF_f, isL_l, is1_i, is1_r, is1_n, is1_f, true_and, and_true, List.length_cons, List.length_nil, Nat.reduceAdd, Nat.reduceLeDiff, Nat.reduceSub, Option.some.injEq, exists_eq_left', aft_s, aft_n, ite_true, ite_false, if_true, if_false, Nat.zero_le, Nat.le_refl, reduceCtorEq, t0, t1, t2, t3]
    exact w_start g hbf hT hX hY hc hn hm ha hj eb hL hk hD nx
  · have t0 : (nI kd = 0) = False := eq_false (nI_ne0 (n := kd) (by omega) (by omega))
    have t1 : (nI kd < 3) = False := eq_false (nI_nlt (a := kd) (b := 3) (by omega) (by omega))
    have t2 : (nI kd < 5) = False := eq_false (nI_nlt (a := kd) (b := 5) (by omega) (by omega))
    have t3 : (nI kd < 12) = False := eq_false (nI_nlt (a := kd) (b := 12) (by omega) (by omega))
    have t4 : (nI kd = 12) = True := eq_true (show nI kd = 12 by rw [show kd = 12 by omega]; rfl)
    simp only [eL_law_161, eL_law_163, eL_law_226, eL_law_228, eL_law_229, eL_law_321, eL_law_323, eL_law_324, eL_law_402, eL_law_404, eL_law_406, eL_law_619, eL_law_621, eL_law_623, isA_r, isA_n, isI_i, isF_f, isL_l, is1_i, is1_r, is1_n, is1_f, true_and, and_true, List.length_cons, List.length_nil, Nat.reduceAdd, Nat.reduceLeDiff, Nat.reduceSub, Option.some.injEq, exists_eq_left', aft_s, aft_n, ite_true, ite_false, if_true, if_false, Nat.zero_le, Nat.le_refl, reduceCtorEq, t0, t1, t2, t3, t4]
    exact w_toFront g hbf hT hX hY hc hn hm ha hj nx
  · have t0 : (nI kd = 0) = False := eq_false (nI_ne0 (n := kd) (by omega) (by omega))
    have t1 : (nI kd < 3) = False := eq_false (nI_nlt (a := kd) (b := 3) (by omega) (by omega))
    have t2 : (nI kd < 5) = False := eq_false (nI_nlt (a := kd) (b := 5) (by omega) (by omega))
    have t3 : (nI kd < 12) = False := eq_false (nI_nlt (a := kd) (b := 12) (by omega) (by omega))
    have t4 : (nI kd = 12) = False := eq_false (fun z : nI kd = 12 => by have := (nI_eq (a := kd) (b := 12) (by omega) (by omega)).mp z; omega)
    have t5 : (nI kd = 13) = True := eq_true (show nI kd = 13 by rw [show kd = 13 by omega]; rfl)
    simp only [eL_law_161, eL_law_163, eL_law_226, eL_law_228, eL_law_229, eL_law_321, eL_law_323, eL_law_324, eL_law_402, eL_law_404, eL_law_406, eL_law_619, eL_law_621, eL_law_623, eL_law_675, eL_law_677, eL_law_679, isA_r, isA_n, isI_i, isF_f, isL_l, is1_i, is1_r, is1_n, is1_f, true_and, and_true, List.length_cons, List.length_nil, Nat.reduceAdd, Nat.reduceLeDiff, Nat.reduceSub, Option.some.injEq, exists_eq_left', aft_s, aft_n, ite_true, ite_false, if_true, if_false, Nat.zero_le, Nat.le_refl, reduceCtorEq, t0, t1, t2, t3, t4, t5]
    exact w_toBack g hbf hT hX hY hc hn hm ha hj nx
  · have t0 : (nI kd = 0) = False := eq_false (nI_ne0 (n := kd) (by omega) (by omega))
    have t1 : (nI kd < 3) = False := eq_false (nI_nlt (a := kd) (b := 3) (by omega) (by omega))
    have t2 : (nI kd < 5) = False := eq_false (nI_nlt (a := kd) (b := 5) (by omega) (by omega))
    have t3 : (nI kd < 12) = False := eq_false (nI_nlt (a := kd) (b := 12) (by omega) (by omega))
    have t4 : (nI kd = 12) = False := eq_false (fun z : nI kd = 12 => by have := (nI_eq (a := kd) (b := 12) (by omega) (by omega)).mp z; omega)
    have t5 : (nI kd = 13) = False := eq_false (fun z : nI kd = 13 => by have := (nI_eq (a := kd) (b := 13) (by omega) (by omega)).mp z; omega)
    have t6 : (nI kd < 16) = True := eq_true (nI_lt (a := kd) (b := 16) (by omega) (by omega))
    simp only [eL_law_161, eL_law_163, eL_law_226, eL_law_228, eL_law_229, eL_law_321, eL_law_323, eL_law_324, eL_law_402, eL_law_404, eL_law_406, eL_law_619, eL_law_621, eL_law_623, eL_law_675, eL_law_677, eL_law_679, eL_law_728, eL_law_730, eL_law_732, isA_r, isA_n, isI_i, isF_f, isL_l, is1_i, is1_r, is1_n, is1_f, true_and, and_true, List.length_cons, List.length_nil, Nat.reduceAdd, Nat.reduceLeDiff, Nat.reduceSub, Option.some.injEq, exists_eq_left', aft_s, aft_n, ite_true, ite_false, if_true, if_false, Nat.zero_le, Nat.le_refl, reduceCtorEq, t0, t1, t2, t3, t4, t5, t6]
    exact w_stop g hbf hT hX hY hc hn hm ha hj nx
  · have t0 : (nI kd = 0) = False := eq_false (nI_ne0 (n := kd) (by omega) (by omega))
    have t1 : (nI kd < 3) = False := eq_false (nI_nlt (a := kd) (b := 3) (by omega) (by omega))
    have t2 : (nI kd < 5) = False := eq_false (nI_nlt (a := kd) (b := 5) (by omega) (by omega))
    have t3 : (nI kd < 12) = False := eq_false (nI_nlt (a := kd) (b := 12) (by omega) (by omega))
    have t4 : (nI kd = 12) = False := eq_false (fun z : nI kd = 12 => by have := (nI_eq (a := kd) (b := 12) (by omega) (by omega)).mp z; omega)
    have t5 : (nI kd = 13) = False := eq_false (fun z : nI kd = 13 => by have := (nI_eq (a := kd) (b := 13) (by omega) (by omega)).mp z; omega)
    have t6 : (nI kd < 16) = False := eq_false (nI_nlt (a := kd) (b := 16) (by omega) (by omega))
    have t7 : (nI kd < 19) = True := eq_true (nI_lt (a := kd) (b := 19) (by omega) (by omega))
    simp only [eL_law_161, eL_law_163, eL_law_226, eL_law_228, eL_law_229, eL_law_321, eL_law_323, eL_law_324, eL_law_402, eL_law_404, eL_law_406, eL_law_619, eL_law_621, eL_law_623, eL_law_675, eL_law_677, eL_law_679, eL_law_728, eL_law_730, eL_law_732, eL_law_809, eL_law_811, eL_law_813, isA_r, isA_n, isI_i, isF_f, isL_l, is1_i, is1_r, is1_n, is1_f, true_and, and_true, List.length_cons, List.length_nil, Nat.reduceAdd, Nat.reduceLeDiff, Nat.reduceSub, Option.some.injEq, exists_eq_left', aft_s, aft_n, ite_true, ite_false, if_true, if_false, Nat.zero_le, Nat.le_refl, reduceCtorEq, t0, t1, t2, t3, t4, t5, t6, t7]
    exact w_goOn g hbf hT hX hY hc hn hm ha hj nx
  · have t0 : (nI kd = 0) = False := eq_false (nI_ne0 (n := kd) (by omega) (by omega))
    have t1 : (nI kd < 3) = False := eq_false (nI_nlt (a := kd) (b := 3) (by omega) (by omega))
    have t2 : (nI kd < 5) = False := eq_false (nI_nlt (a := kd) (b := 5) (by omega) (by omega))
    have t3 : (nI kd < 12) = False := eq_false (nI_nlt (a := kd) (b := 12) (by omega) (by omega))
    have t4 : (nI kd = 12) = False := eq_false (fun z : nI kd = 12 => by have := (nI_eq (a := kd) (b := 12) (by omega) (by omega)).mp z; omega)
    have t5 : (nI kd = 13) = False := eq_false (fun z : nI kd = 13 => by have := (nI_eq (a := kd) (b := 13) (by omega) (by omega)).mp z; omega)
    have t6 : (nI kd < 16) = False := eq_false (nI_nlt (a := kd) (b := 16) (by omega) (by omega))
    have t7 : (nI kd < 19) = False := eq_false (nI_nlt (a := kd) (b := 19) (by omega) (by omega))
    have t8 : (nI kd = 19) = True := eq_true (show nI kd = 19 by rw [show kd = 19 by omega]; rfl)
    simp only [eL_law_161, eL_law_163, eL_law_226, eL_law_228, eL_law_229, eL_law_321, eL_law_323, eL_law_324, eL_law_402, eL_law_404, eL_law_406, eL_law_619, eL_law_621, eL_law_623, eL_law_675, eL_law_677, eL_law_679, eL_law_728, eL_law_730, eL_law_732, eL_law_809, eL_law_811, eL_law_813, eL_law_912, eL_law_914, eL_law_916, isA_r, isA_n, isI_i, isF_f, isL_l, is1_i, is1_r, is1_n, is1_f, true_and, and_true, List.length_cons, List.length_nil, Nat.reduceAdd, Nat.reduceLeDiff, Nat.reduceSub, Option.some.injEq, exists_eq_left', aft_s, aft_n, ite_true, ite_false, if_true, if_false, Nat.zero_le, Nat.le_refl, reduceCtorEq, t0, t1, t2, t3, t4, t5, t6, t7, t8]
    exact w_end g hbf hT hX hY hc hn hm ha hj nx
  · have t0 : (nI kd = 0) = False := eq_false (nI_ne0 (n := kd) (by omega) (by omega))
    have t1 : (nI kd < 3) = False := eq_false (nI_nlt (a := kd) (b := 3) (by omega) (by omega))
    have t2 : (nI kd < 5) = False := eq_false (nI_nlt (a := kd) (b := 5) (by omega) (by omega))
    have t3 : (nI kd < 12) = False := eq_false (nI_nlt (a := kd) (b := 12) (by omega) (by omega))
    have t4 : (nI kd = 12) = False := eq_false (fun z : nI kd = 12 => by have := (nI_eq (a := kd) (b := 12) (by omega) (by omega)).mp z; omega)
    have t5 : (nI kd = 13) = False := eq_false (fun z : nI kd = 13 => by have := (nI_eq (a := kd) (b := 13) (by omega) (by omega)).mp z; omega)
    have t6 : (nI kd < 16) = False := eq_false (nI_nlt (a := kd) (b := 16) (by omega) (by omega))
    have t7 : (nI kd < 19) = False := eq_false (nI_nlt (a := kd) (b := 19) (by omega) (by omega))
    have t8 : (nI kd = 19) = False := eq_false (fun z : nI kd = 19 => by have := (nI_eq (a := kd) (b := 19) (by omega) (by omega)).mp z; omega)
    have t9 : (nI kd < 22) = True := eq_true (nI_lt (a := kd) (b := 22) (by omega) (by omega))
    simp only [eL_law_161, eL_law_163, eL_law_226, eL_law_228, eL_law_229, eL_law_321, eL_law_323, eL_law_324, eL_law_402, eL_law_404, eL_law_406, eL_law_619, eL_law_621, eL_law_623, eL_law_675, eL_law_677, eL_law_679, eL_law_728, eL_law_730, eL_law_732, eL_law_809, eL_law_811, eL_law_813, eL_law_912, eL_law_914, eL_law_916, eL_law_988, eL_law_990, eL_law_992, isA_r, isA_n, isI_i, isF_f, isL_l, is1_i, is1_r, is1_n, is1_f, true_and, and_true, List.length_cons, List.length_nil, Nat.reduceAdd, Nat.reduceLeDiff, Nat.reduceSub, Option.some.injEq, exists_eq_left', aft_s, aft_n, ite_true, ite_false, if_true, if_false, Nat.zero_le, Nat.le_refl, reduceCtorEq, t0, t1, t2, t3, t4, t5, t6, t7, t8, t9]
    exact w_signal g hbf hT hX hY hc hn hm ha hj nx
  · have t0 : (nI kd = 0) = False := eq_false (nI_ne0 (n := kd) (by omega) (by omega))
    have t1 : (nI kd < 3) = False := eq_false (nI_nlt (a := kd) (b := 3) (by omega) (by omega))
    have t2 : (nI kd < 5) = False := eq_false (nI_nlt (a := kd) (b := 5) (by omega) (by omega))
    have t3 : (nI kd < 12) = False := eq_false (nI_nlt (a := kd) (b := 12) (by omega) (by omega))
    have t4 : (nI kd = 12) = False := eq_false (fun z : nI kd = 12 => by have := (nI_eq (a := kd) (b := 12) (by omega) (by omega)).mp z; omega)
    have t5 : (nI kd = 13) = False := eq_false (fun z : nI kd = 13 => by have := (nI_eq (a := kd) (b := 13) (by omega) (by omega)).mp z; omega)
    have t6 : (nI kd < 16) = False := eq_false (nI_nlt (a := kd) (b := 16) (by omega) (by omega))
    have t7 : (nI kd < 19) = False := eq_false (nI_nlt (a := kd) (b := 19) (by omega) (by omega))
    have t8 : (nI kd = 19) = False := eq_false (fun z : nI kd = 19 => by have := (nI_eq (a := kd) (b := 19) (by omega) (by omega)).mp z; omega)
    have t9 : (nI kd < 22) = False := eq_false (nI_nlt (a := kd) (b := 22) (by omega) (by omega))
    simp only [eL_law_161, eL_law_163, eL_law_226, eL_law_228, eL_law_229, eL_law_321, eL_law_323, eL_law_324, eL_law_402, eL_law_404, eL_law_406, eL_law_619, eL_law_621, eL_law_623, eL_law_675, eL_law_677, eL_law_679, eL_law_728, eL_law_730, eL_law_732, eL_law_809, eL_law_811, eL_law_813, eL_law_912, eL_law_914, eL_law_916, eL_law_988, eL_law_990, eL_law_992, isA_r, isA_n, isI_i, isF_f, isL_l, is1_i, is1_r, is1_n, is1_f, true_and, and_true, List.length_cons, List.length_nil, Nat.reduceAdd, Nat.reduceLeDiff, Nat.reduceSub, Option.some.injEq, exists_eq_left', aft_s, aft_n, ite_true, ite_false, if_true, if_false, Nat.zero_le, Nat.le_refl, reduceCtorEq, t0, t1, t2, t3, t4, t5, t6, t7, t8, t9]
    exact w_tick g hbf hT hX hY hc hn hm ha hj nx
theorem l_law (eb : E.1 b = some (arI L xs)) (hL : L ≤ 260) (hD : aw ≠ al ∧ aw ≠ ao ∧ al ≠ ao) (hK : ∀ H, K (.inl (some (.int 1))) H) : ∀ (R i : Nat) (σ : Sg) (fw : Nat → Nat) (fW fL fO : Nat → Int32) (H0 H : AH) (c n : Nat) (a10 a11 a12 a13 a14 a15 a16 a17 a18 a19 : Value), R + i = 110 → GI E P H0 x aw al ao σ (30 * i + 60) fw fW fL fO H → bX R ≤ JJ σ + c → bY R ≤ 4 * JJ σ + n → Ev E (d + 14) mL_law K 60 (lwF b x aw al ao (s_nS σ) (s_nJ σ) (4 * i) i a10 a11 a12 a13 a14 a15 a16 a17 a18 a19) [] H c n := by
  intro R
  induction R with
  | zero =>
    intro i σ fw fW fL fO H0 H c n a10 a11 a12 a13 a14 a15 a16 a17 a18 a19 hm g hc hn
    obtain ⟨C, G, I, A, F, h2⟩ := g
    have O := G.1
    have hi : i = 110 := by omega
    have hJ1 := JJ_top G (by omega)
    have hjn : (s_jn σ).length ≤ 16384 := Nat.le_trans (G.2.1.len O.J) (by omega)
    have e1 : (nI i < 110) = False := eq_false (nI_nlt (b := 110) (by omega) (by omega))
    rw [hL_law_60]
    simp only [eL_law_62, eL_law_64, eL_law_1289, eL_law_1291, eL_law_1294, eL_law_1295, eL_law_1297, isA_r, isA_n, isI_i, isF_f, isL_l, is1_i, is1_r, is1_n, is1_f, true_and, and_true, List.length_cons, List.length_nil, Nat.reduceAdd, Nat.reduceLeDiff, Nat.reduceSub, Option.some.injEq, exists_eq_left', aft_s, aft_n, ite_true, ite_false, if_true, if_false, Nat.zero_le, Nat.le_refl, reduceCtorEq, e1, i1_0]
    obtain ⟨z1, z2⟩ := b_end hJ1 hjn hc hn
    refine invk (4 * (s_jn σ).length + 100) (24 * (s_jn σ).length + 500) z1 z2 (k_isJournal C O I.1.2.2.2 hjn (Nat.le_refl _) (Nat.le_refl _) (fun H' => ?_))
    simp only [eL_law_1300, eL_law_1303, eL_law_1304, eL_law_1307, eL_law_1308, isA_r, isA_n, isI_i, isF_f, isL_l, is1_i, is1_r, is1_n, is1_f, true_and, and_true, List.length_cons, List.length_nil, Nat.reduceAdd, Nat.reduceLeDiff, Nat.reduceSub, Option.some.injEq, exists_eq_left', aft_s, aft_n, ite_true, ite_false, if_true, if_false, Nat.zero_le, Nat.le_refl, reduceCtorEq, i1_0, ok01_1]
    exact hK H'
  | succ R ih =>
    intro i σ fw fW fL fO H0 H c n a10 a11 a12 a13 a14 a15 a16 a17 a18 a19 hm g hc hn
    have g0 := g
    obtain ⟨C, G, I, A, F, h2⟩ := g
    have O := G.1
    have h4 := O.1.1
    have h30 := O.1.2
    have hJ1 := JJ_top G (by omega)
    have hT : 30 * i + 60 + 200 < 16384 := by omega
    have hT9 : 30 * i + 60 + 30 + 60 ≤ 16384 := by clear hc hn; omega
    obtain ⟨z1, z2, z3, z4, hc1, hn1⟩ := b_fact hJ1 hc hn
    clear hc hn
    have ebn : E.1 b ≠ none := by rw [eb]; simp
    have e1 : (nI i < 110) = True := eq_true (nI_lt (b := 110) (by omega) (by omega))
    have nx : NX E P d K b x aw al ao (4 * i) i (30 * i + 60) (bX R) (bY R) (sumF σ (s_nS σ)) := k_tail hT9 z1 z2 (fun σ' fw' fW' fL' fO' H0' H' c' n' b10 b11 b12 b13 b14 b15 b16 b17 b18 b19 g' h1 h2 => ih (i + 1) σ' fw' fW' fL' fO' H0' H' c' n' b10 b11 b12 b13 b14 b15 b16 b17 b18 b19 (by omega) (by rw [show 30 * (i + 1) + 60 = 30 * i + 60 + 30 by omega]; exact g') h1 h2)
    clear ih hK
    generalize bX R = X at nx z1 hc1
    generalize bY R = Y at nx z2 hn1
    have i1 : nI (4 * i) + 1 = nI (4 * i + 1) := nI_1 _
    have i2 : nI (4 * i) + 2 = nI (4 * i + 2) := nI_add (4 * i) 2
    rw [hL_law_60]
    simp only [eL_law_62, eL_law_64, eL_law_67, eL_law_69, eL_law_72, eL_law_73, eL_law_75, isA_r, isA_n, isI_i, isF_f, isL_l, is1_i, is1_r, is1_n, is1_f, true_and, and_true, List.length_cons, List.length_nil, Nat.reduceAdd, Nat.reduceLeDiff, Nat.reduceSub, Option.some.injEq, exists_eq_left', aft_s, aft_n, ite_true, ite_false, if_true, if_false, Nat.zero_le, Nat.le_refl, reduceCtorEq, e1, i1_0]
    refine invk 60 400 z3 z4 (k_sum C O (Nat.le_refl _) (Nat.le_refl _) (Nat.le_refl _) (fun H1 C1 => ?_))
    have hb1 := C1.fr.2.1 b ebn
    simp only [eL_law_78, eL_law_80, eL_law_81, eL_law_83, eL_law_85, isA_r, isA_n, isI_i, isF_f, isL_l, is1_i, is1_r, is1_n, is1_f, true_and, and_true, List.length_cons, List.length_nil, Nat.reduceAdd, Nat.reduceLeDiff, Nat.reduceSub, Option.some.injEq, exists_eq_left', aft_s, aft_n, ite_true, ite_false, if_true, if_false, Nat.zero_le, Nat.le_refl, reduceCtorEq]
    refine inv0 (k_pick (m := 26) hb1 eb hL (show 4 * i ≤ 1000 by omega) (by omega) (by omega) (fun kd hkd => ?_))
    simp only [eL_law_88, eL_law_90, eL_law_91, eL_law_93, eL_law_94, eL_law_95, eL_law_98, isA_r, isA_n, isI_i, isF_f, isL_l, is1_i, is1_r, is1_n, is1_f, true_and, and_true, List.length_cons, List.length_nil, Nat.reduceAdd, Nat.reduceLeDiff, Nat.reduceSub, Option.some.injEq, exists_eq_left', aft_s, aft_n, ite_true, ite_false, if_true, if_false, Nat.zero_le, Nat.le_refl, reduceCtorEq, i1]
    refine inv0 (k_pick (m := 1000) hb1 eb hL (show 4 * i + 1 ≤ 1000 by omega) (by omega) (by omega) (fun m hmm => ?_))
    simp only [eL_law_101, eL_law_103, eL_law_104, eL_law_106, eL_law_107, eL_law_108, eL_law_110, isA_r, isA_n, isI_i, isF_f, isL_l, is1_i, is1_r, is1_n, is1_f, true_and, and_true, List.length_cons, List.length_nil, Nat.reduceAdd, Nat.reduceLeDiff, Nat.reduceSub, Option.some.injEq, exists_eq_left', aft_s, aft_n, ite_true, ite_false, if_true, if_false, Nat.zero_le, Nat.le_refl, reduceCtorEq, i2]
    have g1 : GI E P H0 x aw al ao σ (30 * i + 60) fw fW fL fO H1 := ⟨C1, G, I, A, F, h2⟩
    have go156 : ∀ (a j : Nat) (b15 : Value), a ≤ s_nS σ → j ≤ s_nJ σ → Ev E (d + 14) mL_law K 156 (lwF b x aw al ao (s_nS σ) (s_nJ σ) (4 * i) i (.long (sumF σ (s_nS σ))) (.retAddr 0) (.int (nI kd)) (.int (nI m)) (.int (nI a)) b15 a16 a17 a18 a19) [.int (nI j)] H1 (c - 60) (n - 400) := by
      intro a j b15 ha hj
      simp only [eL_law_156, eL_law_158, eL_law_159, isA_r, isA_n, isI_i, isF_f, isL_l, is1_i, is1_r, is1_n, is1_f, true_and, and_true, List.length_cons, List.length_nil, Nat.reduceAdd, Nat.reduceLeDiff, Nat.reduceSub, Option.some.injEq, exists_eq_left', aft_s, aft_n, ite_true, ite_false, if_true, if_false, Nat.zero_le, Nat.le_refl, reduceCtorEq]
      exact w_kind g1 rfl hT z1 z2 hc1 hn1 hmm ha hj hkd eb hL (by omega) hD nx
    have go131 : ∀ (a : Nat) (b14 : Value), a ≤ s_nS σ → Ev E (d + 14) mL_law K 131 (lwF b x aw al ao (s_nS σ) (s_nJ σ) (4 * i) i (.long (sumF σ (s_nS σ))) (.retAddr 0) (.int (nI kd)) (.int (nI m)) b14 a15 a16 a17 a18 a19) [.int (nI a)] H1 (c - 60) (n - 400) := by
      intro a b14 ha
      have r31 := rm_31 hmm
      by_cases hJ : s_nJ σ = 0
      · have e2 : (nI (s_nJ σ) = 0) = True := eq_true (by rw [hJ]; rfl)
        simp only [eL_law_131, eL_law_133, eL_law_135, eL_law_138, eL_law_140, eL_law_142, eL_law_143, eL_law_146, eL_law_148, eL_law_151, eL_law_153, eL_law_155, isA_r, isA_n, isI_i, isF_f, isL_l, is1_i, is1_r, is1_n, is1_f, true_and, and_true, List.length_cons, List.length_nil, Nat.reduceAdd, Nat.reduceLeDiff, Nat.reduceSub, Option.some.injEq, exists_eq_left', aft_s, aft_n, ite_true, ite_false, if_true, if_false, Nat.zero_le, Nat.le_refl, reduceCtorEq, e2]
        exact go156 a (s_nJ σ) _ ha (Nat.le_refl _)
      · have e2 : (nI (s_nJ σ) = 0) = False := eq_false (nI_ne0 (by omega) (by omega))
        by_cases hq : m % 31 = 0
        · have e3 : (nI (m % 31) = 0) = True := eq_true (by rw [hq]; rfl)
          simp only [eL_law_131, eL_law_133, eL_law_135, eL_law_138, eL_law_140, eL_law_142, eL_law_143, eL_law_146, eL_law_148, eL_law_151, eL_law_153, eL_law_155, isA_r, isA_n, isI_i, isF_f, isL_l, is1_i, is1_r, is1_n, is1_f, true_and, and_true, List.length_cons, List.length_nil, Nat.reduceAdd, Nat.reduceLeDiff, Nat.reduceSub, Option.some.injEq, exists_eq_left', aft_s, aft_n, ite_true, ite_false, if_true, if_false, Nat.zero_le, Nat.le_refl, reduceCtorEq, e2, nz_2, nz_3, nz_4, nz_6, nz_8, nz_11, nz_23, nz_29, nz_31, nz_41, not_false_eq_true, r31, e3]
          exact go156 a (s_nJ σ) _ ha (Nat.le_refl _)
        · have hlt := Nat.mod_lt m (show 0 < 31 by omega)
          have e3 : (nI (m % 31) = 0) = False := eq_false (nI_ne0 (by omega) (by omega))
          have rj : nI m - nI m / nI (s_nJ σ) * nI (s_nJ σ) = nI (m % s_nJ σ) := pk_rem (by omega) (by omega) (by omega)
          simp only [eL_law_131, eL_law_133, eL_law_135, eL_law_138, eL_law_140, eL_law_142, eL_law_143, eL_law_146, eL_law_148, eL_law_151, eL_law_153, eL_law_155, isA_r, isA_n, isI_i, isF_f, isL_l, is1_i, is1_r, is1_n, is1_f, true_and, and_true, List.length_cons, List.length_nil, Nat.reduceAdd, Nat.reduceLeDiff, Nat.reduceSub, Option.some.injEq, exists_eq_left', aft_s, aft_n, ite_true, ite_false, if_true, if_false, Nat.zero_le, Nat.le_refl, reduceCtorEq, e2, nz_2, nz_3, nz_4, nz_6, nz_8, nz_11, nz_23, nz_29, nz_31, nz_41, not_false_eq_true, r31, e3, rj]
          exact go156 a (m % s_nJ σ) _ ha (Nat.le_of_lt (Nat.mod_lt m (by omega)))
    refine inv0 (k_pick (m := 40) hb1 eb hL (show 4 * i + 2 ≤ 1000 by omega) (by omega) (by omega) (fun r hr => ?_))
    by_cases hr0 : r = 0
    · have e2 : (nI r = 0) = True := eq_true (by rw [hr0]; rfl)
      simp only [eL_law_113, eL_law_116, eL_law_118, eL_law_121, eL_law_122, eL_law_124, eL_law_125, eL_law_126, eL_law_128, isA_r, isA_n, isI_i, isF_f, isL_l, is1_i, is1_r, is1_n, is1_f, true_and, and_true, List.length_cons, List.length_nil, Nat.reduceAdd, Nat.reduceLeDiff, Nat.reduceSub, Option.some.injEq, exists_eq_left', aft_s, aft_n, ite_true, ite_false, if_true, if_false, Nat.zero_le, Nat.le_refl, reduceCtorEq, e2]
      exact go131 (s_nS σ) _ (Nat.le_refl _)
    · have e2 : (nI r = 0) = False := eq_false (nI_ne0 (by omega) (by omega))
      simp only [eL_law_113, eL_law_116, eL_law_118, eL_law_121, eL_law_122, eL_law_124, eL_law_125, eL_law_126, eL_law_128, isA_r, isA_n, isI_i, isF_f, isL_l, is1_i, is1_r, is1_n, is1_f, true_and, and_true, List.length_cons, List.length_nil, Nat.reduceAdd, Nat.reduceLeDiff, Nat.reduceSub, Option.some.injEq, exists_eq_left', aft_s, aft_n, ite_true, ite_false, if_true, if_false, Nat.zero_le, Nat.le_refl, reduceCtorEq, e2, i2]
      refine inv0 (k_pick hb1 eb hL (show 4 * i + 2 ≤ 1000 by omega) (show 0 < s_nS σ by omega) (by omega) (fun a haa => ?_))
      simp only [aft_s]
      exact go131 a _ (Nat.le_of_lt haa)
end LOOP
