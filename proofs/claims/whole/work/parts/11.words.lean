def lw_G : List Cond := lw_tbl.filter goodWord
theorem lw_in (i : Nat) {w : Cond} (h : lw_tbl[i]? = some w) (hg : goodWord w = true) : w ∈ lw_G := List.mem_filter.mpr ⟨List.mem_of_getElem? h, hg⟩
def oN : Nat → String
  | 0 => RJx4a65c
  | 1 => RX0
  | 2 => RX1
  | 3 => RX2
  | 4 => RX3
  | 5 => RX4
  | 6 => RX5
  | 7 => RL
  | 8 => RJ7
  | 9 => RJ15
  | 10 => RJ3
  | 11 => RJ8
  | 12 => RJxc12de
  | 13 => RJxa1e45
  | 14 => RJ7
  | _ => ""
def exN : Nat → String
  | 1 => "java/lang/IllegalStateException"
  | 2 => "java/lang/IndexOutOfBoundsException"
  | 3 => "java/util/NoSuchElementException"
  | 4 => "java/lang/IllegalArgumentException"
  | 5 => "java/lang/UnsupportedOperationException"
  | _ => ""
def exI : Nat → Nat
  | 1 => 13
  | 2 => 19
  | 3 => 39
  | 4 => 48
  | 5 => 54
  | _ => 0
theorem look_mem {α : Type} {l : List (Nat × α)} {k : Nat} {x : α} (h : look l k = some x) : (k, x) ∈ l := by
  induction l with
  | nil => cases h
  | cons a r ih =>
    unfold look at h
    split at h
    · next e => cases h; rw [← Nat.eq_of_beq_eq_true e]; exact List.mem_cons_self
    · exact List.mem_cons_of_mem _ (ih h)
def strL : List (Nat × String) := [(58, "there are 4 sessions"), (83, "the session is dropped"), (106, "the session is attached"), (125, "there is no such range of commands"), (134, "no command of the range is kept"), (147, "a number is out of range"), (152, "there are 30 jobs"), (188, "it is in front already, or its session is dropped"), (193, "the job is done or ended"), (199, "there is no such state"), (214, "no job waits at this rank"), (216, "the job does not wait"), (221, "the job neither runs nor waits"), (223, "the job is not stopped"), (229, "there is no such signal"), (235, "the ticks are not between 1 and 60"), (250, "there are no jobs"), (254, "there is no such session"), (257, "there is no such job"), (259, "no job is in front"), (261, "there is no such command"), (266, "there is no such lock"), (268, "there is no such entry")]
def thrL : List (Nat × Nat) := [(60, 1), (127, 4), (136, 3), (151, 5), (256, 2)]
def kT : Nat → FieldType
  | 0 => .int
  | 1 => .boolean
  | 2 => .long
  | 3 => .double
  | _ => .object "java/lang/Object"
def rawH (hh : List (Nat × Nat × Nat × Nat)) : List (Nat × Nat × Nat × Nat) := hh.map fun x => (x.1, x.2.1, x.2.2.1, exI x.2.2.2)
def cdW (M : MD) : Cond := match mH M with
  | [] => .code (mY M) (mB M) (mL M) (mR M)
  | x :: r => .codeWith (mY M) (mB M) (mL M) (mR M) (rawH (x :: r))
/-- a throw's place: its pool entries, and what the machine reads there -/
def exP : List String := ["java/lang/RuntimeException", "java/lang/Exception"]
def okT (M : MD) (pc X ik is ic : Nat) (tx : String) (wide : Bool) : Prop := decode (mB M) pc = .ok (.new ik, 3) ∧ decode (mB M) (pc + 3) = .ok (.dup, 1) ∧
  (if wide = true then decode (mB M) (pc + 4) = .ok (.ldc_w is, 3) ∧ decode (mB M) (pc + 7) = .ok (.invokespecial ic, 3) ∧ decode (mB M) (pc + 10) = .ok (.athrow, 1) else decode (mB M) (pc + 4) = .ok (.ldc is, 2) ∧ decode (mB M) (pc + 6) = .ok (.invokespecial ic, 3) ∧ decode (mB M) (pc + 9) = .ok (.athrow, 1)) ∧
  Cond.classLink RX4 ik (exN X) ∈ lw_G ∧ Cond.initialized (exN X) ∈ lw_G ∧ (is, tx) ∈ strL ∧ (ic, X) ∈ thrL
def okM (M : MD) : Prop := cdW M ∈ lw_G ∧ Cond.initialized (mY M).cls ∈ lw_G ∧ plainName (mY M).cls = true ∧ ((mY M).cls ≠ "java/lang/invoke/MethodHandle" ∧ (mY M).cls ≠ "java/lang/invoke/VarHandle") ∧ mL M ≤ 9 ∧ (mI M = true → (mY M).name = "<init>" ∧ mR M = none ∧ mH M = []) ∧ (mY M).cls = oN (mO M) ∧
  (∀ x ∈ mH M, (0 < x.2.2.2 ∧ x.2.2.2 < 6) ∧ mO M = 7) ∧
  (∀ pc X, look (mT M) pc = some X → mO M = 5 ∧ mH M = [] ∧ (0 < X ∧ X < 6) ∧ ∃ ik is ic tx wide, okT M pc X ik is ic tx wide)
theorem in_Shellhouse : Cond.initialized "Shellhouse" ∈ lw_G := lw_in 37 (by decide +kernel) (by decide +kernel)
theorem in_Shellhouse_History : Cond.initialized "Shellhouse$History" ∈ lw_G := lw_in 42 (by decide +kernel) (by decide +kernel)
theorem in_Shellhouse_Job : Cond.initialized "Shellhouse$Job" ∈ lw_G := lw_in 59 (by decide +kernel) (by decide +kernel)
theorem in_Shellhouse_Journal : Cond.initialized "Shellhouse$Journal" ∈ lw_G := lw_in 43 (by decide +kernel) (by decide +kernel)
theorem in_Shellhouse_Session : Cond.initialized "Shellhouse$Session" ∈ lw_G := lw_in 49 (by decide +kernel) (by decide +kernel)
theorem in_ShellhouseLaw : Cond.initialized "ShellhouseLaw" ∈ lw_G := lw_in 36 (by decide +kernel) (by decide +kernel)
theorem in_ShellhouseModel : Cond.initialized "ShellhouseModel" ∈ lw_G := lw_in 44 (by decide +kernel) (by decide +kernel)
theorem in_java_util_AbstractCollection : Cond.initialized "java/util/AbstractCollection" ∈ lw_G := lw_in 38 (by decide +kernel) (by decide +kernel)
theorem in_java_util_AbstractList : Cond.initialized "java/util/AbstractList" ∈ lw_G := lw_in 39 (by decide +kernel) (by decide +kernel)
theorem in_java_util_ArrayList : Cond.initialized "java/util/ArrayList" ∈ lw_G := lw_in 40 (by decide +kernel) (by decide +kernel)
theorem in_java_util_Arrays : Cond.initialized "java/util/Arrays" ∈ lw_G := lw_in 41 (by decide +kernel) (by decide +kernel)
theorem in_java_util_Objects : Cond.initialized "java/util/Objects" ∈ lw_G := lw_in 54 (by decide +kernel) (by decide +kernel)
theorem in_jdk_internal_util_ArraysSupport : Cond.initialized "jdk/internal/util/ArraysSupport" ∈ lw_G := lw_in 50 (by decide +kernel) (by decide +kernel)
theorem in_jdk_internal_util_Preconditions : Cond.initialized "jdk/internal/util/Preconditions" ∈ lw_G := lw_in 55 (by decide +kernel) (by decide +kernel)
theorem inx_1 : Cond.initialized (exN 1) ∈ lw_G := lw_in 48 (by decide +kernel) (by decide +kernel)
theorem inx_2 : Cond.initialized (exN 2) ∈ lw_G := lw_in 53 (by decide +kernel) (by decide +kernel)
theorem inx_3 : Cond.initialized (exN 3) ∈ lw_G := lw_in 56 (by decide +kernel) (by decide +kernel)
theorem inx_4 : Cond.initialized (exN 4) ∈ lw_G := lw_in 57 (by decide +kernel) (by decide +kernel)
theorem inx_5 : Cond.initialized (exN 5) ∈ lw_G := lw_in 58 (by decide +kernel) (by decide +kernel)
theorem ok_X0_init : okM mX0_init := ⟨lw_in 101 (by decide +kernel) (by decide +kernel), in_Shellhouse_History, by decide +kernel, by decide +kernel, by decide, by decide, rfl, by decide, fun pc X h => nomatch h⟩
theorem ok_X0_append : okM mX0_append := ⟨lw_in 620 (by decide +kernel) (by decide +kernel), in_Shellhouse_History, by decide +kernel, by decide +kernel, by decide, by decide, rfl, by decide, fun pc X h => nomatch h⟩
theorem ok_X0_forget : okM mX0_forget := ⟨lw_in 628 (by decide +kernel) (by decide +kernel), in_Shellhouse_History, by decide +kernel, by decide +kernel, by decide, by decide, rfl, by decide, fun pc X h => nomatch h⟩
theorem ok_X0_takeOut : okM mX0_takeOut := ⟨lw_in 624 (by decide +kernel) (by decide +kernel), in_Shellhouse_History, by decide +kernel, by decide +kernel, by decide, by decide, rfl, by decide, fun pc X h => nomatch h⟩
theorem ok_X0_lastBetween : okM mX0_lastBetween := ⟨lw_in 543 (by decide +kernel) (by decide +kernel), in_Shellhouse_History, by decide +kernel, by decide +kernel, by decide, by decide, rfl, by decide, fun pc X h => nomatch h⟩
theorem ok_X1_init : okM mX1_init := ⟨lw_in 582 (by decide +kernel) (by decide +kernel), in_Shellhouse_Job, by decide +kernel, by decide +kernel, by decide, by decide, rfl, by decide, fun pc X h => nomatch h⟩
theorem ok_X1_needs : okM mX1_needs := ⟨lw_in 444 (by decide +kernel) (by decide +kernel), in_Shellhouse_Job, by decide +kernel, by decide +kernel, by decide, by decide, rfl, by decide, fun pc X h => nomatch h⟩
theorem ok_X2_init : okM mX2_init := ⟨lw_in 117 (by decide +kernel) (by decide +kernel), in_Shellhouse_Journal, by decide +kernel, by decide +kernel, by decide, by decide, rfl, by decide, fun pc X h => nomatch h⟩
theorem ok_X2_write : okM mX2_write := ⟨lw_in 420 (by decide +kernel) (by decide +kernel), in_Shellhouse_Journal, by decide +kernel, by decide +kernel, by decide, by decide, rfl, by decide, fun pc X h => nomatch h⟩
theorem ok_X2_conditionAt : okM mX2_conditionAt := ⟨lw_in 655 (by decide +kernel) (by decide +kernel), in_Shellhouse_Journal, by decide +kernel, by decide +kernel, by decide, by decide, rfl, by decide, fun pc X h => nomatch h⟩
theorem ok_X2_lastStateOf : okM mX2_lastStateOf := ⟨lw_in 651 (by decide +kernel) (by decide +kernel), in_Shellhouse_Journal, by decide +kernel, by decide +kernel, by decide, by decide, rfl, by decide, fun pc X h => nomatch h⟩
theorem ok_X3_init : okM mX3_init := ⟨lw_in 255 (by decide +kernel) (by decide +kernel), in_Shellhouse_Session, by decide +kernel, by decide +kernel, by decide, by decide, rfl, by decide, fun pc X h => nomatch h⟩
theorem ok_X4_init : okM mX4_init := ⟨lw_in 64 (by decide +kernel) (by decide +kernel), in_Shellhouse, by decide +kernel, by decide +kernel, by decide, by decide, rfl, by decide, fun pc X h => nomatch h⟩
theorem okt_X4_open_13 : okT mX4_open 13 1 56 58 60 "there are 4 sessions" false := ⟨by decide +kernel, by decide +kernel, by decide +kernel, lw_in 181 (by decide +kernel) (by decide +kernel), inx_1, by decide +kernel, by decide +kernel⟩
theorem ok_X4_open : okM mX4_open := ⟨lw_in 180 (by decide +kernel) (by decide +kernel), in_Shellhouse, by decide +kernel, by decide +kernel, by decide, by decide, rfl, by decide, fun pc X h => ⟨rfl, rfl, by
  have h := look_mem h
  simp only [mT, mX4_open, List.mem_cons, List.not_mem_nil, or_false, Prod.mk.injEq] at h
  obtain ⟨rfl, rfl⟩ := h
  exact ⟨by decide, _, _, _, _, _, okt_X4_open_13⟩⟩⟩
theorem ok_X4_setPrivate : okM mX4_setPrivate := ⟨lw_in 350 (by decide +kernel) (by decide +kernel), in_Shellhouse, by decide +kernel, by decide +kernel, by decide, by decide, rfl, by decide, fun pc X h => nomatch h⟩
theorem okt_X4_drop_13 : okT mX4_drop 13 1 56 83 60 "the session is dropped" false := ⟨by decide +kernel, by decide +kernel, by decide +kernel, lw_in 181 (by decide +kernel) (by decide +kernel), inx_1, by decide +kernel, by decide +kernel⟩
theorem ok_X4_drop : okM mX4_drop := ⟨lw_in 391 (by decide +kernel) (by decide +kernel), in_Shellhouse, by decide +kernel, by decide +kernel, by decide, by decide, rfl, by decide, fun pc X h => ⟨rfl, rfl, by
  have h := look_mem h
  simp only [mT, mX4_drop, List.mem_cons, List.not_mem_nil, or_false, Prod.mk.injEq] at h
  obtain ⟨rfl, rfl⟩ := h
  exact ⟨by decide, _, _, _, _, _, okt_X4_drop_13⟩⟩⟩
theorem okt_X4_takeUp_13 : okT mX4_takeUp 13 1 56 106 60 "the session is attached" false := ⟨by decide +kernel, by decide +kernel, by decide +kernel, lw_in 181 (by decide +kernel) (by decide +kernel), inx_1, by decide +kernel, by decide +kernel⟩
theorem ok_X4_takeUp : okM mX4_takeUp := ⟨lw_in 455 (by decide +kernel) (by decide +kernel), in_Shellhouse, by decide +kernel, by decide +kernel, by decide, by decide, rfl, by decide, fun pc X h => ⟨rfl, rfl, by
  have h := look_mem h
  simp only [mT, mX4_takeUp, List.mem_cons, List.not_mem_nil, or_false, Prod.mk.injEq] at h
  obtain ⟨rfl, rfl⟩ := h
  exact ⟨by decide, _, _, _, _, _, okt_X4_takeUp_13⟩⟩⟩
theorem ok_X4_isAttached : okM mX4_isAttached := ⟨lw_in 474 (by decide +kernel) (by decide +kernel), in_Shellhouse, by decide +kernel, by decide +kernel, by decide, by decide, rfl, by decide, fun pc X h => nomatch h⟩
theorem ok_X4_kept : okM mX4_kept := ⟨lw_in 481 (by decide +kernel) (by decide +kernel), in_Shellhouse, by decide +kernel, by decide +kernel, by decide, by decide, rfl, by decide, fun pc X h => nomatch h⟩
theorem ok_X4_commandAt : okM mX4_commandAt := ⟨lw_in 489 (by decide +kernel) (by decide +kernel), in_Shellhouse, by decide +kernel, by decide +kernel, by decide, by decide, rfl, by decide, fun pc X h => nomatch h⟩
theorem ok_X4_common : okM mX4_common := ⟨lw_in 156 (by decide +kernel) (by decide +kernel), in_Shellhouse, by decide +kernel, by decide +kernel, by decide, by decide, rfl, by decide, fun pc X h => nomatch h⟩
theorem ok_X4_commonAt : okM mX4_commonAt := ⟨lw_in 515 (by decide +kernel) (by decide +kernel), in_Shellhouse, by decide +kernel, by decide +kernel, by decide, by decide, rfl, by decide, fun pc X h => nomatch h⟩
theorem okt_X4_search_22 : okT mX4_search 22 4 123 125 127 "there is no such range of commands" false := ⟨by decide +kernel, by decide +kernel, by decide +kernel, lw_in 524 (by decide +kernel) (by decide +kernel), inx_4, by decide +kernel, by decide +kernel⟩
theorem okt_X4_search_75 : okT mX4_search 75 3 132 134 136 "no command of the range is kept" false := ⟨by decide +kernel, by decide +kernel, by decide +kernel, lw_in 493 (by decide +kernel) (by decide +kernel), inx_3, by decide +kernel, by decide +kernel⟩
theorem ok_X4_search : okM mX4_search := ⟨lw_in 523 (by decide +kernel) (by decide +kernel), in_Shellhouse, by decide +kernel, by decide +kernel, by decide, by decide, rfl, by decide, fun pc X h => ⟨rfl, rfl, by
  have h := look_mem h
  simp only [mT, mX4_search, List.mem_cons, List.not_mem_nil, or_false, Prod.mk.injEq] at h
  rcases h with ⟨rfl, rfl⟩ | ⟨rfl, rfl⟩
  · exact ⟨by decide, _, _, _, _, _, okt_X4_search_22⟩
  · exact ⟨by decide, _, _, _, _, _, okt_X4_search_75⟩⟩⟩
theorem okt_X4_start_29 : okT mX4_start 29 4 123 147 127 "a number is out of range" false := ⟨by decide +kernel, by decide +kernel, by decide +kernel, lw_in 524 (by decide +kernel) (by decide +kernel), inx_4, by decide +kernel, by decide +kernel⟩
theorem okt_X4_start_52 : okT mX4_start 52 5 149 83 151 "the session is dropped" false := ⟨by decide +kernel, by decide +kernel, by decide +kernel, lw_in 563 (by decide +kernel) (by decide +kernel), inx_5, by decide +kernel, by decide +kernel⟩
theorem okt_X4_start_78 : okT mX4_start 78 1 56 152 60 "there are 30 jobs" false := ⟨by decide +kernel, by decide +kernel, by decide +kernel, lw_in 181 (by decide +kernel) (by decide +kernel), inx_1, by decide +kernel, by decide +kernel⟩
theorem ok_X4_start : okM mX4_start := ⟨lw_in 552 (by decide +kernel) (by decide +kernel), in_Shellhouse, by decide +kernel, by decide +kernel, by decide, by decide, rfl, by decide, fun pc X h => ⟨rfl, rfl, by
  have h := look_mem h
  simp only [mT, mX4_start, List.mem_cons, List.not_mem_nil, or_false, Prod.mk.injEq] at h
  rcases h with ⟨rfl, rfl⟩ | ⟨rfl, rfl⟩ | ⟨rfl, rfl⟩
  · exact ⟨by decide, _, _, _, _, _, okt_X4_start_29⟩
  · exact ⟨by decide, _, _, _, _, _, okt_X4_start_52⟩
  · exact ⟨by decide, _, _, _, _, _, okt_X4_start_78⟩⟩⟩
theorem ok_X4_state : okM mX4_state := ⟨lw_in 635 (by decide +kernel) (by decide +kernel), in_Shellhouse, by decide +kernel, by decide +kernel, by decide, by decide, rfl, by decide, fun pc X h => nomatch h⟩
theorem ok_X4_stateByJournal : okM mX4_stateByJournal := ⟨lw_in 647 (by decide +kernel) (by decide +kernel), in_Shellhouse, by decide +kernel, by decide +kernel, by decide, by decide, rfl, by decide, fun pc X h => nomatch h⟩
theorem ok_X4_toDo : okM mX4_toDo := ⟨lw_in 662 (by decide +kernel) (by decide +kernel), in_Shellhouse, by decide +kernel, by decide +kernel, by decide, by decide, rfl, by decide, fun pc X h => nomatch h⟩
theorem ok_X4_sessionOf : okM mX4_sessionOf := ⟨lw_in 669 (by decide +kernel) (by decide +kernel), in_Shellhouse, by decide +kernel, by decide +kernel, by decide, by decide, rfl, by decide, fun pc X h => nomatch h⟩
theorem ok_X4_front : okM mX4_front := ⟨lw_in 676 (by decide +kernel) (by decide +kernel), in_Shellhouse, by decide +kernel, by decide +kernel, by decide, by decide, rfl, by decide, fun pc X h => nomatch h⟩
theorem okt_X4_toFront_26 : okT mX4_toFront 26 5 149 188 151 "it is in front already, or its session is dropped" false := ⟨by decide +kernel, by decide +kernel, by decide +kernel, lw_in 563 (by decide +kernel) (by decide +kernel), inx_5, by decide +kernel, by decide +kernel⟩
theorem okt_X4_toFront_43 : okT mX4_toFront 43 1 56 193 60 "the job is done or ended" false := ⟨by decide +kernel, by decide +kernel, by decide +kernel, lw_in 181 (by decide +kernel) (by decide +kernel), inx_1, by decide +kernel, by decide +kernel⟩
theorem ok_X4_toFront : okM mX4_toFront := ⟨lw_in 687 (by decide +kernel) (by decide +kernel), in_Shellhouse, by decide +kernel, by decide +kernel, by decide, by decide, rfl, by decide, fun pc X h => ⟨rfl, rfl, by
  have h := look_mem h
  simp only [mT, mX4_toFront, List.mem_cons, List.not_mem_nil, or_false, Prod.mk.injEq] at h
  rcases h with ⟨rfl, rfl⟩ | ⟨rfl, rfl⟩
  · exact ⟨by decide, _, _, _, _, _, okt_X4_toFront_26⟩
  · exact ⟨by decide, _, _, _, _, _, okt_X4_toFront_43⟩⟩⟩
theorem ok_X4_toBack : okM mX4_toBack := ⟨lw_in 699 (by decide +kernel) (by decide +kernel), in_Shellhouse, by decide +kernel, by decide +kernel, by decide, by decide, rfl, by decide, fun pc X h => nomatch h⟩
theorem okt_X4_count_13 : okT mX4_count 13 4 123 199 127 "there is no such state" false := ⟨by decide +kernel, by decide +kernel, by decide +kernel, lw_in 524 (by decide +kernel) (by decide +kernel), inx_4, by decide +kernel, by decide +kernel⟩
theorem ok_X4_count : okM mX4_count := ⟨lw_in 706 (by decide +kernel) (by decide +kernel), in_Shellhouse, by decide +kernel, by decide +kernel, by decide, by decide, rfl, by decide, fun pc X h => ⟨rfl, rfl, by
  have h := look_mem h
  simp only [mT, mX4_count, List.mem_cons, List.not_mem_nil, or_false, Prod.mk.injEq] at h
  obtain ⟨rfl, rfl⟩ := h
  exact ⟨by decide, _, _, _, _, _, okt_X4_count_13⟩⟩⟩
theorem ok_X4_holder : okM mX4_holder := ⟨lw_in 717 (by decide +kernel) (by decide +kernel), in_Shellhouse, by decide +kernel, by decide +kernel, by decide, by decide, rfl, by decide, fun pc X h => nomatch h⟩
theorem ok_X4_holderByJobs : okM mX4_holderByJobs := ⟨lw_in 728 (by decide +kernel) (by decide +kernel), in_Shellhouse, by decide +kernel, by decide +kernel, by decide, by decide, rfl, by decide, fun pc X h => nomatch h⟩
theorem ok_X4_holds : okM mX4_holds := ⟨lw_in 735 (by decide +kernel) (by decide +kernel), in_Shellhouse, by decide +kernel, by decide +kernel, by decide, by decide, rfl, by decide, fun pc X h => nomatch h⟩
theorem ok_X4_waiting : okM mX4_waiting := ⟨lw_in 160 (by decide +kernel) (by decide +kernel), in_Shellhouse, by decide +kernel, by decide +kernel, by decide, by decide, rfl, by decide, fun pc X h => nomatch h⟩
theorem okt_X4_waitingAt_15 : okT mX4_waitingAt 15 3 132 214 136 "no job waits at this rank" false := ⟨by decide +kernel, by decide +kernel, by decide +kernel, lw_in 493 (by decide +kernel) (by decide +kernel), inx_3, by decide +kernel, by decide +kernel⟩
theorem ok_X4_waitingAt : okM mX4_waitingAt := ⟨lw_in 742 (by decide +kernel) (by decide +kernel), in_Shellhouse, by decide +kernel, by decide +kernel, by decide, by decide, rfl, by decide, fun pc X h => ⟨rfl, rfl, by
  have h := look_mem h
  simp only [mT, mX4_waitingAt, List.mem_cons, List.not_mem_nil, or_false, Prod.mk.injEq] at h
  obtain ⟨rfl, rfl⟩ := h
  exact ⟨by decide, _, _, _, _, _, okt_X4_waitingAt_15⟩⟩⟩
theorem okt_X4_blockers_15 : okT mX4_blockers 15 1 56 216 60 "the job does not wait" false := ⟨by decide +kernel, by decide +kernel, by decide +kernel, lw_in 181 (by decide +kernel) (by decide +kernel), inx_1, by decide +kernel, by decide +kernel⟩
theorem ok_X4_blockers : okM mX4_blockers := ⟨lw_in 750 (by decide +kernel) (by decide +kernel), in_Shellhouse, by decide +kernel, by decide +kernel, by decide, by decide, rfl, by decide, fun pc X h => ⟨rfl, rfl, by
  have h := look_mem h
  simp only [mT, mX4_blockers, List.mem_cons, List.not_mem_nil, or_false, Prod.mk.injEq] at h
  obtain ⟨rfl, rfl⟩ := h
  exact ⟨by decide, _, _, _, _, _, okt_X4_blockers_15⟩⟩⟩
theorem okt_X4_stop_13 : okT mX4_stop 13 1 56 221 60 "the job neither runs nor waits" false := ⟨by decide +kernel, by decide +kernel, by decide +kernel, lw_in 181 (by decide +kernel) (by decide +kernel), inx_1, by decide +kernel, by decide +kernel⟩
theorem ok_X4_stop : okM mX4_stop := ⟨lw_in 758 (by decide +kernel) (by decide +kernel), in_Shellhouse, by decide +kernel, by decide +kernel, by decide, by decide, rfl, by decide, fun pc X h => ⟨rfl, rfl, by
  have h := look_mem h
  simp only [mT, mX4_stop, List.mem_cons, List.not_mem_nil, or_false, Prod.mk.injEq] at h
  obtain ⟨rfl, rfl⟩ := h
  exact ⟨by decide, _, _, _, _, _, okt_X4_stop_13⟩⟩⟩
theorem okt_X4_goOn_13 : okT mX4_goOn 13 1 56 223 60 "the job is not stopped" false := ⟨by decide +kernel, by decide +kernel, by decide +kernel, lw_in 181 (by decide +kernel) (by decide +kernel), inx_1, by decide +kernel, by decide +kernel⟩
theorem ok_X4_goOn : okM mX4_goOn := ⟨lw_in 766 (by decide +kernel) (by decide +kernel), in_Shellhouse, by decide +kernel, by decide +kernel, by decide, by decide, rfl, by decide, fun pc X h => ⟨rfl, rfl, by
  have h := look_mem h
  simp only [mT, mX4_goOn, List.mem_cons, List.not_mem_nil, or_false, Prod.mk.injEq] at h
  obtain ⟨rfl, rfl⟩ := h
  exact ⟨by decide, _, _, _, _, _, okt_X4_goOn_13⟩⟩⟩
theorem okt_X4_end_13 : okT mX4_end 13 1 56 193 60 "the job is done or ended" false := ⟨by decide +kernel, by decide +kernel, by decide +kernel, lw_in 181 (by decide +kernel) (by decide +kernel), inx_1, by decide +kernel, by decide +kernel⟩
theorem ok_X4_end : okM mX4_end := ⟨lw_in 774 (by decide +kernel) (by decide +kernel), in_Shellhouse, by decide +kernel, by decide +kernel, by decide, by decide, rfl, by decide, fun pc X h => ⟨rfl, rfl, by
  have h := look_mem h
  simp only [mT, mX4_end, List.mem_cons, List.not_mem_nil, or_false, Prod.mk.injEq] at h
  obtain ⟨rfl, rfl⟩ := h
  exact ⟨by decide, _, _, _, _, _, okt_X4_end_13⟩⟩⟩
theorem okt_X4_signal_24 : okT mX4_signal 24 4 123 229 127 "there is no such signal" false := ⟨by decide +kernel, by decide +kernel, by decide +kernel, lw_in 524 (by decide +kernel) (by decide +kernel), inx_4, by decide +kernel, by decide +kernel⟩
theorem ok_X4_signal : okM mX4_signal := ⟨lw_in 785 (by decide +kernel) (by decide +kernel), in_Shellhouse, by decide +kernel, by decide +kernel, by decide, by decide, rfl, by decide, fun pc X h => ⟨rfl, rfl, by
  have h := look_mem h
  simp only [mT, mX4_signal, List.mem_cons, List.not_mem_nil, or_false, Prod.mk.injEq] at h
  obtain ⟨rfl, rfl⟩ := h
  exact ⟨by decide, _, _, _, _, _, okt_X4_signal_24⟩⟩⟩
theorem okt_X4_tick_11 : okT mX4_tick 11 4 123 235 127 "the ticks are not between 1 and 60" false := ⟨by decide +kernel, by decide +kernel, by decide +kernel, lw_in 524 (by decide +kernel) (by decide +kernel), inx_4, by decide +kernel, by decide +kernel⟩
theorem ok_X4_tick : okM mX4_tick := ⟨lw_in 797 (by decide +kernel) (by decide +kernel), in_Shellhouse, by decide +kernel, by decide +kernel, by decide, by decide, rfl, by decide, fun pc X h => ⟨rfl, rfl, by
  have h := look_mem h
  simp only [mT, mX4_tick, List.mem_cons, List.not_mem_nil, or_false, Prod.mk.injEq] at h
  obtain ⟨rfl, rfl⟩ := h
  exact ⟨by decide, _, _, _, _, _, okt_X4_tick_11⟩⟩⟩
theorem ok_X4_entries : okM mX4_entries := ⟨lw_in 168 (by decide +kernel) (by decide +kernel), in_Shellhouse, by decide +kernel, by decide +kernel, by decide, by decide, rfl, by decide, fun pc X h => nomatch h⟩
theorem ok_X4_entryJob : okM mX4_entryJob := ⟨lw_in 813 (by decide +kernel) (by decide +kernel), in_Shellhouse, by decide +kernel, by decide +kernel, by decide, by decide, rfl, by decide, fun pc X h => nomatch h⟩
theorem ok_X4_entryState : okM mX4_entryState := ⟨lw_in 825 (by decide +kernel) (by decide +kernel), in_Shellhouse, by decide +kernel, by decide +kernel, by decide, by decide, rfl, by decide, fun pc X h => nomatch h⟩
theorem ok_X4_worked : okM mX4_worked := ⟨lw_in 172 (by decide +kernel) (by decide +kernel), in_Shellhouse, by decide +kernel, by decide +kernel, by decide, by decide, rfl, by decide, fun pc X h => nomatch h⟩
theorem okt_X4_doneShare_12 : okT mX4_doneShare 12 3 132 250 136 "there are no jobs" false := ⟨by decide +kernel, by decide +kernel, by decide +kernel, lw_in 493 (by decide +kernel) (by decide +kernel), inx_3, by decide +kernel, by decide +kernel⟩
theorem ok_X4_doneShare : okM mX4_doneShare := ⟨lw_in 833 (by decide +kernel) (by decide +kernel), in_Shellhouse, by decide +kernel, by decide +kernel, by decide, by decide, rfl, by decide, fun pc X h => ⟨rfl, rfl, by
  have h := look_mem h
  simp only [mT, mX4_doneShare, List.mem_cons, List.not_mem_nil, or_false, Prod.mk.injEq] at h
  obtain ⟨rfl, rfl⟩ := h
  exact ⟨by decide, _, _, _, _, _, okt_X4_doneShare_12⟩⟩⟩
theorem okt_X4_sessionNumbered_15 : okT mX4_sessionNumbered 15 2 252 254 256 "there is no such session" false := ⟨by decide +kernel, by decide +kernel, by decide +kernel, lw_in 355 (by decide +kernel) (by decide +kernel), inx_2, by decide +kernel, by decide +kernel⟩
theorem ok_X4_sessionNumbered : okM mX4_sessionNumbered := ⟨lw_in 354 (by decide +kernel) (by decide +kernel), in_Shellhouse, by decide +kernel, by decide +kernel, by decide, by decide, rfl, by decide, fun pc X h => ⟨rfl, rfl, by
  have h := look_mem h
  simp only [mT, mX4_sessionNumbered, List.mem_cons, List.not_mem_nil, or_false, Prod.mk.injEq] at h
  obtain ⟨rfl, rfl⟩ := h
  exact ⟨by decide, _, _, _, _, _, okt_X4_sessionNumbered_15⟩⟩⟩
theorem okt_X4_jobNumbered_15 : okT mX4_jobNumbered 15 2 252 257 256 "there is no such job" true := ⟨by decide +kernel, by decide +kernel, by decide +kernel, lw_in 355 (by decide +kernel) (by decide +kernel), inx_2, by decide +kernel, by decide +kernel⟩
theorem ok_X4_jobNumbered : okM mX4_jobNumbered := ⟨lw_in 639 (by decide +kernel) (by decide +kernel), in_Shellhouse, by decide +kernel, by decide +kernel, by decide, by decide, rfl, by decide, fun pc X h => ⟨rfl, rfl, by
  have h := look_mem h
  simp only [mT, mX4_jobNumbered, List.mem_cons, List.not_mem_nil, or_false, Prod.mk.injEq] at h
  obtain ⟨rfl, rfl⟩ := h
  exact ⟨by decide, _, _, _, _, _, okt_X4_jobNumbered_15⟩⟩⟩
theorem okt_X4_jobInFrontOf_9 : okT mX4_jobInFrontOf 9 3 132 259 136 "no job is in front" true := ⟨by decide +kernel, by decide +kernel, by decide +kernel, lw_in 493 (by decide +kernel) (by decide +kernel), inx_3, by decide +kernel, by decide +kernel⟩
theorem ok_X4_jobInFrontOf : okM mX4_jobInFrontOf := ⟨lw_in 679 (by decide +kernel) (by decide +kernel), in_Shellhouse, by decide +kernel, by decide +kernel, by decide, by decide, rfl, by decide, fun pc X h => ⟨rfl, rfl, by
  have h := look_mem h
  simp only [mT, mX4_jobInFrontOf, List.mem_cons, List.not_mem_nil, or_false, Prod.mk.injEq] at h
  obtain ⟨rfl, rfl⟩ := h
  exact ⟨by decide, _, _, _, _, _, okt_X4_jobInFrontOf_9⟩⟩⟩
theorem okt_X4_commandOf_12 : okT mX4_commandOf 12 3 132 261 136 "there is no such command" true := ⟨by decide +kernel, by decide +kernel, by decide +kernel, lw_in 493 (by decide +kernel) (by decide +kernel), inx_3, by decide +kernel, by decide +kernel⟩
theorem ok_X4_commandOf : okM mX4_commandOf := ⟨lw_in 492 (by decide +kernel) (by decide +kernel), in_Shellhouse, by decide +kernel, by decide +kernel, by decide, by decide, rfl, by decide, fun pc X h => ⟨rfl, rfl, by
  have h := look_mem h
  simp only [mT, mX4_commandOf, List.mem_cons, List.not_mem_nil, or_false, Prod.mk.injEq] at h
  obtain ⟨rfl, rfl⟩ := h
  exact ⟨by decide, _, _, _, _, _, okt_X4_commandOf_12⟩⟩⟩
theorem okt_X4_refuseNoLock_10 : okT mX4_refuseNoLock 10 4 123 266 127 "there is no such lock" true := ⟨by decide +kernel, by decide +kernel, by decide +kernel, lw_in 524 (by decide +kernel) (by decide +kernel), inx_4, by decide +kernel, by decide +kernel⟩
theorem ok_X4_refuseNoLock : okM mX4_refuseNoLock := ⟨lw_in 720 (by decide +kernel) (by decide +kernel), in_Shellhouse, by decide +kernel, by decide +kernel, by decide, by decide, rfl, by decide, fun pc X h => ⟨rfl, rfl, by
  have h := look_mem h
  simp only [mT, mX4_refuseNoLock, List.mem_cons, List.not_mem_nil, or_false, Prod.mk.injEq] at h
  obtain ⟨rfl, rfl⟩ := h
  exact ⟨by decide, _, _, _, _, _, okt_X4_refuseNoLock_10⟩⟩⟩
theorem okt_X4_refuseNoEntry_15 : okT mX4_refuseNoEntry 15 3 132 268 136 "there is no such entry" true := ⟨by decide +kernel, by decide +kernel, by decide +kernel, lw_in 493 (by decide +kernel) (by decide +kernel), inx_3, by decide +kernel, by decide +kernel⟩
theorem ok_X4_refuseNoEntry : okM mX4_refuseNoEntry := ⟨lw_in 817 (by decide +kernel) (by decide +kernel), in_Shellhouse, by decide +kernel, by decide +kernel, by decide, by decide, rfl, by decide, fun pc X h => ⟨rfl, rfl, by
  have h := look_mem h
  simp only [mT, mX4_refuseNoEntry, List.mem_cons, List.not_mem_nil, or_false, Prod.mk.injEq] at h
  obtain ⟨rfl, rfl⟩ := h
  exact ⟨by decide, _, _, _, _, _, okt_X4_refuseNoEntry_15⟩⟩⟩
theorem ok_X4_isCommand : okM mX4_isCommand := ⟨lw_in 555 (by decide +kernel) (by decide +kernel), in_Shellhouse, by decide +kernel, by decide +kernel, by decide, by decide, rfl, by decide, fun pc X h => nomatch h⟩
theorem ok_X4_isWork : okM mX4_isWork := ⟨lw_in 558 (by decide +kernel) (by decide +kernel), in_Shellhouse, by decide +kernel, by decide +kernel, by decide, by decide, rfl, by decide, fun pc X h => nomatch h⟩
theorem ok_X4_areLocks : okM mX4_areLocks := ⟨lw_in 561 (by decide +kernel) (by decide +kernel), in_Shellhouse, by decide +kernel, by decide +kernel, by decide, by decide, rfl, by decide, fun pc X h => nomatch h⟩
theorem ok_X4_isState : okM mX4_isState := ⟨lw_in 709 (by decide +kernel) (by decide +kernel), in_Shellhouse, by decide +kernel, by decide +kernel, by decide, by decide, rfl, by decide, fun pc X h => nomatch h⟩
theorem ok_X4_canBeStopped : okM mX4_canBeStopped := ⟨lw_in 395 (by decide +kernel) (by decide +kernel), in_Shellhouse, by decide +kernel, by decide +kernel, by decide, by decide, rfl, by decide, fun pc X h => nomatch h⟩
theorem ok_X4_canGoOn : okM mX4_canGoOn := ⟨lw_in 459 (by decide +kernel) (by decide +kernel), in_Shellhouse, by decide +kernel, by decide +kernel, by decide, by decide, rfl, by decide, fun pc X h => nomatch h⟩
theorem ok_X4_isOver : okM mX4_isOver := ⟨lw_in 691 (by decide +kernel) (by decide +kernel), in_Shellhouse, by decide +kernel, by decide +kernel, by decide, by decide, rfl, by decide, fun pc X h => nomatch h⟩
theorem ok_X4_remember : okM mX4_remember := ⟨lw_in 616 (by decide +kernel) (by decide +kernel), in_Shellhouse, by decide +kernel, by decide +kernel, by decide, by decide, rfl, by decide, fun pc X h => nomatch h⟩
theorem ok_X4_comeInto : okM mX4_comeInto := ⟨lw_in 416 (by decide +kernel) (by decide +kernel), in_Shellhouse, by decide +kernel, by decide +kernel, by decide, by decide, rfl, by decide, fun pc X h => nomatch h⟩
theorem ok_X4_waitForLocks : okM mX4_waitForLocks := ⟨lw_in 467 (by decide +kernel) (by decide +kernel), in_Shellhouse, by decide +kernel, by decide +kernel, by decide, by decide, rfl, by decide, fun pc X h => nomatch h⟩
theorem ok_X4_pause : okM mX4_pause := ⟨lw_in 399 (by decide +kernel) (by decide +kernel), in_Shellhouse, by decide +kernel, by decide +kernel, by decide, by decide, rfl, by decide, fun pc X h => nomatch h⟩
theorem ok_X4_resume : okM mX4_resume := ⟨lw_in 463 (by decide +kernel) (by decide +kernel), in_Shellhouse, by decide +kernel, by decide +kernel, by decide, by decide, rfl, by decide, fun pc X h => nomatch h⟩
theorem ok_X4_finish : okM mX4_finish := ⟨lw_in 778 (by decide +kernel) (by decide +kernel), in_Shellhouse, by decide +kernel, by decide +kernel, by decide, by decide, rfl, by decide, fun pc X h => nomatch h⟩
theorem ok_X4_obeys : okM mX4_obeys := ⟨lw_in 790 (by decide +kernel) (by decide +kernel), in_Shellhouse, by decide +kernel, by decide +kernel, by decide, by decide, rfl, by decide, fun pc X h => nomatch h⟩
theorem ok_X4_passOneTick : okM mX4_passOneTick := ⟨lw_in 802 (by decide +kernel) (by decide +kernel), in_Shellhouse, by decide +kernel, by decide +kernel, by decide, by decide, rfl, by decide, fun pc X h => nomatch h⟩
theorem ok_X4_workIsDone : okM mX4_workIsDone := ⟨lw_in 806 (by decide +kernel) (by decide +kernel), in_Shellhouse, by decide +kernel, by decide +kernel, by decide, by decide, rfl, by decide, fun pc X h => nomatch h⟩
theorem ok_X4_leaveOrder : okM mX4_leaveOrder := ⟨lw_in 403 (by decide +kernel) (by decide +kernel), in_Shellhouse, by decide +kernel, by decide +kernel, by decide, by decide, rfl, by decide, fun pc X h => nomatch h⟩
theorem ok_X4_lookAtOrder : okM mX4_lookAtOrder := ⟨lw_in 435 (by decide +kernel) (by decide +kernel), in_Shellhouse, by decide +kernel, by decide +kernel, by decide, by decide, rfl, by decide, fun pc X h => nomatch h⟩
theorem ok_X4_locksAreFreeFor : okM mX4_locksAreFreeFor := ⟨lw_in 440 (by decide +kernel) (by decide +kernel), in_Shellhouse, by decide +kernel, by decide +kernel, by decide, by decide, rfl, by decide, fun pc X h => nomatch h⟩
theorem ok_X4_setHolder : okM mX4_setHolder := ⟨lw_in 448 (by decide +kernel) (by decide +kernel), in_Shellhouse, by decide +kernel, by decide +kernel, by decide, by decide, rfl, by decide, fun pc X h => nomatch h⟩
theorem ok_X5_init : okM mX5_init := ⟨lw_in 839 (by decide +kernel) (by decide +kernel), in_ShellhouseModel, by decide +kernel, by decide +kernel, by decide, by decide, rfl, by decide, fun pc X h => nomatch h⟩
theorem ok_X5_thrown : okM mX5_thrown := ⟨lw_in 912 (by decide +kernel) (by decide +kernel), in_ShellhouseModel, by decide +kernel, by decide +kernel, by decide, by decide, rfl, by decide, fun pc X h => nomatch h⟩
theorem ok_X5_fails : okM mX5_fails := ⟨lw_in 920 (by decide +kernel) (by decide +kernel), in_ShellhouseModel, by decide +kernel, by decide +kernel, by decide, by decide, rfl, by decide, fun pc X h => nomatch h⟩
theorem ok_X5_in : okM mX5_in := ⟨lw_in 931 (by decide +kernel) (by decide +kernel), in_ShellhouseModel, by decide +kernel, by decide +kernel, by decide, by decide, rfl, by decide, fun pc X h => nomatch h⟩
theorem ok_X5_isSession : okM mX5_isSession := ⟨lw_in 928 (by decide +kernel) (by decide +kernel), in_ShellhouseModel, by decide +kernel, by decide +kernel, by decide, by decide, rfl, by decide, fun pc X h => nomatch h⟩
theorem ok_X5_isJob : okM mX5_isJob := ⟨lw_in 1003 (by decide +kernel) (by decide +kernel), in_ShellhouseModel, by decide +kernel, by decide +kernel, by decide, by decide, rfl, by decide, fun pc X h => nomatch h⟩
theorem ok_X5_isState : okM mX5_isState := ⟨lw_in 1039 (by decide +kernel) (by decide +kernel), in_ShellhouseModel, by decide +kernel, by decide +kernel, by decide, by decide, rfl, by decide, fun pc X h => nomatch h⟩
theorem ok_X5_isOver : okM mX5_isOver := ⟨lw_in 1028 (by decide +kernel) (by decide +kernel), in_ShellhouseModel, by decide +kernel, by decide +kernel, by decide, by decide, rfl, by decide, fun pc X h => nomatch h⟩
theorem ok_X5_comes : okM mX5_comes := ⟨lw_in 947 (by decide +kernel) (by decide +kernel), in_ShellhouseModel, by decide +kernel, by decide +kernel, by decide, by decide, rfl, by decide, fun pc X h => nomatch h⟩
theorem ok_X5_isFree : okM mX5_isFree := ⟨lw_in 955 (by decide +kernel) (by decide +kernel), in_ShellhouseModel, by decide +kernel, by decide +kernel, by decide, by decide, rfl, by decide, fun pc X h => nomatch h⟩
theorem ok_X5_leaves : okM mX5_leaves := ⟨lw_in 943 (by decide +kernel) (by decide +kernel), in_ShellhouseModel, by decide +kernel, by decide +kernel, by decide, by decide, rfl, by decide, fun pc X h => nomatch h⟩
theorem ok_X5_looks : okM mX5_looks := ⟨lw_in 951 (by decide +kernel) (by decide +kernel), in_ShellhouseModel, by decide +kernel, by decide +kernel, by decide, by decide, rfl, by decide, fun pc X h => nomatch h⟩
theorem ok_X5_stops : okM mX5_stops := ⟨lw_in 939 (by decide +kernel) (by decide +kernel), in_ShellhouseModel, by decide +kernel, by decide +kernel, by decide, by decide, rfl, by decide, fun pc X h => nomatch h⟩
theorem ok_X5_goesOn : okM mX5_goesOn := ⟨lw_in 963 (by decide +kernel) (by decide +kernel), in_ShellhouseModel, by decide +kernel, by decide +kernel, by decide, by decide, rfl, by decide, fun pc X h => nomatch h⟩
theorem ok_X5_ends : okM mX5_ends := ⟨lw_in 1084 (by decide +kernel) (by decide +kernel), in_ShellhouseModel, by decide +kernel, by decide +kernel, by decide, by decide, rfl, by decide, fun pc X h => nomatch h⟩
theorem ok_X5_open : okM mX5_open := ⟨lw_in 916 (by decide +kernel) (by decide +kernel), in_ShellhouseModel, by decide +kernel, by decide +kernel, by decide, by decide, rfl, by decide, fun pc X h => nomatch h⟩
theorem ok_X5_setPrivate : okM mX5_setPrivate := ⟨lw_in 924 (by decide +kernel) (by decide +kernel), in_ShellhouseModel, by decide +kernel, by decide +kernel, by decide, by decide, rfl, by decide, fun pc X h => nomatch h⟩
theorem ok_X5_drop : okM mX5_drop := ⟨lw_in 935 (by decide +kernel) (by decide +kernel), in_ShellhouseModel, by decide +kernel, by decide +kernel, by decide, by decide, rfl, by decide, fun pc X h => nomatch h⟩
theorem ok_X5_takeUp : okM mX5_takeUp := ⟨lw_in 959 (by decide +kernel) (by decide +kernel), in_ShellhouseModel, by decide +kernel, by decide +kernel, by decide, by decide, rfl, by decide, fun pc X h => nomatch h⟩
theorem ok_X5_isAttached : okM mX5_isAttached := ⟨lw_in 967 (by decide +kernel) (by decide +kernel), in_ShellhouseModel, by decide +kernel, by decide +kernel, by decide, by decide, rfl, by decide, fun pc X h => nomatch h⟩
theorem ok_X5_kept : okM mX5_kept := ⟨lw_in 971 (by decide +kernel) (by decide +kernel), in_ShellhouseModel, by decide +kernel, by decide +kernel, by decide, by decide, rfl, by decide, fun pc X h => nomatch h⟩
theorem ok_X5_commandAt : okM mX5_commandAt := ⟨lw_in 975 (by decide +kernel) (by decide +kernel), in_ShellhouseModel, by decide +kernel, by decide +kernel, by decide, by decide, rfl, by decide, fun pc X h => nomatch h⟩
theorem ok_X5_common : okM mX5_common := ⟨lw_in 979 (by decide +kernel) (by decide +kernel), in_ShellhouseModel, by decide +kernel, by decide +kernel, by decide, by decide, rfl, by decide, fun pc X h => nomatch h⟩
theorem ok_X5_commonAt : okM mX5_commonAt := ⟨lw_in 983 (by decide +kernel) (by decide +kernel), in_ShellhouseModel, by decide +kernel, by decide +kernel, by decide, by decide, rfl, by decide, fun pc X h => nomatch h⟩
theorem ok_X5_search : okM mX5_search := ⟨lw_in 987 (by decide +kernel) (by decide +kernel), in_ShellhouseModel, by decide +kernel, by decide +kernel, by decide, by decide, rfl, by decide, fun pc X h => nomatch h⟩
theorem ok_X5_remembers : okM mX5_remembers := ⟨lw_in 995 (by decide +kernel) (by decide +kernel), in_ShellhouseModel, by decide +kernel, by decide +kernel, by decide, by decide, rfl, by decide, fun pc X h => nomatch h⟩
theorem ok_X5_start : okM mX5_start := ⟨lw_in 991 (by decide +kernel) (by decide +kernel), in_ShellhouseModel, by decide +kernel, by decide +kernel, by decide, by decide, rfl, by decide, fun pc X h => nomatch h⟩
theorem ok_X5_state : okM mX5_state := ⟨lw_in 999 (by decide +kernel) (by decide +kernel), in_ShellhouseModel, by decide +kernel, by decide +kernel, by decide, by decide, rfl, by decide, fun pc X h => nomatch h⟩
theorem ok_X5_stateByJournal : okM mX5_stateByJournal := ⟨lw_in 1007 (by decide +kernel) (by decide +kernel), in_ShellhouseModel, by decide +kernel, by decide +kernel, by decide, by decide, rfl, by decide, fun pc X h => nomatch h⟩
theorem ok_X5_toDo : okM mX5_toDo := ⟨lw_in 1012 (by decide +kernel) (by decide +kernel), in_ShellhouseModel, by decide +kernel, by decide +kernel, by decide, by decide, rfl, by decide, fun pc X h => nomatch h⟩
theorem ok_X5_sessionOf : okM mX5_sessionOf := ⟨lw_in 1016 (by decide +kernel) (by decide +kernel), in_ShellhouseModel, by decide +kernel, by decide +kernel, by decide, by decide, rfl, by decide, fun pc X h => nomatch h⟩
theorem ok_X5_front : okM mX5_front := ⟨lw_in 1020 (by decide +kernel) (by decide +kernel), in_ShellhouseModel, by decide +kernel, by decide +kernel, by decide, by decide, rfl, by decide, fun pc X h => nomatch h⟩
theorem ok_X5_toFront : okM mX5_toFront := ⟨lw_in 1024 (by decide +kernel) (by decide +kernel), in_ShellhouseModel, by decide +kernel, by decide +kernel, by decide, by decide, rfl, by decide, fun pc X h => nomatch h⟩
theorem ok_X5_toBack : okM mX5_toBack := ⟨lw_in 1032 (by decide +kernel) (by decide +kernel), in_ShellhouseModel, by decide +kernel, by decide +kernel, by decide, by decide, rfl, by decide, fun pc X h => nomatch h⟩
theorem ok_X5_count : okM mX5_count := ⟨lw_in 1036 (by decide +kernel) (by decide +kernel), in_ShellhouseModel, by decide +kernel, by decide +kernel, by decide, by decide, rfl, by decide, fun pc X h => nomatch h⟩
theorem ok_X5_holder : okM mX5_holder := ⟨lw_in 1043 (by decide +kernel) (by decide +kernel), in_ShellhouseModel, by decide +kernel, by decide +kernel, by decide, by decide, rfl, by decide, fun pc X h => nomatch h⟩
theorem ok_X5_holderByJobs : okM mX5_holderByJobs := ⟨lw_in 1047 (by decide +kernel) (by decide +kernel), in_ShellhouseModel, by decide +kernel, by decide +kernel, by decide, by decide, rfl, by decide, fun pc X h => nomatch h⟩
theorem ok_X5_holds : okM mX5_holds := ⟨lw_in 1052 (by decide +kernel) (by decide +kernel), in_ShellhouseModel, by decide +kernel, by decide +kernel, by decide, by decide, rfl, by decide, fun pc X h => nomatch h⟩
theorem ok_X5_waiting : okM mX5_waiting := ⟨lw_in 1056 (by decide +kernel) (by decide +kernel), in_ShellhouseModel, by decide +kernel, by decide +kernel, by decide, by decide, rfl, by decide, fun pc X h => nomatch h⟩
theorem ok_X5_waitingAt : okM mX5_waitingAt := ⟨lw_in 1060 (by decide +kernel) (by decide +kernel), in_ShellhouseModel, by decide +kernel, by decide +kernel, by decide, by decide, rfl, by decide, fun pc X h => nomatch h⟩
theorem ok_X5_blockers : okM mX5_blockers := ⟨lw_in 1064 (by decide +kernel) (by decide +kernel), in_ShellhouseModel, by decide +kernel, by decide +kernel, by decide, by decide, rfl, by decide, fun pc X h => nomatch h⟩
theorem ok_X5_canStop : okM mX5_canStop := ⟨lw_in 1072 (by decide +kernel) (by decide +kernel), in_ShellhouseModel, by decide +kernel, by decide +kernel, by decide, by decide, rfl, by decide, fun pc X h => nomatch h⟩
theorem ok_X5_stop : okM mX5_stop := ⟨lw_in 1068 (by decide +kernel) (by decide +kernel), in_ShellhouseModel, by decide +kernel, by decide +kernel, by decide, by decide, rfl, by decide, fun pc X h => nomatch h⟩
theorem ok_X5_goOn : okM mX5_goOn := ⟨lw_in 1076 (by decide +kernel) (by decide +kernel), in_ShellhouseModel, by decide +kernel, by decide +kernel, by decide, by decide, rfl, by decide, fun pc X h => nomatch h⟩
theorem ok_X5_end : okM mX5_end := ⟨lw_in 1080 (by decide +kernel) (by decide +kernel), in_ShellhouseModel, by decide +kernel, by decide +kernel, by decide, by decide, rfl, by decide, fun pc X h => nomatch h⟩
theorem ok_X5_signal : okM mX5_signal := ⟨lw_in 1088 (by decide +kernel) (by decide +kernel), in_ShellhouseModel, by decide +kernel, by decide +kernel, by decide, by decide, rfl, by decide, fun pc X h => nomatch h⟩
theorem ok_X5_ticks : okM mX5_ticks := ⟨lw_in 1096 (by decide +kernel) (by decide +kernel), in_ShellhouseModel, by decide +kernel, by decide +kernel, by decide, by decide, rfl, by decide, fun pc X h => nomatch h⟩
theorem ok_X5_tick : okM mX5_tick := ⟨lw_in 1092 (by decide +kernel) (by decide +kernel), in_ShellhouseModel, by decide +kernel, by decide +kernel, by decide, by decide, rfl, by decide, fun pc X h => nomatch h⟩
theorem ok_X5_entries : okM mX5_entries := ⟨lw_in 1100 (by decide +kernel) (by decide +kernel), in_ShellhouseModel, by decide +kernel, by decide +kernel, by decide, by decide, rfl, by decide, fun pc X h => nomatch h⟩
theorem ok_X5_entryJob : okM mX5_entryJob := ⟨lw_in 1104 (by decide +kernel) (by decide +kernel), in_ShellhouseModel, by decide +kernel, by decide +kernel, by decide, by decide, rfl, by decide, fun pc X h => nomatch h⟩
theorem ok_X5_entryState : okM mX5_entryState := ⟨lw_in 1108 (by decide +kernel) (by decide +kernel), in_ShellhouseModel, by decide +kernel, by decide +kernel, by decide, by decide, rfl, by decide, fun pc X h => nomatch h⟩
theorem ok_X5_worked : okM mX5_worked := ⟨lw_in 1112 (by decide +kernel) (by decide +kernel), in_ShellhouseModel, by decide +kernel, by decide +kernel, by decide, by decide, rfl, by decide, fun pc X h => nomatch h⟩
theorem ok_X5_doneShare : okM mX5_doneShare := ⟨lw_in 1116 (by decide +kernel) (by decide +kernel), in_ShellhouseModel, by decide +kernel, by decide +kernel, by decide, by decide, rfl, by decide, fun pc X h => nomatch h⟩
theorem ok_Jxa1e45_init_da8c8 : okM mJxa1e45_init_da8c8 := ⟨lw_in 78 (by decide +kernel) (by decide +kernel), in_java_util_AbstractCollection, by decide +kernel, by decide +kernel, by decide, by decide, rfl, by decide, fun pc X h => nomatch h⟩
theorem ok_Jxc12de_init_da8c8 : okM mJxc12de_init_da8c8 := ⟨lw_in 75 (by decide +kernel) (by decide +kernel), in_java_util_AbstractList, by decide +kernel, by decide +kernel, by decide, by decide, rfl, by decide, fun pc X h => nomatch h⟩
theorem ok_Jx4a65c_init_da8c8 : okM mJx4a65c_init_da8c8 := ⟨lw_in 72 (by decide +kernel) (by decide +kernel), in_java_util_ArrayList, by decide +kernel, by decide +kernel, by decide, by decide, rfl, by decide, fun pc X h => nomatch h⟩
theorem ok_Jx4a65c_grow_92f84 : okM mJx4a65c_grow_92f84 := ⟨lw_in 299 (by decide +kernel) (by decide +kernel), in_java_util_ArrayList, by decide +kernel, by decide +kernel, by decide, by decide, rfl, by decide, fun pc X h => nomatch h⟩
theorem ok_Jx4a65c_grow_d5877 : okM mJx4a65c_grow_d5877 := ⟨lw_in 295 (by decide +kernel) (by decide +kernel), in_java_util_ArrayList, by decide +kernel, by decide +kernel, by decide, by decide, rfl, by decide, fun pc X h => nomatch h⟩
theorem ok_Jx4a65c_size_8abf5 : okM mJx4a65c_size_8abf5 := ⟨lw_in 164 (by decide +kernel) (by decide +kernel), in_java_util_ArrayList, by decide +kernel, by decide +kernel, by decide, by decide, rfl, by decide, fun pc X h => nomatch h⟩
theorem ok_Jx4a65c_elementData_915e3 : okM mJx4a65c_elementData_915e3 := ⟨lw_in 384 (by decide +kernel) (by decide +kernel), in_java_util_ArrayList, by decide +kernel, by decide +kernel, by decide, by decide, rfl, by decide, fun pc X h => nomatch h⟩
theorem ok_Jx4a65c_get_915e3 : okM mJx4a65c_get_915e3 := ⟨lw_in 374 (by decide +kernel) (by decide +kernel), in_java_util_ArrayList, by decide +kernel, by decide +kernel, by decide, by decide, rfl, by decide, fun pc X h => nomatch h⟩
theorem ok_Jx4a65c_add_72be8 : okM mJx4a65c_add_72be8 := ⟨lw_in 291 (by decide +kernel) (by decide +kernel), in_java_util_ArrayList, by decide +kernel, by decide +kernel, by decide, by decide, rfl, by decide, fun pc X h => nomatch h⟩
theorem ok_Jx4a65c_add_9ea2d : okM mJx4a65c_add_9ea2d := ⟨lw_in 287 (by decide +kernel) (by decide +kernel), in_java_util_ArrayList, by decide +kernel, by decide +kernel, by decide, by decide, rfl, by decide, fun pc X h => nomatch h⟩
theorem ok_Jx4a65c_remove_915e3 : okM mJx4a65c_remove_915e3 := ⟨lw_in 407 (by decide +kernel) (by decide +kernel), in_java_util_ArrayList, by decide +kernel, by decide +kernel, by decide, by decide, rfl, by decide, fun pc X h => nomatch h⟩
theorem ok_Jx4a65c_fastRemove_b59b0 : okM mJx4a65c_fastRemove_b59b0 := ⟨lw_in 411 (by decide +kernel) (by decide +kernel), in_java_util_ArrayList, by decide +kernel, by decide +kernel, by decide, by decide, rfl, by decide, fun pc X h => nomatch h⟩
theorem ok_J7_fill_53178 : okM mJ7_fill_53178 := ⟨lw_in 96 (by decide +kernel) (by decide +kernel), in_java_util_Arrays, by decide +kernel, by decide +kernel, by decide, by decide, rfl, by decide, fun pc X h => nomatch h⟩
theorem ok_J7_copyOf_1904c : okM mJ7_copyOf_1904c := ⟨lw_in 312 (by decide +kernel) (by decide +kernel), in_java_util_Arrays, by decide +kernel, by decide +kernel, by decide, by decide, rfl, by decide, fun pc X h => nomatch h⟩
theorem ok_J7_copyOf_6403c : okM mJ7_copyOf_6403c := ⟨lw_in 331 (by decide +kernel) (by decide +kernel), in_java_util_Arrays, by decide +kernel, by decide +kernel, by decide, by decide, rfl, by decide, fun pc X h => nomatch h⟩
theorem ok_J7_copyOf_59c91 : okM mJ7_copyOf_59c91 := ⟨lw_in 424 (by decide +kernel) (by decide +kernel), in_java_util_Arrays, by decide +kernel, by decide +kernel, by decide, by decide, rfl, by decide, fun pc X h => nomatch h⟩
theorem ok_J15_checkIndex_7cf53 : okM mJ15_checkIndex_7cf53 := ⟨lw_in 377 (by decide +kernel) (by decide +kernel), in_java_util_Objects, by decide +kernel, by decide +kernel, by decide, by decide, rfl, by decide, fun pc X h => nomatch h⟩
theorem ok_J8_newLength_cabcc : okM mJ8_newLength_cabcc := ⟨lw_in 302 (by decide +kernel) (by decide +kernel), in_jdk_internal_util_ArraysSupport, by decide +kernel, by decide +kernel, by decide, by decide, rfl, by decide, fun pc X h => nomatch h⟩
theorem ok_J8_hugeLength_7cf53 : okM mJ8_hugeLength_7cf53 := ⟨lw_in 309 (by decide +kernel) (by decide +kernel), in_jdk_internal_util_ArraysSupport, by decide +kernel, by decide +kernel, by decide, by decide, rfl, by decide, fun pc X h => nomatch h⟩
theorem ok_J3_checkIndex_8e157 : okM mJ3_checkIndex_8e157 := ⟨lw_in 380 (by decide +kernel) (by decide +kernel), in_jdk_internal_util_Preconditions, by decide +kernel, by decide +kernel, by decide, by decide, rfl, by decide, fun pc X h => nomatch h⟩
theorem ok_L_open : okM mL_open := ⟨lw_in 175 (by decide +kernel) (by decide +kernel), in_ShellhouseLaw, by decide +kernel, by decide +kernel, by decide, by decide, rfl, by decide, fun pc X h => nomatch h⟩
theorem ok_L_setPrivate : okM mL_setPrivate := ⟨lw_in 345 (by decide +kernel) (by decide +kernel), in_ShellhouseLaw, by decide +kernel, by decide +kernel, by decide, by decide, rfl, by decide, fun pc X h => nomatch h⟩
theorem ok_L_drop : okM mL_drop := ⟨lw_in 387 (by decide +kernel) (by decide +kernel), in_ShellhouseLaw, by decide +kernel, by decide +kernel, by decide, by decide, rfl, by decide, fun pc X h => nomatch h⟩
theorem ok_L_takeUp : okM mL_takeUp := ⟨lw_in 451 (by decide +kernel) (by decide +kernel), in_ShellhouseLaw, by decide +kernel, by decide +kernel, by decide, by decide, rfl, by decide, fun pc X h => nomatch h⟩
theorem ok_L_isAttached : okM mL_isAttached := ⟨lw_in 470 (by decide +kernel) (by decide +kernel), in_ShellhouseLaw, by decide +kernel, by decide +kernel, by decide, by decide, rfl, by decide, fun pc X h => nomatch h⟩
theorem ok_L_kept : okM mL_kept := ⟨lw_in 477 (by decide +kernel) (by decide +kernel), in_ShellhouseLaw, by decide +kernel, by decide +kernel, by decide, by decide, rfl, by decide, fun pc X h => nomatch h⟩
theorem ok_L_commandAt : okM mL_commandAt := ⟨lw_in 484 (by decide +kernel) (by decide +kernel), in_ShellhouseLaw, by decide +kernel, by decide +kernel, by decide, by decide, rfl, by decide, fun pc X h => nomatch h⟩
theorem ok_L_commonAt : okM mL_commonAt := ⟨lw_in 511 (by decide +kernel) (by decide +kernel), in_ShellhouseLaw, by decide +kernel, by decide +kernel, by decide, by decide, rfl, by decide, fun pc X h => nomatch h⟩
theorem ok_L_search : okM mL_search := ⟨lw_in 518 (by decide +kernel) (by decide +kernel), in_ShellhouseLaw, by decide +kernel, by decide +kernel, by decide, by decide, rfl, by decide, fun pc X h => nomatch h⟩
theorem ok_L_start : okM mL_start := ⟨lw_in 547 (by decide +kernel) (by decide +kernel), in_ShellhouseLaw, by decide +kernel, by decide +kernel, by decide, by decide, rfl, by decide, fun pc X h => nomatch h⟩
theorem ok_L_state : okM mL_state := ⟨lw_in 631 (by decide +kernel) (by decide +kernel), in_ShellhouseLaw, by decide +kernel, by decide +kernel, by decide, by decide, rfl, by decide, fun pc X h => nomatch h⟩
theorem ok_L_stateByJournal : okM mL_stateByJournal := ⟨lw_in 643 (by decide +kernel) (by decide +kernel), in_ShellhouseLaw, by decide +kernel, by decide +kernel, by decide, by decide, rfl, by decide, fun pc X h => nomatch h⟩
theorem ok_L_toDo : okM mL_toDo := ⟨lw_in 658 (by decide +kernel) (by decide +kernel), in_ShellhouseLaw, by decide +kernel, by decide +kernel, by decide, by decide, rfl, by decide, fun pc X h => nomatch h⟩
theorem ok_L_sessionOf : okM mL_sessionOf := ⟨lw_in 665 (by decide +kernel) (by decide +kernel), in_ShellhouseLaw, by decide +kernel, by decide +kernel, by decide, by decide, rfl, by decide, fun pc X h => nomatch h⟩
theorem ok_L_front : okM mL_front := ⟨lw_in 672 (by decide +kernel) (by decide +kernel), in_ShellhouseLaw, by decide +kernel, by decide +kernel, by decide, by decide, rfl, by decide, fun pc X h => nomatch h⟩
theorem ok_L_toFront : okM mL_toFront := ⟨lw_in 683 (by decide +kernel) (by decide +kernel), in_ShellhouseLaw, by decide +kernel, by decide +kernel, by decide, by decide, rfl, by decide, fun pc X h => nomatch h⟩
theorem ok_L_toBack : okM mL_toBack := ⟨lw_in 695 (by decide +kernel) (by decide +kernel), in_ShellhouseLaw, by decide +kernel, by decide +kernel, by decide, by decide, rfl, by decide, fun pc X h => nomatch h⟩
theorem ok_L_count : okM mL_count := ⟨lw_in 702 (by decide +kernel) (by decide +kernel), in_ShellhouseLaw, by decide +kernel, by decide +kernel, by decide, by decide, rfl, by decide, fun pc X h => nomatch h⟩
theorem ok_L_holder : okM mL_holder := ⟨lw_in 713 (by decide +kernel) (by decide +kernel), in_ShellhouseLaw, by decide +kernel, by decide +kernel, by decide, by decide, rfl, by decide, fun pc X h => nomatch h⟩
theorem ok_L_holderByJobs : okM mL_holderByJobs := ⟨lw_in 724 (by decide +kernel) (by decide +kernel), in_ShellhouseLaw, by decide +kernel, by decide +kernel, by decide, by decide, rfl, by decide, fun pc X h => nomatch h⟩
theorem ok_L_holds : okM mL_holds := ⟨lw_in 731 (by decide +kernel) (by decide +kernel), in_ShellhouseLaw, by decide +kernel, by decide +kernel, by decide, by decide, rfl, by decide, fun pc X h => nomatch h⟩
theorem ok_L_waitingAt : okM mL_waitingAt := ⟨lw_in 738 (by decide +kernel) (by decide +kernel), in_ShellhouseLaw, by decide +kernel, by decide +kernel, by decide, by decide, rfl, by decide, fun pc X h => nomatch h⟩
theorem ok_L_blockers : okM mL_blockers := ⟨lw_in 746 (by decide +kernel) (by decide +kernel), in_ShellhouseLaw, by decide +kernel, by decide +kernel, by decide, by decide, rfl, by decide, fun pc X h => nomatch h⟩
theorem ok_L_stop : okM mL_stop := ⟨lw_in 754 (by decide +kernel) (by decide +kernel), in_ShellhouseLaw, by decide +kernel, by decide +kernel, by decide, by decide, rfl, by decide, fun pc X h => nomatch h⟩
theorem ok_L_goOn : okM mL_goOn := ⟨lw_in 762 (by decide +kernel) (by decide +kernel), in_ShellhouseLaw, by decide +kernel, by decide +kernel, by decide, by decide, rfl, by decide, fun pc X h => nomatch h⟩
theorem ok_L_end : okM mL_end := ⟨lw_in 770 (by decide +kernel) (by decide +kernel), in_ShellhouseLaw, by decide +kernel, by decide +kernel, by decide, by decide, rfl, by decide, fun pc X h => nomatch h⟩
theorem ok_L_signal : okM mL_signal := ⟨lw_in 781 (by decide +kernel) (by decide +kernel), in_ShellhouseLaw, by decide +kernel, by decide +kernel, by decide, by decide, rfl, by decide, fun pc X h => nomatch h⟩
theorem ok_L_tick : okM mL_tick := ⟨lw_in 793 (by decide +kernel) (by decide +kernel), in_ShellhouseLaw, by decide +kernel, by decide +kernel, by decide, by decide, rfl, by decide, fun pc X h => nomatch h⟩
theorem ok_L_entryJob : okM mL_entryJob := ⟨lw_in 809 (by decide +kernel) (by decide +kernel), in_ShellhouseLaw, by decide +kernel, by decide +kernel, by decide, by decide, rfl, by decide, fun pc X h => nomatch h⟩
theorem ok_L_entryState : okM mL_entryState := ⟨lw_in 821 (by decide +kernel) (by decide +kernel), in_ShellhouseLaw, by decide +kernel, by decide +kernel, by decide, by decide, rfl, by decide, fun pc X h => nomatch h⟩
theorem ok_L_doneShare : okM mL_doneShare := ⟨lw_in 829 (by decide +kernel) (by decide +kernel), in_ShellhouseLaw, by decide +kernel, by decide +kernel, by decide, by decide, rfl, by decide, fun pc X h => nomatch h⟩
def okI (M : MD) (na : Nat) : Prop := okM M ∧ mH M = [] ∧ Cond.instanceMethod (mY M) ∈ lw_G ∧ (parseMethodDescriptor (mY M).desc).map (fun d => d.parameters.length) = some na
def okV (M : MD) (na : Nat) : Prop := okI M na ∧ Cond.selects (oN (mO M)) (mY M) (mY M) ∈ lw_G ∧ mO M < 7
def okSt (M : MD) (na : Nat) : Prop := okM M ∧ Cond.static (mY M) ∈ lw_G ∧ (parseMethodDescriptor (mY M).desc).map (fun d => d.parameters.length) = some na
def okC (o i : Nat) (q : Nat × Nat × MD) : Prop := match q.1 with
  | 0 => Cond.methodLink (oN o) i (mY q.2.2) ∈ lw_G ∧ okV q.2.2 q.2.1
  | 1 => Cond.methodLink (oN o) i (mY q.2.2) ∈ lw_G ∧ okI q.2.2 q.2.1 ∧ mI q.2.2 = true
  | 2 => Cond.methodLink (oN o) i (mY q.2.2) ∈ lw_G ∧ okSt q.2.2 q.2.1
  | 3 => Cond.methodLink (oN o) i objectInit ∈ lw_G
  | 4 => Cond.methodLink (oN o) i Lib.Math.min.name ∈ lw_G
  | 5 => Cond.methodLink (oN o) i Lib.Math.max.name ∈ lw_G
  | 6 => Cond.methodLink (oN o) i arraycopyName ∈ lw_G
  | 7 => Cond.methodLink (oN o) i arraycopyName ∈ lw_G
  | 8 => Cond.methodLink (oN o) i ⟨"java/lang/Object", "getClass", "()Ljava/lang/Class;"⟩ ∈ lw_G
  | _ => False
theorem oi_X4_init : okI mX4_init 0 := ⟨ok_X4_init, rfl, lw_in 63 (by decide +kernel) (by decide +kernel), by decide +kernel⟩
theorem oi_Jx4a65c_init_da8c8 : okI mJx4a65c_init_da8c8 0 := ⟨ok_Jx4a65c_init_da8c8, rfl, lw_in 71 (by decide +kernel) (by decide +kernel), by decide +kernel⟩
theorem oi_Jxc12de_init_da8c8 : okI mJxc12de_init_da8c8 0 := ⟨ok_Jxc12de_init_da8c8, rfl, lw_in 74 (by decide +kernel) (by decide +kernel), by decide +kernel⟩
theorem oi_Jxa1e45_init_da8c8 : okI mJxa1e45_init_da8c8 0 := ⟨ok_Jxa1e45_init_da8c8, rfl, lw_in 77 (by decide +kernel) (by decide +kernel), by decide +kernel⟩
theorem os_J7_fill_53178 : okSt mJ7_fill_53178 2 := ⟨ok_J7_fill_53178, lw_in 95 (by decide +kernel) (by decide +kernel), by decide +kernel⟩
theorem oi_X0_init : okI mX0_init 1 := ⟨ok_X0_init, rfl, lw_in 100 (by decide +kernel) (by decide +kernel), by decide +kernel⟩
theorem oi_X2_init : okI mX2_init 0 := ⟨ok_X2_init, rfl, lw_in 116 (by decide +kernel) (by decide +kernel), by decide +kernel⟩
theorem oi_X4_common : okI mX4_common 0 := ⟨ok_X4_common, rfl, lw_in 154 (by decide +kernel) (by decide +kernel), by decide +kernel⟩
theorem ov_X4_common : okV mX4_common 0 := ⟨oi_X4_common, lw_in 155 (by decide +kernel) (by decide +kernel), by decide⟩
theorem oi_X4_waiting : okI mX4_waiting 0 := ⟨ok_X4_waiting, rfl, lw_in 158 (by decide +kernel) (by decide +kernel), by decide +kernel⟩
theorem ov_X4_waiting : okV mX4_waiting 0 := ⟨oi_X4_waiting, lw_in 159 (by decide +kernel) (by decide +kernel), by decide⟩
theorem oi_Jx4a65c_size_8abf5 : okI mJx4a65c_size_8abf5 0 := ⟨ok_Jx4a65c_size_8abf5, rfl, lw_in 162 (by decide +kernel) (by decide +kernel), by decide +kernel⟩
theorem ov_Jx4a65c_size_8abf5 : okV mJx4a65c_size_8abf5 0 := ⟨oi_Jx4a65c_size_8abf5, lw_in 163 (by decide +kernel) (by decide +kernel), by decide⟩
theorem oi_X4_entries : okI mX4_entries 0 := ⟨ok_X4_entries, rfl, lw_in 166 (by decide +kernel) (by decide +kernel), by decide +kernel⟩
theorem ov_X4_entries : okV mX4_entries 0 := ⟨oi_X4_entries, lw_in 167 (by decide +kernel) (by decide +kernel), by decide⟩
theorem oi_X4_worked : okI mX4_worked 0 := ⟨ok_X4_worked, rfl, lw_in 170 (by decide +kernel) (by decide +kernel), by decide +kernel⟩
theorem ov_X4_worked : okV mX4_worked 0 := ⟨oi_X4_worked, lw_in 171 (by decide +kernel) (by decide +kernel), by decide⟩
theorem os_L_open : okSt mL_open 3 := ⟨ok_L_open, lw_in 174 (by decide +kernel) (by decide +kernel), by decide +kernel⟩
theorem oi_X4_open : okI mX4_open 1 := ⟨ok_X4_open, rfl, lw_in 178 (by decide +kernel) (by decide +kernel), by decide +kernel⟩
theorem ov_X4_open : okV mX4_open 1 := ⟨oi_X4_open, lw_in 179 (by decide +kernel) (by decide +kernel), by decide⟩
theorem oi_X3_init : okI mX3_init 2 := ⟨ok_X3_init, rfl, lw_in 254 (by decide +kernel) (by decide +kernel), by decide +kernel⟩
theorem oi_Jx4a65c_add_9ea2d : okI mJx4a65c_add_9ea2d 1 := ⟨ok_Jx4a65c_add_9ea2d, rfl, lw_in 285 (by decide +kernel) (by decide +kernel), by decide +kernel⟩
theorem ov_Jx4a65c_add_9ea2d : okV mJx4a65c_add_9ea2d 1 := ⟨oi_Jx4a65c_add_9ea2d, lw_in 286 (by decide +kernel) (by decide +kernel), by decide⟩
theorem oi_Jx4a65c_add_72be8 : okI mJx4a65c_add_72be8 3 := ⟨ok_Jx4a65c_add_72be8, rfl, lw_in 290 (by decide +kernel) (by decide +kernel), by decide +kernel⟩
theorem ov_Jx4a65c_add_72be8 : okV mJx4a65c_add_72be8 3 := ⟨oi_Jx4a65c_add_72be8, lw_in 1 (by decide +kernel) (by decide +kernel), by decide⟩
theorem oi_Jx4a65c_grow_d5877 : okI mJx4a65c_grow_d5877 0 := ⟨ok_Jx4a65c_grow_d5877, rfl, lw_in 294 (by decide +kernel) (by decide +kernel), by decide +kernel⟩
theorem ov_Jx4a65c_grow_d5877 : okV mJx4a65c_grow_d5877 0 := ⟨oi_Jx4a65c_grow_d5877, lw_in 2 (by decide +kernel) (by decide +kernel), by decide⟩
theorem oi_Jx4a65c_grow_92f84 : okI mJx4a65c_grow_92f84 1 := ⟨ok_Jx4a65c_grow_92f84, rfl, lw_in 298 (by decide +kernel) (by decide +kernel), by decide +kernel⟩
theorem ov_Jx4a65c_grow_92f84 : okV mJx4a65c_grow_92f84 1 := ⟨oi_Jx4a65c_grow_92f84, lw_in 3 (by decide +kernel) (by decide +kernel), by decide⟩
theorem os_J8_newLength_cabcc : okSt mJ8_newLength_cabcc 3 := ⟨ok_J8_newLength_cabcc, lw_in 301 (by decide +kernel) (by decide +kernel), by decide +kernel⟩
theorem os_J8_hugeLength_7cf53 : okSt mJ8_hugeLength_7cf53 2 := ⟨ok_J8_hugeLength_7cf53, lw_in 308 (by decide +kernel) (by decide +kernel), by decide +kernel⟩
theorem os_J7_copyOf_1904c : okSt mJ7_copyOf_1904c 2 := ⟨ok_J7_copyOf_1904c, lw_in 311 (by decide +kernel) (by decide +kernel), by decide +kernel⟩
theorem os_J7_copyOf_6403c : okSt mJ7_copyOf_6403c 3 := ⟨ok_J7_copyOf_6403c, lw_in 330 (by decide +kernel) (by decide +kernel), by decide +kernel⟩
theorem os_L_setPrivate : okSt mL_setPrivate 4 := ⟨ok_L_setPrivate, lw_in 344 (by decide +kernel) (by decide +kernel), by decide +kernel⟩
theorem oi_X4_setPrivate : okI mX4_setPrivate 2 := ⟨ok_X4_setPrivate, rfl, lw_in 348 (by decide +kernel) (by decide +kernel), by decide +kernel⟩
theorem ov_X4_setPrivate : okV mX4_setPrivate 2 := ⟨oi_X4_setPrivate, lw_in 349 (by decide +kernel) (by decide +kernel), by decide⟩
theorem oi_X4_sessionNumbered : okI mX4_sessionNumbered 1 := ⟨ok_X4_sessionNumbered, rfl, lw_in 353 (by decide +kernel) (by decide +kernel), by decide +kernel⟩
theorem ov_X4_sessionNumbered : okV mX4_sessionNumbered 1 := ⟨oi_X4_sessionNumbered, lw_in 4 (by decide +kernel) (by decide +kernel), by decide⟩
theorem oi_Jx4a65c_get_915e3 : okI mJx4a65c_get_915e3 1 := ⟨ok_Jx4a65c_get_915e3, rfl, lw_in 372 (by decide +kernel) (by decide +kernel), by decide +kernel⟩
theorem ov_Jx4a65c_get_915e3 : okV mJx4a65c_get_915e3 1 := ⟨oi_Jx4a65c_get_915e3, lw_in 373 (by decide +kernel) (by decide +kernel), by decide⟩
theorem os_J15_checkIndex_7cf53 : okSt mJ15_checkIndex_7cf53 2 := ⟨ok_J15_checkIndex_7cf53, lw_in 376 (by decide +kernel) (by decide +kernel), by decide +kernel⟩
theorem os_J3_checkIndex_8e157 : okSt mJ3_checkIndex_8e157 3 := ⟨ok_J3_checkIndex_8e157, lw_in 379 (by decide +kernel) (by decide +kernel), by decide +kernel⟩
theorem oi_Jx4a65c_elementData_915e3 : okI mJx4a65c_elementData_915e3 1 := ⟨ok_Jx4a65c_elementData_915e3, rfl, lw_in 382 (by decide +kernel) (by decide +kernel), by decide +kernel⟩
theorem ov_Jx4a65c_elementData_915e3 : okV mJx4a65c_elementData_915e3 1 := ⟨oi_Jx4a65c_elementData_915e3, lw_in 383 (by decide +kernel) (by decide +kernel), by decide⟩
theorem os_L_drop : okSt mL_drop 3 := ⟨ok_L_drop, lw_in 386 (by decide +kernel) (by decide +kernel), by decide +kernel⟩
theorem oi_X4_drop : okI mX4_drop 1 := ⟨ok_X4_drop, rfl, lw_in 389 (by decide +kernel) (by decide +kernel), by decide +kernel⟩
theorem ov_X4_drop : okV mX4_drop 1 := ⟨oi_X4_drop, lw_in 390 (by decide +kernel) (by decide +kernel), by decide⟩
theorem os_X4_canBeStopped : okSt mX4_canBeStopped 1 := ⟨ok_X4_canBeStopped, lw_in 394 (by decide +kernel) (by decide +kernel), by decide +kernel⟩
theorem oi_X4_pause : okI mX4_pause 1 := ⟨ok_X4_pause, rfl, lw_in 398 (by decide +kernel) (by decide +kernel), by decide +kernel⟩
theorem ov_X4_pause : okV mX4_pause 1 := ⟨oi_X4_pause, lw_in 5 (by decide +kernel) (by decide +kernel), by decide⟩
theorem oi_X4_leaveOrder : okI mX4_leaveOrder 1 := ⟨ok_X4_leaveOrder, rfl, lw_in 402 (by decide +kernel) (by decide +kernel), by decide +kernel⟩
theorem ov_X4_leaveOrder : okV mX4_leaveOrder 1 := ⟨oi_X4_leaveOrder, lw_in 6 (by decide +kernel) (by decide +kernel), by decide⟩
theorem oi_Jx4a65c_remove_915e3 : okI mJx4a65c_remove_915e3 1 := ⟨ok_Jx4a65c_remove_915e3, rfl, lw_in 405 (by decide +kernel) (by decide +kernel), by decide +kernel⟩
theorem ov_Jx4a65c_remove_915e3 : okV mJx4a65c_remove_915e3 1 := ⟨oi_Jx4a65c_remove_915e3, lw_in 406 (by decide +kernel) (by decide +kernel), by decide⟩
theorem oi_Jx4a65c_fastRemove_b59b0 : okI mJx4a65c_fastRemove_b59b0 2 := ⟨ok_Jx4a65c_fastRemove_b59b0, rfl, lw_in 410 (by decide +kernel) (by decide +kernel), by decide +kernel⟩
theorem ov_Jx4a65c_fastRemove_b59b0 : okV mJx4a65c_fastRemove_b59b0 2 := ⟨oi_Jx4a65c_fastRemove_b59b0, lw_in 7 (by decide +kernel) (by decide +kernel), by decide⟩
theorem oi_X4_comeInto : okI mX4_comeInto 2 := ⟨ok_X4_comeInto, rfl, lw_in 415 (by decide +kernel) (by decide +kernel), by decide +kernel⟩
theorem ov_X4_comeInto : okV mX4_comeInto 2 := ⟨oi_X4_comeInto, lw_in 8 (by decide +kernel) (by decide +kernel), by decide⟩
theorem oi_X2_write : okI mX2_write 2 := ⟨ok_X2_write, rfl, lw_in 418 (by decide +kernel) (by decide +kernel), by decide +kernel⟩
theorem ov_X2_write : okV mX2_write 2 := ⟨oi_X2_write, lw_in 419 (by decide +kernel) (by decide +kernel), by decide⟩
theorem os_J7_copyOf_59c91 : okSt mJ7_copyOf_59c91 2 := ⟨ok_J7_copyOf_59c91, lw_in 423 (by decide +kernel) (by decide +kernel), by decide +kernel⟩
theorem oi_X4_lookAtOrder : okI mX4_lookAtOrder 0 := ⟨ok_X4_lookAtOrder, rfl, lw_in 434 (by decide +kernel) (by decide +kernel), by decide +kernel⟩
theorem ov_X4_lookAtOrder : okV mX4_lookAtOrder 0 := ⟨oi_X4_lookAtOrder, lw_in 9 (by decide +kernel) (by decide +kernel), by decide⟩
theorem oi_X4_locksAreFreeFor : okI mX4_locksAreFreeFor 1 := ⟨ok_X4_locksAreFreeFor, rfl, lw_in 439 (by decide +kernel) (by decide +kernel), by decide +kernel⟩
theorem ov_X4_locksAreFreeFor : okV mX4_locksAreFreeFor 1 := ⟨oi_X4_locksAreFreeFor, lw_in 10 (by decide +kernel) (by decide +kernel), by decide⟩
theorem oi_X1_needs : okI mX1_needs 1 := ⟨ok_X1_needs, rfl, lw_in 442 (by decide +kernel) (by decide +kernel), by decide +kernel⟩
theorem ov_X1_needs : okV mX1_needs 1 := ⟨oi_X1_needs, lw_in 443 (by decide +kernel) (by decide +kernel), by decide⟩
theorem oi_X4_setHolder : okI mX4_setHolder 2 := ⟨ok_X4_setHolder, rfl, lw_in 447 (by decide +kernel) (by decide +kernel), by decide +kernel⟩
theorem ov_X4_setHolder : okV mX4_setHolder 2 := ⟨oi_X4_setHolder, lw_in 11 (by decide +kernel) (by decide +kernel), by decide⟩
theorem os_L_takeUp : okSt mL_takeUp 3 := ⟨ok_L_takeUp, lw_in 450 (by decide +kernel) (by decide +kernel), by decide +kernel⟩
theorem oi_X4_takeUp : okI mX4_takeUp 1 := ⟨ok_X4_takeUp, rfl, lw_in 453 (by decide +kernel) (by decide +kernel), by decide +kernel⟩
theorem ov_X4_takeUp : okV mX4_takeUp 1 := ⟨oi_X4_takeUp, lw_in 454 (by decide +kernel) (by decide +kernel), by decide⟩
theorem os_X4_canGoOn : okSt mX4_canGoOn 1 := ⟨ok_X4_canGoOn, lw_in 458 (by decide +kernel) (by decide +kernel), by decide +kernel⟩
theorem oi_X4_resume : okI mX4_resume 1 := ⟨ok_X4_resume, rfl, lw_in 462 (by decide +kernel) (by decide +kernel), by decide +kernel⟩
theorem ov_X4_resume : okV mX4_resume 1 := ⟨oi_X4_resume, lw_in 12 (by decide +kernel) (by decide +kernel), by decide⟩
theorem oi_X4_waitForLocks : okI mX4_waitForLocks 1 := ⟨ok_X4_waitForLocks, rfl, lw_in 466 (by decide +kernel) (by decide +kernel), by decide +kernel⟩
theorem ov_X4_waitForLocks : okV mX4_waitForLocks 1 := ⟨oi_X4_waitForLocks, lw_in 13 (by decide +kernel) (by decide +kernel), by decide⟩
theorem os_L_isAttached : okSt mL_isAttached 3 := ⟨ok_L_isAttached, lw_in 469 (by decide +kernel) (by decide +kernel), by decide +kernel⟩
theorem oi_X4_isAttached : okI mX4_isAttached 1 := ⟨ok_X4_isAttached, rfl, lw_in 472 (by decide +kernel) (by decide +kernel), by decide +kernel⟩
theorem ov_X4_isAttached : okV mX4_isAttached 1 := ⟨oi_X4_isAttached, lw_in 473 (by decide +kernel) (by decide +kernel), by decide⟩
theorem os_L_kept : okSt mL_kept 3 := ⟨ok_L_kept, lw_in 476 (by decide +kernel) (by decide +kernel), by decide +kernel⟩
theorem oi_X4_kept : okI mX4_kept 1 := ⟨ok_X4_kept, rfl, lw_in 479 (by decide +kernel) (by decide +kernel), by decide +kernel⟩
theorem ov_X4_kept : okV mX4_kept 1 := ⟨oi_X4_kept, lw_in 480 (by decide +kernel) (by decide +kernel), by decide⟩
theorem os_L_commandAt : okSt mL_commandAt 4 := ⟨ok_L_commandAt, lw_in 483 (by decide +kernel) (by decide +kernel), by decide +kernel⟩
theorem oi_X4_commandAt : okI mX4_commandAt 2 := ⟨ok_X4_commandAt, rfl, lw_in 487 (by decide +kernel) (by decide +kernel), by decide +kernel⟩
theorem ov_X4_commandAt : okV mX4_commandAt 2 := ⟨oi_X4_commandAt, lw_in 488 (by decide +kernel) (by decide +kernel), by decide⟩
theorem os_X4_commandOf : okSt mX4_commandOf 2 := ⟨ok_X4_commandOf, lw_in 491 (by decide +kernel) (by decide +kernel), by decide +kernel⟩
theorem os_L_commonAt : okSt mL_commonAt 3 := ⟨ok_L_commonAt, lw_in 510 (by decide +kernel) (by decide +kernel), by decide +kernel⟩
theorem oi_X4_commonAt : okI mX4_commonAt 1 := ⟨ok_X4_commonAt, rfl, lw_in 513 (by decide +kernel) (by decide +kernel), by decide +kernel⟩
theorem ov_X4_commonAt : okV mX4_commonAt 1 := ⟨oi_X4_commonAt, lw_in 514 (by decide +kernel) (by decide +kernel), by decide⟩
theorem os_L_search : okSt mL_search 5 := ⟨ok_L_search, lw_in 517 (by decide +kernel) (by decide +kernel), by decide +kernel⟩
theorem oi_X4_search : okI mX4_search 3 := ⟨ok_X4_search, rfl, lw_in 521 (by decide +kernel) (by decide +kernel), by decide +kernel⟩
theorem ov_X4_search : okV mX4_search 3 := ⟨oi_X4_search, lw_in 522 (by decide +kernel) (by decide +kernel), by decide⟩
theorem oi_X0_lastBetween : okI mX0_lastBetween 2 := ⟨ok_X0_lastBetween, rfl, lw_in 541 (by decide +kernel) (by decide +kernel), by decide +kernel⟩
theorem ov_X0_lastBetween : okV mX0_lastBetween 2 := ⟨oi_X0_lastBetween, lw_in 542 (by decide +kernel) (by decide +kernel), by decide⟩
theorem os_L_start : okSt mL_start 7 := ⟨ok_L_start, lw_in 546 (by decide +kernel) (by decide +kernel), by decide +kernel⟩
theorem oi_X4_start : okI mX4_start 5 := ⟨ok_X4_start, rfl, lw_in 550 (by decide +kernel) (by decide +kernel), by decide +kernel⟩
theorem ov_X4_start : okV mX4_start 5 := ⟨oi_X4_start, lw_in 551 (by decide +kernel) (by decide +kernel), by decide⟩
theorem os_X4_isCommand : okSt mX4_isCommand 1 := ⟨ok_X4_isCommand, lw_in 554 (by decide +kernel) (by decide +kernel), by decide +kernel⟩
theorem os_X4_isWork : okSt mX4_isWork 1 := ⟨ok_X4_isWork, lw_in 557 (by decide +kernel) (by decide +kernel), by decide +kernel⟩
theorem os_X4_areLocks : okSt mX4_areLocks 1 := ⟨ok_X4_areLocks, lw_in 560 (by decide +kernel) (by decide +kernel), by decide +kernel⟩
theorem oi_X1_init : okI mX1_init 4 := ⟨ok_X1_init, rfl, lw_in 581 (by decide +kernel) (by decide +kernel), by decide +kernel⟩
theorem oi_X4_remember : okI mX4_remember 2 := ⟨ok_X4_remember, rfl, lw_in 615 (by decide +kernel) (by decide +kernel), by decide +kernel⟩
theorem ov_X4_remember : okV mX4_remember 2 := ⟨oi_X4_remember, lw_in 14 (by decide +kernel) (by decide +kernel), by decide⟩
theorem oi_X0_append : okI mX0_append 1 := ⟨ok_X0_append, rfl, lw_in 618 (by decide +kernel) (by decide +kernel), by decide +kernel⟩
theorem ov_X0_append : okV mX0_append 1 := ⟨oi_X0_append, lw_in 619 (by decide +kernel) (by decide +kernel), by decide⟩
theorem oi_X0_takeOut : okI mX0_takeOut 1 := ⟨ok_X0_takeOut, rfl, lw_in 623 (by decide +kernel) (by decide +kernel), by decide +kernel⟩
theorem ov_X0_takeOut : okV mX0_takeOut 1 := ⟨oi_X0_takeOut, lw_in 15 (by decide +kernel) (by decide +kernel), by decide⟩
theorem oi_X0_forget : okI mX0_forget 1 := ⟨ok_X0_forget, rfl, lw_in 626 (by decide +kernel) (by decide +kernel), by decide +kernel⟩
theorem ov_X0_forget : okV mX0_forget 1 := ⟨oi_X0_forget, lw_in 627 (by decide +kernel) (by decide +kernel), by decide⟩
theorem os_L_state : okSt mL_state 3 := ⟨ok_L_state, lw_in 630 (by decide +kernel) (by decide +kernel), by decide +kernel⟩
theorem oi_X4_state : okI mX4_state 1 := ⟨ok_X4_state, rfl, lw_in 633 (by decide +kernel) (by decide +kernel), by decide +kernel⟩
theorem ov_X4_state : okV mX4_state 1 := ⟨oi_X4_state, lw_in 634 (by decide +kernel) (by decide +kernel), by decide⟩
theorem oi_X4_jobNumbered : okI mX4_jobNumbered 1 := ⟨ok_X4_jobNumbered, rfl, lw_in 638 (by decide +kernel) (by decide +kernel), by decide +kernel⟩
theorem ov_X4_jobNumbered : okV mX4_jobNumbered 1 := ⟨oi_X4_jobNumbered, lw_in 16 (by decide +kernel) (by decide +kernel), by decide⟩
theorem os_L_stateByJournal : okSt mL_stateByJournal 3 := ⟨ok_L_stateByJournal, lw_in 642 (by decide +kernel) (by decide +kernel), by decide +kernel⟩
theorem oi_X4_stateByJournal : okI mX4_stateByJournal 1 := ⟨ok_X4_stateByJournal, rfl, lw_in 645 (by decide +kernel) (by decide +kernel), by decide +kernel⟩
theorem ov_X4_stateByJournal : okV mX4_stateByJournal 1 := ⟨oi_X4_stateByJournal, lw_in 646 (by decide +kernel) (by decide +kernel), by decide⟩
theorem oi_X2_lastStateOf : okI mX2_lastStateOf 1 := ⟨ok_X2_lastStateOf, rfl, lw_in 649 (by decide +kernel) (by decide +kernel), by decide +kernel⟩
theorem ov_X2_lastStateOf : okV mX2_lastStateOf 1 := ⟨oi_X2_lastStateOf, lw_in 650 (by decide +kernel) (by decide +kernel), by decide⟩
theorem oi_X2_conditionAt : okI mX2_conditionAt 1 := ⟨ok_X2_conditionAt, rfl, lw_in 653 (by decide +kernel) (by decide +kernel), by decide +kernel⟩
theorem ov_X2_conditionAt : okV mX2_conditionAt 1 := ⟨oi_X2_conditionAt, lw_in 654 (by decide +kernel) (by decide +kernel), by decide⟩
theorem os_L_toDo : okSt mL_toDo 3 := ⟨ok_L_toDo, lw_in 657 (by decide +kernel) (by decide +kernel), by decide +kernel⟩
theorem oi_X4_toDo : okI mX4_toDo 1 := ⟨ok_X4_toDo, rfl, lw_in 660 (by decide +kernel) (by decide +kernel), by decide +kernel⟩
theorem ov_X4_toDo : okV mX4_toDo 1 := ⟨oi_X4_toDo, lw_in 661 (by decide +kernel) (by decide +kernel), by decide⟩
theorem os_L_sessionOf : okSt mL_sessionOf 3 := ⟨ok_L_sessionOf, lw_in 664 (by decide +kernel) (by decide +kernel), by decide +kernel⟩
theorem oi_X4_sessionOf : okI mX4_sessionOf 1 := ⟨ok_X4_sessionOf, rfl, lw_in 667 (by decide +kernel) (by decide +kernel), by decide +kernel⟩
theorem ov_X4_sessionOf : okV mX4_sessionOf 1 := ⟨oi_X4_sessionOf, lw_in 668 (by decide +kernel) (by decide +kernel), by decide⟩
theorem os_L_front : okSt mL_front 3 := ⟨ok_L_front, lw_in 671 (by decide +kernel) (by decide +kernel), by decide +kernel⟩
theorem oi_X4_front : okI mX4_front 1 := ⟨ok_X4_front, rfl, lw_in 674 (by decide +kernel) (by decide +kernel), by decide +kernel⟩
theorem ov_X4_front : okV mX4_front 1 := ⟨oi_X4_front, lw_in 675 (by decide +kernel) (by decide +kernel), by decide⟩
theorem os_X4_jobInFrontOf : okSt mX4_jobInFrontOf 1 := ⟨ok_X4_jobInFrontOf, lw_in 678 (by decide +kernel) (by decide +kernel), by decide +kernel⟩
theorem os_L_toFront : okSt mL_toFront 3 := ⟨ok_L_toFront, lw_in 682 (by decide +kernel) (by decide +kernel), by decide +kernel⟩
theorem oi_X4_toFront : okI mX4_toFront 1 := ⟨ok_X4_toFront, rfl, lw_in 685 (by decide +kernel) (by decide +kernel), by decide +kernel⟩
theorem ov_X4_toFront : okV mX4_toFront 1 := ⟨oi_X4_toFront, lw_in 686 (by decide +kernel) (by decide +kernel), by decide⟩
theorem os_X4_isOver : okSt mX4_isOver 1 := ⟨ok_X4_isOver, lw_in 690 (by decide +kernel) (by decide +kernel), by decide +kernel⟩
theorem os_L_toBack : okSt mL_toBack 3 := ⟨ok_L_toBack, lw_in 694 (by decide +kernel) (by decide +kernel), by decide +kernel⟩
theorem oi_X4_toBack : okI mX4_toBack 1 := ⟨ok_X4_toBack, rfl, lw_in 697 (by decide +kernel) (by decide +kernel), by decide +kernel⟩
theorem ov_X4_toBack : okV mX4_toBack 1 := ⟨oi_X4_toBack, lw_in 698 (by decide +kernel) (by decide +kernel), by decide⟩
theorem os_L_count : okSt mL_count 4 := ⟨ok_L_count, lw_in 701 (by decide +kernel) (by decide +kernel), by decide +kernel⟩
theorem oi_X4_count : okI mX4_count 2 := ⟨ok_X4_count, rfl, lw_in 704 (by decide +kernel) (by decide +kernel), by decide +kernel⟩
theorem ov_X4_count : okV mX4_count 2 := ⟨oi_X4_count, lw_in 705 (by decide +kernel) (by decide +kernel), by decide⟩
theorem os_X4_isState : okSt mX4_isState 1 := ⟨ok_X4_isState, lw_in 708 (by decide +kernel) (by decide +kernel), by decide +kernel⟩
theorem os_L_holder : okSt mL_holder 3 := ⟨ok_L_holder, lw_in 712 (by decide +kernel) (by decide +kernel), by decide +kernel⟩
theorem oi_X4_holder : okI mX4_holder 1 := ⟨ok_X4_holder, rfl, lw_in 715 (by decide +kernel) (by decide +kernel), by decide +kernel⟩
theorem ov_X4_holder : okV mX4_holder 1 := ⟨oi_X4_holder, lw_in 716 (by decide +kernel) (by decide +kernel), by decide⟩
theorem os_X4_refuseNoLock : okSt mX4_refuseNoLock 1 := ⟨ok_X4_refuseNoLock, lw_in 719 (by decide +kernel) (by decide +kernel), by decide +kernel⟩
theorem os_L_holderByJobs : okSt mL_holderByJobs 3 := ⟨ok_L_holderByJobs, lw_in 723 (by decide +kernel) (by decide +kernel), by decide +kernel⟩
theorem oi_X4_holderByJobs : okI mX4_holderByJobs 1 := ⟨ok_X4_holderByJobs, rfl, lw_in 726 (by decide +kernel) (by decide +kernel), by decide +kernel⟩
theorem ov_X4_holderByJobs : okV mX4_holderByJobs 1 := ⟨oi_X4_holderByJobs, lw_in 727 (by decide +kernel) (by decide +kernel), by decide⟩
theorem os_L_holds : okSt mL_holds 3 := ⟨ok_L_holds, lw_in 730 (by decide +kernel) (by decide +kernel), by decide +kernel⟩
theorem oi_X4_holds : okI mX4_holds 1 := ⟨ok_X4_holds, rfl, lw_in 733 (by decide +kernel) (by decide +kernel), by decide +kernel⟩
theorem ov_X4_holds : okV mX4_holds 1 := ⟨oi_X4_holds, lw_in 734 (by decide +kernel) (by decide +kernel), by decide⟩
theorem os_L_waitingAt : okSt mL_waitingAt 3 := ⟨ok_L_waitingAt, lw_in 737 (by decide +kernel) (by decide +kernel), by decide +kernel⟩
theorem oi_X4_waitingAt : okI mX4_waitingAt 1 := ⟨ok_X4_waitingAt, rfl, lw_in 740 (by decide +kernel) (by decide +kernel), by decide +kernel⟩
theorem ov_X4_waitingAt : okV mX4_waitingAt 1 := ⟨oi_X4_waitingAt, lw_in 741 (by decide +kernel) (by decide +kernel), by decide⟩
theorem os_L_blockers : okSt mL_blockers 3 := ⟨ok_L_blockers, lw_in 745 (by decide +kernel) (by decide +kernel), by decide +kernel⟩
theorem oi_X4_blockers : okI mX4_blockers 1 := ⟨ok_X4_blockers, rfl, lw_in 748 (by decide +kernel) (by decide +kernel), by decide +kernel⟩
theorem ov_X4_blockers : okV mX4_blockers 1 := ⟨oi_X4_blockers, lw_in 749 (by decide +kernel) (by decide +kernel), by decide⟩
theorem os_L_stop : okSt mL_stop 3 := ⟨ok_L_stop, lw_in 753 (by decide +kernel) (by decide +kernel), by decide +kernel⟩
theorem oi_X4_stop : okI mX4_stop 1 := ⟨ok_X4_stop, rfl, lw_in 756 (by decide +kernel) (by decide +kernel), by decide +kernel⟩
theorem ov_X4_stop : okV mX4_stop 1 := ⟨oi_X4_stop, lw_in 757 (by decide +kernel) (by decide +kernel), by decide⟩
theorem os_L_goOn : okSt mL_goOn 3 := ⟨ok_L_goOn, lw_in 761 (by decide +kernel) (by decide +kernel), by decide +kernel⟩
theorem oi_X4_goOn : okI mX4_goOn 1 := ⟨ok_X4_goOn, rfl, lw_in 764 (by decide +kernel) (by decide +kernel), by decide +kernel⟩
theorem ov_X4_goOn : okV mX4_goOn 1 := ⟨oi_X4_goOn, lw_in 765 (by decide +kernel) (by decide +kernel), by decide⟩
theorem os_L_end : okSt mL_end 3 := ⟨ok_L_end, lw_in 769 (by decide +kernel) (by decide +kernel), by decide +kernel⟩
theorem oi_X4_end : okI mX4_end 1 := ⟨ok_X4_end, rfl, lw_in 772 (by decide +kernel) (by decide +kernel), by decide +kernel⟩
theorem ov_X4_end : okV mX4_end 1 := ⟨oi_X4_end, lw_in 773 (by decide +kernel) (by decide +kernel), by decide⟩
theorem oi_X4_finish : okI mX4_finish 2 := ⟨ok_X4_finish, rfl, lw_in 777 (by decide +kernel) (by decide +kernel), by decide +kernel⟩
theorem ov_X4_finish : okV mX4_finish 2 := ⟨oi_X4_finish, lw_in 17 (by decide +kernel) (by decide +kernel), by decide⟩
theorem os_L_signal : okSt mL_signal 4 := ⟨ok_L_signal, lw_in 780 (by decide +kernel) (by decide +kernel), by decide +kernel⟩
theorem oi_X4_signal : okI mX4_signal 2 := ⟨ok_X4_signal, rfl, lw_in 783 (by decide +kernel) (by decide +kernel), by decide +kernel⟩
theorem ov_X4_signal : okV mX4_signal 2 := ⟨oi_X4_signal, lw_in 784 (by decide +kernel) (by decide +kernel), by decide⟩
theorem oi_X4_obeys : okI mX4_obeys 2 := ⟨ok_X4_obeys, rfl, lw_in 789 (by decide +kernel) (by decide +kernel), by decide +kernel⟩
theorem ov_X4_obeys : okV mX4_obeys 2 := ⟨oi_X4_obeys, lw_in 18 (by decide +kernel) (by decide +kernel), by decide⟩
theorem os_L_tick : okSt mL_tick 3 := ⟨ok_L_tick, lw_in 792 (by decide +kernel) (by decide +kernel), by decide +kernel⟩
theorem oi_X4_tick : okI mX4_tick 1 := ⟨ok_X4_tick, rfl, lw_in 795 (by decide +kernel) (by decide +kernel), by decide +kernel⟩
theorem ov_X4_tick : okV mX4_tick 1 := ⟨oi_X4_tick, lw_in 796 (by decide +kernel) (by decide +kernel), by decide⟩
theorem oi_X4_passOneTick : okI mX4_passOneTick 0 := ⟨ok_X4_passOneTick, rfl, lw_in 801 (by decide +kernel) (by decide +kernel), by decide +kernel⟩
theorem ov_X4_passOneTick : okV mX4_passOneTick 0 := ⟨oi_X4_passOneTick, lw_in 19 (by decide +kernel) (by decide +kernel), by decide⟩
theorem oi_X4_workIsDone : okI mX4_workIsDone 1 := ⟨ok_X4_workIsDone, rfl, lw_in 805 (by decide +kernel) (by decide +kernel), by decide +kernel⟩
theorem ov_X4_workIsDone : okV mX4_workIsDone 1 := ⟨oi_X4_workIsDone, lw_in 20 (by decide +kernel) (by decide +kernel), by decide⟩
theorem os_L_entryJob : okSt mL_entryJob 3 := ⟨ok_L_entryJob, lw_in 808 (by decide +kernel) (by decide +kernel), by decide +kernel⟩
theorem oi_X4_entryJob : okI mX4_entryJob 1 := ⟨ok_X4_entryJob, rfl, lw_in 811 (by decide +kernel) (by decide +kernel), by decide +kernel⟩
theorem ov_X4_entryJob : okV mX4_entryJob 1 := ⟨oi_X4_entryJob, lw_in 812 (by decide +kernel) (by decide +kernel), by decide⟩
theorem oi_X4_refuseNoEntry : okI mX4_refuseNoEntry 1 := ⟨ok_X4_refuseNoEntry, rfl, lw_in 816 (by decide +kernel) (by decide +kernel), by decide +kernel⟩
theorem ov_X4_refuseNoEntry : okV mX4_refuseNoEntry 1 := ⟨oi_X4_refuseNoEntry, lw_in 21 (by decide +kernel) (by decide +kernel), by decide⟩
theorem os_L_entryState : okSt mL_entryState 3 := ⟨ok_L_entryState, lw_in 820 (by decide +kernel) (by decide +kernel), by decide +kernel⟩
theorem oi_X4_entryState : okI mX4_entryState 1 := ⟨ok_X4_entryState, rfl, lw_in 823 (by decide +kernel) (by decide +kernel), by decide +kernel⟩
theorem ov_X4_entryState : okV mX4_entryState 1 := ⟨oi_X4_entryState, lw_in 824 (by decide +kernel) (by decide +kernel), by decide⟩
theorem os_L_doneShare : okSt mL_doneShare 2 := ⟨ok_L_doneShare, lw_in 828 (by decide +kernel) (by decide +kernel), by decide +kernel⟩
theorem oi_X4_doneShare : okI mX4_doneShare 0 := ⟨ok_X4_doneShare, rfl, lw_in 831 (by decide +kernel) (by decide +kernel), by decide +kernel⟩
theorem ov_X4_doneShare : okV mX4_doneShare 0 := ⟨oi_X4_doneShare, lw_in 832 (by decide +kernel) (by decide +kernel), by decide⟩
theorem oi_X5_init : okI mX5_init 0 := ⟨ok_X5_init, rfl, lw_in 838 (by decide +kernel) (by decide +kernel), by decide +kernel⟩
theorem oi_X5_thrown : okI mX5_thrown 0 := ⟨ok_X5_thrown, rfl, lw_in 910 (by decide +kernel) (by decide +kernel), by decide +kernel⟩
theorem ov_X5_thrown : okV mX5_thrown 0 := ⟨oi_X5_thrown, lw_in 911 (by decide +kernel) (by decide +kernel), by decide⟩
theorem oi_X5_open : okI mX5_open 1 := ⟨ok_X5_open, rfl, lw_in 914 (by decide +kernel) (by decide +kernel), by decide +kernel⟩
theorem ov_X5_open : okV mX5_open 1 := ⟨oi_X5_open, lw_in 915 (by decide +kernel) (by decide +kernel), by decide⟩
theorem oi_X5_fails : okI mX5_fails 1 := ⟨ok_X5_fails, rfl, lw_in 919 (by decide +kernel) (by decide +kernel), by decide +kernel⟩
theorem ov_X5_fails : okV mX5_fails 1 := ⟨oi_X5_fails, lw_in 22 (by decide +kernel) (by decide +kernel), by decide⟩
theorem oi_X5_setPrivate : okI mX5_setPrivate 2 := ⟨ok_X5_setPrivate, rfl, lw_in 922 (by decide +kernel) (by decide +kernel), by decide +kernel⟩
theorem ov_X5_setPrivate : okV mX5_setPrivate 2 := ⟨oi_X5_setPrivate, lw_in 923 (by decide +kernel) (by decide +kernel), by decide⟩
theorem oi_X5_isSession : okI mX5_isSession 1 := ⟨ok_X5_isSession, rfl, lw_in 927 (by decide +kernel) (by decide +kernel), by decide +kernel⟩
theorem ov_X5_isSession : okV mX5_isSession 1 := ⟨oi_X5_isSession, lw_in 23 (by decide +kernel) (by decide +kernel), by decide⟩
theorem os_X5_in : okSt mX5_in 3 := ⟨ok_X5_in, lw_in 930 (by decide +kernel) (by decide +kernel), by decide +kernel⟩
theorem oi_X5_drop : okI mX5_drop 1 := ⟨ok_X5_drop, rfl, lw_in 933 (by decide +kernel) (by decide +kernel), by decide +kernel⟩
theorem ov_X5_drop : okV mX5_drop 1 := ⟨oi_X5_drop, lw_in 934 (by decide +kernel) (by decide +kernel), by decide⟩
theorem oi_X5_stops : okI mX5_stops 1 := ⟨ok_X5_stops, rfl, lw_in 938 (by decide +kernel) (by decide +kernel), by decide +kernel⟩
theorem ov_X5_stops : okV mX5_stops 1 := ⟨oi_X5_stops, lw_in 24 (by decide +kernel) (by decide +kernel), by decide⟩
theorem oi_X5_leaves : okI mX5_leaves 1 := ⟨ok_X5_leaves, rfl, lw_in 942 (by decide +kernel) (by decide +kernel), by decide +kernel⟩
theorem ov_X5_leaves : okV mX5_leaves 1 := ⟨oi_X5_leaves, lw_in 25 (by decide +kernel) (by decide +kernel), by decide⟩
theorem oi_X5_comes : okI mX5_comes 2 := ⟨ok_X5_comes, rfl, lw_in 946 (by decide +kernel) (by decide +kernel), by decide +kernel⟩
theorem ov_X5_comes : okV mX5_comes 2 := ⟨oi_X5_comes, lw_in 26 (by decide +kernel) (by decide +kernel), by decide⟩
theorem oi_X5_looks : okI mX5_looks 0 := ⟨ok_X5_looks, rfl, lw_in 950 (by decide +kernel) (by decide +kernel), by decide +kernel⟩
theorem ov_X5_looks : okV mX5_looks 0 := ⟨oi_X5_looks, lw_in 27 (by decide +kernel) (by decide +kernel), by decide⟩
theorem oi_X5_isFree : okI mX5_isFree 1 := ⟨ok_X5_isFree, rfl, lw_in 954 (by decide +kernel) (by decide +kernel), by decide +kernel⟩
theorem ov_X5_isFree : okV mX5_isFree 1 := ⟨oi_X5_isFree, lw_in 28 (by decide +kernel) (by decide +kernel), by decide⟩
theorem oi_X5_takeUp : okI mX5_takeUp 1 := ⟨ok_X5_takeUp, rfl, lw_in 957 (by decide +kernel) (by decide +kernel), by decide +kernel⟩
theorem ov_X5_takeUp : okV mX5_takeUp 1 := ⟨oi_X5_takeUp, lw_in 958 (by decide +kernel) (by decide +kernel), by decide⟩
theorem oi_X5_goesOn : okI mX5_goesOn 1 := ⟨ok_X5_goesOn, rfl, lw_in 962 (by decide +kernel) (by decide +kernel), by decide +kernel⟩
theorem ov_X5_goesOn : okV mX5_goesOn 1 := ⟨oi_X5_goesOn, lw_in 29 (by decide +kernel) (by decide +kernel), by decide⟩
theorem oi_X5_isAttached : okI mX5_isAttached 1 := ⟨ok_X5_isAttached, rfl, lw_in 965 (by decide +kernel) (by decide +kernel), by decide +kernel⟩
theorem ov_X5_isAttached : okV mX5_isAttached 1 := ⟨oi_X5_isAttached, lw_in 966 (by decide +kernel) (by decide +kernel), by decide⟩
theorem oi_X5_kept : okI mX5_kept 1 := ⟨ok_X5_kept, rfl, lw_in 969 (by decide +kernel) (by decide +kernel), by decide +kernel⟩
theorem ov_X5_kept : okV mX5_kept 1 := ⟨oi_X5_kept, lw_in 970 (by decide +kernel) (by decide +kernel), by decide⟩
theorem oi_X5_commandAt : okI mX5_commandAt 2 := ⟨ok_X5_commandAt, rfl, lw_in 973 (by decide +kernel) (by decide +kernel), by decide +kernel⟩
theorem ov_X5_commandAt : okV mX5_commandAt 2 := ⟨oi_X5_commandAt, lw_in 974 (by decide +kernel) (by decide +kernel), by decide⟩
theorem oi_X5_common : okI mX5_common 0 := ⟨ok_X5_common, rfl, lw_in 977 (by decide +kernel) (by decide +kernel), by decide +kernel⟩
theorem ov_X5_common : okV mX5_common 0 := ⟨oi_X5_common, lw_in 978 (by decide +kernel) (by decide +kernel), by decide⟩
theorem oi_X5_commonAt : okI mX5_commonAt 1 := ⟨ok_X5_commonAt, rfl, lw_in 981 (by decide +kernel) (by decide +kernel), by decide +kernel⟩
theorem ov_X5_commonAt : okV mX5_commonAt 1 := ⟨oi_X5_commonAt, lw_in 982 (by decide +kernel) (by decide +kernel), by decide⟩
theorem oi_X5_search : okI mX5_search 3 := ⟨ok_X5_search, rfl, lw_in 985 (by decide +kernel) (by decide +kernel), by decide +kernel⟩
theorem ov_X5_search : okV mX5_search 3 := ⟨oi_X5_search, lw_in 986 (by decide +kernel) (by decide +kernel), by decide⟩
theorem oi_X5_start : okI mX5_start 5 := ⟨ok_X5_start, rfl, lw_in 989 (by decide +kernel) (by decide +kernel), by decide +kernel⟩
theorem ov_X5_start : okV mX5_start 5 := ⟨oi_X5_start, lw_in 990 (by decide +kernel) (by decide +kernel), by decide⟩
theorem oi_X5_remembers : okI mX5_remembers 2 := ⟨ok_X5_remembers, rfl, lw_in 994 (by decide +kernel) (by decide +kernel), by decide +kernel⟩
theorem ov_X5_remembers : okV mX5_remembers 2 := ⟨oi_X5_remembers, lw_in 30 (by decide +kernel) (by decide +kernel), by decide⟩
theorem oi_X5_state : okI mX5_state 1 := ⟨ok_X5_state, rfl, lw_in 997 (by decide +kernel) (by decide +kernel), by decide +kernel⟩
theorem ov_X5_state : okV mX5_state 1 := ⟨oi_X5_state, lw_in 998 (by decide +kernel) (by decide +kernel), by decide⟩
theorem oi_X5_isJob : okI mX5_isJob 1 := ⟨ok_X5_isJob, rfl, lw_in 1002 (by decide +kernel) (by decide +kernel), by decide +kernel⟩
theorem ov_X5_isJob : okV mX5_isJob 1 := ⟨oi_X5_isJob, lw_in 31 (by decide +kernel) (by decide +kernel), by decide⟩
theorem oi_X5_stateByJournal : okI mX5_stateByJournal 1 := ⟨ok_X5_stateByJournal, rfl, lw_in 1005 (by decide +kernel) (by decide +kernel), by decide +kernel⟩
theorem ov_X5_stateByJournal : okV mX5_stateByJournal 1 := ⟨oi_X5_stateByJournal, lw_in 1006 (by decide +kernel) (by decide +kernel), by decide⟩
theorem oi_X5_toDo : okI mX5_toDo 1 := ⟨ok_X5_toDo, rfl, lw_in 1010 (by decide +kernel) (by decide +kernel), by decide +kernel⟩
theorem ov_X5_toDo : okV mX5_toDo 1 := ⟨oi_X5_toDo, lw_in 1011 (by decide +kernel) (by decide +kernel), by decide⟩
theorem oi_X5_sessionOf : okI mX5_sessionOf 1 := ⟨ok_X5_sessionOf, rfl, lw_in 1014 (by decide +kernel) (by decide +kernel), by decide +kernel⟩
theorem ov_X5_sessionOf : okV mX5_sessionOf 1 := ⟨oi_X5_sessionOf, lw_in 1015 (by decide +kernel) (by decide +kernel), by decide⟩
theorem oi_X5_front : okI mX5_front 1 := ⟨ok_X5_front, rfl, lw_in 1018 (by decide +kernel) (by decide +kernel), by decide +kernel⟩
theorem ov_X5_front : okV mX5_front 1 := ⟨oi_X5_front, lw_in 1019 (by decide +kernel) (by decide +kernel), by decide⟩
theorem oi_X5_toFront : okI mX5_toFront 1 := ⟨ok_X5_toFront, rfl, lw_in 1022 (by decide +kernel) (by decide +kernel), by decide +kernel⟩
theorem ov_X5_toFront : okV mX5_toFront 1 := ⟨oi_X5_toFront, lw_in 1023 (by decide +kernel) (by decide +kernel), by decide⟩
theorem oi_X5_isOver : okI mX5_isOver 1 := ⟨ok_X5_isOver, rfl, lw_in 1027 (by decide +kernel) (by decide +kernel), by decide +kernel⟩
theorem ov_X5_isOver : okV mX5_isOver 1 := ⟨oi_X5_isOver, lw_in 32 (by decide +kernel) (by decide +kernel), by decide⟩
theorem oi_X5_toBack : okI mX5_toBack 1 := ⟨ok_X5_toBack, rfl, lw_in 1030 (by decide +kernel) (by decide +kernel), by decide +kernel⟩
theorem ov_X5_toBack : okV mX5_toBack 1 := ⟨oi_X5_toBack, lw_in 1031 (by decide +kernel) (by decide +kernel), by decide⟩
theorem oi_X5_count : okI mX5_count 2 := ⟨ok_X5_count, rfl, lw_in 1034 (by decide +kernel) (by decide +kernel), by decide +kernel⟩
theorem ov_X5_count : okV mX5_count 2 := ⟨oi_X5_count, lw_in 1035 (by decide +kernel) (by decide +kernel), by decide⟩
theorem os_X5_isState : okSt mX5_isState 1 := ⟨ok_X5_isState, lw_in 1038 (by decide +kernel) (by decide +kernel), by decide +kernel⟩
theorem oi_X5_holder : okI mX5_holder 1 := ⟨ok_X5_holder, rfl, lw_in 1041 (by decide +kernel) (by decide +kernel), by decide +kernel⟩
theorem ov_X5_holder : okV mX5_holder 1 := ⟨oi_X5_holder, lw_in 1042 (by decide +kernel) (by decide +kernel), by decide⟩
theorem oi_X5_holderByJobs : okI mX5_holderByJobs 1 := ⟨ok_X5_holderByJobs, rfl, lw_in 1045 (by decide +kernel) (by decide +kernel), by decide +kernel⟩
theorem ov_X5_holderByJobs : okV mX5_holderByJobs 1 := ⟨oi_X5_holderByJobs, lw_in 1046 (by decide +kernel) (by decide +kernel), by decide⟩
theorem oi_X5_holds : okI mX5_holds 1 := ⟨ok_X5_holds, rfl, lw_in 1050 (by decide +kernel) (by decide +kernel), by decide +kernel⟩
theorem ov_X5_holds : okV mX5_holds 1 := ⟨oi_X5_holds, lw_in 1051 (by decide +kernel) (by decide +kernel), by decide⟩
theorem oi_X5_waiting : okI mX5_waiting 0 := ⟨ok_X5_waiting, rfl, lw_in 1054 (by decide +kernel) (by decide +kernel), by decide +kernel⟩
theorem ov_X5_waiting : okV mX5_waiting 0 := ⟨oi_X5_waiting, lw_in 1055 (by decide +kernel) (by decide +kernel), by decide⟩
theorem oi_X5_waitingAt : okI mX5_waitingAt 1 := ⟨ok_X5_waitingAt, rfl, lw_in 1058 (by decide +kernel) (by decide +kernel), by decide +kernel⟩
theorem ov_X5_waitingAt : okV mX5_waitingAt 1 := ⟨oi_X5_waitingAt, lw_in 1059 (by decide +kernel) (by decide +kernel), by decide⟩
theorem oi_X5_blockers : okI mX5_blockers 1 := ⟨ok_X5_blockers, rfl, lw_in 1062 (by decide +kernel) (by decide +kernel), by decide +kernel⟩
theorem ov_X5_blockers : okV mX5_blockers 1 := ⟨oi_X5_blockers, lw_in 1063 (by decide +kernel) (by decide +kernel), by decide⟩
theorem oi_X5_stop : okI mX5_stop 1 := ⟨ok_X5_stop, rfl, lw_in 1066 (by decide +kernel) (by decide +kernel), by decide +kernel⟩
theorem ov_X5_stop : okV mX5_stop 1 := ⟨oi_X5_stop, lw_in 1067 (by decide +kernel) (by decide +kernel), by decide⟩
theorem oi_X5_canStop : okI mX5_canStop 1 := ⟨ok_X5_canStop, rfl, lw_in 1071 (by decide +kernel) (by decide +kernel), by decide +kernel⟩
theorem ov_X5_canStop : okV mX5_canStop 1 := ⟨oi_X5_canStop, lw_in 33 (by decide +kernel) (by decide +kernel), by decide⟩
theorem oi_X5_goOn : okI mX5_goOn 1 := ⟨ok_X5_goOn, rfl, lw_in 1074 (by decide +kernel) (by decide +kernel), by decide +kernel⟩
theorem ov_X5_goOn : okV mX5_goOn 1 := ⟨oi_X5_goOn, lw_in 1075 (by decide +kernel) (by decide +kernel), by decide⟩
theorem oi_X5_end : okI mX5_end 1 := ⟨ok_X5_end, rfl, lw_in 1078 (by decide +kernel) (by decide +kernel), by decide +kernel⟩
theorem ov_X5_end : okV mX5_end 1 := ⟨oi_X5_end, lw_in 1079 (by decide +kernel) (by decide +kernel), by decide⟩
theorem oi_X5_ends : okI mX5_ends 2 := ⟨ok_X5_ends, rfl, lw_in 1083 (by decide +kernel) (by decide +kernel), by decide +kernel⟩
theorem ov_X5_ends : okV mX5_ends 2 := ⟨oi_X5_ends, lw_in 34 (by decide +kernel) (by decide +kernel), by decide⟩
theorem oi_X5_signal : okI mX5_signal 2 := ⟨ok_X5_signal, rfl, lw_in 1086 (by decide +kernel) (by decide +kernel), by decide +kernel⟩
theorem ov_X5_signal : okV mX5_signal 2 := ⟨oi_X5_signal, lw_in 1087 (by decide +kernel) (by decide +kernel), by decide⟩
theorem oi_X5_tick : okI mX5_tick 1 := ⟨ok_X5_tick, rfl, lw_in 1090 (by decide +kernel) (by decide +kernel), by decide +kernel⟩
theorem ov_X5_tick : okV mX5_tick 1 := ⟨oi_X5_tick, lw_in 1091 (by decide +kernel) (by decide +kernel), by decide⟩
theorem oi_X5_ticks : okI mX5_ticks 0 := ⟨ok_X5_ticks, rfl, lw_in 1095 (by decide +kernel) (by decide +kernel), by decide +kernel⟩
theorem ov_X5_ticks : okV mX5_ticks 0 := ⟨oi_X5_ticks, lw_in 35 (by decide +kernel) (by decide +kernel), by decide⟩
theorem oi_X5_entries : okI mX5_entries 0 := ⟨ok_X5_entries, rfl, lw_in 1098 (by decide +kernel) (by decide +kernel), by decide +kernel⟩
theorem ov_X5_entries : okV mX5_entries 0 := ⟨oi_X5_entries, lw_in 1099 (by decide +kernel) (by decide +kernel), by decide⟩
theorem oi_X5_entryJob : okI mX5_entryJob 1 := ⟨ok_X5_entryJob, rfl, lw_in 1102 (by decide +kernel) (by decide +kernel), by decide +kernel⟩
theorem ov_X5_entryJob : okV mX5_entryJob 1 := ⟨oi_X5_entryJob, lw_in 1103 (by decide +kernel) (by decide +kernel), by decide⟩
theorem oi_X5_entryState : okI mX5_entryState 1 := ⟨ok_X5_entryState, rfl, lw_in 1106 (by decide +kernel) (by decide +kernel), by decide +kernel⟩
theorem ov_X5_entryState : okV mX5_entryState 1 := ⟨oi_X5_entryState, lw_in 1107 (by decide +kernel) (by decide +kernel), by decide⟩
theorem oi_X5_worked : okI mX5_worked 0 := ⟨ok_X5_worked, rfl, lw_in 1110 (by decide +kernel) (by decide +kernel), by decide +kernel⟩
theorem ov_X5_worked : okV mX5_worked 0 := ⟨oi_X5_worked, lw_in 1111 (by decide +kernel) (by decide +kernel), by decide⟩
theorem oi_X5_doneShare : okI mX5_doneShare 0 := ⟨ok_X5_doneShare, rfl, lw_in 1114 (by decide +kernel) (by decide +kernel), by decide +kernel⟩
theorem ov_X5_doneShare : okV mX5_doneShare 0 := ⟨oi_X5_doneShare, lw_in 1115 (by decide +kernel) (by decide +kernel), by decide⟩
theorem oc0_0 : okC 0 1 (1, 0, mJxc12de_init_da8c8) := ⟨lw_in 73 (by decide +kernel) (by decide +kernel), oi_Jxc12de_init_da8c8, rfl⟩
theorem oc0_1 : okC 0 66 (2, 2, mJ7_copyOf_1904c) := ⟨lw_in 310 (by decide +kernel) (by decide +kernel), os_J7_copyOf_1904c⟩
theorem oc0_2 : okC 0 69 (0, 1, mJx4a65c_grow_92f84) := ⟨lw_in 296 (by decide +kernel) (by decide +kernel), ov_Jx4a65c_grow_92f84⟩
theorem oc0_3 : okC 0 73 (2, 3, mJ8_newLength_cabcc) := ⟨lw_in 300 (by decide +kernel) (by decide +kernel), os_J8_newLength_cabcc⟩
theorem oc0_4 : okC 0 79 (5, 2, mZ) := lw_in 341 (by decide +kernel) (by decide +kernel)
theorem oc0_5 : okC 0 112 (7, 5, mZ) := lw_in 412 (by decide +kernel) (by decide +kernel)
theorem oc0_6 : okC 0 118 (2, 2, mJ15_checkIndex_7cf53) := ⟨lw_in 375 (by decide +kernel) (by decide +kernel), os_J15_checkIndex_7cf53⟩
theorem oc0_7 : okC 0 123 (0, 1, mJx4a65c_elementData_915e3) := ⟨lw_in 381 (by decide +kernel) (by decide +kernel), ov_Jx4a65c_elementData_915e3⟩
theorem oc0_8 : okC 0 129 (0, 0, mJx4a65c_grow_d5877) := ⟨lw_in 292 (by decide +kernel) (by decide +kernel), ov_Jx4a65c_grow_d5877⟩
theorem oc0_9 : okC 0 131 (0, 3, mJx4a65c_add_72be8) := ⟨lw_in 288 (by decide +kernel) (by decide +kernel), ov_Jx4a65c_add_72be8⟩
theorem oc0_10 : okC 0 144 (0, 2, mJx4a65c_fastRemove_b59b0) := ⟨lw_in 408 (by decide +kernel) (by decide +kernel), ov_Jx4a65c_fastRemove_b59b0⟩
set_option maxRecDepth 10000 in
theorem oc0 : ∀ x ∈ clT0, okC 0 x.1 x.2 := (List.forall_mem_cons.mpr ⟨oc0_0, (List.forall_mem_cons.mpr ⟨oc0_1, (List.forall_mem_cons.mpr ⟨oc0_2, (List.forall_mem_cons.mpr ⟨oc0_3, (List.forall_mem_cons.mpr ⟨oc0_4, (List.forall_mem_cons.mpr ⟨oc0_5, (List.forall_mem_cons.mpr ⟨oc0_6, (List.forall_mem_cons.mpr ⟨oc0_7, (List.forall_mem_cons.mpr ⟨oc0_8, (List.forall_mem_cons.mpr ⟨oc0_9, (List.forall_mem_cons.mpr ⟨oc0_10, (fun _ h => nomatch h)⟩)⟩)⟩)⟩)⟩)⟩)⟩)⟩)⟩)⟩)⟩)
theorem oc1_0 : okC 1 3 (3, 0, mZ) := lw_in 102 (by decide +kernel) (by decide +kernel)
theorem oc1_1 : okC 1 19 (0, 1, mX0_takeOut) := ⟨lw_in 621 (by decide +kernel) (by decide +kernel), ov_X0_takeOut⟩
set_option maxRecDepth 10000 in
theorem oc1 : ∀ x ∈ clT1, okC 1 x.1 x.2 := (List.forall_mem_cons.mpr ⟨oc1_0, (List.forall_mem_cons.mpr ⟨oc1_1, (fun _ h => nomatch h)⟩)⟩)
theorem oc2_0 : okC 2 3 (3, 0, mZ) := lw_in 583 (by decide +kernel) (by decide +kernel)
set_option maxRecDepth 10000 in
theorem oc2 : ∀ x ∈ clT2, okC 2 x.1 x.2 := (List.forall_mem_cons.mpr ⟨oc2_0, (fun _ h => nomatch h)⟩)
theorem oc3_0 : okC 3 3 (3, 0, mZ) := lw_in 118 (by decide +kernel) (by decide +kernel)
theorem oc3_1 : okC 3 22 (4, 2, mZ) := lw_in 421 (by decide +kernel) (by decide +kernel)
theorem oc3_2 : okC 3 28 (2, 2, mJ7_copyOf_59c91) := ⟨lw_in 422 (by decide +kernel) (by decide +kernel), os_J7_copyOf_59c91⟩
theorem oc3_3 : okC 3 34 (0, 1, mX2_conditionAt) := ⟨lw_in 652 (by decide +kernel) (by decide +kernel), ov_X2_conditionAt⟩
set_option maxRecDepth 10000 in
theorem oc3 : ∀ x ∈ clT3, okC 3 x.1 x.2 := (List.forall_mem_cons.mpr ⟨oc3_0, (List.forall_mem_cons.mpr ⟨oc3_1, (List.forall_mem_cons.mpr ⟨oc3_2, (List.forall_mem_cons.mpr ⟨oc3_3, (fun _ h => nomatch h)⟩)⟩)⟩)⟩)
theorem oc4_0 : okC 4 3 (3, 0, mZ) := lw_in 256 (by decide +kernel) (by decide +kernel)
theorem oc4_1 : okC 4 21 (1, 1, mX0_init) := ⟨lw_in 258 (by decide +kernel) (by decide +kernel), oi_X0_init, rfl⟩
set_option maxRecDepth 10000 in
theorem oc4 : ∀ x ∈ clT4, okC 4 x.1 x.2 := (List.forall_mem_cons.mpr ⟨oc4_0, (List.forall_mem_cons.mpr ⟨oc4_1, (fun _ h => nomatch h)⟩)⟩)
theorem oc5_0 : okC 5 1 (3, 0, mZ) := lw_in 65 (by decide +kernel) (by decide +kernel)
theorem oc5_1 : okC 5 9 (1, 0, mJx4a65c_init_da8c8) := ⟨lw_in 70 (by decide +kernel) (by decide +kernel), oi_Jx4a65c_init_da8c8, rfl⟩
theorem oc5_2 : okC 5 26 (2, 2, mJ7_fill_53178) := ⟨lw_in 94 (by decide +kernel) (by decide +kernel), os_J7_fill_53178⟩
theorem oc5_3 : okC 5 34 (1, 1, mX0_init) := ⟨lw_in 99 (by decide +kernel) (by decide +kernel), oi_X0_init, rfl⟩
theorem oc5_4 : okC 5 43 (1, 0, mX2_init) := ⟨lw_in 115 (by decide +kernel) (by decide +kernel), oi_X2_init, rfl⟩
theorem oc5_5 : okC 5 52 (0, 0, mJx4a65c_size_8abf5) := ⟨lw_in 161 (by decide +kernel) (by decide +kernel), ov_Jx4a65c_size_8abf5⟩
theorem oc5_6 : okC 5 65 (1, 2, mX3_init) := ⟨lw_in 253 (by decide +kernel) (by decide +kernel), oi_X3_init, rfl⟩
theorem oc5_7 : okC 5 68 (0, 1, mJx4a65c_add_9ea2d) := ⟨lw_in 284 (by decide +kernel) (by decide +kernel), ov_Jx4a65c_add_9ea2d⟩
theorem oc5_8 : okC 5 72 (0, 1, mX4_sessionNumbered) := ⟨lw_in 351 (by decide +kernel) (by decide +kernel), ov_X4_sessionNumbered⟩
theorem oc5_9 : okC 5 89 (2, 1, mX4_canBeStopped) := ⟨lw_in 393 (by decide +kernel) (by decide +kernel), os_X4_canBeStopped⟩
theorem oc5_10 : okC 5 93 (0, 1, mX4_pause) := ⟨lw_in 396 (by decide +kernel) (by decide +kernel), ov_X4_pause⟩
theorem oc5_11 : okC 5 108 (2, 1, mX4_canGoOn) := ⟨lw_in 457 (by decide +kernel) (by decide +kernel), os_X4_canGoOn⟩
theorem oc5_12 : okC 5 111 (0, 1, mX4_resume) := ⟨lw_in 460 (by decide +kernel) (by decide +kernel), ov_X4_resume⟩
theorem oc5_13 : okC 5 119 (2, 2, mX4_commandOf) := ⟨lw_in 490 (by decide +kernel) (by decide +kernel), os_X4_commandOf⟩
theorem oc5_14 : okC 5 128 (0, 2, mX0_lastBetween) := ⟨lw_in 540 (by decide +kernel) (by decide +kernel), ov_X0_lastBetween⟩
theorem oc5_15 : okC 5 137 (2, 1, mX4_isCommand) := ⟨lw_in 553 (by decide +kernel) (by decide +kernel), os_X4_isCommand⟩
theorem oc5_16 : okC 5 141 (2, 1, mX4_isWork) := ⟨lw_in 556 (by decide +kernel) (by decide +kernel), os_X4_isWork⟩
theorem oc5_17 : okC 5 144 (2, 1, mX4_areLocks) := ⟨lw_in 559 (by decide +kernel) (by decide +kernel), os_X4_areLocks⟩
theorem oc5_18 : okC 5 154 (1, 4, mX1_init) := ⟨lw_in 580 (by decide +kernel) (by decide +kernel), oi_X1_init, rfl⟩
theorem oc5_19 : okC 5 157 (0, 2, mX4_remember) := ⟨lw_in 613 (by decide +kernel) (by decide +kernel), ov_X4_remember⟩
theorem oc5_20 : okC 5 161 (0, 1, mX4_waitForLocks) := ⟨lw_in 464 (by decide +kernel) (by decide +kernel), ov_X4_waitForLocks⟩
theorem oc5_21 : okC 5 164 (0, 1, mX4_jobNumbered) := ⟨lw_in 636 (by decide +kernel) (by decide +kernel), ov_X4_jobNumbered⟩
theorem oc5_22 : okC 5 172 (0, 1, mX2_lastStateOf) := ⟨lw_in 648 (by decide +kernel) (by decide +kernel), ov_X2_lastStateOf⟩
theorem oc5_23 : okC 5 184 (2, 1, mX4_jobInFrontOf) := ⟨lw_in 677 (by decide +kernel) (by decide +kernel), os_X4_jobInFrontOf⟩
theorem oc5_24 : okC 5 190 (2, 1, mX4_isOver) := ⟨lw_in 689 (by decide +kernel) (by decide +kernel), os_X4_isOver⟩
theorem oc5_25 : okC 5 195 (2, 1, mX4_isState) := ⟨lw_in 707 (by decide +kernel) (by decide +kernel), os_X4_isState⟩
theorem oc5_26 : okC 5 201 (0, 1, mJx4a65c_get_915e3) := ⟨lw_in 371 (by decide +kernel) (by decide +kernel), ov_Jx4a65c_get_915e3⟩
theorem oc5_27 : okC 5 205 (2, 1, mX4_refuseNoLock) := ⟨lw_in 718 (by decide +kernel) (by decide +kernel), os_X4_refuseNoLock⟩
theorem oc5_28 : okC 5 211 (0, 1, mX1_needs) := ⟨lw_in 441 (by decide +kernel) (by decide +kernel), ov_X1_needs⟩
theorem oc5_29 : okC 5 225 (0, 2, mX4_finish) := ⟨lw_in 775 (by decide +kernel) (by decide +kernel), ov_X4_finish⟩
theorem oc5_30 : okC 5 231 (0, 2, mX4_obeys) := ⟨lw_in 787 (by decide +kernel) (by decide +kernel), ov_X4_obeys⟩
theorem oc5_31 : okC 5 237 (0, 0, mX4_passOneTick) := ⟨lw_in 799 (by decide +kernel) (by decide +kernel), ov_X4_passOneTick⟩
theorem oc5_32 : okC 5 241 (0, 1, mX4_refuseNoEntry) := ⟨lw_in 814 (by decide +kernel) (by decide +kernel), ov_X4_refuseNoEntry⟩
theorem oc5_33 : okC 5 247 (0, 1, mX2_conditionAt) := ⟨lw_in 826 (by decide +kernel) (by decide +kernel), ov_X2_conditionAt⟩
theorem oc5_34 : okC 5 270 (0, 1, mX0_append) := ⟨lw_in 617 (by decide +kernel) (by decide +kernel), ov_X0_append⟩
theorem oc5_35 : okC 5 273 (0, 1, mX0_forget) := ⟨lw_in 625 (by decide +kernel) (by decide +kernel), ov_X0_forget⟩
theorem oc5_36 : okC 5 276 (0, 2, mX2_write) := ⟨lw_in 417 (by decide +kernel) (by decide +kernel), ov_X2_write⟩
theorem oc5_37 : okC 5 280 (0, 2, mX4_comeInto) := ⟨lw_in 413 (by decide +kernel) (by decide +kernel), ov_X4_comeInto⟩
theorem oc5_38 : okC 5 283 (0, 0, mX4_lookAtOrder) := ⟨lw_in 432 (by decide +kernel) (by decide +kernel), ov_X4_lookAtOrder⟩
theorem oc5_39 : okC 5 286 (0, 1, mX4_leaveOrder) := ⟨lw_in 400 (by decide +kernel) (by decide +kernel), ov_X4_leaveOrder⟩
theorem oc5_40 : okC 5 289 (0, 2, mX4_setHolder) := ⟨lw_in 445 (by decide +kernel) (by decide +kernel), ov_X4_setHolder⟩
theorem oc5_41 : okC 5 296 (0, 1, mX4_workIsDone) := ⟨lw_in 803 (by decide +kernel) (by decide +kernel), ov_X4_workIsDone⟩
theorem oc5_42 : okC 5 299 (0, 1, mJx4a65c_remove_915e3) := ⟨lw_in 404 (by decide +kernel) (by decide +kernel), ov_Jx4a65c_remove_915e3⟩
theorem oc5_43 : okC 5 302 (0, 1, mX4_locksAreFreeFor) := ⟨lw_in 437 (by decide +kernel) (by decide +kernel), ov_X4_locksAreFreeFor⟩
set_option maxRecDepth 10000 in
theorem oc5 : ∀ x ∈ clT5, okC 5 x.1 x.2 := (List.forall_mem_cons.mpr ⟨oc5_0, (List.forall_mem_cons.mpr ⟨oc5_1, (List.forall_mem_cons.mpr ⟨oc5_2, (List.forall_mem_cons.mpr ⟨oc5_3, (List.forall_mem_cons.mpr ⟨oc5_4, (List.forall_mem_cons.mpr ⟨oc5_5, (List.forall_mem_cons.mpr ⟨oc5_6, (List.forall_mem_cons.mpr ⟨oc5_7, (List.forall_mem_cons.mpr ⟨oc5_8, (List.forall_mem_cons.mpr ⟨oc5_9, (List.forall_mem_cons.mpr ⟨oc5_10, (List.forall_mem_cons.mpr ⟨oc5_11, (List.forall_mem_cons.mpr ⟨oc5_12, (List.forall_mem_cons.mpr ⟨oc5_13, (List.forall_mem_cons.mpr ⟨oc5_14, (List.forall_mem_cons.mpr ⟨oc5_15, (List.forall_mem_cons.mpr ⟨oc5_16, (List.forall_mem_cons.mpr ⟨oc5_17, (List.forall_mem_cons.mpr ⟨oc5_18, (List.forall_mem_cons.mpr ⟨oc5_19, (List.forall_mem_cons.mpr ⟨oc5_20, (List.forall_mem_cons.mpr ⟨oc5_21, (List.forall_mem_cons.mpr ⟨oc5_22, (List.forall_mem_cons.mpr ⟨oc5_23, (List.forall_mem_cons.mpr ⟨oc5_24, (List.forall_mem_cons.mpr ⟨oc5_25, (List.forall_mem_cons.mpr ⟨oc5_26, (List.forall_mem_cons.mpr ⟨oc5_27, (List.forall_mem_cons.mpr ⟨oc5_28, (List.forall_mem_cons.mpr ⟨oc5_29, (List.forall_mem_cons.mpr ⟨oc5_30, (List.forall_mem_cons.mpr ⟨oc5_31, (List.forall_mem_cons.mpr ⟨oc5_32, (List.forall_mem_cons.mpr ⟨oc5_33, (List.forall_mem_cons.mpr ⟨oc5_34, (List.forall_mem_cons.mpr ⟨oc5_35, (List.forall_mem_cons.mpr ⟨oc5_36, (List.forall_mem_cons.mpr ⟨oc5_37, (List.forall_mem_cons.mpr ⟨oc5_38, (List.forall_mem_cons.mpr ⟨oc5_39, (List.forall_mem_cons.mpr ⟨oc5_40, (List.forall_mem_cons.mpr ⟨oc5_41, (List.forall_mem_cons.mpr ⟨oc5_42, (List.forall_mem_cons.mpr ⟨oc5_43, (fun _ h => nomatch h)⟩)⟩)⟩)⟩)⟩)⟩)⟩)⟩)⟩)⟩)⟩)⟩)⟩)⟩)⟩)⟩)⟩)⟩)⟩)⟩)⟩)⟩)⟩)⟩)⟩)⟩)⟩)⟩)⟩)⟩)⟩)⟩)⟩)⟩)⟩)⟩)⟩)⟩)⟩)⟩)⟩)⟩)⟩)⟩)
theorem oc6_0 : okC 6 1 (3, 0, mZ) := lw_in 840 (by decide +kernel) (by decide +kernel)
theorem oc6_1 : okC 6 63 (2, 3, mX5_in) := ⟨lw_in 929 (by decide +kernel) (by decide +kernel), os_X5_in⟩
theorem oc6_2 : okC 6 76 (0, 1, mX5_isFree) := ⟨lw_in 952 (by decide +kernel) (by decide +kernel), ov_X5_isFree⟩
theorem oc6_3 : okC 6 80 (0, 1, mX5_leaves) := ⟨lw_in 940 (by decide +kernel) (by decide +kernel), ov_X5_leaves⟩
theorem oc6_4 : okC 6 84 (0, 2, mX5_comes) := ⟨lw_in 944 (by decide +kernel) (by decide +kernel), ov_X5_comes⟩
theorem oc6_5 : okC 6 88 (0, 0, mX5_looks) := ⟨lw_in 948 (by decide +kernel) (by decide +kernel), ov_X5_looks⟩
theorem oc6_6 : okC 6 91 (0, 1, mX5_fails) := ⟨lw_in 917 (by decide +kernel) (by decide +kernel), ov_X5_fails⟩
theorem oc6_7 : okC 6 95 (0, 1, mX5_isSession) := ⟨lw_in 925 (by decide +kernel) (by decide +kernel), ov_X5_isSession⟩
theorem oc6_8 : okC 6 98 (0, 1, mX5_stops) := ⟨lw_in 936 (by decide +kernel) (by decide +kernel), ov_X5_stops⟩
theorem oc6_9 : okC 6 101 (0, 1, mX5_goesOn) := ⟨lw_in 960 (by decide +kernel) (by decide +kernel), ov_X5_goesOn⟩
theorem oc6_10 : okC 6 107 (0, 2, mX5_remembers) := ⟨lw_in 992 (by decide +kernel) (by decide +kernel), ov_X5_remembers⟩
theorem oc6_11 : okC 6 111 (0, 1, mX5_isJob) := ⟨lw_in 1000 (by decide +kernel) (by decide +kernel), ov_X5_isJob⟩
theorem oc6_12 : okC 6 114 (0, 1, mX5_state) := ⟨lw_in 1008 (by decide +kernel) (by decide +kernel), ov_X5_state⟩
theorem oc6_13 : okC 6 117 (0, 1, mX5_isOver) := ⟨lw_in 1025 (by decide +kernel) (by decide +kernel), ov_X5_isOver⟩
theorem oc6_14 : okC 6 120 (2, 1, mX5_isState) := ⟨lw_in 1037 (by decide +kernel) (by decide +kernel), os_X5_isState⟩
theorem oc6_15 : okC 6 123 (0, 1, mX5_holder) := ⟨lw_in 1048 (by decide +kernel) (by decide +kernel), ov_X5_holder⟩
theorem oc6_16 : okC 6 126 (0, 1, mX5_canStop) := ⟨lw_in 1069 (by decide +kernel) (by decide +kernel), ov_X5_canStop⟩
theorem oc6_17 : okC 6 129 (0, 2, mX5_ends) := ⟨lw_in 1081 (by decide +kernel) (by decide +kernel), ov_X5_ends⟩
theorem oc6_18 : okC 6 136 (0, 0, mX5_ticks) := ⟨lw_in 1093 (by decide +kernel) (by decide +kernel), ov_X5_ticks⟩
set_option maxRecDepth 10000 in
theorem oc6 : ∀ x ∈ clT6, okC 6 x.1 x.2 := (List.forall_mem_cons.mpr ⟨oc6_0, (List.forall_mem_cons.mpr ⟨oc6_1, (List.forall_mem_cons.mpr ⟨oc6_2, (List.forall_mem_cons.mpr ⟨oc6_3, (List.forall_mem_cons.mpr ⟨oc6_4, (List.forall_mem_cons.mpr ⟨oc6_5, (List.forall_mem_cons.mpr ⟨oc6_6, (List.forall_mem_cons.mpr ⟨oc6_7, (List.forall_mem_cons.mpr ⟨oc6_8, (List.forall_mem_cons.mpr ⟨oc6_9, (List.forall_mem_cons.mpr ⟨oc6_10, (List.forall_mem_cons.mpr ⟨oc6_11, (List.forall_mem_cons.mpr ⟨oc6_12, (List.forall_mem_cons.mpr ⟨oc6_13, (List.forall_mem_cons.mpr ⟨oc6_14, (List.forall_mem_cons.mpr ⟨oc6_15, (List.forall_mem_cons.mpr ⟨oc6_16, (List.forall_mem_cons.mpr ⟨oc6_17, (List.forall_mem_cons.mpr ⟨oc6_18, (fun _ h => nomatch h)⟩)⟩)⟩)⟩)⟩)⟩)⟩)⟩)⟩)⟩)⟩)⟩)⟩)⟩)⟩)⟩)⟩)⟩)⟩)
theorem oc7_0 : okC 7 7 (0, 1, mX4_open) := ⟨lw_in 177 (by decide +kernel) (by decide +kernel), ov_X4_open⟩
theorem oc7_1 : okC 7 15 (0, 2, mX4_setPrivate) := ⟨lw_in 347 (by decide +kernel) (by decide +kernel), ov_X4_setPrivate⟩
theorem oc7_2 : okC 7 21 (0, 1, mX4_drop) := ⟨lw_in 388 (by decide +kernel) (by decide +kernel), ov_X4_drop⟩
theorem oc7_3 : okC 7 25 (0, 1, mX4_takeUp) := ⟨lw_in 452 (by decide +kernel) (by decide +kernel), ov_X4_takeUp⟩
theorem oc7_4 : okC 7 28 (0, 1, mX4_isAttached) := ⟨lw_in 471 (by decide +kernel) (by decide +kernel), ov_X4_isAttached⟩
theorem oc7_5 : okC 7 32 (0, 1, mX4_kept) := ⟨lw_in 478 (by decide +kernel) (by decide +kernel), ov_X4_kept⟩
theorem oc7_6 : okC 7 35 (0, 2, mX4_commandAt) := ⟨lw_in 486 (by decide +kernel) (by decide +kernel), ov_X4_commandAt⟩
theorem oc7_7 : okC 7 41 (0, 1, mX4_commonAt) := ⟨lw_in 512 (by decide +kernel) (by decide +kernel), ov_X4_commonAt⟩
theorem oc7_8 : okC 7 44 (0, 3, mX4_search) := ⟨lw_in 520 (by decide +kernel) (by decide +kernel), ov_X4_search⟩
theorem oc7_9 : okC 7 50 (0, 5, mX4_start) := ⟨lw_in 549 (by decide +kernel) (by decide +kernel), ov_X4_start⟩
theorem oc7_10 : okC 7 56 (0, 1, mX4_state) := ⟨lw_in 632 (by decide +kernel) (by decide +kernel), ov_X4_state⟩
theorem oc7_11 : okC 7 60 (0, 1, mX4_stateByJournal) := ⟨lw_in 644 (by decide +kernel) (by decide +kernel), ov_X4_stateByJournal⟩
theorem oc7_12 : okC 7 63 (0, 1, mX4_toDo) := ⟨lw_in 659 (by decide +kernel) (by decide +kernel), ov_X4_toDo⟩
theorem oc7_13 : okC 7 66 (0, 1, mX4_sessionOf) := ⟨lw_in 666 (by decide +kernel) (by decide +kernel), ov_X4_sessionOf⟩
theorem oc7_14 : okC 7 69 (0, 1, mX4_front) := ⟨lw_in 673 (by decide +kernel) (by decide +kernel), ov_X4_front⟩
theorem oc7_15 : okC 7 72 (0, 1, mX4_toFront) := ⟨lw_in 684 (by decide +kernel) (by decide +kernel), ov_X4_toFront⟩
theorem oc7_16 : okC 7 75 (0, 1, mX4_toBack) := ⟨lw_in 696 (by decide +kernel) (by decide +kernel), ov_X4_toBack⟩
theorem oc7_17 : okC 7 78 (0, 2, mX4_count) := ⟨lw_in 703 (by decide +kernel) (by decide +kernel), ov_X4_count⟩
theorem oc7_18 : okC 7 82 (0, 1, mX4_holder) := ⟨lw_in 714 (by decide +kernel) (by decide +kernel), ov_X4_holder⟩
theorem oc7_19 : okC 7 85 (0, 1, mX4_holderByJobs) := ⟨lw_in 725 (by decide +kernel) (by decide +kernel), ov_X4_holderByJobs⟩
theorem oc7_20 : okC 7 88 (0, 1, mX4_holds) := ⟨lw_in 732 (by decide +kernel) (by decide +kernel), ov_X4_holds⟩
theorem oc7_21 : okC 7 91 (0, 1, mX4_waitingAt) := ⟨lw_in 739 (by decide +kernel) (by decide +kernel), ov_X4_waitingAt⟩
theorem oc7_22 : okC 7 94 (0, 1, mX4_blockers) := ⟨lw_in 747 (by decide +kernel) (by decide +kernel), ov_X4_blockers⟩
theorem oc7_23 : okC 7 97 (0, 1, mX4_stop) := ⟨lw_in 755 (by decide +kernel) (by decide +kernel), ov_X4_stop⟩
theorem oc7_24 : okC 7 100 (0, 1, mX4_goOn) := ⟨lw_in 763 (by decide +kernel) (by decide +kernel), ov_X4_goOn⟩
theorem oc7_25 : okC 7 103 (0, 1, mX4_end) := ⟨lw_in 771 (by decide +kernel) (by decide +kernel), ov_X4_end⟩
theorem oc7_26 : okC 7 106 (0, 2, mX4_signal) := ⟨lw_in 782 (by decide +kernel) (by decide +kernel), ov_X4_signal⟩
theorem oc7_27 : okC 7 109 (0, 1, mX4_tick) := ⟨lw_in 794 (by decide +kernel) (by decide +kernel), ov_X4_tick⟩
theorem oc7_28 : okC 7 112 (0, 1, mX4_entryJob) := ⟨lw_in 810 (by decide +kernel) (by decide +kernel), ov_X4_entryJob⟩
theorem oc7_29 : okC 7 115 (0, 1, mX4_entryState) := ⟨lw_in 822 (by decide +kernel) (by decide +kernel), ov_X4_entryState⟩
theorem oc7_30 : okC 7 118 (0, 0, mX4_doneShare) := ⟨lw_in 830 (by decide +kernel) (by decide +kernel), ov_X4_doneShare⟩
theorem oc7_31 : okC 7 122 (1, 0, mX4_init) := ⟨lw_in 62 (by decide +kernel) (by decide +kernel), oi_X4_init, rfl⟩
theorem oc7_32 : okC 7 125 (1, 0, mX5_init) := ⟨lw_in 837 (by decide +kernel) (by decide +kernel), oi_X5_init, rfl⟩
theorem oc7_33 : okC 7 126 (2, 3, mL_open) := ⟨lw_in 173 (by decide +kernel) (by decide +kernel), os_L_open⟩
theorem oc7_34 : okC 7 131 (0, 1, mX5_open) := ⟨lw_in 913 (by decide +kernel) (by decide +kernel), ov_X5_open⟩
theorem oc7_35 : okC 7 132 (0, 0, mX5_thrown) := ⟨lw_in 909 (by decide +kernel) (by decide +kernel), ov_X5_thrown⟩
theorem oc7_36 : okC 7 136 (2, 4, mL_setPrivate) := ⟨lw_in 343 (by decide +kernel) (by decide +kernel), os_L_setPrivate⟩
theorem oc7_37 : okC 7 139 (0, 2, mX5_setPrivate) := ⟨lw_in 921 (by decide +kernel) (by decide +kernel), ov_X5_setPrivate⟩
theorem oc7_38 : okC 7 140 (2, 3, mL_drop) := ⟨lw_in 385 (by decide +kernel) (by decide +kernel), os_L_drop⟩
theorem oc7_39 : okC 7 143 (0, 1, mX5_drop) := ⟨lw_in 932 (by decide +kernel) (by decide +kernel), ov_X5_drop⟩
theorem oc7_40 : okC 7 144 (2, 3, mL_takeUp) := ⟨lw_in 449 (by decide +kernel) (by decide +kernel), os_L_takeUp⟩
theorem oc7_41 : okC 7 146 (0, 1, mX5_takeUp) := ⟨lw_in 956 (by decide +kernel) (by decide +kernel), ov_X5_takeUp⟩
theorem oc7_42 : okC 7 147 (2, 3, mL_isAttached) := ⟨lw_in 468 (by decide +kernel) (by decide +kernel), os_L_isAttached⟩
theorem oc7_43 : okC 7 149 (0, 1, mX5_isAttached) := ⟨lw_in 964 (by decide +kernel) (by decide +kernel), ov_X5_isAttached⟩
theorem oc7_44 : okC 7 150 (2, 3, mL_kept) := ⟨lw_in 475 (by decide +kernel) (by decide +kernel), os_L_kept⟩
theorem oc7_45 : okC 7 152 (0, 1, mX5_kept) := ⟨lw_in 968 (by decide +kernel) (by decide +kernel), ov_X5_kept⟩
theorem oc7_46 : okC 7 153 (2, 4, mL_commandAt) := ⟨lw_in 482 (by decide +kernel) (by decide +kernel), os_L_commandAt⟩
theorem oc7_47 : okC 7 156 (0, 2, mX5_commandAt) := ⟨lw_in 972 (by decide +kernel) (by decide +kernel), ov_X5_commandAt⟩
theorem oc7_48 : okC 7 157 (0, 0, mX4_common) := ⟨lw_in 153 (by decide +kernel) (by decide +kernel), ov_X4_common⟩
theorem oc7_49 : okC 7 160 (0, 0, mX5_common) := ⟨lw_in 976 (by decide +kernel) (by decide +kernel), ov_X5_common⟩
theorem oc7_50 : okC 7 161 (2, 3, mL_commonAt) := ⟨lw_in 509 (by decide +kernel) (by decide +kernel), os_L_commonAt⟩
theorem oc7_51 : okC 7 163 (0, 1, mX5_commonAt) := ⟨lw_in 980 (by decide +kernel) (by decide +kernel), ov_X5_commonAt⟩
theorem oc7_52 : okC 7 164 (2, 5, mL_search) := ⟨lw_in 516 (by decide +kernel) (by decide +kernel), os_L_search⟩
theorem oc7_53 : okC 7 167 (0, 3, mX5_search) := ⟨lw_in 984 (by decide +kernel) (by decide +kernel), ov_X5_search⟩
theorem oc7_54 : okC 7 168 (2, 7, mL_start) := ⟨lw_in 545 (by decide +kernel) (by decide +kernel), os_L_start⟩
theorem oc7_55 : okC 7 171 (0, 5, mX5_start) := ⟨lw_in 988 (by decide +kernel) (by decide +kernel), ov_X5_start⟩
theorem oc7_56 : okC 7 172 (2, 3, mL_state) := ⟨lw_in 629 (by decide +kernel) (by decide +kernel), os_L_state⟩
theorem oc7_57 : okC 7 174 (0, 1, mX5_state) := ⟨lw_in 996 (by decide +kernel) (by decide +kernel), ov_X5_state⟩
theorem oc7_58 : okC 7 175 (2, 3, mL_stateByJournal) := ⟨lw_in 641 (by decide +kernel) (by decide +kernel), os_L_stateByJournal⟩
theorem oc7_59 : okC 7 177 (0, 1, mX5_stateByJournal) := ⟨lw_in 1004 (by decide +kernel) (by decide +kernel), ov_X5_stateByJournal⟩
theorem oc7_60 : okC 7 178 (2, 3, mL_toDo) := ⟨lw_in 656 (by decide +kernel) (by decide +kernel), os_L_toDo⟩
theorem oc7_61 : okC 7 180 (0, 1, mX5_toDo) := ⟨lw_in 1009 (by decide +kernel) (by decide +kernel), ov_X5_toDo⟩
theorem oc7_62 : okC 7 181 (2, 3, mL_sessionOf) := ⟨lw_in 663 (by decide +kernel) (by decide +kernel), os_L_sessionOf⟩
theorem oc7_63 : okC 7 183 (0, 1, mX5_sessionOf) := ⟨lw_in 1013 (by decide +kernel) (by decide +kernel), ov_X5_sessionOf⟩
theorem oc7_64 : okC 7 184 (2, 3, mL_front) := ⟨lw_in 670 (by decide +kernel) (by decide +kernel), os_L_front⟩
theorem oc7_65 : okC 7 186 (0, 1, mX5_front) := ⟨lw_in 1017 (by decide +kernel) (by decide +kernel), ov_X5_front⟩
theorem oc7_66 : okC 7 187 (2, 3, mL_toFront) := ⟨lw_in 681 (by decide +kernel) (by decide +kernel), os_L_toFront⟩
theorem oc7_67 : okC 7 189 (0, 1, mX5_toFront) := ⟨lw_in 1021 (by decide +kernel) (by decide +kernel), ov_X5_toFront⟩
theorem oc7_68 : okC 7 190 (2, 3, mL_toBack) := ⟨lw_in 693 (by decide +kernel) (by decide +kernel), os_L_toBack⟩
theorem oc7_69 : okC 7 192 (0, 1, mX5_toBack) := ⟨lw_in 1029 (by decide +kernel) (by decide +kernel), ov_X5_toBack⟩
theorem oc7_70 : okC 7 193 (2, 4, mL_count) := ⟨lw_in 700 (by decide +kernel) (by decide +kernel), os_L_count⟩
theorem oc7_71 : okC 7 196 (0, 2, mX5_count) := ⟨lw_in 1033 (by decide +kernel) (by decide +kernel), ov_X5_count⟩
theorem oc7_72 : okC 7 197 (2, 3, mL_holder) := ⟨lw_in 711 (by decide +kernel) (by decide +kernel), os_L_holder⟩
theorem oc7_73 : okC 7 199 (0, 1, mX5_holder) := ⟨lw_in 1040 (by decide +kernel) (by decide +kernel), ov_X5_holder⟩
theorem oc7_74 : okC 7 200 (2, 3, mL_holderByJobs) := ⟨lw_in 722 (by decide +kernel) (by decide +kernel), os_L_holderByJobs⟩
theorem oc7_75 : okC 7 202 (0, 1, mX5_holderByJobs) := ⟨lw_in 1044 (by decide +kernel) (by decide +kernel), ov_X5_holderByJobs⟩
theorem oc7_76 : okC 7 203 (2, 3, mL_holds) := ⟨lw_in 729 (by decide +kernel) (by decide +kernel), os_L_holds⟩
theorem oc7_77 : okC 7 205 (0, 1, mX5_holds) := ⟨lw_in 1049 (by decide +kernel) (by decide +kernel), ov_X5_holds⟩
theorem oc7_78 : okC 7 206 (0, 0, mX4_waiting) := ⟨lw_in 157 (by decide +kernel) (by decide +kernel), ov_X4_waiting⟩
theorem oc7_79 : okC 7 209 (0, 0, mX5_waiting) := ⟨lw_in 1053 (by decide +kernel) (by decide +kernel), ov_X5_waiting⟩
theorem oc7_80 : okC 7 210 (2, 3, mL_waitingAt) := ⟨lw_in 736 (by decide +kernel) (by decide +kernel), os_L_waitingAt⟩
theorem oc7_81 : okC 7 212 (0, 1, mX5_waitingAt) := ⟨lw_in 1057 (by decide +kernel) (by decide +kernel), ov_X5_waitingAt⟩
theorem oc7_82 : okC 7 213 (2, 3, mL_blockers) := ⟨lw_in 744 (by decide +kernel) (by decide +kernel), os_L_blockers⟩
theorem oc7_83 : okC 7 215 (0, 1, mX5_blockers) := ⟨lw_in 1061 (by decide +kernel) (by decide +kernel), ov_X5_blockers⟩
theorem oc7_84 : okC 7 216 (2, 3, mL_stop) := ⟨lw_in 752 (by decide +kernel) (by decide +kernel), os_L_stop⟩
theorem oc7_85 : okC 7 218 (0, 1, mX5_stop) := ⟨lw_in 1065 (by decide +kernel) (by decide +kernel), ov_X5_stop⟩
theorem oc7_86 : okC 7 219 (2, 3, mL_goOn) := ⟨lw_in 760 (by decide +kernel) (by decide +kernel), os_L_goOn⟩
theorem oc7_87 : okC 7 221 (0, 1, mX5_goOn) := ⟨lw_in 1073 (by decide +kernel) (by decide +kernel), ov_X5_goOn⟩
theorem oc7_88 : okC 7 222 (2, 3, mL_end) := ⟨lw_in 768 (by decide +kernel) (by decide +kernel), os_L_end⟩
theorem oc7_89 : okC 7 224 (0, 1, mX5_end) := ⟨lw_in 1077 (by decide +kernel) (by decide +kernel), ov_X5_end⟩
theorem oc7_90 : okC 7 225 (2, 4, mL_signal) := ⟨lw_in 779 (by decide +kernel) (by decide +kernel), os_L_signal⟩
theorem oc7_91 : okC 7 227 (0, 2, mX5_signal) := ⟨lw_in 1085 (by decide +kernel) (by decide +kernel), ov_X5_signal⟩
theorem oc7_92 : okC 7 228 (2, 3, mL_tick) := ⟨lw_in 791 (by decide +kernel) (by decide +kernel), os_L_tick⟩
theorem oc7_93 : okC 7 230 (0, 1, mX5_tick) := ⟨lw_in 1089 (by decide +kernel) (by decide +kernel), ov_X5_tick⟩
theorem oc7_94 : okC 7 231 (0, 0, mX4_entries) := ⟨lw_in 165 (by decide +kernel) (by decide +kernel), ov_X4_entries⟩
theorem oc7_95 : okC 7 234 (0, 0, mX5_entries) := ⟨lw_in 1097 (by decide +kernel) (by decide +kernel), ov_X5_entries⟩
theorem oc7_96 : okC 7 235 (2, 3, mL_entryJob) := ⟨lw_in 807 (by decide +kernel) (by decide +kernel), os_L_entryJob⟩
theorem oc7_97 : okC 7 237 (0, 1, mX5_entryJob) := ⟨lw_in 1101 (by decide +kernel) (by decide +kernel), ov_X5_entryJob⟩
theorem oc7_98 : okC 7 238 (2, 3, mL_entryState) := ⟨lw_in 819 (by decide +kernel) (by decide +kernel), os_L_entryState⟩
theorem oc7_99 : okC 7 240 (0, 1, mX5_entryState) := ⟨lw_in 1105 (by decide +kernel) (by decide +kernel), ov_X5_entryState⟩
theorem oc7_100 : okC 7 241 (0, 0, mX4_worked) := ⟨lw_in 169 (by decide +kernel) (by decide +kernel), ov_X4_worked⟩
theorem oc7_101 : okC 7 245 (0, 0, mX5_worked) := ⟨lw_in 1109 (by decide +kernel) (by decide +kernel), ov_X5_worked⟩
theorem oc7_102 : okC 7 246 (2, 2, mL_doneShare) := ⟨lw_in 827 (by decide +kernel) (by decide +kernel), os_L_doneShare⟩
theorem oc7_103 : okC 7 249 (0, 0, mX5_doneShare) := ⟨lw_in 1113 (by decide +kernel) (by decide +kernel), ov_X5_doneShare⟩
set_option maxRecDepth 10000 in
theorem oc7 : ∀ x ∈ clT7, okC 7 x.1 x.2 := (List.forall_mem_cons.mpr ⟨oc7_0, (List.forall_mem_cons.mpr ⟨oc7_1, (List.forall_mem_cons.mpr ⟨oc7_2, (List.forall_mem_cons.mpr ⟨oc7_3, (List.forall_mem_cons.mpr ⟨oc7_4, (List.forall_mem_cons.mpr ⟨oc7_5, (List.forall_mem_cons.mpr ⟨oc7_6, (List.forall_mem_cons.mpr ⟨oc7_7, (List.forall_mem_cons.mpr ⟨oc7_8, (List.forall_mem_cons.mpr ⟨oc7_9, (List.forall_mem_cons.mpr ⟨oc7_10, (List.forall_mem_cons.mpr ⟨oc7_11, (List.forall_mem_cons.mpr ⟨oc7_12, (List.forall_mem_cons.mpr ⟨oc7_13, (List.forall_mem_cons.mpr ⟨oc7_14, (List.forall_mem_cons.mpr ⟨oc7_15, (List.forall_mem_cons.mpr ⟨oc7_16, (List.forall_mem_cons.mpr ⟨oc7_17, (List.forall_mem_cons.mpr ⟨oc7_18, (List.forall_mem_cons.mpr ⟨oc7_19, (List.forall_mem_cons.mpr ⟨oc7_20, (List.forall_mem_cons.mpr ⟨oc7_21, (List.forall_mem_cons.mpr ⟨oc7_22, (List.forall_mem_cons.mpr ⟨oc7_23, (List.forall_mem_cons.mpr ⟨oc7_24, (List.forall_mem_cons.mpr ⟨oc7_25, (List.forall_mem_cons.mpr ⟨oc7_26, (List.forall_mem_cons.mpr ⟨oc7_27, (List.forall_mem_cons.mpr ⟨oc7_28, (List.forall_mem_cons.mpr ⟨oc7_29, (List.forall_mem_cons.mpr ⟨oc7_30, (List.forall_mem_cons.mpr ⟨oc7_31, (List.forall_mem_cons.mpr ⟨oc7_32, (List.forall_mem_cons.mpr ⟨oc7_33, (List.forall_mem_cons.mpr ⟨oc7_34, (List.forall_mem_cons.mpr ⟨oc7_35, (List.forall_mem_cons.mpr ⟨oc7_36, (List.forall_mem_cons.mpr ⟨oc7_37, (List.forall_mem_cons.mpr ⟨oc7_38, (List.forall_mem_cons.mpr ⟨oc7_39, (List.forall_mem_cons.mpr ⟨oc7_40, (List.forall_mem_cons.mpr ⟨oc7_41, (List.forall_mem_cons.mpr ⟨oc7_42, (List.forall_mem_cons.mpr ⟨oc7_43, (List.forall_mem_cons.mpr ⟨oc7_44, (List.forall_mem_cons.mpr ⟨oc7_45, (List.forall_mem_cons.mpr ⟨oc7_46, (List.forall_mem_cons.mpr ⟨oc7_47, (List.forall_mem_cons.mpr ⟨oc7_48, (List.forall_mem_cons.mpr ⟨oc7_49, (List.forall_mem_cons.mpr ⟨oc7_50, (List.forall_mem_cons.mpr ⟨oc7_51, (List.forall_mem_cons.mpr ⟨oc7_52, (List.forall_mem_cons.mpr ⟨oc7_53, (List.forall_mem_cons.mpr ⟨oc7_54, (List.forall_mem_cons.mpr ⟨oc7_55, (List.forall_mem_cons.mpr ⟨oc7_56, (List.forall_mem_cons.mpr ⟨oc7_57, (List.forall_mem_cons.mpr ⟨oc7_58, (List.forall_mem_cons.mpr ⟨oc7_59, (List.forall_mem_cons.mpr ⟨oc7_60, (List.forall_mem_cons.mpr ⟨oc7_61, (List.forall_mem_cons.mpr ⟨oc7_62, (List.forall_mem_cons.mpr ⟨oc7_63, (List.forall_mem_cons.mpr ⟨oc7_64, (List.forall_mem_cons.mpr ⟨oc7_65, (List.forall_mem_cons.mpr ⟨oc7_66, (List.forall_mem_cons.mpr ⟨oc7_67, (List.forall_mem_cons.mpr ⟨oc7_68, (List.forall_mem_cons.mpr ⟨oc7_69, (List.forall_mem_cons.mpr ⟨oc7_70, (List.forall_mem_cons.mpr ⟨oc7_71, (List.forall_mem_cons.mpr ⟨oc7_72, (List.forall_mem_cons.mpr ⟨oc7_73, (List.forall_mem_cons.mpr ⟨oc7_74, (List.forall_mem_cons.mpr ⟨oc7_75, (List.forall_mem_cons.mpr ⟨oc7_76, (List.forall_mem_cons.mpr ⟨oc7_77, (List.forall_mem_cons.mpr ⟨oc7_78, (List.forall_mem_cons.mpr ⟨oc7_79, (List.forall_mem_cons.mpr ⟨oc7_80, (List.forall_mem_cons.mpr ⟨oc7_81, (List.forall_mem_cons.mpr ⟨oc7_82, (List.forall_mem_cons.mpr ⟨oc7_83, (List.forall_mem_cons.mpr ⟨oc7_84, (List.forall_mem_cons.mpr ⟨oc7_85, (List.forall_mem_cons.mpr ⟨oc7_86, (List.forall_mem_cons.mpr ⟨oc7_87, (List.forall_mem_cons.mpr ⟨oc7_88, (List.forall_mem_cons.mpr ⟨oc7_89, (List.forall_mem_cons.mpr ⟨oc7_90, (List.forall_mem_cons.mpr ⟨oc7_91, (List.forall_mem_cons.mpr ⟨oc7_92, (List.forall_mem_cons.mpr ⟨oc7_93, (List.forall_mem_cons.mpr ⟨oc7_94, (List.forall_mem_cons.mpr ⟨oc7_95, (List.forall_mem_cons.mpr ⟨oc7_96, (List.forall_mem_cons.mpr ⟨oc7_97, (List.forall_mem_cons.mpr ⟨oc7_98, (List.forall_mem_cons.mpr ⟨oc7_99, (List.forall_mem_cons.mpr ⟨oc7_100, (List.forall_mem_cons.mpr ⟨oc7_101, (List.forall_mem_cons.mpr ⟨oc7_102, (List.forall_mem_cons.mpr ⟨oc7_103, (fun _ h => nomatch h)⟩)⟩)⟩)⟩)⟩)⟩)⟩)⟩)⟩)⟩)⟩)⟩)⟩)⟩)⟩)⟩)⟩)⟩)⟩)⟩)⟩)⟩)⟩)⟩)⟩)⟩)⟩)⟩)⟩)⟩)⟩)⟩)⟩)⟩)⟩)⟩)⟩)⟩)⟩)⟩)⟩)⟩)⟩)⟩)⟩)⟩)⟩)⟩)⟩)⟩)⟩)⟩)⟩)⟩)⟩)⟩)⟩)⟩)⟩)⟩)⟩)⟩)⟩)⟩)⟩)⟩)⟩)⟩)⟩)⟩)⟩)⟩)⟩)⟩)⟩)⟩)⟩)⟩)⟩)⟩)⟩)⟩)⟩)⟩)⟩)⟩)⟩)⟩)⟩)⟩)⟩)⟩)⟩)⟩)⟩)⟩)⟩)⟩)⟩)⟩)⟩)⟩)⟩)⟩)
theorem oc8_0 : okC 8 86 (8, 0, mZ) := lw_in 313 (by decide +kernel) (by decide +kernel)
theorem oc8_1 : okC 8 150 (7, 5, mZ) := lw_in 338 (by decide +kernel) (by decide +kernel)
theorem oc8_2 : okC 8 300 (2, 3, mJ7_copyOf_6403c) := ⟨lw_in 329 (by decide +kernel) (by decide +kernel), os_J7_copyOf_6403c⟩
theorem oc8_3 : okC 8 304 (4, 2, mZ) := lw_in 335 (by decide +kernel) (by decide +kernel)
set_option maxRecDepth 10000 in
theorem oc8 : ∀ x ∈ clT8, okC 8 x.1 x.2 := (List.forall_mem_cons.mpr ⟨oc8_0, (List.forall_mem_cons.mpr ⟨oc8_1, (List.forall_mem_cons.mpr ⟨oc8_2, (List.forall_mem_cons.mpr ⟨oc8_3, (fun _ h => nomatch h)⟩)⟩)⟩)⟩)
theorem oc9_0 : okC 9 105 (2, 3, mJ3_checkIndex_8e157) := ⟨lw_in 378 (by decide +kernel) (by decide +kernel), os_J3_checkIndex_8e157⟩
set_option maxRecDepth 10000 in
theorem oc9 : ∀ x ∈ clT9, okC 9 x.1 x.2 := (List.forall_mem_cons.mpr ⟨oc9_0, (fun _ h => nomatch h)⟩)
theorem oc11_0 : okC 11 194 (5, 2, mZ) := lw_in 303 (by decide +kernel) (by decide +kernel)
theorem oc11_1 : okC 11 201 (2, 2, mJ8_hugeLength_7cf53) := ⟨lw_in 307 (by decide +kernel) (by decide +kernel), os_J8_hugeLength_7cf53⟩
set_option maxRecDepth 10000 in
theorem oc11 : ∀ x ∈ clT11, okC 11 x.1 x.2 := (List.forall_mem_cons.mpr ⟨oc11_0, (List.forall_mem_cons.mpr ⟨oc11_1, (fun _ h => nomatch h)⟩)⟩)
theorem oc12_0 : okC 12 1 (1, 0, mJxa1e45_init_da8c8) := ⟨lw_in 76 (by decide +kernel) (by decide +kernel), oi_Jxa1e45_init_da8c8, rfl⟩
set_option maxRecDepth 10000 in
theorem oc12 : ∀ x ∈ clT12, okC 12 x.1 x.2 := (List.forall_mem_cons.mpr ⟨oc12_0, (fun _ h => nomatch h)⟩)
theorem oc13_0 : okC 13 1 (3, 0, mZ) := lw_in 79 (by decide +kernel) (by decide +kernel)
set_option maxRecDepth 10000 in
theorem oc13 : ∀ x ∈ clT13, okC 13 x.1 x.2 := (List.forall_mem_cons.mpr ⟨oc13_0, (fun _ h => nomatch h)⟩)
theorem oc14_0 : okC 14 86 (8, 0, mZ) := lw_in 313 (by decide +kernel) (by decide +kernel)
theorem oc14_1 : okC 14 150 (6, 5, mZ) := lw_in 338 (by decide +kernel) (by decide +kernel)
theorem oc14_2 : okC 14 300 (2, 3, mJ7_copyOf_6403c) := ⟨lw_in 329 (by decide +kernel) (by decide +kernel), os_J7_copyOf_6403c⟩
theorem oc14_3 : okC 14 304 (4, 2, mZ) := lw_in 335 (by decide +kernel) (by decide +kernel)
set_option maxRecDepth 10000 in
theorem oc14 : ∀ x ∈ clT14, okC 14 x.1 x.2 := (List.forall_mem_cons.mpr ⟨oc14_0, (List.forall_mem_cons.mpr ⟨oc14_1, (List.forall_mem_cons.mpr ⟨oc14_2, (List.forall_mem_cons.mpr ⟨oc14_3, (fun _ h => nomatch h)⟩)⟩)⟩)⟩)
theorem clT_ok {o i : Nat} {q : Nat × Nat × MD} (h : clT o i = some q) : okC o i q := by
  unfold clT at h
  split at h
  · exact oc0 _ (look_mem h)
  · exact oc1 _ (look_mem h)
  · exact oc2 _ (look_mem h)
  · exact oc3 _ (look_mem h)
  · exact oc4 _ (look_mem h)
  · exact oc5 _ (look_mem h)
  · exact oc6 _ (look_mem h)
  · exact oc7 _ (look_mem h)
  · exact oc8 _ (look_mem h)
  · exact oc9 _ (look_mem h)
  · exact oc11 _ (look_mem h)
  · exact oc12 _ (look_mem h)
  · exact oc13 _ (look_mem h)
  · exact oc14 _ (look_mem h)
  · cases h
def okFd (o i : Nat) (q : Nat × Nat) : Prop := q.1 < 7 ∧ q.2 < nC q.1 ∧ ∃ ref, Cond.fieldLink (oN o) i ref (TC q.1 q.2).2.1 (TC q.1 q.2).2.2.1 ∈ lw_G ∧ (ref = (TC q.1 q.2).1 ∨ (Cond.sameField ref (TC q.1 q.2).1 (TC q.1 q.2).2.1 (TC q.1 q.2).2.2.1 ∈ lw_G))
theorem of0_0 : okFd 0 9 (0, 1) := ⟨by decide, by decide, "java/util/ArrayList", lw_in 82 (by decide +kernel) (by decide +kernel), Or.inl rfl⟩
theorem of0_1 : okFd 0 48 (0, 2) := ⟨by decide, by decide, "java/util/ArrayList", lw_in 83 (by decide +kernel) (by decide +kernel), Or.inl rfl⟩
theorem of0_2 : okFd 0 63 (0, 0) := ⟨by decide, by decide, "java/util/ArrayList", lw_in 85 (by decide +kernel) (by decide +kernel), Or.inr (lw_in 86 (by decide +kernel) (by decide +kernel))⟩
theorem of0 : ∀ x ∈ fdT0, okFd 0 x.1 x.2 := (List.forall_mem_cons.mpr ⟨of0_0, (List.forall_mem_cons.mpr ⟨of0_1, (List.forall_mem_cons.mpr ⟨of0_2, (fun _ h => nomatch h)⟩)⟩)⟩)
theorem of1_0 : okFd 1 9 (1, 0) := ⟨by decide, by decide, "Shellhouse$History", lw_in 103 (by decide +kernel) (by decide +kernel), Or.inl rfl⟩
theorem of1_1 : okFd 1 15 (1, 1) := ⟨by decide, by decide, "Shellhouse$History", lw_in 105 (by decide +kernel) (by decide +kernel), Or.inl rfl⟩
theorem of1 : ∀ x ∈ fdT1, okFd 1 x.1 x.2 := (List.forall_mem_cons.mpr ⟨of1_0, (List.forall_mem_cons.mpr ⟨of1_1, (fun _ h => nomatch h)⟩)⟩)
theorem of2_0 : okFd 2 9 (2, 0) := ⟨by decide, by decide, "Shellhouse$Job", lw_in 584 (by decide +kernel) (by decide +kernel), Or.inl rfl⟩
theorem of2_1 : okFd 2 15 (2, 1) := ⟨by decide, by decide, "Shellhouse$Job", lw_in 586 (by decide +kernel) (by decide +kernel), Or.inl rfl⟩
theorem of2_2 : okFd 2 19 (2, 2) := ⟨by decide, by decide, "Shellhouse$Job", lw_in 588 (by decide +kernel) (by decide +kernel), Or.inl rfl⟩
theorem of2_3 : okFd 2 22 (2, 3) := ⟨by decide, by decide, "Shellhouse$Job", lw_in 590 (by decide +kernel) (by decide +kernel), Or.inl rfl⟩
theorem of2_4 : okFd 2 25 (2, 4) := ⟨by decide, by decide, "Shellhouse$Job", lw_in 592 (by decide +kernel) (by decide +kernel), Or.inl rfl⟩
theorem of2_5 : okFd 2 29 (2, 5) := ⟨by decide, by decide, "Shellhouse$Job", lw_in 594 (by decide +kernel) (by decide +kernel), Or.inl rfl⟩
theorem of2_6 : okFd 2 33 (2, 6) := ⟨by decide, by decide, "Shellhouse$Job", lw_in 596 (by decide +kernel) (by decide +kernel), Or.inl rfl⟩
theorem of2 : ∀ x ∈ fdT2, okFd 2 x.1 x.2 := (List.forall_mem_cons.mpr ⟨of2_0, (List.forall_mem_cons.mpr ⟨of2_1, (List.forall_mem_cons.mpr ⟨of2_2, (List.forall_mem_cons.mpr ⟨of2_3, (List.forall_mem_cons.mpr ⟨of2_4, (List.forall_mem_cons.mpr ⟨of2_5, (List.forall_mem_cons.mpr ⟨of2_6, (fun _ h => nomatch h)⟩)⟩)⟩)⟩)⟩)⟩)⟩)
theorem of3_0 : okFd 3 11 (3, 0) := ⟨by decide, by decide, "Shellhouse$Journal", lw_in 119 (by decide +kernel) (by decide +kernel), Or.inl rfl⟩
theorem of3_1 : okFd 3 15 (3, 1) := ⟨by decide, by decide, "Shellhouse$Journal", lw_in 121 (by decide +kernel) (by decide +kernel), Or.inl rfl⟩
theorem of3_2 : okFd 3 18 (3, 2) := ⟨by decide, by decide, "Shellhouse$Journal", lw_in 122 (by decide +kernel) (by decide +kernel), Or.inl rfl⟩
theorem of3 : ∀ x ∈ fdT3, okFd 3 x.1 x.2 := (List.forall_mem_cons.mpr ⟨of3_0, (List.forall_mem_cons.mpr ⟨of3_1, (List.forall_mem_cons.mpr ⟨of3_2, (fun _ h => nomatch h)⟩)⟩)⟩)
theorem of4_0 : okFd 4 9 (4, 0) := ⟨by decide, by decide, "Shellhouse$Session", lw_in 259 (by decide +kernel) (by decide +kernel), Or.inl rfl⟩
theorem of4_1 : okFd 4 15 (4, 2) := ⟨by decide, by decide, "Shellhouse$Session", lw_in 263 (by decide +kernel) (by decide +kernel), Or.inl rfl⟩
theorem of4_2 : okFd 4 24 (4, 1) := ⟨by decide, by decide, "Shellhouse$Session", lw_in 261 (by decide +kernel) (by decide +kernel), Or.inl rfl⟩
theorem of4_3 : okFd 4 28 (4, 3) := ⟨by decide, by decide, "Shellhouse$Session", lw_in 265 (by decide +kernel) (by decide +kernel), Or.inl rfl⟩
theorem of4_4 : okFd 4 31 (4, 4) := ⟨by decide, by decide, "Shellhouse$Session", lw_in 267 (by decide +kernel) (by decide +kernel), Or.inl rfl⟩
theorem of4_5 : okFd 4 35 (4, 5) := ⟨by decide, by decide, "Shellhouse$Session", lw_in 269 (by decide +kernel) (by decide +kernel), Or.inl rfl⟩
theorem of4 : ∀ x ∈ fdT4, okFd 4 x.1 x.2 := (List.forall_mem_cons.mpr ⟨of4_0, (List.forall_mem_cons.mpr ⟨of4_1, (List.forall_mem_cons.mpr ⟨of4_2, (List.forall_mem_cons.mpr ⟨of4_3, (List.forall_mem_cons.mpr ⟨of4_4, (List.forall_mem_cons.mpr ⟨of4_5, (fun _ h => nomatch h)⟩)⟩)⟩)⟩)⟩)⟩)
theorem of5_0 : okFd 5 10 (5, 0) := ⟨by decide, by decide, "Shellhouse", lw_in 131 (by decide +kernel) (by decide +kernel), Or.inl rfl⟩
theorem of5_1 : okFd 5 16 (5, 1) := ⟨by decide, by decide, "Shellhouse", lw_in 132 (by decide +kernel) (by decide +kernel), Or.inl rfl⟩
theorem of5_2 : okFd 5 19 (5, 2) := ⟨by decide, by decide, "Shellhouse", lw_in 133 (by decide +kernel) (by decide +kernel), Or.inl rfl⟩
theorem of5_3 : okFd 5 22 (5, 3) := ⟨by decide, by decide, "Shellhouse", lw_in 134 (by decide +kernel) (by decide +kernel), Or.inl rfl⟩
theorem of5_4 : okFd 5 37 (5, 4) := ⟨by decide, by decide, "Shellhouse", lw_in 135 (by decide +kernel) (by decide +kernel), Or.inl rfl⟩
theorem of5_5 : okFd 5 44 (5, 5) := ⟨by decide, by decide, "Shellhouse", lw_in 136 (by decide +kernel) (by decide +kernel), Or.inl rfl⟩
theorem of5_6 : okFd 5 48 (5, 6) := ⟨by decide, by decide, "Shellhouse", lw_in 137 (by decide +kernel) (by decide +kernel), Or.inl rfl⟩
theorem of5_7 : okFd 5 76 (4, 2) := ⟨by decide, by decide, "Shellhouse$Session", lw_in 264 (by decide +kernel) (by decide +kernel), Or.inl rfl⟩
theorem of5_8 : okFd 5 80 (4, 3) := ⟨by decide, by decide, "Shellhouse$Session", lw_in 266 (by decide +kernel) (by decide +kernel), Or.inl rfl⟩
theorem of5_9 : okFd 5 85 (4, 4) := ⟨by decide, by decide, "Shellhouse$Session", lw_in 268 (by decide +kernel) (by decide +kernel), Or.inl rfl⟩
theorem of5_10 : okFd 5 97 (4, 5) := ⟨by decide, by decide, "Shellhouse$Session", lw_in 270 (by decide +kernel) (by decide +kernel), Or.inl rfl⟩
theorem of5_11 : okFd 5 100 (2, 0) := ⟨by decide, by decide, "Shellhouse$Job", lw_in 585 (by decide +kernel) (by decide +kernel), Or.inl rfl⟩
theorem of5_12 : okFd 5 114 (4, 1) := ⟨by decide, by decide, "Shellhouse$Session", lw_in 262 (by decide +kernel) (by decide +kernel), Or.inl rfl⟩
theorem of5_13 : okFd 5 117 (1, 1) := ⟨by decide, by decide, "Shellhouse$History", lw_in 106 (by decide +kernel) (by decide +kernel), Or.inl rfl⟩
theorem of5_14 : okFd 5 168 (2, 4) := ⟨by decide, by decide, "Shellhouse$Job", lw_in 593 (by decide +kernel) (by decide +kernel), Or.inl rfl⟩
theorem of5_15 : okFd 5 176 (2, 3) := ⟨by decide, by decide, "Shellhouse$Job", lw_in 591 (by decide +kernel) (by decide +kernel), Or.inl rfl⟩
theorem of5_16 : okFd 5 179 (2, 1) := ⟨by decide, by decide, "Shellhouse$Job", lw_in 587 (by decide +kernel) (by decide +kernel), Or.inl rfl⟩
theorem of5_17 : okFd 5 183 (4, 0) := ⟨by decide, by decide, "Shellhouse$Session", lw_in 260 (by decide +kernel) (by decide +kernel), Or.inl rfl⟩
theorem of5_18 : okFd 5 208 (2, 5) := ⟨by decide, by decide, "Shellhouse$Job", lw_in 595 (by decide +kernel) (by decide +kernel), Or.inl rfl⟩
theorem of5_19 : okFd 5 218 (2, 2) := ⟨by decide, by decide, "Shellhouse$Job", lw_in 589 (by decide +kernel) (by decide +kernel), Or.inl rfl⟩
theorem of5_20 : okFd 5 240 (3, 2) := ⟨by decide, by decide, "Shellhouse$Journal", lw_in 123 (by decide +kernel) (by decide +kernel), Or.inl rfl⟩
theorem of5_21 : okFd 5 244 (3, 0) := ⟨by decide, by decide, "Shellhouse$Journal", lw_in 120 (by decide +kernel) (by decide +kernel), Or.inl rfl⟩
theorem of5_22 : okFd 5 263 (1, 0) := ⟨by decide, by decide, "Shellhouse$History", lw_in 104 (by decide +kernel) (by decide +kernel), Or.inl rfl⟩
theorem of5_23 : okFd 5 293 (2, 6) := ⟨by decide, by decide, "Shellhouse$Job", lw_in 597 (by decide +kernel) (by decide +kernel), Or.inl rfl⟩
theorem of5 : ∀ x ∈ fdT5, okFd 5 x.1 x.2 := (List.forall_mem_cons.mpr ⟨of5_0, (List.forall_mem_cons.mpr ⟨of5_1, (List.forall_mem_cons.mpr ⟨of5_2, (List.forall_mem_cons.mpr ⟨of5_3, (List.forall_mem_cons.mpr ⟨of5_4, (List.forall_mem_cons.mpr ⟨of5_5, (List.forall_mem_cons.mpr ⟨of5_6, (List.forall_mem_cons.mpr ⟨of5_7, (List.forall_mem_cons.mpr ⟨of5_8, (List.forall_mem_cons.mpr ⟨of5_9, (List.forall_mem_cons.mpr ⟨of5_10, (List.forall_mem_cons.mpr ⟨of5_11, (List.forall_mem_cons.mpr ⟨of5_12, (List.forall_mem_cons.mpr ⟨of5_13, (List.forall_mem_cons.mpr ⟨of5_14, (List.forall_mem_cons.mpr ⟨of5_15, (List.forall_mem_cons.mpr ⟨of5_16, (List.forall_mem_cons.mpr ⟨of5_17, (List.forall_mem_cons.mpr ⟨of5_18, (List.forall_mem_cons.mpr ⟨of5_19, (List.forall_mem_cons.mpr ⟨of5_20, (List.forall_mem_cons.mpr ⟨of5_21, (List.forall_mem_cons.mpr ⟨of5_22, (List.forall_mem_cons.mpr ⟨of5_23, (fun _ h => nomatch h)⟩)⟩)⟩)⟩)⟩)⟩)⟩)⟩)⟩)⟩)⟩)⟩)⟩)⟩)⟩)⟩)⟩)⟩)⟩)⟩)⟩)⟩)⟩)⟩)
theorem of6_0 : okFd 6 7 (6, 7) := ⟨by decide, by decide, "ShellhouseModel", lw_in 848 (by decide +kernel) (by decide +kernel), Or.inl rfl⟩
theorem of6_1 : okFd 6 13 (6, 8) := ⟨by decide, by decide, "ShellhouseModel", lw_in 849 (by decide +kernel) (by decide +kernel), Or.inl rfl⟩
theorem of6_2 : okFd 6 16 (6, 9) := ⟨by decide, by decide, "ShellhouseModel", lw_in 850 (by decide +kernel) (by decide +kernel), Or.inl rfl⟩
theorem of6_3 : okFd 6 20 (6, 10) := ⟨by decide, by decide, "ShellhouseModel", lw_in 851 (by decide +kernel) (by decide +kernel), Or.inl rfl⟩
theorem of6_4 : okFd 6 23 (6, 11) := ⟨by decide, by decide, "ShellhouseModel", lw_in 852 (by decide +kernel) (by decide +kernel), Or.inl rfl⟩
theorem of6_5 : okFd 6 26 (6, 12) := ⟨by decide, by decide, "ShellhouseModel", lw_in 853 (by decide +kernel) (by decide +kernel), Or.inl rfl⟩
theorem of6_6 : okFd 6 29 (6, 13) := ⟨by decide, by decide, "ShellhouseModel", lw_in 854 (by decide +kernel) (by decide +kernel), Or.inl rfl⟩
theorem of6_7 : okFd 6 32 (6, 14) := ⟨by decide, by decide, "ShellhouseModel", lw_in 855 (by decide +kernel) (by decide +kernel), Or.inl rfl⟩
theorem of6_8 : okFd 6 35 (6, 15) := ⟨by decide, by decide, "ShellhouseModel", lw_in 856 (by decide +kernel) (by decide +kernel), Or.inl rfl⟩
theorem of6_9 : okFd 6 38 (6, 16) := ⟨by decide, by decide, "ShellhouseModel", lw_in 857 (by decide +kernel) (by decide +kernel), Or.inl rfl⟩
theorem of6_10 : okFd 6 41 (6, 17) := ⟨by decide, by decide, "ShellhouseModel", lw_in 858 (by decide +kernel) (by decide +kernel), Or.inl rfl⟩
theorem of6_11 : okFd 6 44 (6, 18) := ⟨by decide, by decide, "ShellhouseModel", lw_in 859 (by decide +kernel) (by decide +kernel), Or.inl rfl⟩
theorem of6_12 : okFd 6 47 (6, 19) := ⟨by decide, by decide, "ShellhouseModel", lw_in 860 (by decide +kernel) (by decide +kernel), Or.inl rfl⟩
theorem of6_13 : okFd 6 50 (6, 20) := ⟨by decide, by decide, "ShellhouseModel", lw_in 861 (by decide +kernel) (by decide +kernel), Or.inl rfl⟩
theorem of6_14 : okFd 6 53 (6, 21) := ⟨by decide, by decide, "ShellhouseModel", lw_in 862 (by decide +kernel) (by decide +kernel), Or.inl rfl⟩
theorem of6_15 : okFd 6 56 (6, 0) := ⟨by decide, by decide, "ShellhouseModel", lw_in 841 (by decide +kernel) (by decide +kernel), Or.inl rfl⟩
theorem of6_16 : okFd 6 60 (6, 1) := ⟨by decide, by decide, "ShellhouseModel", lw_in 842 (by decide +kernel) (by decide +kernel), Or.inl rfl⟩
theorem of6_17 : okFd 6 67 (6, 2) := ⟨by decide, by decide, "ShellhouseModel", lw_in 843 (by decide +kernel) (by decide +kernel), Or.inl rfl⟩
theorem of6_18 : okFd 6 70 (6, 5) := ⟨by decide, by decide, "ShellhouseModel", lw_in 846 (by decide +kernel) (by decide +kernel), Or.inl rfl⟩
theorem of6_19 : okFd 6 73 (6, 3) := ⟨by decide, by decide, "ShellhouseModel", lw_in 844 (by decide +kernel) (by decide +kernel), Or.inl rfl⟩
theorem of6_20 : okFd 6 104 (6, 4) := ⟨by decide, by decide, "ShellhouseModel", lw_in 845 (by decide +kernel) (by decide +kernel), Or.inl rfl⟩
theorem of6_21 : okFd 6 132 (6, 6) := ⟨by decide, by decide, "ShellhouseModel", lw_in 847 (by decide +kernel) (by decide +kernel), Or.inl rfl⟩
theorem of6 : ∀ x ∈ fdT6, okFd 6 x.1 x.2 := (List.forall_mem_cons.mpr ⟨of6_0, (List.forall_mem_cons.mpr ⟨of6_1, (List.forall_mem_cons.mpr ⟨of6_2, (List.forall_mem_cons.mpr ⟨of6_3, (List.forall_mem_cons.mpr ⟨of6_4, (List.forall_mem_cons.mpr ⟨of6_5, (List.forall_mem_cons.mpr ⟨of6_6, (List.forall_mem_cons.mpr ⟨of6_7, (List.forall_mem_cons.mpr ⟨of6_8, (List.forall_mem_cons.mpr ⟨of6_9, (List.forall_mem_cons.mpr ⟨of6_10, (List.forall_mem_cons.mpr ⟨of6_11, (List.forall_mem_cons.mpr ⟨of6_12, (List.forall_mem_cons.mpr ⟨of6_13, (List.forall_mem_cons.mpr ⟨of6_14, (List.forall_mem_cons.mpr ⟨of6_15, (List.forall_mem_cons.mpr ⟨of6_16, (List.forall_mem_cons.mpr ⟨of6_17, (List.forall_mem_cons.mpr ⟨of6_18, (List.forall_mem_cons.mpr ⟨of6_19, (List.forall_mem_cons.mpr ⟨of6_20, (List.forall_mem_cons.mpr ⟨of6_21, (fun _ h => nomatch h)⟩)⟩)⟩)⟩)⟩)⟩)⟩)⟩)⟩)⟩)⟩)⟩)⟩)⟩)⟩)⟩)⟩)⟩)⟩)⟩)⟩)⟩)
theorem of12_0 : okFd 12 7 (0, 0) := ⟨by decide, by decide, "java/util/AbstractList", lw_in 84 (by decide +kernel) (by decide +kernel), Or.inl rfl⟩
theorem of12 : ∀ x ∈ fdT12, okFd 12 x.1 x.2 := (List.forall_mem_cons.mpr ⟨of12_0, (fun _ h => nomatch h)⟩)
theorem fdT_ok {o i : Nat} {q : Nat × Nat} (h : fdT o i = some q) : okFd o i q := by
  unfold fdT at h
  split at h
  · exact of0 _ (look_mem h)
  · exact of1 _ (look_mem h)
  · exact of2 _ (look_mem h)
  · exact of3 _ (look_mem h)
  · exact of4 _ (look_mem h)
  · exact of5 _ (look_mem h)
  · exact of6 _ (look_mem h)
  · exact of12 _ (look_mem h)
  · cases h
def okK (o i ci : Nat) : Prop := ci < 7 ∧ Cond.classLink (oN o) i (oN ci) ∈ lw_G
theorem ok4 : ∀ x ∈ nwT4, okK 4 x.1 x.2 := (List.forall_mem_cons.mpr ⟨⟨by decide, lw_in 257 (by decide +kernel) (by decide +kernel)⟩, (fun _ h => nomatch h)⟩)
theorem ok5 : ∀ x ∈ nwT5, okK 5 x.1 x.2 := (List.forall_mem_cons.mpr ⟨⟨by decide, lw_in 68 (by decide +kernel) (by decide +kernel)⟩, (List.forall_mem_cons.mpr ⟨⟨by decide, lw_in 97 (by decide +kernel) (by decide +kernel)⟩, (List.forall_mem_cons.mpr ⟨⟨by decide, lw_in 113 (by decide +kernel) (by decide +kernel)⟩, (List.forall_mem_cons.mpr ⟨⟨by decide, lw_in 251 (by decide +kernel) (by decide +kernel)⟩, (List.forall_mem_cons.mpr ⟨⟨by decide, lw_in 436 (by decide +kernel) (by decide +kernel)⟩, (fun _ h => nomatch h)⟩)⟩)⟩)⟩)⟩)
theorem ok7 : ∀ x ∈ nwT7, okK 7 x.1 x.2 := (List.forall_mem_cons.mpr ⟨⟨by decide, lw_in 60 (by decide +kernel) (by decide +kernel)⟩, (List.forall_mem_cons.mpr ⟨⟨by decide, lw_in 835 (by decide +kernel) (by decide +kernel)⟩, (fun _ h => nomatch h)⟩)⟩)
theorem nwT_ok {o i q : Nat} (h : nwT o i = some q) : okK o i q := by
  unfold nwT at h
  split at h
  · exact ok4 _ (look_mem h)
  · exact ok5 _ (look_mem h)
  · exact ok7 _ (look_mem h)
  · cases h
theorem wi0 : Cond.instantiable (oN 0) (nC 0) ∈ lw_G := lw_in 69 (by decide +kernel) (by decide +kernel)
theorem wj0 : Cond.initialized (oN 0) ∈ lw_G := lw_in 40 (by decide +kernel) (by decide +kernel)
theorem wl0 : ∀ w ∈ u_ws (oN 0) (TC 0) (nC 0), w ∈ lw_G := by decide +kernel
theorem wi1 : Cond.instantiable (oN 1) (nC 1) ∈ lw_G := lw_in 98 (by decide +kernel) (by decide +kernel)
theorem wj1 : Cond.initialized (oN 1) ∈ lw_G := lw_in 42 (by decide +kernel) (by decide +kernel)
theorem wl1 : ∀ w ∈ u_ws (oN 1) (TC 1) (nC 1), w ∈ lw_G := by decide +kernel
theorem wi2 : Cond.instantiable (oN 2) (nC 2) ∈ lw_G := lw_in 579 (by decide +kernel) (by decide +kernel)
theorem wj2 : Cond.initialized (oN 2) ∈ lw_G := lw_in 59 (by decide +kernel) (by decide +kernel)
theorem wl2 : ∀ w ∈ u_ws (oN 2) (TC 2) (nC 2), w ∈ lw_G := by decide +kernel
theorem wi3 : Cond.instantiable (oN 3) (nC 3) ∈ lw_G := lw_in 114 (by decide +kernel) (by decide +kernel)
theorem wj3 : Cond.initialized (oN 3) ∈ lw_G := lw_in 43 (by decide +kernel) (by decide +kernel)
theorem wl3 : ∀ w ∈ u_ws (oN 3) (TC 3) (nC 3), w ∈ lw_G := by decide +kernel
theorem wi4 : Cond.instantiable (oN 4) (nC 4) ∈ lw_G := lw_in 252 (by decide +kernel) (by decide +kernel)
theorem wj4 : Cond.initialized (oN 4) ∈ lw_G := lw_in 49 (by decide +kernel) (by decide +kernel)
theorem wl4 : ∀ w ∈ u_ws (oN 4) (TC 4) (nC 4), w ∈ lw_G := by decide +kernel
theorem wi5 : Cond.instantiable (oN 5) (nC 5) ∈ lw_G := lw_in 61 (by decide +kernel) (by decide +kernel)
theorem wj5 : Cond.initialized (oN 5) ∈ lw_G := lw_in 37 (by decide +kernel) (by decide +kernel)
theorem wl5 : ∀ w ∈ u_ws (oN 5) (TC 5) (nC 5), w ∈ lw_G := by decide +kernel
theorem wi6 : Cond.instantiable (oN 6) (nC 6) ∈ lw_G := lw_in 836 (by decide +kernel) (by decide +kernel)
theorem wj6 : Cond.initialized (oN 6) ∈ lw_G := lw_in 44 (by decide +kernel) (by decide +kernel)
theorem wl6 : ∀ w ∈ u_ws (oN 6) (TC 6) (nC 6), w ∈ lw_G := by decide +kernel
