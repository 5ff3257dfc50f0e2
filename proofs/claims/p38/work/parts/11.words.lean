def lw_G : List Cond := lw_tbl.filter goodWord
theorem lw_in (i : Nat) {w : Cond} (h : lw_tbl[i]? = some w) (hg : goodWord w = true) : w ∈ lw_G := List.mem_filter.mpr ⟨List.mem_of_getElem? h, hg⟩
def oN : Nat → String
  | 0 => RJx4a65c
  | 1 => RX0
  | 2 => RX1
  | 3 => RX2
  | 4 => RX3
  | 5 => RX4
  | 7 => RL
  | 8 => RJ7
  | 9 => RJ15
  | 10 => RJ3
  | 11 => RJ8
  | 12 => RJxc12de
  | 13 => RJxa1e45
  | 14 => RJ7
  | _ => ""
def exN : Nat → String
  | 1 => "java/lang/IllegalStateException"
  | 2 => "java/lang/IndexOutOfBoundsException"
  | 3 => "java/util/NoSuchElementException"
  | 4 => "java/lang/IllegalArgumentException"
  | 5 => "java/lang/UnsupportedOperationException"
  | _ => ""
def exI : Nat → Nat
  | 1 => 20
  | 2 => 26
  | 3 => 42
  | 4 => 51
  | 5 => 57
  | _ => 0
theorem look_mem {α : Type} {l : List (Nat × α)} {k : Nat} {x : α} (h : look l k = some x) : (k, x) ∈ l := by
  induction l with
  | nil => cases h
  | cons a r ih =>
    unfold look at h
    split at h
    · next e => cases h; rw [← Nat.eq_of_beq_eq_true e]; exact List.mem_cons_self
    · exact List.mem_cons_of_mem _ (ih h)
def strL : List (Nat × String) := [(58, "there are 4 sessions"), (83, "the session is dropped"), (106, "the session is attached"), (125, "there is no such range of commands"), (134, "no command of the range is kept"), (147, "a number is out of range"), (152, "there are 30 jobs"), (188, "it is in front already, or its session is dropped"), (193, "the job is done or ended"), (199, "there is no such state"), (214, "no job waits at this rank"), (216, "the job does not wait"), (221, "the job neither runs nor waits"), (223, "the job is not stopped"), (229, "there is no such signal"), (235, "the ticks are not between 1 and 60"), (250, "there are no jobs"), (254, "there is no such session"), (257, "there is no such job"), (259, "no job is in front"), (261, "there is no such command"), (266, "there is no such lock"), (268, "there is no such entry")]
def thrL : List (Nat × Nat) := [(60, 1), (127, 4), (136, 3), (151, 5), (256, 2)]
def kT : Nat → FieldType
  | 0 => .int
  | 1 => .boolean
  | 2 => .long
  | 3 => .double
  | 5 => .char
  | _ => .object "java/lang/Object"
def rawH (hh : List (Nat × Nat × Nat × Nat)) : List (Nat × Nat × Nat × Nat) := hh.map fun x => (x.1, x.2.1, x.2.2.1, exI x.2.2.2)
def cdW (M : MD) : Cond := match mH M with
  | [] => .code (mY M) (mB M) (mL M) (mR M)
  | x :: r => .codeWith (mY M) (mB M) (mL M) (mR M) (rawH (x :: r))
/-- a throw's place: its pool entries, and what the machine reads there -/
def exP : List String := ["java/lang/RuntimeException", "java/lang/Exception"]
def okT (M : MD) (pc X ik is ic : Nat) (tx : String) (wide : Bool) : Prop := decode (mB M) pc = .ok (.new ik, 3) ∧ decode (mB M) (pc + 3) = .ok (.dup, 1) ∧
  (if wide = true then decode (mB M) (pc + 4) = .ok (.ldc_w is, 3) ∧ decode (mB M) (pc + 7) = .ok (.invokespecial ic, 3) ∧ decode (mB M) (pc + 10) = .ok (.athrow, 1) else decode (mB M) (pc + 4) = .ok (.ldc is, 2) ∧ decode (mB M) (pc + 6) = .ok (.invokespecial ic, 3) ∧ decode (mB M) (pc + 9) = .ok (.athrow, 1)) ∧
  Cond.classLink RX4 ik (exN X) ∈ lw_G ∧ Cond.initialized (exN X) ∈ lw_G ∧ (is, tx) ∈ strL ∧ (ic, X) ∈ thrL
def okM (M : MD) : Prop := cdW M ∈ lw_G ∧ Cond.initialized (mY M).cls ∈ lw_G ∧ plainName (mY M).cls = true ∧ ((mY M).cls ≠ "java/lang/invoke/MethodHandle" ∧ (mY M).cls ≠ "java/lang/invoke/VarHandle") ∧ mL M ≤ 17 ∧ (mI M = true → (mY M).name = "<init>" ∧ mR M = none ∧ mH M = []) ∧ (mY M).cls = oN (mO M) ∧
  (∀ x ∈ mH M, (0 < x.2.2.2 ∧ x.2.2.2 < 6) ∧ mO M = 7) ∧
  (∀ pc X, look (mT M) pc = some X → mO M = 5 ∧ mH M = [] ∧ (0 < X ∧ X < 6) ∧ ∃ ik is ic tx wide, okT M pc X ik is ic tx wide)
theorem in_Shellhouse : Cond.initialized "Shellhouse" ∈ lw_G := lw_in 23 (by decide +kernel) (by decide +kernel)
theorem in_Shellhouse_History : Cond.initialized "Shellhouse$History" ∈ lw_G := lw_in 28 (by decide +kernel) (by decide +kernel)
theorem in_Shellhouse_Job : Cond.initialized "Shellhouse$Job" ∈ lw_G := lw_in 44 (by decide +kernel) (by decide +kernel)
theorem in_Shellhouse_Journal : Cond.initialized "Shellhouse$Journal" ∈ lw_G := lw_in 29 (by decide +kernel) (by decide +kernel)
theorem in_Shellhouse_Session : Cond.initialized "Shellhouse$Session" ∈ lw_G := lw_in 34 (by decide +kernel) (by decide +kernel)
theorem in_ShellhouseLaw : Cond.initialized "ShellhouseLaw" ∈ lw_G := lw_in 22 (by decide +kernel) (by decide +kernel)
theorem in_java_util_AbstractCollection : Cond.initialized "java/util/AbstractCollection" ∈ lw_G := lw_in 24 (by decide +kernel) (by decide +kernel)
theorem in_java_util_AbstractList : Cond.initialized "java/util/AbstractList" ∈ lw_G := lw_in 25 (by decide +kernel) (by decide +kernel)
theorem in_java_util_ArrayList : Cond.initialized "java/util/ArrayList" ∈ lw_G := lw_in 26 (by decide +kernel) (by decide +kernel)
theorem in_java_util_Arrays : Cond.initialized "java/util/Arrays" ∈ lw_G := lw_in 27 (by decide +kernel) (by decide +kernel)
theorem in_java_util_Objects : Cond.initialized "java/util/Objects" ∈ lw_G := lw_in 39 (by decide +kernel) (by decide +kernel)
theorem in_jdk_internal_util_ArraysSupport : Cond.initialized "jdk/internal/util/ArraysSupport" ∈ lw_G := lw_in 35 (by decide +kernel) (by decide +kernel)
theorem in_jdk_internal_util_Preconditions : Cond.initialized "jdk/internal/util/Preconditions" ∈ lw_G := lw_in 40 (by decide +kernel) (by decide +kernel)
theorem inx_1 : Cond.initialized (exN 1) ∈ lw_G := lw_in 33 (by decide +kernel) (by decide +kernel)
theorem inx_2 : Cond.initialized (exN 2) ∈ lw_G := lw_in 38 (by decide +kernel) (by decide +kernel)
theorem inx_3 : Cond.initialized (exN 3) ∈ lw_G := lw_in 41 (by decide +kernel) (by decide +kernel)
theorem inx_4 : Cond.initialized (exN 4) ∈ lw_G := lw_in 42 (by decide +kernel) (by decide +kernel)
theorem inx_5 : Cond.initialized (exN 5) ∈ lw_G := lw_in 43 (by decide +kernel) (by decide +kernel)
theorem ok_X0_init : okM mX0_init := ⟨lw_in 86 (by decide +kernel) (by decide +kernel), in_Shellhouse_History, by decide +kernel, by decide +kernel, by decide, by decide, rfl, by decide, fun pc X h => nomatch h⟩
theorem ok_X0_append : okM mX0_append := ⟨lw_in 585 (by decide +kernel) (by decide +kernel), in_Shellhouse_History, by decide +kernel, by decide +kernel, by decide, by decide, rfl, by decide, fun pc X h => nomatch h⟩
theorem ok_X0_forget : okM mX0_forget := ⟨lw_in 593 (by decide +kernel) (by decide +kernel), in_Shellhouse_History, by decide +kernel, by decide +kernel, by decide, by decide, rfl, by decide, fun pc X h => nomatch h⟩
theorem ok_X0_takeOut : okM mX0_takeOut := ⟨lw_in 589 (by decide +kernel) (by decide +kernel), in_Shellhouse_History, by decide +kernel, by decide +kernel, by decide, by decide, rfl, by decide, fun pc X h => nomatch h⟩
theorem ok_X0_lastBetween : okM mX0_lastBetween := ⟨lw_in 508 (by decide +kernel) (by decide +kernel), in_Shellhouse_History, by decide +kernel, by decide +kernel, by decide, by decide, rfl, by decide, fun pc X h => nomatch h⟩
theorem ok_X1_init : okM mX1_init := ⟨lw_in 547 (by decide +kernel) (by decide +kernel), in_Shellhouse_Job, by decide +kernel, by decide +kernel, by decide, by decide, rfl, by decide, fun pc X h => nomatch h⟩
theorem ok_X1_needs : okM mX1_needs := ⟨lw_in 416 (by decide +kernel) (by decide +kernel), in_Shellhouse_Job, by decide +kernel, by decide +kernel, by decide, by decide, rfl, by decide, fun pc X h => nomatch h⟩
theorem ok_X2_init : okM mX2_init := ⟨lw_in 102 (by decide +kernel) (by decide +kernel), in_Shellhouse_Journal, by decide +kernel, by decide +kernel, by decide, by decide, rfl, by decide, fun pc X h => nomatch h⟩
theorem ok_X2_write : okM mX2_write := ⟨lw_in 392 (by decide +kernel) (by decide +kernel), in_Shellhouse_Journal, by decide +kernel, by decide +kernel, by decide, by decide, rfl, by decide, fun pc X h => nomatch h⟩
theorem ok_X2_conditionAt : okM mX2_conditionAt := ⟨lw_in 786 (by decide +kernel) (by decide +kernel), in_Shellhouse_Journal, by decide +kernel, by decide +kernel, by decide, by decide, rfl, by decide, fun pc X h => nomatch h⟩
theorem ok_X2_lastStateOf : okM mX2_lastStateOf := ⟨lw_in 782 (by decide +kernel) (by decide +kernel), in_Shellhouse_Journal, by decide +kernel, by decide +kernel, by decide, by decide, rfl, by decide, fun pc X h => nomatch h⟩
theorem ok_X3_init : okM mX3_init := ⟨lw_in 235 (by decide +kernel) (by decide +kernel), in_Shellhouse_Session, by decide +kernel, by decide +kernel, by decide, by decide, rfl, by decide, fun pc X h => nomatch h⟩
theorem ok_X4_init : okM mX4_init := ⟨lw_in 49 (by decide +kernel) (by decide +kernel), in_Shellhouse, by decide +kernel, by decide +kernel, by decide, by decide, rfl, by decide, fun pc X h => nomatch h⟩
theorem okt_X4_open_13 : okT mX4_open 13 1 56 58 60 "there are 4 sessions" false := ⟨by decide +kernel, by decide +kernel, by decide +kernel, lw_in 161 (by decide +kernel) (by decide +kernel), inx_1, by decide +kernel, by decide +kernel⟩
theorem ok_X4_open : okM mX4_open := ⟨lw_in 160 (by decide +kernel) (by decide +kernel), in_Shellhouse, by decide +kernel, by decide +kernel, by decide, by decide, rfl, by decide, fun pc X h => ⟨rfl, rfl, by
  have h := look_mem h
  simp only [mT, mX4_open, List.mem_cons, List.not_mem_nil, or_false, Prod.mk.injEq] at h
  obtain ⟨rfl, rfl⟩ := h
  exact ⟨by decide, _, _, _, _, _, okt_X4_open_13⟩⟩⟩
theorem okt_X4_drop_13 : okT mX4_drop 13 1 56 83 60 "the session is dropped" false := ⟨by decide +kernel, by decide +kernel, by decide +kernel, lw_in 161 (by decide +kernel) (by decide +kernel), inx_1, by decide +kernel, by decide +kernel⟩
theorem ok_X4_drop : okM mX4_drop := ⟨lw_in 329 (by decide +kernel) (by decide +kernel), in_Shellhouse, by decide +kernel, by decide +kernel, by decide, by decide, rfl, by decide, fun pc X h => ⟨rfl, rfl, by
  have h := look_mem h
  simp only [mT, mX4_drop, List.mem_cons, List.not_mem_nil, or_false, Prod.mk.injEq] at h
  obtain ⟨rfl, rfl⟩ := h
  exact ⟨by decide, _, _, _, _, _, okt_X4_drop_13⟩⟩⟩
theorem okt_X4_takeUp_13 : okT mX4_takeUp 13 1 56 106 60 "the session is attached" false := ⟨by decide +kernel, by decide +kernel, by decide +kernel, lw_in 161 (by decide +kernel) (by decide +kernel), inx_1, by decide +kernel, by decide +kernel⟩
theorem ok_X4_takeUp : okM mX4_takeUp := ⟨lw_in 427 (by decide +kernel) (by decide +kernel), in_Shellhouse, by decide +kernel, by decide +kernel, by decide, by decide, rfl, by decide, fun pc X h => ⟨rfl, rfl, by
  have h := look_mem h
  simp only [mT, mX4_takeUp, List.mem_cons, List.not_mem_nil, or_false, Prod.mk.injEq] at h
  obtain ⟨rfl, rfl⟩ := h
  exact ⟨by decide, _, _, _, _, _, okt_X4_takeUp_13⟩⟩⟩
theorem ok_X4_isAttached : okM mX4_isAttached := ⟨lw_in 446 (by decide +kernel) (by decide +kernel), in_Shellhouse, by decide +kernel, by decide +kernel, by decide, by decide, rfl, by decide, fun pc X h => nomatch h⟩
theorem ok_X4_kept : okM mX4_kept := ⟨lw_in 453 (by decide +kernel) (by decide +kernel), in_Shellhouse, by decide +kernel, by decide +kernel, by decide, by decide, rfl, by decide, fun pc X h => nomatch h⟩
theorem ok_X4_commandAt : okM mX4_commandAt := ⟨lw_in 461 (by decide +kernel) (by decide +kernel), in_Shellhouse, by decide +kernel, by decide +kernel, by decide, by decide, rfl, by decide, fun pc X h => nomatch h⟩
theorem ok_X4_common : okM mX4_common := ⟨lw_in 747 (by decide +kernel) (by decide +kernel), in_Shellhouse, by decide +kernel, by decide +kernel, by decide, by decide, rfl, by decide, fun pc X h => nomatch h⟩
theorem ok_X4_commonAt : okM mX4_commonAt := ⟨lw_in 820 (by decide +kernel) (by decide +kernel), in_Shellhouse, by decide +kernel, by decide +kernel, by decide, by decide, rfl, by decide, fun pc X h => nomatch h⟩
theorem okt_X4_search_22 : okT mX4_search 22 4 123 125 127 "there is no such range of commands" false := ⟨by decide +kernel, by decide +kernel, by decide +kernel, lw_in 489 (by decide +kernel) (by decide +kernel), inx_4, by decide +kernel, by decide +kernel⟩
theorem okt_X4_search_75 : okT mX4_search 75 3 132 134 136 "no command of the range is kept" false := ⟨by decide +kernel, by decide +kernel, by decide +kernel, lw_in 465 (by decide +kernel) (by decide +kernel), inx_3, by decide +kernel, by decide +kernel⟩
theorem ok_X4_search : okM mX4_search := ⟨lw_in 488 (by decide +kernel) (by decide +kernel), in_Shellhouse, by decide +kernel, by decide +kernel, by decide, by decide, rfl, by decide, fun pc X h => ⟨rfl, rfl, by
  have h := look_mem h
  simp only [mT, mX4_search, List.mem_cons, List.not_mem_nil, or_false, Prod.mk.injEq] at h
  rcases h with ⟨rfl, rfl⟩ | ⟨rfl, rfl⟩
  · exact ⟨by decide, _, _, _, _, _, okt_X4_search_22⟩
  · exact ⟨by decide, _, _, _, _, _, okt_X4_search_75⟩⟩⟩
theorem okt_X4_start_29 : okT mX4_start 29 4 123 147 127 "a number is out of range" false := ⟨by decide +kernel, by decide +kernel, by decide +kernel, lw_in 489 (by decide +kernel) (by decide +kernel), inx_4, by decide +kernel, by decide +kernel⟩
theorem okt_X4_start_52 : okT mX4_start 52 5 149 83 151 "the session is dropped" false := ⟨by decide +kernel, by decide +kernel, by decide +kernel, lw_in 528 (by decide +kernel) (by decide +kernel), inx_5, by decide +kernel, by decide +kernel⟩
theorem okt_X4_start_78 : okT mX4_start 78 1 56 152 60 "there are 30 jobs" false := ⟨by decide +kernel, by decide +kernel, by decide +kernel, lw_in 161 (by decide +kernel) (by decide +kernel), inx_1, by decide +kernel, by decide +kernel⟩
theorem ok_X4_start : okM mX4_start := ⟨lw_in 517 (by decide +kernel) (by decide +kernel), in_Shellhouse, by decide +kernel, by decide +kernel, by decide, by decide, rfl, by decide, fun pc X h => ⟨rfl, rfl, by
  have h := look_mem h
  simp only [mT, mX4_start, List.mem_cons, List.not_mem_nil, or_false, Prod.mk.injEq] at h
  rcases h with ⟨rfl, rfl⟩ | ⟨rfl, rfl⟩ | ⟨rfl, rfl⟩
  · exact ⟨by decide, _, _, _, _, _, okt_X4_start_29⟩
  · exact ⟨by decide, _, _, _, _, _, okt_X4_start_52⟩
  · exact ⟨by decide, _, _, _, _, _, okt_X4_start_78⟩⟩⟩
theorem ok_X4_state : okM mX4_state := ⟨lw_in 600 (by decide +kernel) (by decide +kernel), in_Shellhouse, by decide +kernel, by decide +kernel, by decide, by decide, rfl, by decide, fun pc X h => nomatch h⟩
theorem ok_X4_stateByJournal : okM mX4_stateByJournal := ⟨lw_in 778 (by decide +kernel) (by decide +kernel), in_Shellhouse, by decide +kernel, by decide +kernel, by decide, by decide, rfl, by decide, fun pc X h => nomatch h⟩
theorem ok_X4_toDo : okM mX4_toDo := ⟨lw_in 771 (by decide +kernel) (by decide +kernel), in_Shellhouse, by decide +kernel, by decide +kernel, by decide, by decide, rfl, by decide, fun pc X h => nomatch h⟩
theorem ok_X4_sessionOf : okM mX4_sessionOf := ⟨lw_in 612 (by decide +kernel) (by decide +kernel), in_Shellhouse, by decide +kernel, by decide +kernel, by decide, by decide, rfl, by decide, fun pc X h => nomatch h⟩
theorem ok_X4_front : okM mX4_front := ⟨lw_in 619 (by decide +kernel) (by decide +kernel), in_Shellhouse, by decide +kernel, by decide +kernel, by decide, by decide, rfl, by decide, fun pc X h => nomatch h⟩
theorem okt_X4_toFront_26 : okT mX4_toFront 26 5 149 188 151 "it is in front already, or its session is dropped" false := ⟨by decide +kernel, by decide +kernel, by decide +kernel, lw_in 528 (by decide +kernel) (by decide +kernel), inx_5, by decide +kernel, by decide +kernel⟩
theorem okt_X4_toFront_43 : okT mX4_toFront 43 1 56 193 60 "the job is done or ended" false := ⟨by decide +kernel, by decide +kernel, by decide +kernel, lw_in 161 (by decide +kernel) (by decide +kernel), inx_1, by decide +kernel, by decide +kernel⟩
theorem ok_X4_toFront : okM mX4_toFront := ⟨lw_in 630 (by decide +kernel) (by decide +kernel), in_Shellhouse, by decide +kernel, by decide +kernel, by decide, by decide, rfl, by decide, fun pc X h => ⟨rfl, rfl, by
  have h := look_mem h
  simp only [mT, mX4_toFront, List.mem_cons, List.not_mem_nil, or_false, Prod.mk.injEq] at h
  rcases h with ⟨rfl, rfl⟩ | ⟨rfl, rfl⟩
  · exact ⟨by decide, _, _, _, _, _, okt_X4_toFront_26⟩
  · exact ⟨by decide, _, _, _, _, _, okt_X4_toFront_43⟩⟩⟩
theorem ok_X4_toBack : okM mX4_toBack := ⟨lw_in 642 (by decide +kernel) (by decide +kernel), in_Shellhouse, by decide +kernel, by decide +kernel, by decide, by decide, rfl, by decide, fun pc X h => nomatch h⟩
theorem okt_X4_count_13 : okT mX4_count 13 4 123 199 127 "there is no such state" false := ⟨by decide +kernel, by decide +kernel, by decide +kernel, lw_in 489 (by decide +kernel) (by decide +kernel), inx_4, by decide +kernel, by decide +kernel⟩
theorem ok_X4_count : okM mX4_count := ⟨lw_in 649 (by decide +kernel) (by decide +kernel), in_Shellhouse, by decide +kernel, by decide +kernel, by decide, by decide, rfl, by decide, fun pc X h => ⟨rfl, rfl, by
  have h := look_mem h
  simp only [mT, mX4_count, List.mem_cons, List.not_mem_nil, or_false, Prod.mk.injEq] at h
  obtain ⟨rfl, rfl⟩ := h
  exact ⟨by decide, _, _, _, _, _, okt_X4_count_13⟩⟩⟩
theorem ok_X4_holder : okM mX4_holder := ⟨lw_in 757 (by decide +kernel) (by decide +kernel), in_Shellhouse, by decide +kernel, by decide +kernel, by decide, by decide, rfl, by decide, fun pc X h => nomatch h⟩
theorem ok_X4_holderByJobs : okM mX4_holderByJobs := ⟨lw_in 793 (by decide +kernel) (by decide +kernel), in_Shellhouse, by decide +kernel, by decide +kernel, by decide, by decide, rfl, by decide, fun pc X h => nomatch h⟩
theorem ok_X4_holds : okM mX4_holds := ⟨lw_in 660 (by decide +kernel) (by decide +kernel), in_Shellhouse, by decide +kernel, by decide +kernel, by decide, by decide, rfl, by decide, fun pc X h => nomatch h⟩
theorem ok_X4_waiting : okM mX4_waiting := ⟨lw_in 141 (by decide +kernel) (by decide +kernel), in_Shellhouse, by decide +kernel, by decide +kernel, by decide, by decide, rfl, by decide, fun pc X h => nomatch h⟩
theorem okt_X4_waitingAt_15 : okT mX4_waitingAt 15 3 132 214 136 "no job waits at this rank" false := ⟨by decide +kernel, by decide +kernel, by decide +kernel, lw_in 465 (by decide +kernel) (by decide +kernel), inx_3, by decide +kernel, by decide +kernel⟩
theorem ok_X4_waitingAt : okM mX4_waitingAt := ⟨lw_in 667 (by decide +kernel) (by decide +kernel), in_Shellhouse, by decide +kernel, by decide +kernel, by decide, by decide, rfl, by decide, fun pc X h => ⟨rfl, rfl, by
  have h := look_mem h
  simp only [mT, mX4_waitingAt, List.mem_cons, List.not_mem_nil, or_false, Prod.mk.injEq] at h
  obtain ⟨rfl, rfl⟩ := h
  exact ⟨by decide, _, _, _, _, _, okt_X4_waitingAt_15⟩⟩⟩
theorem okt_X4_blockers_15 : okT mX4_blockers 15 1 56 216 60 "the job does not wait" false := ⟨by decide +kernel, by decide +kernel, by decide +kernel, lw_in 161 (by decide +kernel) (by decide +kernel), inx_1, by decide +kernel, by decide +kernel⟩
theorem ok_X4_blockers : okM mX4_blockers := ⟨lw_in 800 (by decide +kernel) (by decide +kernel), in_Shellhouse, by decide +kernel, by decide +kernel, by decide, by decide, rfl, by decide, fun pc X h => ⟨rfl, rfl, by
  have h := look_mem h
  simp only [mT, mX4_blockers, List.mem_cons, List.not_mem_nil, or_false, Prod.mk.injEq] at h
  obtain ⟨rfl, rfl⟩ := h
  exact ⟨by decide, _, _, _, _, _, okt_X4_blockers_15⟩⟩⟩
theorem okt_X4_stop_13 : okT mX4_stop 13 1 56 221 60 "the job neither runs nor waits" false := ⟨by decide +kernel, by decide +kernel, by decide +kernel, lw_in 161 (by decide +kernel) (by decide +kernel), inx_1, by decide +kernel, by decide +kernel⟩
theorem ok_X4_stop : okM mX4_stop := ⟨lw_in 675 (by decide +kernel) (by decide +kernel), in_Shellhouse, by decide +kernel, by decide +kernel, by decide, by decide, rfl, by decide, fun pc X h => ⟨rfl, rfl, by
  have h := look_mem h
  simp only [mT, mX4_stop, List.mem_cons, List.not_mem_nil, or_false, Prod.mk.injEq] at h
  obtain ⟨rfl, rfl⟩ := h
  exact ⟨by decide, _, _, _, _, _, okt_X4_stop_13⟩⟩⟩
theorem okt_X4_goOn_13 : okT mX4_goOn 13 1 56 223 60 "the job is not stopped" false := ⟨by decide +kernel, by decide +kernel, by decide +kernel, lw_in 161 (by decide +kernel) (by decide +kernel), inx_1, by decide +kernel, by decide +kernel⟩
theorem ok_X4_goOn : okM mX4_goOn := ⟨lw_in 683 (by decide +kernel) (by decide +kernel), in_Shellhouse, by decide +kernel, by decide +kernel, by decide, by decide, rfl, by decide, fun pc X h => ⟨rfl, rfl, by
  have h := look_mem h
  simp only [mT, mX4_goOn, List.mem_cons, List.not_mem_nil, or_false, Prod.mk.injEq] at h
  obtain ⟨rfl, rfl⟩ := h
  exact ⟨by decide, _, _, _, _, _, okt_X4_goOn_13⟩⟩⟩
theorem okt_X4_end_13 : okT mX4_end 13 1 56 193 60 "the job is done or ended" false := ⟨by decide +kernel, by decide +kernel, by decide +kernel, lw_in 161 (by decide +kernel) (by decide +kernel), inx_1, by decide +kernel, by decide +kernel⟩
theorem ok_X4_end : okM mX4_end := ⟨lw_in 691 (by decide +kernel) (by decide +kernel), in_Shellhouse, by decide +kernel, by decide +kernel, by decide, by decide, rfl, by decide, fun pc X h => ⟨rfl, rfl, by
  have h := look_mem h
  simp only [mT, mX4_end, List.mem_cons, List.not_mem_nil, or_false, Prod.mk.injEq] at h
  obtain ⟨rfl, rfl⟩ := h
  exact ⟨by decide, _, _, _, _, _, okt_X4_end_13⟩⟩⟩
theorem okt_X4_signal_24 : okT mX4_signal 24 4 123 229 127 "there is no such signal" false := ⟨by decide +kernel, by decide +kernel, by decide +kernel, lw_in 489 (by decide +kernel) (by decide +kernel), inx_4, by decide +kernel, by decide +kernel⟩
theorem ok_X4_signal : okM mX4_signal := ⟨lw_in 702 (by decide +kernel) (by decide +kernel), in_Shellhouse, by decide +kernel, by decide +kernel, by decide, by decide, rfl, by decide, fun pc X h => ⟨rfl, rfl, by
  have h := look_mem h
  simp only [mT, mX4_signal, List.mem_cons, List.not_mem_nil, or_false, Prod.mk.injEq] at h
  obtain ⟨rfl, rfl⟩ := h
  exact ⟨by decide, _, _, _, _, _, okt_X4_signal_24⟩⟩⟩
theorem okt_X4_tick_11 : okT mX4_tick 11 4 123 235 127 "the ticks are not between 1 and 60" false := ⟨by decide +kernel, by decide +kernel, by decide +kernel, lw_in 489 (by decide +kernel) (by decide +kernel), inx_4, by decide +kernel, by decide +kernel⟩
theorem ok_X4_tick : okM mX4_tick := ⟨lw_in 714 (by decide +kernel) (by decide +kernel), in_Shellhouse, by decide +kernel, by decide +kernel, by decide, by decide, rfl, by decide, fun pc X h => ⟨rfl, rfl, by
  have h := look_mem h
  simp only [mT, mX4_tick, List.mem_cons, List.not_mem_nil, or_false, Prod.mk.injEq] at h
  obtain ⟨rfl, rfl⟩ := h
  exact ⟨by decide, _, _, _, _, _, okt_X4_tick_11⟩⟩⟩
theorem ok_X4_entries : okM mX4_entries := ⟨lw_in 736 (by decide +kernel) (by decide +kernel), in_Shellhouse, by decide +kernel, by decide +kernel, by decide, by decide, rfl, by decide, fun pc X h => nomatch h⟩
theorem ok_X4_entryJob : okM mX4_entryJob := ⟨lw_in 830 (by decide +kernel) (by decide +kernel), in_Shellhouse, by decide +kernel, by decide +kernel, by decide, by decide, rfl, by decide, fun pc X h => nomatch h⟩
theorem ok_X4_entryState : okM mX4_entryState := ⟨lw_in 842 (by decide +kernel) (by decide +kernel), in_Shellhouse, by decide +kernel, by decide +kernel, by decide, by decide, rfl, by decide, fun pc X h => nomatch h⟩
theorem ok_X4_worked : okM mX4_worked := ⟨lw_in 741 (by decide +kernel) (by decide +kernel), in_Shellhouse, by decide +kernel, by decide +kernel, by decide, by decide, rfl, by decide, fun pc X h => nomatch h⟩
theorem okt_X4_doneShare_12 : okT mX4_doneShare 12 3 132 250 136 "there are no jobs" false := ⟨by decide +kernel, by decide +kernel, by decide +kernel, lw_in 465 (by decide +kernel) (by decide +kernel), inx_3, by decide +kernel, by decide +kernel⟩
theorem ok_X4_doneShare : okM mX4_doneShare := ⟨lw_in 808 (by decide +kernel) (by decide +kernel), in_Shellhouse, by decide +kernel, by decide +kernel, by decide, by decide, rfl, by decide, fun pc X h => ⟨rfl, rfl, by
  have h := look_mem h
  simp only [mT, mX4_doneShare, List.mem_cons, List.not_mem_nil, or_false, Prod.mk.injEq] at h
  obtain ⟨rfl, rfl⟩ := h
  exact ⟨by decide, _, _, _, _, _, okt_X4_doneShare_12⟩⟩⟩
theorem okt_X4_sessionNumbered_15 : okT mX4_sessionNumbered 15 2 252 254 256 "there is no such session" false := ⟨by decide +kernel, by decide +kernel, by decide +kernel, lw_in 334 (by decide +kernel) (by decide +kernel), inx_2, by decide +kernel, by decide +kernel⟩
theorem ok_X4_sessionNumbered : okM mX4_sessionNumbered := ⟨lw_in 333 (by decide +kernel) (by decide +kernel), in_Shellhouse, by decide +kernel, by decide +kernel, by decide, by decide, rfl, by decide, fun pc X h => ⟨rfl, rfl, by
  have h := look_mem h
  simp only [mT, mX4_sessionNumbered, List.mem_cons, List.not_mem_nil, or_false, Prod.mk.injEq] at h
  obtain ⟨rfl, rfl⟩ := h
  exact ⟨by decide, _, _, _, _, _, okt_X4_sessionNumbered_15⟩⟩⟩
theorem okt_X4_jobNumbered_15 : okT mX4_jobNumbered 15 2 252 257 256 "there is no such job" true := ⟨by decide +kernel, by decide +kernel, by decide +kernel, lw_in 334 (by decide +kernel) (by decide +kernel), inx_2, by decide +kernel, by decide +kernel⟩
theorem ok_X4_jobNumbered : okM mX4_jobNumbered := ⟨lw_in 604 (by decide +kernel) (by decide +kernel), in_Shellhouse, by decide +kernel, by decide +kernel, by decide, by decide, rfl, by decide, fun pc X h => ⟨rfl, rfl, by
  have h := look_mem h
  simp only [mT, mX4_jobNumbered, List.mem_cons, List.not_mem_nil, or_false, Prod.mk.injEq] at h
  obtain ⟨rfl, rfl⟩ := h
  exact ⟨by decide, _, _, _, _, _, okt_X4_jobNumbered_15⟩⟩⟩
theorem okt_X4_jobInFrontOf_9 : okT mX4_jobInFrontOf 9 3 132 259 136 "no job is in front" true := ⟨by decide +kernel, by decide +kernel, by decide +kernel, lw_in 465 (by decide +kernel) (by decide +kernel), inx_3, by decide +kernel, by decide +kernel⟩
theorem ok_X4_jobInFrontOf : okM mX4_jobInFrontOf := ⟨lw_in 622 (by decide +kernel) (by decide +kernel), in_Shellhouse, by decide +kernel, by decide +kernel, by decide, by decide, rfl, by decide, fun pc X h => ⟨rfl, rfl, by
  have h := look_mem h
  simp only [mT, mX4_jobInFrontOf, List.mem_cons, List.not_mem_nil, or_false, Prod.mk.injEq] at h
  obtain ⟨rfl, rfl⟩ := h
  exact ⟨by decide, _, _, _, _, _, okt_X4_jobInFrontOf_9⟩⟩⟩
theorem okt_X4_commandOf_12 : okT mX4_commandOf 12 3 132 261 136 "there is no such command" true := ⟨by decide +kernel, by decide +kernel, by decide +kernel, lw_in 465 (by decide +kernel) (by decide +kernel), inx_3, by decide +kernel, by decide +kernel⟩
theorem ok_X4_commandOf : okM mX4_commandOf := ⟨lw_in 464 (by decide +kernel) (by decide +kernel), in_Shellhouse, by decide +kernel, by decide +kernel, by decide, by decide, rfl, by decide, fun pc X h => ⟨rfl, rfl, by
  have h := look_mem h
  simp only [mT, mX4_commandOf, List.mem_cons, List.not_mem_nil, or_false, Prod.mk.injEq] at h
  obtain ⟨rfl, rfl⟩ := h
  exact ⟨by decide, _, _, _, _, _, okt_X4_commandOf_12⟩⟩⟩
theorem okt_X4_refuseNoLock_10 : okT mX4_refuseNoLock 10 4 123 266 127 "there is no such lock" true := ⟨by decide +kernel, by decide +kernel, by decide +kernel, lw_in 489 (by decide +kernel) (by decide +kernel), inx_4, by decide +kernel, by decide +kernel⟩
theorem ok_X4_refuseNoLock : okM mX4_refuseNoLock := ⟨lw_in 760 (by decide +kernel) (by decide +kernel), in_Shellhouse, by decide +kernel, by decide +kernel, by decide, by decide, rfl, by decide, fun pc X h => ⟨rfl, rfl, by
  have h := look_mem h
  simp only [mT, mX4_refuseNoLock, List.mem_cons, List.not_mem_nil, or_false, Prod.mk.injEq] at h
  obtain ⟨rfl, rfl⟩ := h
  exact ⟨by decide, _, _, _, _, _, okt_X4_refuseNoLock_10⟩⟩⟩
theorem okt_X4_refuseNoEntry_15 : okT mX4_refuseNoEntry 15 3 132 268 136 "there is no such entry" true := ⟨by decide +kernel, by decide +kernel, by decide +kernel, lw_in 465 (by decide +kernel) (by decide +kernel), inx_3, by decide +kernel, by decide +kernel⟩
theorem ok_X4_refuseNoEntry : okM mX4_refuseNoEntry := ⟨lw_in 834 (by decide +kernel) (by decide +kernel), in_Shellhouse, by decide +kernel, by decide +kernel, by decide, by decide, rfl, by decide, fun pc X h => ⟨rfl, rfl, by
  have h := look_mem h
  simp only [mT, mX4_refuseNoEntry, List.mem_cons, List.not_mem_nil, or_false, Prod.mk.injEq] at h
  obtain ⟨rfl, rfl⟩ := h
  exact ⟨by decide, _, _, _, _, _, okt_X4_refuseNoEntry_15⟩⟩⟩
theorem ok_X4_isCommand : okM mX4_isCommand := ⟨lw_in 520 (by decide +kernel) (by decide +kernel), in_Shellhouse, by decide +kernel, by decide +kernel, by decide, by decide, rfl, by decide, fun pc X h => nomatch h⟩
theorem ok_X4_isWork : okM mX4_isWork := ⟨lw_in 523 (by decide +kernel) (by decide +kernel), in_Shellhouse, by decide +kernel, by decide +kernel, by decide, by decide, rfl, by decide, fun pc X h => nomatch h⟩
theorem ok_X4_areLocks : okM mX4_areLocks := ⟨lw_in 526 (by decide +kernel) (by decide +kernel), in_Shellhouse, by decide +kernel, by decide +kernel, by decide, by decide, rfl, by decide, fun pc X h => nomatch h⟩
theorem ok_X4_isState : okM mX4_isState := ⟨lw_in 652 (by decide +kernel) (by decide +kernel), in_Shellhouse, by decide +kernel, by decide +kernel, by decide, by decide, rfl, by decide, fun pc X h => nomatch h⟩
theorem ok_X4_canBeStopped : okM mX4_canBeStopped := ⟨lw_in 367 (by decide +kernel) (by decide +kernel), in_Shellhouse, by decide +kernel, by decide +kernel, by decide, by decide, rfl, by decide, fun pc X h => nomatch h⟩
theorem ok_X4_canGoOn : okM mX4_canGoOn := ⟨lw_in 431 (by decide +kernel) (by decide +kernel), in_Shellhouse, by decide +kernel, by decide +kernel, by decide, by decide, rfl, by decide, fun pc X h => nomatch h⟩
theorem ok_X4_isOver : okM mX4_isOver := ⟨lw_in 634 (by decide +kernel) (by decide +kernel), in_Shellhouse, by decide +kernel, by decide +kernel, by decide, by decide, rfl, by decide, fun pc X h => nomatch h⟩
theorem ok_X4_remember : okM mX4_remember := ⟨lw_in 581 (by decide +kernel) (by decide +kernel), in_Shellhouse, by decide +kernel, by decide +kernel, by decide, by decide, rfl, by decide, fun pc X h => nomatch h⟩
theorem ok_X4_comeInto : okM mX4_comeInto := ⟨lw_in 388 (by decide +kernel) (by decide +kernel), in_Shellhouse, by decide +kernel, by decide +kernel, by decide, by decide, rfl, by decide, fun pc X h => nomatch h⟩
theorem ok_X4_waitForLocks : okM mX4_waitForLocks := ⟨lw_in 439 (by decide +kernel) (by decide +kernel), in_Shellhouse, by decide +kernel, by decide +kernel, by decide, by decide, rfl, by decide, fun pc X h => nomatch h⟩
theorem ok_X4_pause : okM mX4_pause := ⟨lw_in 371 (by decide +kernel) (by decide +kernel), in_Shellhouse, by decide +kernel, by decide +kernel, by decide, by decide, rfl, by decide, fun pc X h => nomatch h⟩
theorem ok_X4_resume : okM mX4_resume := ⟨lw_in 435 (by decide +kernel) (by decide +kernel), in_Shellhouse, by decide +kernel, by decide +kernel, by decide, by decide, rfl, by decide, fun pc X h => nomatch h⟩
theorem ok_X4_finish : okM mX4_finish := ⟨lw_in 695 (by decide +kernel) (by decide +kernel), in_Shellhouse, by decide +kernel, by decide +kernel, by decide, by decide, rfl, by decide, fun pc X h => nomatch h⟩
theorem ok_X4_obeys : okM mX4_obeys := ⟨lw_in 707 (by decide +kernel) (by decide +kernel), in_Shellhouse, by decide +kernel, by decide +kernel, by decide, by decide, rfl, by decide, fun pc X h => nomatch h⟩
theorem ok_X4_passOneTick : okM mX4_passOneTick := ⟨lw_in 719 (by decide +kernel) (by decide +kernel), in_Shellhouse, by decide +kernel, by decide +kernel, by decide, by decide, rfl, by decide, fun pc X h => nomatch h⟩
theorem ok_X4_workIsDone : okM mX4_workIsDone := ⟨lw_in 723 (by decide +kernel) (by decide +kernel), in_Shellhouse, by decide +kernel, by decide +kernel, by decide, by decide, rfl, by decide, fun pc X h => nomatch h⟩
theorem ok_X4_leaveOrder : okM mX4_leaveOrder := ⟨lw_in 375 (by decide +kernel) (by decide +kernel), in_Shellhouse, by decide +kernel, by decide +kernel, by decide, by decide, rfl, by decide, fun pc X h => nomatch h⟩
theorem ok_X4_lookAtOrder : okM mX4_lookAtOrder := ⟨lw_in 407 (by decide +kernel) (by decide +kernel), in_Shellhouse, by decide +kernel, by decide +kernel, by decide, by decide, rfl, by decide, fun pc X h => nomatch h⟩
theorem ok_X4_locksAreFreeFor : okM mX4_locksAreFreeFor := ⟨lw_in 412 (by decide +kernel) (by decide +kernel), in_Shellhouse, by decide +kernel, by decide +kernel, by decide, by decide, rfl, by decide, fun pc X h => nomatch h⟩
theorem ok_X4_setHolder : okM mX4_setHolder := ⟨lw_in 420 (by decide +kernel) (by decide +kernel), in_Shellhouse, by decide +kernel, by decide +kernel, by decide, by decide, rfl, by decide, fun pc X h => nomatch h⟩
theorem ok_Jxa1e45_init_da8c8 : okM mJxa1e45_init_da8c8 := ⟨lw_in 63 (by decide +kernel) (by decide +kernel), in_java_util_AbstractCollection, by decide +kernel, by decide +kernel, by decide, by decide, rfl, by decide, fun pc X h => nomatch h⟩
theorem ok_Jxc12de_init_da8c8 : okM mJxc12de_init_da8c8 := ⟨lw_in 60 (by decide +kernel) (by decide +kernel), in_java_util_AbstractList, by decide +kernel, by decide +kernel, by decide, by decide, rfl, by decide, fun pc X h => nomatch h⟩
theorem ok_Jx4a65c_init_da8c8 : okM mJx4a65c_init_da8c8 := ⟨lw_in 57 (by decide +kernel) (by decide +kernel), in_java_util_ArrayList, by decide +kernel, by decide +kernel, by decide, by decide, rfl, by decide, fun pc X h => nomatch h⟩
theorem ok_Jx4a65c_grow_92f84 : okM mJx4a65c_grow_92f84 := ⟨lw_in 279 (by decide +kernel) (by decide +kernel), in_java_util_ArrayList, by decide +kernel, by decide +kernel, by decide, by decide, rfl, by decide, fun pc X h => nomatch h⟩
theorem ok_Jx4a65c_grow_d5877 : okM mJx4a65c_grow_d5877 := ⟨lw_in 275 (by decide +kernel) (by decide +kernel), in_java_util_ArrayList, by decide +kernel, by decide +kernel, by decide, by decide, rfl, by decide, fun pc X h => nomatch h⟩
theorem ok_Jx4a65c_size_8abf5 : okM mJx4a65c_size_8abf5 := ⟨lw_in 145 (by decide +kernel) (by decide +kernel), in_java_util_ArrayList, by decide +kernel, by decide +kernel, by decide, by decide, rfl, by decide, fun pc X h => nomatch h⟩
theorem ok_Jx4a65c_elementData_915e3 : okM mJx4a65c_elementData_915e3 := ⟨lw_in 363 (by decide +kernel) (by decide +kernel), in_java_util_ArrayList, by decide +kernel, by decide +kernel, by decide, by decide, rfl, by decide, fun pc X h => nomatch h⟩
theorem ok_Jx4a65c_get_915e3 : okM mJx4a65c_get_915e3 := ⟨lw_in 353 (by decide +kernel) (by decide +kernel), in_java_util_ArrayList, by decide +kernel, by decide +kernel, by decide, by decide, rfl, by decide, fun pc X h => nomatch h⟩
theorem ok_Jx4a65c_add_72be8 : okM mJx4a65c_add_72be8 := ⟨lw_in 271 (by decide +kernel) (by decide +kernel), in_java_util_ArrayList, by decide +kernel, by decide +kernel, by decide, by decide, rfl, by decide, fun pc X h => nomatch h⟩
theorem ok_Jx4a65c_add_9ea2d : okM mJx4a65c_add_9ea2d := ⟨lw_in 267 (by decide +kernel) (by decide +kernel), in_java_util_ArrayList, by decide +kernel, by decide +kernel, by decide, by decide, rfl, by decide, fun pc X h => nomatch h⟩
theorem ok_Jx4a65c_remove_915e3 : okM mJx4a65c_remove_915e3 := ⟨lw_in 379 (by decide +kernel) (by decide +kernel), in_java_util_ArrayList, by decide +kernel, by decide +kernel, by decide, by decide, rfl, by decide, fun pc X h => nomatch h⟩
theorem ok_Jx4a65c_fastRemove_b59b0 : okM mJx4a65c_fastRemove_b59b0 := ⟨lw_in 383 (by decide +kernel) (by decide +kernel), in_java_util_ArrayList, by decide +kernel, by decide +kernel, by decide, by decide, rfl, by decide, fun pc X h => nomatch h⟩
theorem ok_J7_fill_53178 : okM mJ7_fill_53178 := ⟨lw_in 81 (by decide +kernel) (by decide +kernel), in_java_util_Arrays, by decide +kernel, by decide +kernel, by decide, by decide, rfl, by decide, fun pc X h => nomatch h⟩
theorem ok_J7_copyOf_1904c : okM mJ7_copyOf_1904c := ⟨lw_in 292 (by decide +kernel) (by decide +kernel), in_java_util_Arrays, by decide +kernel, by decide +kernel, by decide, by decide, rfl, by decide, fun pc X h => nomatch h⟩
theorem ok_J7_copyOf_6403c : okM mJ7_copyOf_6403c := ⟨lw_in 310 (by decide +kernel) (by decide +kernel), in_java_util_Arrays, by decide +kernel, by decide +kernel, by decide, by decide, rfl, by decide, fun pc X h => nomatch h⟩
theorem ok_J7_copyOf_59c91 : okM mJ7_copyOf_59c91 := ⟨lw_in 396 (by decide +kernel) (by decide +kernel), in_java_util_Arrays, by decide +kernel, by decide +kernel, by decide, by decide, rfl, by decide, fun pc X h => nomatch h⟩
theorem ok_J15_checkIndex_7cf53 : okM mJ15_checkIndex_7cf53 := ⟨lw_in 356 (by decide +kernel) (by decide +kernel), in_java_util_Objects, by decide +kernel, by decide +kernel, by decide, by decide, rfl, by decide, fun pc X h => nomatch h⟩
theorem ok_J8_newLength_cabcc : okM mJ8_newLength_cabcc := ⟨lw_in 282 (by decide +kernel) (by decide +kernel), in_jdk_internal_util_ArraysSupport, by decide +kernel, by decide +kernel, by decide, by decide, rfl, by decide, fun pc X h => nomatch h⟩
theorem ok_J8_hugeLength_7cf53 : okM mJ8_hugeLength_7cf53 := ⟨lw_in 289 (by decide +kernel) (by decide +kernel), in_jdk_internal_util_ArraysSupport, by decide +kernel, by decide +kernel, by decide, by decide, rfl, by decide, fun pc X h => nomatch h⟩
theorem ok_J3_checkIndex_8e157 : okM mJ3_checkIndex_8e157 := ⟨lw_in 359 (by decide +kernel) (by decide +kernel), in_jdk_internal_util_Preconditions, by decide +kernel, by decide +kernel, by decide, by decide, rfl, by decide, fun pc X h => nomatch h⟩
theorem ok_L_cell : okM mL_cell := ⟨lw_in 151 (by decide +kernel) (by decide +kernel), in_ShellhouseLaw, by decide +kernel, by decide +kernel, by decide, by decide, rfl, by decide, fun pc X h => nomatch h⟩
theorem ok_L_pick : okM mL_pick := ⟨lw_in 148 (by decide +kernel) (by decide +kernel), in_ShellhouseLaw, by decide +kernel, by decide +kernel, by decide, by decide, rfl, by decide, fun pc X h => nomatch h⟩
theorem ok_L_open : okM mL_open := ⟨lw_in 155 (by decide +kernel) (by decide +kernel), in_ShellhouseLaw, by decide +kernel, by decide +kernel, by decide, by decide, rfl, by decide, fun pc X h => nomatch h⟩
theorem ok_L_drop : okM mL_drop := ⟨lw_in 324 (by decide +kernel) (by decide +kernel), in_ShellhouseLaw, by decide +kernel, by decide +kernel, by decide, by decide, rfl, by decide, fun pc X h => nomatch h⟩
theorem ok_L_takeUp : okM mL_takeUp := ⟨lw_in 423 (by decide +kernel) (by decide +kernel), in_ShellhouseLaw, by decide +kernel, by decide +kernel, by decide, by decide, rfl, by decide, fun pc X h => nomatch h⟩
theorem ok_L_isAttached : okM mL_isAttached := ⟨lw_in 442 (by decide +kernel) (by decide +kernel), in_ShellhouseLaw, by decide +kernel, by decide +kernel, by decide, by decide, rfl, by decide, fun pc X h => nomatch h⟩
theorem ok_L_kept : okM mL_kept := ⟨lw_in 449 (by decide +kernel) (by decide +kernel), in_ShellhouseLaw, by decide +kernel, by decide +kernel, by decide, by decide, rfl, by decide, fun pc X h => nomatch h⟩
theorem ok_L_commandAt : okM mL_commandAt := ⟨lw_in 456 (by decide +kernel) (by decide +kernel), in_ShellhouseLaw, by decide +kernel, by decide +kernel, by decide, by decide, rfl, by decide, fun pc X h => nomatch h⟩
theorem ok_L_commonAt : okM mL_commonAt := ⟨lw_in 816 (by decide +kernel) (by decide +kernel), in_ShellhouseLaw, by decide +kernel, by decide +kernel, by decide, by decide, rfl, by decide, fun pc X h => nomatch h⟩
theorem ok_L_search : okM mL_search := ⟨lw_in 483 (by decide +kernel) (by decide +kernel), in_ShellhouseLaw, by decide +kernel, by decide +kernel, by decide, by decide, rfl, by decide, fun pc X h => nomatch h⟩
theorem ok_L_start : okM mL_start := ⟨lw_in 512 (by decide +kernel) (by decide +kernel), in_ShellhouseLaw, by decide +kernel, by decide +kernel, by decide, by decide, rfl, by decide, fun pc X h => nomatch h⟩
theorem ok_L_state : okM mL_state := ⟨lw_in 596 (by decide +kernel) (by decide +kernel), in_ShellhouseLaw, by decide +kernel, by decide +kernel, by decide, by decide, rfl, by decide, fun pc X h => nomatch h⟩
theorem ok_L_stateByJournal : okM mL_stateByJournal := ⟨lw_in 774 (by decide +kernel) (by decide +kernel), in_ShellhouseLaw, by decide +kernel, by decide +kernel, by decide, by decide, rfl, by decide, fun pc X h => nomatch h⟩
theorem ok_L_toDo : okM mL_toDo := ⟨lw_in 767 (by decide +kernel) (by decide +kernel), in_ShellhouseLaw, by decide +kernel, by decide +kernel, by decide, by decide, rfl, by decide, fun pc X h => nomatch h⟩
theorem ok_L_sessionOf : okM mL_sessionOf := ⟨lw_in 608 (by decide +kernel) (by decide +kernel), in_ShellhouseLaw, by decide +kernel, by decide +kernel, by decide, by decide, rfl, by decide, fun pc X h => nomatch h⟩
theorem ok_L_front : okM mL_front := ⟨lw_in 615 (by decide +kernel) (by decide +kernel), in_ShellhouseLaw, by decide +kernel, by decide +kernel, by decide, by decide, rfl, by decide, fun pc X h => nomatch h⟩
theorem ok_L_toFront : okM mL_toFront := ⟨lw_in 626 (by decide +kernel) (by decide +kernel), in_ShellhouseLaw, by decide +kernel, by decide +kernel, by decide, by decide, rfl, by decide, fun pc X h => nomatch h⟩
theorem ok_L_toBack : okM mL_toBack := ⟨lw_in 638 (by decide +kernel) (by decide +kernel), in_ShellhouseLaw, by decide +kernel, by decide +kernel, by decide, by decide, rfl, by decide, fun pc X h => nomatch h⟩
theorem ok_L_count : okM mL_count := ⟨lw_in 645 (by decide +kernel) (by decide +kernel), in_ShellhouseLaw, by decide +kernel, by decide +kernel, by decide, by decide, rfl, by decide, fun pc X h => nomatch h⟩
theorem ok_L_holder : okM mL_holder := ⟨lw_in 753 (by decide +kernel) (by decide +kernel), in_ShellhouseLaw, by decide +kernel, by decide +kernel, by decide, by decide, rfl, by decide, fun pc X h => nomatch h⟩
theorem ok_L_holderByJobs : okM mL_holderByJobs := ⟨lw_in 789 (by decide +kernel) (by decide +kernel), in_ShellhouseLaw, by decide +kernel, by decide +kernel, by decide, by decide, rfl, by decide, fun pc X h => nomatch h⟩
theorem ok_L_holds : okM mL_holds := ⟨lw_in 656 (by decide +kernel) (by decide +kernel), in_ShellhouseLaw, by decide +kernel, by decide +kernel, by decide, by decide, rfl, by decide, fun pc X h => nomatch h⟩
theorem ok_L_waitingAt : okM mL_waitingAt := ⟨lw_in 663 (by decide +kernel) (by decide +kernel), in_ShellhouseLaw, by decide +kernel, by decide +kernel, by decide, by decide, rfl, by decide, fun pc X h => nomatch h⟩
theorem ok_L_blockers : okM mL_blockers := ⟨lw_in 796 (by decide +kernel) (by decide +kernel), in_ShellhouseLaw, by decide +kernel, by decide +kernel, by decide, by decide, rfl, by decide, fun pc X h => nomatch h⟩
theorem ok_L_stop : okM mL_stop := ⟨lw_in 671 (by decide +kernel) (by decide +kernel), in_ShellhouseLaw, by decide +kernel, by decide +kernel, by decide, by decide, rfl, by decide, fun pc X h => nomatch h⟩
theorem ok_L_goOn : okM mL_goOn := ⟨lw_in 679 (by decide +kernel) (by decide +kernel), in_ShellhouseLaw, by decide +kernel, by decide +kernel, by decide, by decide, rfl, by decide, fun pc X h => nomatch h⟩
theorem ok_L_end : okM mL_end := ⟨lw_in 687 (by decide +kernel) (by decide +kernel), in_ShellhouseLaw, by decide +kernel, by decide +kernel, by decide, by decide, rfl, by decide, fun pc X h => nomatch h⟩
theorem ok_L_signal : okM mL_signal := ⟨lw_in 698 (by decide +kernel) (by decide +kernel), in_ShellhouseLaw, by decide +kernel, by decide +kernel, by decide, by decide, rfl, by decide, fun pc X h => nomatch h⟩
theorem ok_L_tick : okM mL_tick := ⟨lw_in 710 (by decide +kernel) (by decide +kernel), in_ShellhouseLaw, by decide +kernel, by decide +kernel, by decide, by decide, rfl, by decide, fun pc X h => nomatch h⟩
theorem ok_L_entryJob : okM mL_entryJob := ⟨lw_in 826 (by decide +kernel) (by decide +kernel), in_ShellhouseLaw, by decide +kernel, by decide +kernel, by decide, by decide, rfl, by decide, fun pc X h => nomatch h⟩
theorem ok_L_entryState : okM mL_entryState := ⟨lw_in 838 (by decide +kernel) (by decide +kernel), in_ShellhouseLaw, by decide +kernel, by decide +kernel, by decide, by decide, rfl, by decide, fun pc X h => nomatch h⟩
theorem ok_L_doneShare : okM mL_doneShare := ⟨lw_in 804 (by decide +kernel) (by decide +kernel), in_ShellhouseLaw, by decide +kernel, by decide +kernel, by decide, by decide, rfl, by decide, fun pc X h => nomatch h⟩
theorem ok_L_ofSession : okM mL_ofSession := ⟨lw_in 726 (by decide +kernel) (by decide +kernel), in_ShellhouseLaw, by decide +kernel, by decide +kernel, by decide, by decide, rfl, by decide, fun pc X h => nomatch h⟩
theorem ok_L_done : okM mL_done := ⟨lw_in 729 (by decide +kernel) (by decide +kernel), in_ShellhouseLaw, by decide +kernel, by decide +kernel, by decide, by decide, rfl, by decide, fun pc X h => nomatch h⟩
theorem ok_L_sum : okM mL_sum := ⟨lw_in 732 (by decide +kernel) (by decide +kernel), in_ShellhouseLaw, by decide +kernel, by decide +kernel, by decide, by decide, rfl, by decide, fun pc X h => nomatch h⟩
theorem ok_L_areJobs : okM mL_areJobs := ⟨lw_in 764 (by decide +kernel) (by decide +kernel), in_ShellhouseLaw, by decide +kernel, by decide +kernel, by decide, by decide, rfl, by decide, fun pc X h => nomatch h⟩
theorem ok_L_areFronts : okM mL_areFronts := ⟨lw_in 813 (by decide +kernel) (by decide +kernel), in_ShellhouseLaw, by decide +kernel, by decide +kernel, by decide, by decide, rfl, by decide, fun pc X h => nomatch h⟩
theorem ok_L_isJournal : okM mL_isJournal := ⟨lw_in 823 (by decide +kernel) (by decide +kernel), in_ShellhouseLaw, by decide +kernel, by decide +kernel, by decide, by decide, rfl, by decide, fun pc X h => nomatch h⟩
def okI (M : MD) (na : Nat) : Prop := okM M ∧ mH M = [] ∧ Cond.instanceMethod (mY M) ∈ lw_G ∧ (parseMethodDescriptor (mY M).desc).map (fun d => d.parameters.length) = some na
def okV (M : MD) (na : Nat) : Prop := okI M na ∧ Cond.selects (oN (mO M)) (mY M) (mY M) ∈ lw_G ∧ mO M < 6
def okSt (M : MD) (na : Nat) : Prop := okM M ∧ Cond.static (mY M) ∈ lw_G ∧ (parseMethodDescriptor (mY M).desc).map (fun d => d.parameters.length) = some na
def okC (o i : Nat) (q : Nat × Nat × MD) : Prop := match q.1 with
  | 0 => Cond.methodLink (oN o) i (mY q.2.2) ∈ lw_G ∧ okV q.2.2 q.2.1
  | 1 => Cond.methodLink (oN o) i (mY q.2.2) ∈ lw_G ∧ okI q.2.2 q.2.1 ∧ mI q.2.2 = true
  | 2 => Cond.methodLink (oN o) i (mY q.2.2) ∈ lw_G ∧ okSt q.2.2 q.2.1
  | 3 => Cond.methodLink (oN o) i objectInit ∈ lw_G
  | 4 => Cond.methodLink (oN o) i Lib.Math.min.name ∈ lw_G
  | 5 => Cond.methodLink (oN o) i Lib.Math.max.name ∈ lw_G
  | 6 => Cond.methodLink (oN o) i arraycopyName ∈ lw_G
  | 7 => Cond.methodLink (oN o) i arraycopyName ∈ lw_G
  | 8 => Cond.methodLink (oN o) i ⟨"java/lang/Object", "getClass", "()Ljava/lang/Class;"⟩ ∈ lw_G
  | _ => False
theorem oi_X4_init : okI mX4_init 0 := ⟨ok_X4_init, rfl, lw_in 48 (by decide +kernel) (by decide +kernel), by decide +kernel⟩
theorem oi_Jx4a65c_init_da8c8 : okI mJx4a65c_init_da8c8 0 := ⟨ok_Jx4a65c_init_da8c8, rfl, lw_in 56 (by decide +kernel) (by decide +kernel), by decide +kernel⟩
theorem oi_Jxc12de_init_da8c8 : okI mJxc12de_init_da8c8 0 := ⟨ok_Jxc12de_init_da8c8, rfl, lw_in 59 (by decide +kernel) (by decide +kernel), by decide +kernel⟩
theorem oi_Jxa1e45_init_da8c8 : okI mJxa1e45_init_da8c8 0 := ⟨ok_Jxa1e45_init_da8c8, rfl, lw_in 62 (by decide +kernel) (by decide +kernel), by decide +kernel⟩
theorem os_J7_fill_53178 : okSt mJ7_fill_53178 2 := ⟨ok_J7_fill_53178, lw_in 80 (by decide +kernel) (by decide +kernel), by decide +kernel⟩
theorem oi_X0_init : okI mX0_init 1 := ⟨ok_X0_init, rfl, lw_in 85 (by decide +kernel) (by decide +kernel), by decide +kernel⟩
theorem oi_X2_init : okI mX2_init 0 := ⟨ok_X2_init, rfl, lw_in 101 (by decide +kernel) (by decide +kernel), by decide +kernel⟩
theorem oi_X4_waiting : okI mX4_waiting 0 := ⟨ok_X4_waiting, rfl, lw_in 139 (by decide +kernel) (by decide +kernel), by decide +kernel⟩
theorem ov_X4_waiting : okV mX4_waiting 0 := ⟨oi_X4_waiting, lw_in 140 (by decide +kernel) (by decide +kernel), by decide⟩
theorem oi_Jx4a65c_size_8abf5 : okI mJx4a65c_size_8abf5 0 := ⟨ok_Jx4a65c_size_8abf5, rfl, lw_in 143 (by decide +kernel) (by decide +kernel), by decide +kernel⟩
theorem ov_Jx4a65c_size_8abf5 : okV mJx4a65c_size_8abf5 0 := ⟨oi_Jx4a65c_size_8abf5, lw_in 144 (by decide +kernel) (by decide +kernel), by decide⟩
theorem os_L_pick : okSt mL_pick 3 := ⟨ok_L_pick, lw_in 147 (by decide +kernel) (by decide +kernel), by decide +kernel⟩
theorem os_L_cell : okSt mL_cell 2 := ⟨ok_L_cell, lw_in 150 (by decide +kernel) (by decide +kernel), by decide +kernel⟩
theorem os_L_open : okSt mL_open 2 := ⟨ok_L_open, lw_in 154 (by decide +kernel) (by decide +kernel), by decide +kernel⟩
theorem oi_X4_open : okI mX4_open 1 := ⟨ok_X4_open, rfl, lw_in 158 (by decide +kernel) (by decide +kernel), by decide +kernel⟩
theorem ov_X4_open : okV mX4_open 1 := ⟨oi_X4_open, lw_in 159 (by decide +kernel) (by decide +kernel), by decide⟩
theorem oi_X3_init : okI mX3_init 2 := ⟨ok_X3_init, rfl, lw_in 234 (by decide +kernel) (by decide +kernel), by decide +kernel⟩
theorem oi_Jx4a65c_add_9ea2d : okI mJx4a65c_add_9ea2d 1 := ⟨ok_Jx4a65c_add_9ea2d, rfl, lw_in 265 (by decide +kernel) (by decide +kernel), by decide +kernel⟩
theorem ov_Jx4a65c_add_9ea2d : okV mJx4a65c_add_9ea2d 1 := ⟨oi_Jx4a65c_add_9ea2d, lw_in 266 (by decide +kernel) (by decide +kernel), by decide⟩
theorem oi_Jx4a65c_add_72be8 : okI mJx4a65c_add_72be8 3 := ⟨ok_Jx4a65c_add_72be8, rfl, lw_in 270 (by decide +kernel) (by decide +kernel), by decide +kernel⟩
theorem ov_Jx4a65c_add_72be8 : okV mJx4a65c_add_72be8 3 := ⟨oi_Jx4a65c_add_72be8, lw_in 1 (by decide +kernel) (by decide +kernel), by decide⟩
theorem oi_Jx4a65c_grow_d5877 : okI mJx4a65c_grow_d5877 0 := ⟨ok_Jx4a65c_grow_d5877, rfl, lw_in 274 (by decide +kernel) (by decide +kernel), by decide +kernel⟩
theorem ov_Jx4a65c_grow_d5877 : okV mJx4a65c_grow_d5877 0 := ⟨oi_Jx4a65c_grow_d5877, lw_in 2 (by decide +kernel) (by decide +kernel), by decide⟩
theorem oi_Jx4a65c_grow_92f84 : okI mJx4a65c_grow_92f84 1 := ⟨ok_Jx4a65c_grow_92f84, rfl, lw_in 278 (by decide +kernel) (by decide +kernel), by decide +kernel⟩
theorem ov_Jx4a65c_grow_92f84 : okV mJx4a65c_grow_92f84 1 := ⟨oi_Jx4a65c_grow_92f84, lw_in 3 (by decide +kernel) (by decide +kernel), by decide⟩
theorem os_J8_newLength_cabcc : okSt mJ8_newLength_cabcc 3 := ⟨ok_J8_newLength_cabcc, lw_in 281 (by decide +kernel) (by decide +kernel), by decide +kernel⟩
theorem os_J8_hugeLength_7cf53 : okSt mJ8_hugeLength_7cf53 2 := ⟨ok_J8_hugeLength_7cf53, lw_in 288 (by decide +kernel) (by decide +kernel), by decide +kernel⟩
theorem os_J7_copyOf_1904c : okSt mJ7_copyOf_1904c 2 := ⟨ok_J7_copyOf_1904c, lw_in 291 (by decide +kernel) (by decide +kernel), by decide +kernel⟩
theorem os_J7_copyOf_6403c : okSt mJ7_copyOf_6403c 3 := ⟨ok_J7_copyOf_6403c, lw_in 309 (by decide +kernel) (by decide +kernel), by decide +kernel⟩
theorem os_L_drop : okSt mL_drop 2 := ⟨ok_L_drop, lw_in 323 (by decide +kernel) (by decide +kernel), by decide +kernel⟩
theorem oi_X4_drop : okI mX4_drop 1 := ⟨ok_X4_drop, rfl, lw_in 327 (by decide +kernel) (by decide +kernel), by decide +kernel⟩
theorem ov_X4_drop : okV mX4_drop 1 := ⟨oi_X4_drop, lw_in 328 (by decide +kernel) (by decide +kernel), by decide⟩
theorem oi_X4_sessionNumbered : okI mX4_sessionNumbered 1 := ⟨ok_X4_sessionNumbered, rfl, lw_in 332 (by decide +kernel) (by decide +kernel), by decide +kernel⟩
theorem ov_X4_sessionNumbered : okV mX4_sessionNumbered 1 := ⟨oi_X4_sessionNumbered, lw_in 4 (by decide +kernel) (by decide +kernel), by decide⟩
theorem oi_Jx4a65c_get_915e3 : okI mJx4a65c_get_915e3 1 := ⟨ok_Jx4a65c_get_915e3, rfl, lw_in 351 (by decide +kernel) (by decide +kernel), by decide +kernel⟩
theorem ov_Jx4a65c_get_915e3 : okV mJx4a65c_get_915e3 1 := ⟨oi_Jx4a65c_get_915e3, lw_in 352 (by decide +kernel) (by decide +kernel), by decide⟩
theorem os_J15_checkIndex_7cf53 : okSt mJ15_checkIndex_7cf53 2 := ⟨ok_J15_checkIndex_7cf53, lw_in 355 (by decide +kernel) (by decide +kernel), by decide +kernel⟩
theorem os_J3_checkIndex_8e157 : okSt mJ3_checkIndex_8e157 3 := ⟨ok_J3_checkIndex_8e157, lw_in 358 (by decide +kernel) (by decide +kernel), by decide +kernel⟩
theorem oi_Jx4a65c_elementData_915e3 : okI mJx4a65c_elementData_915e3 1 := ⟨ok_Jx4a65c_elementData_915e3, rfl, lw_in 361 (by decide +kernel) (by decide +kernel), by decide +kernel⟩
theorem ov_Jx4a65c_elementData_915e3 : okV mJx4a65c_elementData_915e3 1 := ⟨oi_Jx4a65c_elementData_915e3, lw_in 362 (by decide +kernel) (by decide +kernel), by decide⟩
theorem os_X4_canBeStopped : okSt mX4_canBeStopped 1 := ⟨ok_X4_canBeStopped, lw_in 366 (by decide +kernel) (by decide +kernel), by decide +kernel⟩
theorem oi_X4_pause : okI mX4_pause 1 := ⟨ok_X4_pause, rfl, lw_in 370 (by decide +kernel) (by decide +kernel), by decide +kernel⟩
theorem ov_X4_pause : okV mX4_pause 1 := ⟨oi_X4_pause, lw_in 5 (by decide +kernel) (by decide +kernel), by decide⟩
theorem oi_X4_leaveOrder : okI mX4_leaveOrder 1 := ⟨ok_X4_leaveOrder, rfl, lw_in 374 (by decide +kernel) (by decide +kernel), by decide +kernel⟩
theorem ov_X4_leaveOrder : okV mX4_leaveOrder 1 := ⟨oi_X4_leaveOrder, lw_in 6 (by decide +kernel) (by decide +kernel), by decide⟩
theorem oi_Jx4a65c_remove_915e3 : okI mJx4a65c_remove_915e3 1 := ⟨ok_Jx4a65c_remove_915e3, rfl, lw_in 377 (by decide +kernel) (by decide +kernel), by decide +kernel⟩
theorem ov_Jx4a65c_remove_915e3 : okV mJx4a65c_remove_915e3 1 := ⟨oi_Jx4a65c_remove_915e3, lw_in 378 (by decide +kernel) (by decide +kernel), by decide⟩
theorem oi_Jx4a65c_fastRemove_b59b0 : okI mJx4a65c_fastRemove_b59b0 2 := ⟨ok_Jx4a65c_fastRemove_b59b0, rfl, lw_in 382 (by decide +kernel) (by decide +kernel), by decide +kernel⟩
theorem ov_Jx4a65c_fastRemove_b59b0 : okV mJx4a65c_fastRemove_b59b0 2 := ⟨oi_Jx4a65c_fastRemove_b59b0, lw_in 7 (by decide +kernel) (by decide +kernel), by decide⟩
theorem oi_X4_comeInto : okI mX4_comeInto 2 := ⟨ok_X4_comeInto, rfl, lw_in 387 (by decide +kernel) (by decide +kernel), by decide +kernel⟩
theorem ov_X4_comeInto : okV mX4_comeInto 2 := ⟨oi_X4_comeInto, lw_in 8 (by decide +kernel) (by decide +kernel), by decide⟩
theorem oi_X2_write : okI mX2_write 2 := ⟨ok_X2_write, rfl, lw_in 390 (by decide +kernel) (by decide +kernel), by decide +kernel⟩
theorem ov_X2_write : okV mX2_write 2 := ⟨oi_X2_write, lw_in 391 (by decide +kernel) (by decide +kernel), by decide⟩
theorem os_J7_copyOf_59c91 : okSt mJ7_copyOf_59c91 2 := ⟨ok_J7_copyOf_59c91, lw_in 395 (by decide +kernel) (by decide +kernel), by decide +kernel⟩
theorem oi_X4_lookAtOrder : okI mX4_lookAtOrder 0 := ⟨ok_X4_lookAtOrder, rfl, lw_in 406 (by decide +kernel) (by decide +kernel), by decide +kernel⟩
theorem ov_X4_lookAtOrder : okV mX4_lookAtOrder 0 := ⟨oi_X4_lookAtOrder, lw_in 9 (by decide +kernel) (by decide +kernel), by decide⟩
theorem oi_X4_locksAreFreeFor : okI mX4_locksAreFreeFor 1 := ⟨ok_X4_locksAreFreeFor, rfl, lw_in 411 (by decide +kernel) (by decide +kernel), by decide +kernel⟩
theorem ov_X4_locksAreFreeFor : okV mX4_locksAreFreeFor 1 := ⟨oi_X4_locksAreFreeFor, lw_in 10 (by decide +kernel) (by decide +kernel), by decide⟩
theorem oi_X1_needs : okI mX1_needs 1 := ⟨ok_X1_needs, rfl, lw_in 414 (by decide +kernel) (by decide +kernel), by decide +kernel⟩
theorem ov_X1_needs : okV mX1_needs 1 := ⟨oi_X1_needs, lw_in 415 (by decide +kernel) (by decide +kernel), by decide⟩
theorem oi_X4_setHolder : okI mX4_setHolder 2 := ⟨ok_X4_setHolder, rfl, lw_in 419 (by decide +kernel) (by decide +kernel), by decide +kernel⟩
theorem ov_X4_setHolder : okV mX4_setHolder 2 := ⟨oi_X4_setHolder, lw_in 11 (by decide +kernel) (by decide +kernel), by decide⟩
theorem os_L_takeUp : okSt mL_takeUp 2 := ⟨ok_L_takeUp, lw_in 422 (by decide +kernel) (by decide +kernel), by decide +kernel⟩
theorem oi_X4_takeUp : okI mX4_takeUp 1 := ⟨ok_X4_takeUp, rfl, lw_in 425 (by decide +kernel) (by decide +kernel), by decide +kernel⟩
theorem ov_X4_takeUp : okV mX4_takeUp 1 := ⟨oi_X4_takeUp, lw_in 426 (by decide +kernel) (by decide +kernel), by decide⟩
theorem os_X4_canGoOn : okSt mX4_canGoOn 1 := ⟨ok_X4_canGoOn, lw_in 430 (by decide +kernel) (by decide +kernel), by decide +kernel⟩
theorem oi_X4_resume : okI mX4_resume 1 := ⟨ok_X4_resume, rfl, lw_in 434 (by decide +kernel) (by decide +kernel), by decide +kernel⟩
theorem ov_X4_resume : okV mX4_resume 1 := ⟨oi_X4_resume, lw_in 12 (by decide +kernel) (by decide +kernel), by decide⟩
theorem oi_X4_waitForLocks : okI mX4_waitForLocks 1 := ⟨ok_X4_waitForLocks, rfl, lw_in 438 (by decide +kernel) (by decide +kernel), by decide +kernel⟩
theorem ov_X4_waitForLocks : okV mX4_waitForLocks 1 := ⟨oi_X4_waitForLocks, lw_in 13 (by decide +kernel) (by decide +kernel), by decide⟩
theorem os_L_isAttached : okSt mL_isAttached 2 := ⟨ok_L_isAttached, lw_in 441 (by decide +kernel) (by decide +kernel), by decide +kernel⟩
theorem oi_X4_isAttached : okI mX4_isAttached 1 := ⟨ok_X4_isAttached, rfl, lw_in 444 (by decide +kernel) (by decide +kernel), by decide +kernel⟩
theorem ov_X4_isAttached : okV mX4_isAttached 1 := ⟨oi_X4_isAttached, lw_in 445 (by decide +kernel) (by decide +kernel), by decide⟩
theorem os_L_kept : okSt mL_kept 2 := ⟨ok_L_kept, lw_in 448 (by decide +kernel) (by decide +kernel), by decide +kernel⟩
theorem oi_X4_kept : okI mX4_kept 1 := ⟨ok_X4_kept, rfl, lw_in 451 (by decide +kernel) (by decide +kernel), by decide +kernel⟩
theorem ov_X4_kept : okV mX4_kept 1 := ⟨oi_X4_kept, lw_in 452 (by decide +kernel) (by decide +kernel), by decide⟩
theorem os_L_commandAt : okSt mL_commandAt 3 := ⟨ok_L_commandAt, lw_in 455 (by decide +kernel) (by decide +kernel), by decide +kernel⟩
theorem oi_X4_commandAt : okI mX4_commandAt 2 := ⟨ok_X4_commandAt, rfl, lw_in 459 (by decide +kernel) (by decide +kernel), by decide +kernel⟩
theorem ov_X4_commandAt : okV mX4_commandAt 2 := ⟨oi_X4_commandAt, lw_in 460 (by decide +kernel) (by decide +kernel), by decide⟩
theorem os_X4_commandOf : okSt mX4_commandOf 2 := ⟨ok_X4_commandOf, lw_in 463 (by decide +kernel) (by decide +kernel), by decide +kernel⟩
theorem os_L_search : okSt mL_search 4 := ⟨ok_L_search, lw_in 482 (by decide +kernel) (by decide +kernel), by decide +kernel⟩
theorem oi_X4_search : okI mX4_search 3 := ⟨ok_X4_search, rfl, lw_in 486 (by decide +kernel) (by decide +kernel), by decide +kernel⟩
theorem ov_X4_search : okV mX4_search 3 := ⟨oi_X4_search, lw_in 487 (by decide +kernel) (by decide +kernel), by decide⟩
theorem oi_X0_lastBetween : okI mX0_lastBetween 2 := ⟨ok_X0_lastBetween, rfl, lw_in 506 (by decide +kernel) (by decide +kernel), by decide +kernel⟩
theorem ov_X0_lastBetween : okV mX0_lastBetween 2 := ⟨oi_X0_lastBetween, lw_in 507 (by decide +kernel) (by decide +kernel), by decide⟩
theorem os_L_start : okSt mL_start 6 := ⟨ok_L_start, lw_in 511 (by decide +kernel) (by decide +kernel), by decide +kernel⟩
theorem oi_X4_start : okI mX4_start 5 := ⟨ok_X4_start, rfl, lw_in 515 (by decide +kernel) (by decide +kernel), by decide +kernel⟩
theorem ov_X4_start : okV mX4_start 5 := ⟨oi_X4_start, lw_in 516 (by decide +kernel) (by decide +kernel), by decide⟩
theorem os_X4_isCommand : okSt mX4_isCommand 1 := ⟨ok_X4_isCommand, lw_in 519 (by decide +kernel) (by decide +kernel), by decide +kernel⟩
theorem os_X4_isWork : okSt mX4_isWork 1 := ⟨ok_X4_isWork, lw_in 522 (by decide +kernel) (by decide +kernel), by decide +kernel⟩
theorem os_X4_areLocks : okSt mX4_areLocks 1 := ⟨ok_X4_areLocks, lw_in 525 (by decide +kernel) (by decide +kernel), by decide +kernel⟩
theorem oi_X1_init : okI mX1_init 4 := ⟨ok_X1_init, rfl, lw_in 546 (by decide +kernel) (by decide +kernel), by decide +kernel⟩
theorem oi_X4_remember : okI mX4_remember 2 := ⟨ok_X4_remember, rfl, lw_in 580 (by decide +kernel) (by decide +kernel), by decide +kernel⟩
theorem ov_X4_remember : okV mX4_remember 2 := ⟨oi_X4_remember, lw_in 14 (by decide +kernel) (by decide +kernel), by decide⟩
theorem oi_X0_append : okI mX0_append 1 := ⟨ok_X0_append, rfl, lw_in 583 (by decide +kernel) (by decide +kernel), by decide +kernel⟩
theorem ov_X0_append : okV mX0_append 1 := ⟨oi_X0_append, lw_in 584 (by decide +kernel) (by decide +kernel), by decide⟩
theorem oi_X0_takeOut : okI mX0_takeOut 1 := ⟨ok_X0_takeOut, rfl, lw_in 588 (by decide +kernel) (by decide +kernel), by decide +kernel⟩
theorem ov_X0_takeOut : okV mX0_takeOut 1 := ⟨oi_X0_takeOut, lw_in 15 (by decide +kernel) (by decide +kernel), by decide⟩
theorem oi_X0_forget : okI mX0_forget 1 := ⟨ok_X0_forget, rfl, lw_in 591 (by decide +kernel) (by decide +kernel), by decide +kernel⟩
theorem ov_X0_forget : okV mX0_forget 1 := ⟨oi_X0_forget, lw_in 592 (by decide +kernel) (by decide +kernel), by decide⟩
theorem os_L_state : okSt mL_state 2 := ⟨ok_L_state, lw_in 595 (by decide +kernel) (by decide +kernel), by decide +kernel⟩
theorem oi_X4_state : okI mX4_state 1 := ⟨ok_X4_state, rfl, lw_in 598 (by decide +kernel) (by decide +kernel), by decide +kernel⟩
theorem ov_X4_state : okV mX4_state 1 := ⟨oi_X4_state, lw_in 599 (by decide +kernel) (by decide +kernel), by decide⟩
theorem oi_X4_jobNumbered : okI mX4_jobNumbered 1 := ⟨ok_X4_jobNumbered, rfl, lw_in 603 (by decide +kernel) (by decide +kernel), by decide +kernel⟩
theorem ov_X4_jobNumbered : okV mX4_jobNumbered 1 := ⟨oi_X4_jobNumbered, lw_in 16 (by decide +kernel) (by decide +kernel), by decide⟩
theorem os_L_sessionOf : okSt mL_sessionOf 2 := ⟨ok_L_sessionOf, lw_in 607 (by decide +kernel) (by decide +kernel), by decide +kernel⟩
theorem oi_X4_sessionOf : okI mX4_sessionOf 1 := ⟨ok_X4_sessionOf, rfl, lw_in 610 (by decide +kernel) (by decide +kernel), by decide +kernel⟩
theorem ov_X4_sessionOf : okV mX4_sessionOf 1 := ⟨oi_X4_sessionOf, lw_in 611 (by decide +kernel) (by decide +kernel), by decide⟩
theorem os_L_front : okSt mL_front 2 := ⟨ok_L_front, lw_in 614 (by decide +kernel) (by decide +kernel), by decide +kernel⟩
theorem oi_X4_front : okI mX4_front 1 := ⟨ok_X4_front, rfl, lw_in 617 (by decide +kernel) (by decide +kernel), by decide +kernel⟩
theorem ov_X4_front : okV mX4_front 1 := ⟨oi_X4_front, lw_in 618 (by decide +kernel) (by decide +kernel), by decide⟩
theorem os_X4_jobInFrontOf : okSt mX4_jobInFrontOf 1 := ⟨ok_X4_jobInFrontOf, lw_in 621 (by decide +kernel) (by decide +kernel), by decide +kernel⟩
theorem os_L_toFront : okSt mL_toFront 2 := ⟨ok_L_toFront, lw_in 625 (by decide +kernel) (by decide +kernel), by decide +kernel⟩
theorem oi_X4_toFront : okI mX4_toFront 1 := ⟨ok_X4_toFront, rfl, lw_in 628 (by decide +kernel) (by decide +kernel), by decide +kernel⟩
theorem ov_X4_toFront : okV mX4_toFront 1 := ⟨oi_X4_toFront, lw_in 629 (by decide +kernel) (by decide +kernel), by decide⟩
theorem os_X4_isOver : okSt mX4_isOver 1 := ⟨ok_X4_isOver, lw_in 633 (by decide +kernel) (by decide +kernel), by decide +kernel⟩
theorem os_L_toBack : okSt mL_toBack 2 := ⟨ok_L_toBack, lw_in 637 (by decide +kernel) (by decide +kernel), by decide +kernel⟩
theorem oi_X4_toBack : okI mX4_toBack 1 := ⟨ok_X4_toBack, rfl, lw_in 640 (by decide +kernel) (by decide +kernel), by decide +kernel⟩
theorem ov_X4_toBack : okV mX4_toBack 1 := ⟨oi_X4_toBack, lw_in 641 (by decide +kernel) (by decide +kernel), by decide⟩
theorem os_L_count : okSt mL_count 3 := ⟨ok_L_count, lw_in 644 (by decide +kernel) (by decide +kernel), by decide +kernel⟩
theorem oi_X4_count : okI mX4_count 2 := ⟨ok_X4_count, rfl, lw_in 647 (by decide +kernel) (by decide +kernel), by decide +kernel⟩
theorem ov_X4_count : okV mX4_count 2 := ⟨oi_X4_count, lw_in 648 (by decide +kernel) (by decide +kernel), by decide⟩
theorem os_X4_isState : okSt mX4_isState 1 := ⟨ok_X4_isState, lw_in 651 (by decide +kernel) (by decide +kernel), by decide +kernel⟩
theorem os_L_holds : okSt mL_holds 2 := ⟨ok_L_holds, lw_in 655 (by decide +kernel) (by decide +kernel), by decide +kernel⟩
theorem oi_X4_holds : okI mX4_holds 1 := ⟨ok_X4_holds, rfl, lw_in 658 (by decide +kernel) (by decide +kernel), by decide +kernel⟩
theorem ov_X4_holds : okV mX4_holds 1 := ⟨oi_X4_holds, lw_in 659 (by decide +kernel) (by decide +kernel), by decide⟩
theorem os_L_waitingAt : okSt mL_waitingAt 2 := ⟨ok_L_waitingAt, lw_in 662 (by decide +kernel) (by decide +kernel), by decide +kernel⟩
theorem oi_X4_waitingAt : okI mX4_waitingAt 1 := ⟨ok_X4_waitingAt, rfl, lw_in 665 (by decide +kernel) (by decide +kernel), by decide +kernel⟩
theorem ov_X4_waitingAt : okV mX4_waitingAt 1 := ⟨oi_X4_waitingAt, lw_in 666 (by decide +kernel) (by decide +kernel), by decide⟩
theorem os_L_stop : okSt mL_stop 2 := ⟨ok_L_stop, lw_in 670 (by decide +kernel) (by decide +kernel), by decide +kernel⟩
theorem oi_X4_stop : okI mX4_stop 1 := ⟨ok_X4_stop, rfl, lw_in 673 (by decide +kernel) (by decide +kernel), by decide +kernel⟩
theorem ov_X4_stop : okV mX4_stop 1 := ⟨oi_X4_stop, lw_in 674 (by decide +kernel) (by decide +kernel), by decide⟩
theorem os_L_goOn : okSt mL_goOn 2 := ⟨ok_L_goOn, lw_in 678 (by decide +kernel) (by decide +kernel), by decide +kernel⟩
theorem oi_X4_goOn : okI mX4_goOn 1 := ⟨ok_X4_goOn, rfl, lw_in 681 (by decide +kernel) (by decide +kernel), by decide +kernel⟩
theorem ov_X4_goOn : okV mX4_goOn 1 := ⟨oi_X4_goOn, lw_in 682 (by decide +kernel) (by decide +kernel), by decide⟩
theorem os_L_end : okSt mL_end 2 := ⟨ok_L_end, lw_in 686 (by decide +kernel) (by decide +kernel), by decide +kernel⟩
theorem oi_X4_end : okI mX4_end 1 := ⟨ok_X4_end, rfl, lw_in 689 (by decide +kernel) (by decide +kernel), by decide +kernel⟩
theorem ov_X4_end : okV mX4_end 1 := ⟨oi_X4_end, lw_in 690 (by decide +kernel) (by decide +kernel), by decide⟩
theorem oi_X4_finish : okI mX4_finish 2 := ⟨ok_X4_finish, rfl, lw_in 694 (by decide +kernel) (by decide +kernel), by decide +kernel⟩
theorem ov_X4_finish : okV mX4_finish 2 := ⟨oi_X4_finish, lw_in 17 (by decide +kernel) (by decide +kernel), by decide⟩
theorem os_L_signal : okSt mL_signal 3 := ⟨ok_L_signal, lw_in 697 (by decide +kernel) (by decide +kernel), by decide +kernel⟩
theorem oi_X4_signal : okI mX4_signal 2 := ⟨ok_X4_signal, rfl, lw_in 700 (by decide +kernel) (by decide +kernel), by decide +kernel⟩
theorem ov_X4_signal : okV mX4_signal 2 := ⟨oi_X4_signal, lw_in 701 (by decide +kernel) (by decide +kernel), by decide⟩
theorem oi_X4_obeys : okI mX4_obeys 2 := ⟨ok_X4_obeys, rfl, lw_in 706 (by decide +kernel) (by decide +kernel), by decide +kernel⟩
theorem ov_X4_obeys : okV mX4_obeys 2 := ⟨oi_X4_obeys, lw_in 18 (by decide +kernel) (by decide +kernel), by decide⟩
theorem os_L_tick : okSt mL_tick 2 := ⟨ok_L_tick, lw_in 709 (by decide +kernel) (by decide +kernel), by decide +kernel⟩
theorem oi_X4_tick : okI mX4_tick 1 := ⟨ok_X4_tick, rfl, lw_in 712 (by decide +kernel) (by decide +kernel), by decide +kernel⟩
theorem ov_X4_tick : okV mX4_tick 1 := ⟨oi_X4_tick, lw_in 713 (by decide +kernel) (by decide +kernel), by decide⟩
theorem oi_X4_passOneTick : okI mX4_passOneTick 0 := ⟨ok_X4_passOneTick, rfl, lw_in 718 (by decide +kernel) (by decide +kernel), by decide +kernel⟩
theorem ov_X4_passOneTick : okV mX4_passOneTick 0 := ⟨oi_X4_passOneTick, lw_in 19 (by decide +kernel) (by decide +kernel), by decide⟩
theorem oi_X4_workIsDone : okI mX4_workIsDone 1 := ⟨ok_X4_workIsDone, rfl, lw_in 722 (by decide +kernel) (by decide +kernel), by decide +kernel⟩
theorem ov_X4_workIsDone : okV mX4_workIsDone 1 := ⟨oi_X4_workIsDone, lw_in 20 (by decide +kernel) (by decide +kernel), by decide⟩
theorem os_L_ofSession : okSt mL_ofSession 3 := ⟨ok_L_ofSession, lw_in 725 (by decide +kernel) (by decide +kernel), by decide +kernel⟩
theorem os_L_done : okSt mL_done 2 := ⟨ok_L_done, lw_in 728 (by decide +kernel) (by decide +kernel), by decide +kernel⟩
theorem os_L_sum : okSt mL_sum 2 := ⟨ok_L_sum, lw_in 731 (by decide +kernel) (by decide +kernel), by decide +kernel⟩
theorem oi_X4_entries : okI mX4_entries 0 := ⟨ok_X4_entries, rfl, lw_in 734 (by decide +kernel) (by decide +kernel), by decide +kernel⟩
theorem ov_X4_entries : okV mX4_entries 0 := ⟨oi_X4_entries, lw_in 735 (by decide +kernel) (by decide +kernel), by decide⟩
theorem oi_X4_worked : okI mX4_worked 0 := ⟨ok_X4_worked, rfl, lw_in 739 (by decide +kernel) (by decide +kernel), by decide +kernel⟩
theorem ov_X4_worked : okV mX4_worked 0 := ⟨oi_X4_worked, lw_in 740 (by decide +kernel) (by decide +kernel), by decide⟩
theorem oi_X4_common : okI mX4_common 0 := ⟨ok_X4_common, rfl, lw_in 745 (by decide +kernel) (by decide +kernel), by decide +kernel⟩
theorem ov_X4_common : okV mX4_common 0 := ⟨oi_X4_common, lw_in 746 (by decide +kernel) (by decide +kernel), by decide⟩
theorem os_L_holder : okSt mL_holder 2 := ⟨ok_L_holder, lw_in 752 (by decide +kernel) (by decide +kernel), by decide +kernel⟩
theorem oi_X4_holder : okI mX4_holder 1 := ⟨ok_X4_holder, rfl, lw_in 755 (by decide +kernel) (by decide +kernel), by decide +kernel⟩
theorem ov_X4_holder : okV mX4_holder 1 := ⟨oi_X4_holder, lw_in 756 (by decide +kernel) (by decide +kernel), by decide⟩
theorem os_X4_refuseNoLock : okSt mX4_refuseNoLock 1 := ⟨ok_X4_refuseNoLock, lw_in 759 (by decide +kernel) (by decide +kernel), by decide +kernel⟩
theorem os_L_areJobs : okSt mL_areJobs 4 := ⟨ok_L_areJobs, lw_in 763 (by decide +kernel) (by decide +kernel), by decide +kernel⟩
theorem os_L_toDo : okSt mL_toDo 2 := ⟨ok_L_toDo, lw_in 766 (by decide +kernel) (by decide +kernel), by decide +kernel⟩
theorem oi_X4_toDo : okI mX4_toDo 1 := ⟨ok_X4_toDo, rfl, lw_in 769 (by decide +kernel) (by decide +kernel), by decide +kernel⟩
theorem ov_X4_toDo : okV mX4_toDo 1 := ⟨oi_X4_toDo, lw_in 770 (by decide +kernel) (by decide +kernel), by decide⟩
theorem os_L_stateByJournal : okSt mL_stateByJournal 2 := ⟨ok_L_stateByJournal, lw_in 773 (by decide +kernel) (by decide +kernel), by decide +kernel⟩
theorem oi_X4_stateByJournal : okI mX4_stateByJournal 1 := ⟨ok_X4_stateByJournal, rfl, lw_in 776 (by decide +kernel) (by decide +kernel), by decide +kernel⟩
theorem ov_X4_stateByJournal : okV mX4_stateByJournal 1 := ⟨oi_X4_stateByJournal, lw_in 777 (by decide +kernel) (by decide +kernel), by decide⟩
theorem oi_X2_lastStateOf : okI mX2_lastStateOf 1 := ⟨ok_X2_lastStateOf, rfl, lw_in 780 (by decide +kernel) (by decide +kernel), by decide +kernel⟩
theorem ov_X2_lastStateOf : okV mX2_lastStateOf 1 := ⟨oi_X2_lastStateOf, lw_in 781 (by decide +kernel) (by decide +kernel), by decide⟩
theorem oi_X2_conditionAt : okI mX2_conditionAt 1 := ⟨ok_X2_conditionAt, rfl, lw_in 784 (by decide +kernel) (by decide +kernel), by decide +kernel⟩
theorem ov_X2_conditionAt : okV mX2_conditionAt 1 := ⟨oi_X2_conditionAt, lw_in 785 (by decide +kernel) (by decide +kernel), by decide⟩
theorem os_L_holderByJobs : okSt mL_holderByJobs 2 := ⟨ok_L_holderByJobs, lw_in 788 (by decide +kernel) (by decide +kernel), by decide +kernel⟩
theorem oi_X4_holderByJobs : okI mX4_holderByJobs 1 := ⟨ok_X4_holderByJobs, rfl, lw_in 791 (by decide +kernel) (by decide +kernel), by decide +kernel⟩
theorem ov_X4_holderByJobs : okV mX4_holderByJobs 1 := ⟨oi_X4_holderByJobs, lw_in 792 (by decide +kernel) (by decide +kernel), by decide⟩
theorem os_L_blockers : okSt mL_blockers 2 := ⟨ok_L_blockers, lw_in 795 (by decide +kernel) (by decide +kernel), by decide +kernel⟩
theorem oi_X4_blockers : okI mX4_blockers 1 := ⟨ok_X4_blockers, rfl, lw_in 798 (by decide +kernel) (by decide +kernel), by decide +kernel⟩
theorem ov_X4_blockers : okV mX4_blockers 1 := ⟨oi_X4_blockers, lw_in 799 (by decide +kernel) (by decide +kernel), by decide⟩
theorem os_L_doneShare : okSt mL_doneShare 1 := ⟨ok_L_doneShare, lw_in 803 (by decide +kernel) (by decide +kernel), by decide +kernel⟩
theorem oi_X4_doneShare : okI mX4_doneShare 0 := ⟨ok_X4_doneShare, rfl, lw_in 806 (by decide +kernel) (by decide +kernel), by decide +kernel⟩
theorem ov_X4_doneShare : okV mX4_doneShare 0 := ⟨oi_X4_doneShare, lw_in 807 (by decide +kernel) (by decide +kernel), by decide⟩
theorem os_L_areFronts : okSt mL_areFronts 4 := ⟨ok_L_areFronts, lw_in 812 (by decide +kernel) (by decide +kernel), by decide +kernel⟩
theorem os_L_commonAt : okSt mL_commonAt 2 := ⟨ok_L_commonAt, lw_in 815 (by decide +kernel) (by decide +kernel), by decide +kernel⟩
theorem oi_X4_commonAt : okI mX4_commonAt 1 := ⟨ok_X4_commonAt, rfl, lw_in 818 (by decide +kernel) (by decide +kernel), by decide +kernel⟩
theorem ov_X4_commonAt : okV mX4_commonAt 1 := ⟨oi_X4_commonAt, lw_in 819 (by decide +kernel) (by decide +kernel), by decide⟩
theorem os_L_isJournal : okSt mL_isJournal 2 := ⟨ok_L_isJournal, lw_in 822 (by decide +kernel) (by decide +kernel), by decide +kernel⟩
theorem os_L_entryJob : okSt mL_entryJob 2 := ⟨ok_L_entryJob, lw_in 825 (by decide +kernel) (by decide +kernel), by decide +kernel⟩
theorem oi_X4_entryJob : okI mX4_entryJob 1 := ⟨ok_X4_entryJob, rfl, lw_in 828 (by decide +kernel) (by decide +kernel), by decide +kernel⟩
theorem ov_X4_entryJob : okV mX4_entryJob 1 := ⟨oi_X4_entryJob, lw_in 829 (by decide +kernel) (by decide +kernel), by decide⟩
theorem oi_X4_refuseNoEntry : okI mX4_refuseNoEntry 1 := ⟨ok_X4_refuseNoEntry, rfl, lw_in 833 (by decide +kernel) (by decide +kernel), by decide +kernel⟩
theorem ov_X4_refuseNoEntry : okV mX4_refuseNoEntry 1 := ⟨oi_X4_refuseNoEntry, lw_in 21 (by decide +kernel) (by decide +kernel), by decide⟩
theorem os_L_entryState : okSt mL_entryState 2 := ⟨ok_L_entryState, lw_in 837 (by decide +kernel) (by decide +kernel), by decide +kernel⟩
theorem oi_X4_entryState : okI mX4_entryState 1 := ⟨ok_X4_entryState, rfl, lw_in 840 (by decide +kernel) (by decide +kernel), by decide +kernel⟩
theorem ov_X4_entryState : okV mX4_entryState 1 := ⟨oi_X4_entryState, lw_in 841 (by decide +kernel) (by decide +kernel), by decide⟩
theorem oc0_0 : okC 0 1 (1, 0, mJxc12de_init_da8c8) := ⟨lw_in 58 (by decide +kernel) (by decide +kernel), oi_Jxc12de_init_da8c8, rfl⟩
theorem oc0_1 : okC 0 66 (2, 2, mJ7_copyOf_1904c) := ⟨lw_in 290 (by decide +kernel) (by decide +kernel), os_J7_copyOf_1904c⟩
theorem oc0_2 : okC 0 69 (0, 1, mJx4a65c_grow_92f84) := ⟨lw_in 276 (by decide +kernel) (by decide +kernel), ov_Jx4a65c_grow_92f84⟩
theorem oc0_3 : okC 0 73 (2, 3, mJ8_newLength_cabcc) := ⟨lw_in 280 (by decide +kernel) (by decide +kernel), os_J8_newLength_cabcc⟩
theorem oc0_4 : okC 0 79 (5, 2, mZ) := lw_in 320 (by decide +kernel) (by decide +kernel)
theorem oc0_5 : okC 0 112 (7, 5, mZ) := lw_in 384 (by decide +kernel) (by decide +kernel)
theorem oc0_6 : okC 0 118 (2, 2, mJ15_checkIndex_7cf53) := ⟨lw_in 354 (by decide +kernel) (by decide +kernel), os_J15_checkIndex_7cf53⟩
theorem oc0_7 : okC 0 123 (0, 1, mJx4a65c_elementData_915e3) := ⟨lw_in 360 (by decide +kernel) (by decide +kernel), ov_Jx4a65c_elementData_915e3⟩
theorem oc0_8 : okC 0 129 (0, 0, mJx4a65c_grow_d5877) := ⟨lw_in 272 (by decide +kernel) (by decide +kernel), ov_Jx4a65c_grow_d5877⟩
theorem oc0_9 : okC 0 131 (0, 3, mJx4a65c_add_72be8) := ⟨lw_in 268 (by decide +kernel) (by decide +kernel), ov_Jx4a65c_add_72be8⟩
theorem oc0_10 : okC 0 144 (0, 2, mJx4a65c_fastRemove_b59b0) := ⟨lw_in 380 (by decide +kernel) (by decide +kernel), ov_Jx4a65c_fastRemove_b59b0⟩
set_option maxRecDepth 10000 in
theorem oc0 : ∀ x ∈ clT0, okC 0 x.1 x.2 := (List.forall_mem_cons.mpr ⟨oc0_0, (List.forall_mem_cons.mpr ⟨oc0_1, (List.forall_mem_cons.mpr ⟨oc0_2, (List.forall_mem_cons.mpr ⟨oc0_3, (List.forall_mem_cons.mpr ⟨oc0_4, (List.forall_mem_cons.mpr ⟨oc0_5, (List.forall_mem_cons.mpr ⟨oc0_6, (List.forall_mem_cons.mpr ⟨oc0_7, (List.forall_mem_cons.mpr ⟨oc0_8, (List.forall_mem_cons.mpr ⟨oc0_9, (List.forall_mem_cons.mpr ⟨oc0_10, (fun _ h => nomatch h)⟩)⟩)⟩)⟩)⟩)⟩)⟩)⟩)⟩)⟩)⟩)
theorem oc1_0 : okC 1 3 (3, 0, mZ) := lw_in 87 (by decide +kernel) (by decide +kernel)
theorem oc1_1 : okC 1 19 (0, 1, mX0_takeOut) := ⟨lw_in 586 (by decide +kernel) (by decide +kernel), ov_X0_takeOut⟩
set_option maxRecDepth 10000 in
theorem oc1 : ∀ x ∈ clT1, okC 1 x.1 x.2 := (List.forall_mem_cons.mpr ⟨oc1_0, (List.forall_mem_cons.mpr ⟨oc1_1, (fun _ h => nomatch h)⟩)⟩)
theorem oc2_0 : okC 2 3 (3, 0, mZ) := lw_in 548 (by decide +kernel) (by decide +kernel)
set_option maxRecDepth 10000 in
theorem oc2 : ∀ x ∈ clT2, okC 2 x.1 x.2 := (List.forall_mem_cons.mpr ⟨oc2_0, (fun _ h => nomatch h)⟩)
theorem oc3_0 : okC 3 3 (3, 0, mZ) := lw_in 103 (by decide +kernel) (by decide +kernel)
theorem oc3_1 : okC 3 22 (4, 2, mZ) := lw_in 393 (by decide +kernel) (by decide +kernel)
theorem oc3_2 : okC 3 28 (2, 2, mJ7_copyOf_59c91) := ⟨lw_in 394 (by decide +kernel) (by decide +kernel), os_J7_copyOf_59c91⟩
theorem oc3_3 : okC 3 34 (0, 1, mX2_conditionAt) := ⟨lw_in 783 (by decide +kernel) (by decide +kernel), ov_X2_conditionAt⟩
set_option maxRecDepth 10000 in
theorem oc3 : ∀ x ∈ clT3, okC 3 x.1 x.2 := (List.forall_mem_cons.mpr ⟨oc3_0, (List.forall_mem_cons.mpr ⟨oc3_1, (List.forall_mem_cons.mpr ⟨oc3_2, (List.forall_mem_cons.mpr ⟨oc3_3, (fun _ h => nomatch h)⟩)⟩)⟩)⟩)
theorem oc4_0 : okC 4 3 (3, 0, mZ) := lw_in 236 (by decide +kernel) (by decide +kernel)
theorem oc4_1 : okC 4 21 (1, 1, mX0_init) := ⟨lw_in 238 (by decide +kernel) (by decide +kernel), oi_X0_init, rfl⟩
set_option maxRecDepth 10000 in
theorem oc4 : ∀ x ∈ clT4, okC 4 x.1 x.2 := (List.forall_mem_cons.mpr ⟨oc4_0, (List.forall_mem_cons.mpr ⟨oc4_1, (fun _ h => nomatch h)⟩)⟩)
theorem oc5_0 : okC 5 1 (3, 0, mZ) := lw_in 50 (by decide +kernel) (by decide +kernel)
theorem oc5_1 : okC 5 9 (1, 0, mJx4a65c_init_da8c8) := ⟨lw_in 55 (by decide +kernel) (by decide +kernel), oi_Jx4a65c_init_da8c8, rfl⟩
theorem oc5_2 : okC 5 26 (2, 2, mJ7_fill_53178) := ⟨lw_in 79 (by decide +kernel) (by decide +kernel), os_J7_fill_53178⟩
theorem oc5_3 : okC 5 34 (1, 1, mX0_init) := ⟨lw_in 84 (by decide +kernel) (by decide +kernel), oi_X0_init, rfl⟩
theorem oc5_4 : okC 5 43 (1, 0, mX2_init) := ⟨lw_in 100 (by decide +kernel) (by decide +kernel), oi_X2_init, rfl⟩
theorem oc5_5 : okC 5 52 (0, 0, mJx4a65c_size_8abf5) := ⟨lw_in 142 (by decide +kernel) (by decide +kernel), ov_Jx4a65c_size_8abf5⟩
theorem oc5_6 : okC 5 65 (1, 2, mX3_init) := ⟨lw_in 233 (by decide +kernel) (by decide +kernel), oi_X3_init, rfl⟩
theorem oc5_7 : okC 5 68 (0, 1, mJx4a65c_add_9ea2d) := ⟨lw_in 264 (by decide +kernel) (by decide +kernel), ov_Jx4a65c_add_9ea2d⟩
theorem oc5_8 : okC 5 72 (0, 1, mX4_sessionNumbered) := ⟨lw_in 330 (by decide +kernel) (by decide +kernel), ov_X4_sessionNumbered⟩
theorem oc5_9 : okC 5 89 (2, 1, mX4_canBeStopped) := ⟨lw_in 365 (by decide +kernel) (by decide +kernel), os_X4_canBeStopped⟩
theorem oc5_10 : okC 5 93 (0, 1, mX4_pause) := ⟨lw_in 368 (by decide +kernel) (by decide +kernel), ov_X4_pause⟩
theorem oc5_11 : okC 5 108 (2, 1, mX4_canGoOn) := ⟨lw_in 429 (by decide +kernel) (by decide +kernel), os_X4_canGoOn⟩
theorem oc5_12 : okC 5 111 (0, 1, mX4_resume) := ⟨lw_in 432 (by decide +kernel) (by decide +kernel), ov_X4_resume⟩
theorem oc5_13 : okC 5 119 (2, 2, mX4_commandOf) := ⟨lw_in 462 (by decide +kernel) (by decide +kernel), os_X4_commandOf⟩
theorem oc5_14 : okC 5 128 (0, 2, mX0_lastBetween) := ⟨lw_in 505 (by decide +kernel) (by decide +kernel), ov_X0_lastBetween⟩
theorem oc5_15 : okC 5 137 (2, 1, mX4_isCommand) := ⟨lw_in 518 (by decide +kernel) (by decide +kernel), os_X4_isCommand⟩
theorem oc5_16 : okC 5 141 (2, 1, mX4_isWork) := ⟨lw_in 521 (by decide +kernel) (by decide +kernel), os_X4_isWork⟩
theorem oc5_17 : okC 5 144 (2, 1, mX4_areLocks) := ⟨lw_in 524 (by decide +kernel) (by decide +kernel), os_X4_areLocks⟩
theorem oc5_18 : okC 5 154 (1, 4, mX1_init) := ⟨lw_in 545 (by decide +kernel) (by decide +kernel), oi_X1_init, rfl⟩
theorem oc5_19 : okC 5 157 (0, 2, mX4_remember) := ⟨lw_in 578 (by decide +kernel) (by decide +kernel), ov_X4_remember⟩
theorem oc5_20 : okC 5 161 (0, 1, mX4_waitForLocks) := ⟨lw_in 436 (by decide +kernel) (by decide +kernel), ov_X4_waitForLocks⟩
theorem oc5_21 : okC 5 164 (0, 1, mX4_jobNumbered) := ⟨lw_in 601 (by decide +kernel) (by decide +kernel), ov_X4_jobNumbered⟩
theorem oc5_22 : okC 5 172 (0, 1, mX2_lastStateOf) := ⟨lw_in 779 (by decide +kernel) (by decide +kernel), ov_X2_lastStateOf⟩
theorem oc5_23 : okC 5 184 (2, 1, mX4_jobInFrontOf) := ⟨lw_in 620 (by decide +kernel) (by decide +kernel), os_X4_jobInFrontOf⟩
theorem oc5_24 : okC 5 190 (2, 1, mX4_isOver) := ⟨lw_in 632 (by decide +kernel) (by decide +kernel), os_X4_isOver⟩
theorem oc5_25 : okC 5 195 (2, 1, mX4_isState) := ⟨lw_in 650 (by decide +kernel) (by decide +kernel), os_X4_isState⟩
theorem oc5_26 : okC 5 201 (0, 1, mJx4a65c_get_915e3) := ⟨lw_in 350 (by decide +kernel) (by decide +kernel), ov_Jx4a65c_get_915e3⟩
theorem oc5_27 : okC 5 205 (2, 1, mX4_refuseNoLock) := ⟨lw_in 758 (by decide +kernel) (by decide +kernel), os_X4_refuseNoLock⟩
theorem oc5_28 : okC 5 211 (0, 1, mX1_needs) := ⟨lw_in 413 (by decide +kernel) (by decide +kernel), ov_X1_needs⟩
theorem oc5_29 : okC 5 225 (0, 2, mX4_finish) := ⟨lw_in 692 (by decide +kernel) (by decide +kernel), ov_X4_finish⟩
theorem oc5_30 : okC 5 231 (0, 2, mX4_obeys) := ⟨lw_in 704 (by decide +kernel) (by decide +kernel), ov_X4_obeys⟩
theorem oc5_31 : okC 5 237 (0, 0, mX4_passOneTick) := ⟨lw_in 716 (by decide +kernel) (by decide +kernel), ov_X4_passOneTick⟩
theorem oc5_32 : okC 5 241 (0, 1, mX4_refuseNoEntry) := ⟨lw_in 831 (by decide +kernel) (by decide +kernel), ov_X4_refuseNoEntry⟩
theorem oc5_33 : okC 5 247 (0, 1, mX2_conditionAt) := ⟨lw_in 843 (by decide +kernel) (by decide +kernel), ov_X2_conditionAt⟩
theorem oc5_34 : okC 5 270 (0, 1, mX0_append) := ⟨lw_in 582 (by decide +kernel) (by decide +kernel), ov_X0_append⟩
theorem oc5_35 : okC 5 273 (0, 1, mX0_forget) := ⟨lw_in 590 (by decide +kernel) (by decide +kernel), ov_X0_forget⟩
theorem oc5_36 : okC 5 276 (0, 2, mX2_write) := ⟨lw_in 389 (by decide +kernel) (by decide +kernel), ov_X2_write⟩
theorem oc5_37 : okC 5 280 (0, 2, mX4_comeInto) := ⟨lw_in 385 (by decide +kernel) (by decide +kernel), ov_X4_comeInto⟩
theorem oc5_38 : okC 5 283 (0, 0, mX4_lookAtOrder) := ⟨lw_in 404 (by decide +kernel) (by decide +kernel), ov_X4_lookAtOrder⟩
theorem oc5_39 : okC 5 286 (0, 1, mX4_leaveOrder) := ⟨lw_in 372 (by decide +kernel) (by decide +kernel), ov_X4_leaveOrder⟩
theorem oc5_40 : okC 5 289 (0, 2, mX4_setHolder) := ⟨lw_in 417 (by decide +kernel) (by decide +kernel), ov_X4_setHolder⟩
theorem oc5_41 : okC 5 296 (0, 1, mX4_workIsDone) := ⟨lw_in 720 (by decide +kernel) (by decide +kernel), ov_X4_workIsDone⟩
theorem oc5_42 : okC 5 299 (0, 1, mJx4a65c_remove_915e3) := ⟨lw_in 376 (by decide +kernel) (by decide +kernel), ov_Jx4a65c_remove_915e3⟩
theorem oc5_43 : okC 5 302 (0, 1, mX4_locksAreFreeFor) := ⟨lw_in 409 (by decide +kernel) (by decide +kernel), ov_X4_locksAreFreeFor⟩
set_option maxRecDepth 10000 in
theorem oc5 : ∀ x ∈ clT5, okC 5 x.1 x.2 := (List.forall_mem_cons.mpr ⟨oc5_0, (List.forall_mem_cons.mpr ⟨oc5_1, (List.forall_mem_cons.mpr ⟨oc5_2, (List.forall_mem_cons.mpr ⟨oc5_3, (List.forall_mem_cons.mpr ⟨oc5_4, (List.forall_mem_cons.mpr ⟨oc5_5, (List.forall_mem_cons.mpr ⟨oc5_6, (List.forall_mem_cons.mpr ⟨oc5_7, (List.forall_mem_cons.mpr ⟨oc5_8, (List.forall_mem_cons.mpr ⟨oc5_9, (List.forall_mem_cons.mpr ⟨oc5_10, (List.forall_mem_cons.mpr ⟨oc5_11, (List.forall_mem_cons.mpr ⟨oc5_12, (List.forall_mem_cons.mpr ⟨oc5_13, (List.forall_mem_cons.mpr ⟨oc5_14, (List.forall_mem_cons.mpr ⟨oc5_15, (List.forall_mem_cons.mpr ⟨oc5_16, (List.forall_mem_cons.mpr ⟨oc5_17, (List.forall_mem_cons.mpr ⟨oc5_18, (List.forall_mem_cons.mpr ⟨oc5_19, (List.forall_mem_cons.mpr ⟨oc5_20, (List.forall_mem_cons.mpr ⟨oc5_21, (List.forall_mem_cons.mpr ⟨oc5_22, (List.forall_mem_cons.mpr ⟨oc5_23, (List.forall_mem_cons.mpr ⟨oc5_24, (List.forall_mem_cons.mpr ⟨oc5_25, (List.forall_mem_cons.mpr ⟨oc5_26, (List.forall_mem_cons.mpr ⟨oc5_27, (List.forall_mem_cons.mpr ⟨oc5_28, (List.forall_mem_cons.mpr ⟨oc5_29, (List.forall_mem_cons.mpr ⟨oc5_30, (List.forall_mem_cons.mpr ⟨oc5_31, (List.forall_mem_cons.mpr ⟨oc5_32, (List.forall_mem_cons.mpr ⟨oc5_33, (List.forall_mem_cons.mpr ⟨oc5_34, (List.forall_mem_cons.mpr ⟨oc5_35, (List.forall_mem_cons.mpr ⟨oc5_36, (List.forall_mem_cons.mpr ⟨oc5_37, (List.forall_mem_cons.mpr ⟨oc5_38, (List.forall_mem_cons.mpr ⟨oc5_39, (List.forall_mem_cons.mpr ⟨oc5_40, (List.forall_mem_cons.mpr ⟨oc5_41, (List.forall_mem_cons.mpr ⟨oc5_42, (List.forall_mem_cons.mpr ⟨oc5_43, (fun _ h => nomatch h)⟩)⟩)⟩)⟩)⟩)⟩)⟩)⟩)⟩)⟩)⟩)⟩)⟩)⟩)⟩)⟩)⟩)⟩)⟩)⟩)⟩)⟩)⟩)⟩)⟩)⟩)⟩)⟩)⟩)⟩)⟩)⟩)⟩)⟩)⟩)⟩)⟩)⟩)⟩)⟩)⟩)⟩)⟩)⟩)
theorem oc7_0 : okC 7 8 (2, 2, mL_cell) := ⟨lw_in 149 (by decide +kernel) (by decide +kernel), os_L_cell⟩
theorem oc7_1 : okC 7 14 (0, 1, mX4_open) := ⟨lw_in 157 (by decide +kernel) (by decide +kernel), ov_X4_open⟩
theorem oc7_2 : okC 7 22 (0, 1, mX4_drop) := ⟨lw_in 326 (by decide +kernel) (by decide +kernel), ov_X4_drop⟩
theorem oc7_3 : okC 7 28 (0, 1, mX4_takeUp) := ⟨lw_in 424 (by decide +kernel) (by decide +kernel), ov_X4_takeUp⟩
theorem oc7_4 : okC 7 31 (0, 1, mX4_isAttached) := ⟨lw_in 443 (by decide +kernel) (by decide +kernel), ov_X4_isAttached⟩
theorem oc7_5 : okC 7 35 (0, 1, mX4_kept) := ⟨lw_in 450 (by decide +kernel) (by decide +kernel), ov_X4_kept⟩
theorem oc7_6 : okC 7 38 (0, 2, mX4_commandAt) := ⟨lw_in 458 (by decide +kernel) (by decide +kernel), ov_X4_commandAt⟩
theorem oc7_7 : okC 7 44 (0, 1, mX4_commonAt) := ⟨lw_in 817 (by decide +kernel) (by decide +kernel), ov_X4_commonAt⟩
theorem oc7_8 : okC 7 47 (0, 3, mX4_search) := ⟨lw_in 485 (by decide +kernel) (by decide +kernel), ov_X4_search⟩
theorem oc7_9 : okC 7 53 (0, 5, mX4_start) := ⟨lw_in 514 (by decide +kernel) (by decide +kernel), ov_X4_start⟩
theorem oc7_10 : okC 7 59 (0, 1, mX4_state) := ⟨lw_in 597 (by decide +kernel) (by decide +kernel), ov_X4_state⟩
theorem oc7_11 : okC 7 63 (0, 1, mX4_stateByJournal) := ⟨lw_in 775 (by decide +kernel) (by decide +kernel), ov_X4_stateByJournal⟩
theorem oc7_12 : okC 7 66 (0, 1, mX4_toDo) := ⟨lw_in 768 (by decide +kernel) (by decide +kernel), ov_X4_toDo⟩
theorem oc7_13 : okC 7 69 (0, 1, mX4_sessionOf) := ⟨lw_in 609 (by decide +kernel) (by decide +kernel), ov_X4_sessionOf⟩
theorem oc7_14 : okC 7 72 (0, 1, mX4_front) := ⟨lw_in 616 (by decide +kernel) (by decide +kernel), ov_X4_front⟩
theorem oc7_15 : okC 7 75 (0, 1, mX4_toFront) := ⟨lw_in 627 (by decide +kernel) (by decide +kernel), ov_X4_toFront⟩
theorem oc7_16 : okC 7 78 (0, 1, mX4_toBack) := ⟨lw_in 639 (by decide +kernel) (by decide +kernel), ov_X4_toBack⟩
theorem oc7_17 : okC 7 81 (0, 2, mX4_count) := ⟨lw_in 646 (by decide +kernel) (by decide +kernel), ov_X4_count⟩
theorem oc7_18 : okC 7 85 (0, 1, mX4_holder) := ⟨lw_in 754 (by decide +kernel) (by decide +kernel), ov_X4_holder⟩
theorem oc7_19 : okC 7 88 (0, 1, mX4_holderByJobs) := ⟨lw_in 790 (by decide +kernel) (by decide +kernel), ov_X4_holderByJobs⟩
theorem oc7_20 : okC 7 91 (0, 1, mX4_holds) := ⟨lw_in 657 (by decide +kernel) (by decide +kernel), ov_X4_holds⟩
theorem oc7_21 : okC 7 94 (0, 1, mX4_waitingAt) := ⟨lw_in 664 (by decide +kernel) (by decide +kernel), ov_X4_waitingAt⟩
theorem oc7_22 : okC 7 97 (0, 1, mX4_blockers) := ⟨lw_in 797 (by decide +kernel) (by decide +kernel), ov_X4_blockers⟩
theorem oc7_23 : okC 7 100 (0, 1, mX4_stop) := ⟨lw_in 672 (by decide +kernel) (by decide +kernel), ov_X4_stop⟩
theorem oc7_24 : okC 7 103 (0, 1, mX4_goOn) := ⟨lw_in 680 (by decide +kernel) (by decide +kernel), ov_X4_goOn⟩
theorem oc7_25 : okC 7 106 (0, 1, mX4_end) := ⟨lw_in 688 (by decide +kernel) (by decide +kernel), ov_X4_end⟩
theorem oc7_26 : okC 7 109 (0, 2, mX4_signal) := ⟨lw_in 699 (by decide +kernel) (by decide +kernel), ov_X4_signal⟩
theorem oc7_27 : okC 7 112 (0, 1, mX4_tick) := ⟨lw_in 711 (by decide +kernel) (by decide +kernel), ov_X4_tick⟩
theorem oc7_28 : okC 7 115 (0, 1, mX4_entryJob) := ⟨lw_in 827 (by decide +kernel) (by decide +kernel), ov_X4_entryJob⟩
theorem oc7_29 : okC 7 118 (0, 1, mX4_entryState) := ⟨lw_in 839 (by decide +kernel) (by decide +kernel), ov_X4_entryState⟩
theorem oc7_30 : okC 7 121 (0, 0, mX4_doneShare) := ⟨lw_in 805 (by decide +kernel) (by decide +kernel), ov_X4_doneShare⟩
theorem oc7_31 : okC 7 126 (1, 0, mX4_init) := ⟨lw_in 47 (by decide +kernel) (by decide +kernel), oi_X4_init, rfl⟩
theorem oc7_32 : okC 7 127 (2, 2, mL_open) := ⟨lw_in 153 (by decide +kernel) (by decide +kernel), os_L_open⟩
theorem oc7_33 : okC 7 130 (2, 2, mL_sum) := ⟨lw_in 730 (by decide +kernel) (by decide +kernel), os_L_sum⟩
theorem oc7_34 : okC 7 134 (2, 3, mL_pick) := ⟨lw_in 146 (by decide +kernel) (by decide +kernel), os_L_pick⟩
theorem oc7_35 : okC 7 138 (2, 2, mL_front) := ⟨lw_in 613 (by decide +kernel) (by decide +kernel), os_L_front⟩
theorem oc7_36 : okC 7 141 (2, 2, mL_drop) := ⟨lw_in 322 (by decide +kernel) (by decide +kernel), os_L_drop⟩
theorem oc7_37 : okC 7 143 (2, 2, mL_isAttached) := ⟨lw_in 440 (by decide +kernel) (by decide +kernel), os_L_isAttached⟩
theorem oc7_38 : okC 7 145 (2, 2, mL_state) := ⟨lw_in 594 (by decide +kernel) (by decide +kernel), os_L_state⟩
theorem oc7_39 : okC 7 147 (2, 2, mL_takeUp) := ⟨lw_in 421 (by decide +kernel) (by decide +kernel), os_L_takeUp⟩
theorem oc7_40 : okC 7 149 (2, 2, mL_kept) := ⟨lw_in 447 (by decide +kernel) (by decide +kernel), os_L_kept⟩
theorem oc7_41 : okC 7 151 (2, 6, mL_start) := ⟨lw_in 510 (by decide +kernel) (by decide +kernel), os_L_start⟩
theorem oc7_42 : okC 7 154 (2, 2, mL_sessionOf) := ⟨lw_in 606 (by decide +kernel) (by decide +kernel), os_L_sessionOf⟩
theorem oc7_43 : okC 7 156 (2, 3, mL_commandAt) := ⟨lw_in 454 (by decide +kernel) (by decide +kernel), os_L_commandAt⟩
theorem oc7_44 : okC 7 159 (4, 2, mZ) := lw_in 845 (by decide +kernel) (by decide +kernel)
theorem oc7_45 : okC 7 164 (2, 4, mL_search) := ⟨lw_in 481 (by decide +kernel) (by decide +kernel), os_L_search⟩
theorem oc7_46 : okC 7 167 (2, 2, mL_toFront) := ⟨lw_in 624 (by decide +kernel) (by decide +kernel), os_L_toFront⟩
theorem oc7_47 : okC 7 169 (2, 2, mL_toBack) := ⟨lw_in 636 (by decide +kernel) (by decide +kernel), os_L_toBack⟩
theorem oc7_48 : okC 7 171 (2, 2, mL_holds) := ⟨lw_in 654 (by decide +kernel) (by decide +kernel), os_L_holds⟩
theorem oc7_49 : okC 7 173 (2, 2, mL_stop) := ⟨lw_in 669 (by decide +kernel) (by decide +kernel), os_L_stop⟩
theorem oc7_50 : okC 7 175 (0, 0, mX4_waiting) := ⟨lw_in 138 (by decide +kernel) (by decide +kernel), ov_X4_waiting⟩
theorem oc7_51 : okC 7 179 (2, 2, mL_goOn) := ⟨lw_in 677 (by decide +kernel) (by decide +kernel), os_L_goOn⟩
theorem oc7_52 : okC 7 181 (2, 2, mL_waitingAt) := ⟨lw_in 661 (by decide +kernel) (by decide +kernel), os_L_waitingAt⟩
theorem oc7_53 : okC 7 183 (2, 2, mL_end) := ⟨lw_in 685 (by decide +kernel) (by decide +kernel), os_L_end⟩
theorem oc7_54 : okC 7 185 (2, 3, mL_signal) := ⟨lw_in 696 (by decide +kernel) (by decide +kernel), os_L_signal⟩
theorem oc7_55 : okC 7 188 (2, 3, mL_count) := ⟨lw_in 643 (by decide +kernel) (by decide +kernel), os_L_count⟩
theorem oc7_56 : okC 7 190 (2, 3, mL_ofSession) := ⟨lw_in 724 (by decide +kernel) (by decide +kernel), os_L_ofSession⟩
theorem oc7_57 : okC 7 193 (2, 2, mL_done) := ⟨lw_in 727 (by decide +kernel) (by decide +kernel), os_L_done⟩
theorem oc7_58 : okC 7 196 (2, 2, mL_tick) := ⟨lw_in 708 (by decide +kernel) (by decide +kernel), os_L_tick⟩
theorem oc7_59 : okC 7 198 (2, 4, mL_areJobs) := ⟨lw_in 762 (by decide +kernel) (by decide +kernel), os_L_areJobs⟩
theorem oc7_60 : okC 7 202 (2, 4, mL_areFronts) := ⟨lw_in 811 (by decide +kernel) (by decide +kernel), os_L_areFronts⟩
theorem oc7_61 : okC 7 206 (2, 2, mL_isJournal) := ⟨lw_in 821 (by decide +kernel) (by decide +kernel), os_L_isJournal⟩
theorem oc7_62 : okC 7 210 (0, 0, mX4_entries) := ⟨lw_in 733 (by decide +kernel) (by decide +kernel), ov_X4_entries⟩
theorem oc7_63 : okC 7 215 (0, 0, mX4_worked) := ⟨lw_in 738 (by decide +kernel) (by decide +kernel), ov_X4_worked⟩
theorem oc7_64 : okC 7 223 (0, 0, mX4_common) := ⟨lw_in 744 (by decide +kernel) (by decide +kernel), ov_X4_common⟩
theorem oc7_65 : okC 7 232 (2, 2, mL_holder) := ⟨lw_in 751 (by decide +kernel) (by decide +kernel), os_L_holder⟩
theorem oc7_66 : okC 7 234 (2, 2, mL_toDo) := ⟨lw_in 765 (by decide +kernel) (by decide +kernel), os_L_toDo⟩
theorem oc7_67 : okC 7 236 (2, 2, mL_stateByJournal) := ⟨lw_in 772 (by decide +kernel) (by decide +kernel), os_L_stateByJournal⟩
theorem oc7_68 : okC 7 238 (2, 2, mL_holderByJobs) := ⟨lw_in 787 (by decide +kernel) (by decide +kernel), os_L_holderByJobs⟩
theorem oc7_69 : okC 7 240 (2, 2, mL_blockers) := ⟨lw_in 794 (by decide +kernel) (by decide +kernel), os_L_blockers⟩
theorem oc7_70 : okC 7 242 (2, 1, mL_doneShare) := ⟨lw_in 802 (by decide +kernel) (by decide +kernel), os_L_doneShare⟩
theorem oc7_71 : okC 7 245 (2, 2, mL_commonAt) := ⟨lw_in 814 (by decide +kernel) (by decide +kernel), os_L_commonAt⟩
theorem oc7_72 : okC 7 247 (2, 2, mL_entryJob) := ⟨lw_in 824 (by decide +kernel) (by decide +kernel), os_L_entryJob⟩
theorem oc7_73 : okC 7 249 (2, 2, mL_entryState) := ⟨lw_in 836 (by decide +kernel) (by decide +kernel), os_L_entryState⟩
set_option maxRecDepth 10000 in
theorem oc7 : ∀ x ∈ clT7, okC 7 x.1 x.2 := (List.forall_mem_cons.mpr ⟨oc7_0, (List.forall_mem_cons.mpr ⟨oc7_1, (List.forall_mem_cons.mpr ⟨oc7_2, (List.forall_mem_cons.mpr ⟨oc7_3, (List.forall_mem_cons.mpr ⟨oc7_4, (List.forall_mem_cons.mpr ⟨oc7_5, (List.forall_mem_cons.mpr ⟨oc7_6, (List.forall_mem_cons.mpr ⟨oc7_7, (List.forall_mem_cons.mpr ⟨oc7_8, (List.forall_mem_cons.mpr ⟨oc7_9, (List.forall_mem_cons.mpr ⟨oc7_10, (List.forall_mem_cons.mpr ⟨oc7_11, (List.forall_mem_cons.mpr ⟨oc7_12, (List.forall_mem_cons.mpr ⟨oc7_13, (List.forall_mem_cons.mpr ⟨oc7_14, (List.forall_mem_cons.mpr ⟨oc7_15, (List.forall_mem_cons.mpr ⟨oc7_16, (List.forall_mem_cons.mpr ⟨oc7_17, (List.forall_mem_cons.mpr ⟨oc7_18, (List.forall_mem_cons.mpr ⟨oc7_19, (List.forall_mem_cons.mpr ⟨oc7_20, (List.forall_mem_cons.mpr ⟨oc7_21, (List.forall_mem_cons.mpr ⟨oc7_22, (List.forall_mem_cons.mpr ⟨oc7_23, (List.forall_mem_cons.mpr ⟨oc7_24, (List.forall_mem_cons.mpr ⟨oc7_25, (List.forall_mem_cons.mpr ⟨oc7_26, (List.forall_mem_cons.mpr ⟨oc7_27, (List.forall_mem_cons.mpr ⟨oc7_28, (List.forall_mem_cons.mpr ⟨oc7_29, (List.forall_mem_cons.mpr ⟨oc7_30, (List.forall_mem_cons.mpr ⟨oc7_31, (List.forall_mem_cons.mpr ⟨oc7_32, (List.forall_mem_cons.mpr ⟨oc7_33, (List.forall_mem_cons.mpr ⟨oc7_34, (List.forall_mem_cons.mpr ⟨oc7_35, (List.forall_mem_cons.mpr ⟨oc7_36, (List.forall_mem_cons.mpr ⟨oc7_37, (List.forall_mem_cons.mpr ⟨oc7_38, (List.forall_mem_cons.mpr ⟨oc7_39, (List.forall_mem_cons.mpr ⟨oc7_40, (List.forall_mem_cons.mpr ⟨oc7_41, (List.forall_mem_cons.mpr ⟨oc7_42, (List.forall_mem_cons.mpr ⟨oc7_43, (List.forall_mem_cons.mpr ⟨oc7_44, (List.forall_mem_cons.mpr ⟨oc7_45, (List.forall_mem_cons.mpr ⟨oc7_46, (List.forall_mem_cons.mpr ⟨oc7_47, (List.forall_mem_cons.mpr ⟨oc7_48, (List.forall_mem_cons.mpr ⟨oc7_49, (List.forall_mem_cons.mpr ⟨oc7_50, (List.forall_mem_cons.mpr ⟨oc7_51, (List.forall_mem_cons.mpr ⟨oc7_52, (List.forall_mem_cons.mpr ⟨oc7_53, (List.forall_mem_cons.mpr ⟨oc7_54, (List.forall_mem_cons.mpr ⟨oc7_55, (List.forall_mem_cons.mpr ⟨oc7_56, (List.forall_mem_cons.mpr ⟨oc7_57, (List.forall_mem_cons.mpr ⟨oc7_58, (List.forall_mem_cons.mpr ⟨oc7_59, (List.forall_mem_cons.mpr ⟨oc7_60, (List.forall_mem_cons.mpr ⟨oc7_61, (List.forall_mem_cons.mpr ⟨oc7_62, (List.forall_mem_cons.mpr ⟨oc7_63, (List.forall_mem_cons.mpr ⟨oc7_64, (List.forall_mem_cons.mpr ⟨oc7_65, (List.forall_mem_cons.mpr ⟨oc7_66, (List.forall_mem_cons.mpr ⟨oc7_67, (List.forall_mem_cons.mpr ⟨oc7_68, (List.forall_mem_cons.mpr ⟨oc7_69, (List.forall_mem_cons.mpr ⟨oc7_70, (List.forall_mem_cons.mpr ⟨oc7_71, (List.forall_mem_cons.mpr ⟨oc7_72, (List.forall_mem_cons.mpr ⟨oc7_73, (fun _ h => nomatch h)⟩)⟩)⟩)⟩)⟩)⟩)⟩)⟩)⟩)⟩)⟩)⟩)⟩)⟩)⟩)⟩)⟩)⟩)⟩)⟩)⟩)⟩)⟩)⟩)⟩)⟩)⟩)⟩)⟩)⟩)⟩)⟩)⟩)⟩)⟩)⟩)⟩)⟩)⟩)⟩)⟩)⟩)⟩)⟩)⟩)⟩)⟩)⟩)⟩)⟩)⟩)⟩)⟩)⟩)⟩)⟩)⟩)⟩)⟩)⟩)⟩)⟩)⟩)⟩)⟩)⟩)⟩)⟩)⟩)⟩)⟩)⟩)⟩)⟩)
theorem oc8_0 : okC 8 86 (8, 0, mZ) := lw_in 293 (by decide +kernel) (by decide +kernel)
theorem oc8_1 : okC 8 150 (7, 5, mZ) := lw_in 317 (by decide +kernel) (by decide +kernel)
theorem oc8_2 : okC 8 300 (2, 3, mJ7_copyOf_6403c) := ⟨lw_in 308 (by decide +kernel) (by decide +kernel), os_J7_copyOf_6403c⟩
theorem oc8_3 : okC 8 304 (4, 2, mZ) := lw_in 314 (by decide +kernel) (by decide +kernel)
set_option maxRecDepth 10000 in
theorem oc8 : ∀ x ∈ clT8, okC 8 x.1 x.2 := (List.forall_mem_cons.mpr ⟨oc8_0, (List.forall_mem_cons.mpr ⟨oc8_1, (List.forall_mem_cons.mpr ⟨oc8_2, (List.forall_mem_cons.mpr ⟨oc8_3, (fun _ h => nomatch h)⟩)⟩)⟩)⟩)
theorem oc9_0 : okC 9 105 (2, 3, mJ3_checkIndex_8e157) := ⟨lw_in 357 (by decide +kernel) (by decide +kernel), os_J3_checkIndex_8e157⟩
set_option maxRecDepth 10000 in
theorem oc9 : ∀ x ∈ clT9, okC 9 x.1 x.2 := (List.forall_mem_cons.mpr ⟨oc9_0, (fun _ h => nomatch h)⟩)
theorem oc11_0 : okC 11 194 (5, 2, mZ) := lw_in 283 (by decide +kernel) (by decide +kernel)
theorem oc11_1 : okC 11 201 (2, 2, mJ8_hugeLength_7cf53) := ⟨lw_in 287 (by decide +kernel) (by decide +kernel), os_J8_hugeLength_7cf53⟩
set_option maxRecDepth 10000 in
theorem oc11 : ∀ x ∈ clT11, okC 11 x.1 x.2 := (List.forall_mem_cons.mpr ⟨oc11_0, (List.forall_mem_cons.mpr ⟨oc11_1, (fun _ h => nomatch h)⟩)⟩)
theorem oc12_0 : okC 12 1 (1, 0, mJxa1e45_init_da8c8) := ⟨lw_in 61 (by decide +kernel) (by decide +kernel), oi_Jxa1e45_init_da8c8, rfl⟩
set_option maxRecDepth 10000 in
theorem oc12 : ∀ x ∈ clT12, okC 12 x.1 x.2 := (List.forall_mem_cons.mpr ⟨oc12_0, (fun _ h => nomatch h)⟩)
theorem oc13_0 : okC 13 1 (3, 0, mZ) := lw_in 64 (by decide +kernel) (by decide +kernel)
set_option maxRecDepth 10000 in
theorem oc13 : ∀ x ∈ clT13, okC 13 x.1 x.2 := (List.forall_mem_cons.mpr ⟨oc13_0, (fun _ h => nomatch h)⟩)
theorem oc14_0 : okC 14 86 (8, 0, mZ) := lw_in 293 (by decide +kernel) (by decide +kernel)
theorem oc14_1 : okC 14 150 (6, 5, mZ) := lw_in 317 (by decide +kernel) (by decide +kernel)
theorem oc14_2 : okC 14 300 (2, 3, mJ7_copyOf_6403c) := ⟨lw_in 308 (by decide +kernel) (by decide +kernel), os_J7_copyOf_6403c⟩
theorem oc14_3 : okC 14 304 (4, 2, mZ) := lw_in 314 (by decide +kernel) (by decide +kernel)
set_option maxRecDepth 10000 in
theorem oc14 : ∀ x ∈ clT14, okC 14 x.1 x.2 := (List.forall_mem_cons.mpr ⟨oc14_0, (List.forall_mem_cons.mpr ⟨oc14_1, (List.forall_mem_cons.mpr ⟨oc14_2, (List.forall_mem_cons.mpr ⟨oc14_3, (fun _ h => nomatch h)⟩)⟩)⟩)⟩)
theorem clT_ok {o i : Nat} {q : Nat × Nat × MD} (h : clT o i = some q) : okC o i q := by
  unfold clT at h
  split at h
  · exact oc0 _ (look_mem h)
  · exact oc1 _ (look_mem h)
  · exact oc2 _ (look_mem h)
  · exact oc3 _ (look_mem h)
  · exact oc4 _ (look_mem h)
  · exact oc5 _ (look_mem h)
  · exact oc7 _ (look_mem h)
  · exact oc8 _ (look_mem h)
  · exact oc9 _ (look_mem h)
  · exact oc11 _ (look_mem h)
  · exact oc12 _ (look_mem h)
  · exact oc13 _ (look_mem h)
  · exact oc14 _ (look_mem h)
  · cases h
def okFd (o i : Nat) (q : Nat × Nat) : Prop := q.1 < 6 ∧ q.2 < nC q.1 ∧ ∃ ref, Cond.fieldLink (oN o) i ref (TC q.1 q.2).2.1 (TC q.1 q.2).2.2.1 ∈ lw_G ∧ (ref = (TC q.1 q.2).1 ∨ (Cond.sameField ref (TC q.1 q.2).1 (TC q.1 q.2).2.1 (TC q.1 q.2).2.2.1 ∈ lw_G))
theorem of0_0 : okFd 0 9 (0, 1) := ⟨by decide, by decide, "java/util/ArrayList", lw_in 67 (by decide +kernel) (by decide +kernel), Or.inl rfl⟩
theorem of0_1 : okFd 0 48 (0, 2) := ⟨by decide, by decide, "java/util/ArrayList", lw_in 68 (by decide +kernel) (by decide +kernel), Or.inl rfl⟩
theorem of0_2 : okFd 0 63 (0, 0) := ⟨by decide, by decide, "java/util/ArrayList", lw_in 70 (by decide +kernel) (by decide +kernel), Or.inr (lw_in 71 (by decide +kernel) (by decide +kernel))⟩
theorem of0 : ∀ x ∈ fdT0, okFd 0 x.1 x.2 := (List.forall_mem_cons.mpr ⟨of0_0, (List.forall_mem_cons.mpr ⟨of0_1, (List.forall_mem_cons.mpr ⟨of0_2, (fun _ h => nomatch h)⟩)⟩)⟩)
theorem of1_0 : okFd 1 9 (1, 0) := ⟨by decide, by decide, "Shellhouse$History", lw_in 88 (by decide +kernel) (by decide +kernel), Or.inl rfl⟩
theorem of1_1 : okFd 1 15 (1, 1) := ⟨by decide, by decide, "Shellhouse$History", lw_in 90 (by decide +kernel) (by decide +kernel), Or.inl rfl⟩
theorem of1 : ∀ x ∈ fdT1, okFd 1 x.1 x.2 := (List.forall_mem_cons.mpr ⟨of1_0, (List.forall_mem_cons.mpr ⟨of1_1, (fun _ h => nomatch h)⟩)⟩)
theorem of2_0 : okFd 2 9 (2, 0) := ⟨by decide, by decide, "Shellhouse$Job", lw_in 549 (by decide +kernel) (by decide +kernel), Or.inl rfl⟩
theorem of2_1 : okFd 2 15 (2, 1) := ⟨by decide, by decide, "Shellhouse$Job", lw_in 551 (by decide +kernel) (by decide +kernel), Or.inl rfl⟩
theorem of2_2 : okFd 2 19 (2, 2) := ⟨by decide, by decide, "Shellhouse$Job", lw_in 553 (by decide +kernel) (by decide +kernel), Or.inl rfl⟩
theorem of2_3 : okFd 2 22 (2, 3) := ⟨by decide, by decide, "Shellhouse$Job", lw_in 555 (by decide +kernel) (by decide +kernel), Or.inl rfl⟩
theorem of2_4 : okFd 2 25 (2, 4) := ⟨by decide, by decide, "Shellhouse$Job", lw_in 557 (by decide +kernel) (by decide +kernel), Or.inl rfl⟩
theorem of2_5 : okFd 2 29 (2, 5) := ⟨by decide, by decide, "Shellhouse$Job", lw_in 559 (by decide +kernel) (by decide +kernel), Or.inl rfl⟩
theorem of2_6 : okFd 2 33 (2, 6) := ⟨by decide, by decide, "Shellhouse$Job", lw_in 561 (by decide +kernel) (by decide +kernel), Or.inl rfl⟩
theorem of2 : ∀ x ∈ fdT2, okFd 2 x.1 x.2 := (List.forall_mem_cons.mpr ⟨of2_0, (List.forall_mem_cons.mpr ⟨of2_1, (List.forall_mem_cons.mpr ⟨of2_2, (List.forall_mem_cons.mpr ⟨of2_3, (List.forall_mem_cons.mpr ⟨of2_4, (List.forall_mem_cons.mpr ⟨of2_5, (List.forall_mem_cons.mpr ⟨of2_6, (fun _ h => nomatch h)⟩)⟩)⟩)⟩)⟩)⟩)⟩)
theorem of3_0 : okFd 3 11 (3, 0) := ⟨by decide, by decide, "Shellhouse$Journal", lw_in 104 (by decide +kernel) (by decide +kernel), Or.inl rfl⟩
theorem of3_1 : okFd 3 15 (3, 1) := ⟨by decide, by decide, "Shellhouse$Journal", lw_in 106 (by decide +kernel) (by decide +kernel), Or.inl rfl⟩
theorem of3_2 : okFd 3 18 (3, 2) := ⟨by decide, by decide, "Shellhouse$Journal", lw_in 107 (by decide +kernel) (by decide +kernel), Or.inl rfl⟩
theorem of3 : ∀ x ∈ fdT3, okFd 3 x.1 x.2 := (List.forall_mem_cons.mpr ⟨of3_0, (List.forall_mem_cons.mpr ⟨of3_1, (List.forall_mem_cons.mpr ⟨of3_2, (fun _ h => nomatch h)⟩)⟩)⟩)
theorem of4_0 : okFd 4 9 (4, 0) := ⟨by decide, by decide, "Shellhouse$Session", lw_in 239 (by decide +kernel) (by decide +kernel), Or.inl rfl⟩
theorem of4_1 : okFd 4 15 (4, 2) := ⟨by decide, by decide, "Shellhouse$Session", lw_in 243 (by decide +kernel) (by decide +kernel), Or.inl rfl⟩
theorem of4_2 : okFd 4 24 (4, 1) := ⟨by decide, by decide, "Shellhouse$Session", lw_in 241 (by decide +kernel) (by decide +kernel), Or.inl rfl⟩
theorem of4_3 : okFd 4 28 (4, 3) := ⟨by decide, by decide, "Shellhouse$Session", lw_in 245 (by decide +kernel) (by decide +kernel), Or.inl rfl⟩
theorem of4_4 : okFd 4 31 (4, 4) := ⟨by decide, by decide, "Shellhouse$Session", lw_in 247 (by decide +kernel) (by decide +kernel), Or.inl rfl⟩
theorem of4_5 : okFd 4 35 (4, 5) := ⟨by decide, by decide, "Shellhouse$Session", lw_in 249 (by decide +kernel) (by decide +kernel), Or.inl rfl⟩
theorem of4 : ∀ x ∈ fdT4, okFd 4 x.1 x.2 := (List.forall_mem_cons.mpr ⟨of4_0, (List.forall_mem_cons.mpr ⟨of4_1, (List.forall_mem_cons.mpr ⟨of4_2, (List.forall_mem_cons.mpr ⟨of4_3, (List.forall_mem_cons.mpr ⟨of4_4, (List.forall_mem_cons.mpr ⟨of4_5, (fun _ h => nomatch h)⟩)⟩)⟩)⟩)⟩)⟩)
theorem of5_0 : okFd 5 10 (5, 0) := ⟨by decide, by decide, "Shellhouse", lw_in 116 (by decide +kernel) (by decide +kernel), Or.inl rfl⟩
theorem of5_1 : okFd 5 16 (5, 1) := ⟨by decide, by decide, "Shellhouse", lw_in 117 (by decide +kernel) (by decide +kernel), Or.inl rfl⟩
theorem of5_2 : okFd 5 19 (5, 2) := ⟨by decide, by decide, "Shellhouse", lw_in 118 (by decide +kernel) (by decide +kernel), Or.inl rfl⟩
theorem of5_3 : okFd 5 22 (5, 3) := ⟨by decide, by decide, "Shellhouse", lw_in 119 (by decide +kernel) (by decide +kernel), Or.inl rfl⟩
theorem of5_4 : okFd 5 37 (5, 4) := ⟨by decide, by decide, "Shellhouse", lw_in 120 (by decide +kernel) (by decide +kernel), Or.inl rfl⟩
theorem of5_5 : okFd 5 44 (5, 5) := ⟨by decide, by decide, "Shellhouse", lw_in 121 (by decide +kernel) (by decide +kernel), Or.inl rfl⟩
theorem of5_6 : okFd 5 48 (5, 6) := ⟨by decide, by decide, "Shellhouse", lw_in 122 (by decide +kernel) (by decide +kernel), Or.inl rfl⟩
theorem of5_7 : okFd 5 76 (4, 2) := ⟨by decide, by decide, "Shellhouse$Session", lw_in 244 (by decide +kernel) (by decide +kernel), Or.inl rfl⟩
theorem of5_8 : okFd 5 80 (4, 3) := ⟨by decide, by decide, "Shellhouse$Session", lw_in 246 (by decide +kernel) (by decide +kernel), Or.inl rfl⟩
theorem of5_9 : okFd 5 85 (4, 4) := ⟨by decide, by decide, "Shellhouse$Session", lw_in 248 (by decide +kernel) (by decide +kernel), Or.inl rfl⟩
theorem of5_10 : okFd 5 97 (4, 5) := ⟨by decide, by decide, "Shellhouse$Session", lw_in 250 (by decide +kernel) (by decide +kernel), Or.inl rfl⟩
theorem of5_11 : okFd 5 100 (2, 0) := ⟨by decide, by decide, "Shellhouse$Job", lw_in 550 (by decide +kernel) (by decide +kernel), Or.inl rfl⟩
theorem of5_12 : okFd 5 114 (4, 1) := ⟨by decide, by decide, "Shellhouse$Session", lw_in 242 (by decide +kernel) (by decide +kernel), Or.inl rfl⟩
theorem of5_13 : okFd 5 117 (1, 1) := ⟨by decide, by decide, "Shellhouse$History", lw_in 91 (by decide +kernel) (by decide +kernel), Or.inl rfl⟩
theorem of5_14 : okFd 5 168 (2, 4) := ⟨by decide, by decide, "Shellhouse$Job", lw_in 558 (by decide +kernel) (by decide +kernel), Or.inl rfl⟩
theorem of5_15 : okFd 5 176 (2, 3) := ⟨by decide, by decide, "Shellhouse$Job", lw_in 556 (by decide +kernel) (by decide +kernel), Or.inl rfl⟩
theorem of5_16 : okFd 5 179 (2, 1) := ⟨by decide, by decide, "Shellhouse$Job", lw_in 552 (by decide +kernel) (by decide +kernel), Or.inl rfl⟩
theorem of5_17 : okFd 5 183 (4, 0) := ⟨by decide, by decide, "Shellhouse$Session", lw_in 240 (by decide +kernel) (by decide +kernel), Or.inl rfl⟩
theorem of5_18 : okFd 5 208 (2, 5) := ⟨by decide, by decide, "Shellhouse$Job", lw_in 560 (by decide +kernel) (by decide +kernel), Or.inl rfl⟩
theorem of5_19 : okFd 5 218 (2, 2) := ⟨by decide, by decide, "Shellhouse$Job", lw_in 554 (by decide +kernel) (by decide +kernel), Or.inl rfl⟩
theorem of5_20 : okFd 5 240 (3, 2) := ⟨by decide, by decide, "Shellhouse$Journal", lw_in 108 (by decide +kernel) (by decide +kernel), Or.inl rfl⟩
theorem of5_21 : okFd 5 244 (3, 0) := ⟨by decide, by decide, "Shellhouse$Journal", lw_in 105 (by decide +kernel) (by decide +kernel), Or.inl rfl⟩
theorem of5_22 : okFd 5 263 (1, 0) := ⟨by decide, by decide, "Shellhouse$History", lw_in 89 (by decide +kernel) (by decide +kernel), Or.inl rfl⟩
theorem of5_23 : okFd 5 293 (2, 6) := ⟨by decide, by decide, "Shellhouse$Job", lw_in 562 (by decide +kernel) (by decide +kernel), Or.inl rfl⟩
theorem of5 : ∀ x ∈ fdT5, okFd 5 x.1 x.2 := (List.forall_mem_cons.mpr ⟨of5_0, (List.forall_mem_cons.mpr ⟨of5_1, (List.forall_mem_cons.mpr ⟨of5_2, (List.forall_mem_cons.mpr ⟨of5_3, (List.forall_mem_cons.mpr ⟨of5_4, (List.forall_mem_cons.mpr ⟨of5_5, (List.forall_mem_cons.mpr ⟨of5_6, (List.forall_mem_cons.mpr ⟨of5_7, (List.forall_mem_cons.mpr ⟨of5_8, (List.forall_mem_cons.mpr ⟨of5_9, (List.forall_mem_cons.mpr ⟨of5_10, (List.forall_mem_cons.mpr ⟨of5_11, (List.forall_mem_cons.mpr ⟨of5_12, (List.forall_mem_cons.mpr ⟨of5_13, (List.forall_mem_cons.mpr ⟨of5_14, (List.forall_mem_cons.mpr ⟨of5_15, (List.forall_mem_cons.mpr ⟨of5_16, (List.forall_mem_cons.mpr ⟨of5_17, (List.forall_mem_cons.mpr ⟨of5_18, (List.forall_mem_cons.mpr ⟨of5_19, (List.forall_mem_cons.mpr ⟨of5_20, (List.forall_mem_cons.mpr ⟨of5_21, (List.forall_mem_cons.mpr ⟨of5_22, (List.forall_mem_cons.mpr ⟨of5_23, (fun _ h => nomatch h)⟩)⟩)⟩)⟩)⟩)⟩)⟩)⟩)⟩)⟩)⟩)⟩)⟩)⟩)⟩)⟩)⟩)⟩)⟩)⟩)⟩)⟩)⟩)⟩)
theorem of12_0 : okFd 12 7 (0, 0) := ⟨by decide, by decide, "java/util/AbstractList", lw_in 69 (by decide +kernel) (by decide +kernel), Or.inl rfl⟩
theorem of12 : ∀ x ∈ fdT12, okFd 12 x.1 x.2 := (List.forall_mem_cons.mpr ⟨of12_0, (fun _ h => nomatch h)⟩)
theorem fdT_ok {o i : Nat} {q : Nat × Nat} (h : fdT o i = some q) : okFd o i q := by
  unfold fdT at h
  split at h
  · exact of0 _ (look_mem h)
  · exact of1 _ (look_mem h)
  · exact of2 _ (look_mem h)
  · exact of3 _ (look_mem h)
  · exact of4 _ (look_mem h)
  · exact of5 _ (look_mem h)
  · exact of12 _ (look_mem h)
  · cases h
def okK (o i ci : Nat) : Prop := ci < 6 ∧ Cond.classLink (oN o) i (oN ci) ∈ lw_G
theorem ok4 : ∀ x ∈ nwT4, okK 4 x.1 x.2 := (List.forall_mem_cons.mpr ⟨⟨by decide, lw_in 237 (by decide +kernel) (by decide +kernel)⟩, (fun _ h => nomatch h)⟩)
theorem ok5 : ∀ x ∈ nwT5, okK 5 x.1 x.2 := (List.forall_mem_cons.mpr ⟨⟨by decide, lw_in 53 (by decide +kernel) (by decide +kernel)⟩, (List.forall_mem_cons.mpr ⟨⟨by decide, lw_in 82 (by decide +kernel) (by decide +kernel)⟩, (List.forall_mem_cons.mpr ⟨⟨by decide, lw_in 98 (by decide +kernel) (by decide +kernel)⟩, (List.forall_mem_cons.mpr ⟨⟨by decide, lw_in 231 (by decide +kernel) (by decide +kernel)⟩, (List.forall_mem_cons.mpr ⟨⟨by decide, lw_in 408 (by decide +kernel) (by decide +kernel)⟩, (fun _ h => nomatch h)⟩)⟩)⟩)⟩)⟩)
theorem ok7 : ∀ x ∈ nwT7, okK 7 x.1 x.2 := (List.forall_mem_cons.mpr ⟨⟨by decide, lw_in 45 (by decide +kernel) (by decide +kernel)⟩, (fun _ h => nomatch h)⟩)
theorem nwT_ok {o i q : Nat} (h : nwT o i = some q) : okK o i q := by
  unfold nwT at h
  split at h
  · exact ok4 _ (look_mem h)
  · exact ok5 _ (look_mem h)
  · exact ok7 _ (look_mem h)
  · cases h
theorem wi0 : Cond.instantiable (oN 0) (nC 0) ∈ lw_G := lw_in 54 (by decide +kernel) (by decide +kernel)
theorem wj0 : Cond.initialized (oN 0) ∈ lw_G := lw_in 26 (by decide +kernel) (by decide +kernel)
theorem wl0 : ∀ w ∈ u_ws (oN 0) (TC 0) (nC 0), w ∈ lw_G := by decide +kernel
theorem wi1 : Cond.instantiable (oN 1) (nC 1) ∈ lw_G := lw_in 83 (by decide +kernel) (by decide +kernel)
theorem wj1 : Cond.initialized (oN 1) ∈ lw_G := lw_in 28 (by decide +kernel) (by decide +kernel)
theorem wl1 : ∀ w ∈ u_ws (oN 1) (TC 1) (nC 1), w ∈ lw_G := by decide +kernel
theorem wi2 : Cond.instantiable (oN 2) (nC 2) ∈ lw_G := lw_in 544 (by decide +kernel) (by decide +kernel)
theorem wj2 : Cond.initialized (oN 2) ∈ lw_G := lw_in 44 (by decide +kernel) (by decide +kernel)
theorem wl2 : ∀ w ∈ u_ws (oN 2) (TC 2) (nC 2), w ∈ lw_G := by decide +kernel
theorem wi3 : Cond.instantiable (oN 3) (nC 3) ∈ lw_G := lw_in 99 (by decide +kernel) (by decide +kernel)
theorem wj3 : Cond.initialized (oN 3) ∈ lw_G := lw_in 29 (by decide +kernel) (by decide +kernel)
theorem wl3 : ∀ w ∈ u_ws (oN 3) (TC 3) (nC 3), w ∈ lw_G := by decide +kernel
theorem wi4 : Cond.instantiable (oN 4) (nC 4) ∈ lw_G := lw_in 232 (by decide +kernel) (by decide +kernel)
theorem wj4 : Cond.initialized (oN 4) ∈ lw_G := lw_in 34 (by decide +kernel) (by decide +kernel)
theorem wl4 : ∀ w ∈ u_ws (oN 4) (TC 4) (nC 4), w ∈ lw_G := by decide +kernel
theorem wi5 : Cond.instantiable (oN 5) (nC 5) ∈ lw_G := lw_in 46 (by decide +kernel) (by decide +kernel)
theorem wj5 : Cond.initialized (oN 5) ∈ lw_G := lw_in 23 (by decide +kernel) (by decide +kernel)
theorem wl5 : ∀ w ∈ u_ws (oN 5) (TC 5) (nC 5), w ∈ lw_G := by decide +kernel
