/-! methods, by program -/
def mX0_init : MD := (yX0_init, cX0_init, 2, none, [], 1, [], true, [])
def mX0_append : MD := (yX0_append, cX0_append, 2, none, [], 1, [], false, [])
def mX0_forget : MD := (yX0_forget, cX0_forget, 3, none, [], 1, [], false, [])
def mX0_takeOut : MD := (yX0_takeOut, cX0_takeOut, 3, none, [], 1, [], false, [])
def mX0_lastBetween : MD := (yX0_lastBetween, cX0_lastBetween, 4, (some (.int)), [], 1, [], false, [])
def mX1_init : MD := (yX1_init, cX1_init, 5, none, [], 2, [], true, [])
def mX1_needs : MD := (yX1_needs, cX1_needs, 2, (some (.boolean)), [], 2, [], false, [])
def mX2_init : MD := (yX2_init, cX2_init, 1, none, [], 3, [], true, [])
def mX2_write : MD := (yX2_write, cX2_write, 4, none, [], 3, [], false, [])
def mX2_conditionAt : MD := (yX2_conditionAt, cX2_conditionAt, 2, (some (.char)), [], 3, [], false, [])
def mX2_lastStateOf : MD := (yX2_lastStateOf, cX2_lastStateOf, 3, (some (.char)), [], 3, [], false, [])
def mX3_init : MD := (yX3_init, cX3_init, 3, none, [], 4, [], true, [])
def mX4_init : MD := (yX4_init, cX4_init, 1, none, [], 5, [], true, [])
def mX4_open : MD := (yX4_open, cX4_open, 3, (some (.int)), [], 5, [(13, 1)], false, [])
def mX4_drop : MD := (yX4_drop, cX4_drop, 4, (some (.int)), [], 5, [(13, 1)], false, [])
def mX4_takeUp : MD := (yX4_takeUp, cX4_takeUp, 4, (some (.int)), [], 5, [(13, 1)], false, [])
def mX4_isAttached : MD := (yX4_isAttached, cX4_isAttached, 2, (some (.boolean)), [], 5, [], false, [])
def mX4_kept : MD := (yX4_kept, cX4_kept, 2, (some (.int)), [], 5, [], false, [])
def mX4_commandAt : MD := (yX4_commandAt, cX4_commandAt, 3, (some (.int)), [], 5, [], false, [])
def mX4_common : MD := (yX4_common, cX4_common, 1, (some (.int)), [], 5, [], false, [])
def mX4_commonAt : MD := (yX4_commonAt, cX4_commonAt, 2, (some (.int)), [], 5, [], false, [])
def mX4_search : MD := (yX4_search, cX4_search, 6, (some (.int)), [], 5, [(22, 4), (75, 3)], false, [])
def mX4_start : MD := (yX4_start, cX4_start, 9, (some (.int)), [], 5, [(29, 4), (52, 5), (78, 1)], false, [])
def mX4_state : MD := (yX4_state, cX4_state, 2, (some (.char)), [], 5, [], false, [])
def mX4_stateByJournal : MD := (yX4_stateByJournal, cX4_stateByJournal, 2, (some (.char)), [], 5, [], false, [])
def mX4_toDo : MD := (yX4_toDo, cX4_toDo, 2, (some (.int)), [], 5, [], false, [])
def mX4_sessionOf : MD := (yX4_sessionOf, cX4_sessionOf, 2, (some (.int)), [], 5, [], false, [])
def mX4_front : MD := (yX4_front, cX4_front, 2, (some (.int)), [], 5, [], false, [])
def mX4_toFront : MD := (yX4_toFront, cX4_toFront, 5, (some (.boolean)), [], 5, [(26, 5), (43, 1)], false, [])
def mX4_toBack : MD := (yX4_toBack, cX4_toBack, 4, (some (.int)), [], 5, [], false, [])
def mX4_count : MD := (yX4_count, cX4_count, 7, (some (.int)), [], 5, [(13, 4)], false, [])
def mX4_holder : MD := (yX4_holder, cX4_holder, 2, (some (.int)), [], 5, [], false, [])
def mX4_holderByJobs : MD := (yX4_holderByJobs, cX4_holderByJobs, 4, (some (.int)), [], 5, [], false, [])
def mX4_holds : MD := (yX4_holds, cX4_holds, 2, (some (.boolean)), [], 5, [], false, [])
def mX4_waiting : MD := (yX4_waiting, cX4_waiting, 1, (some (.int)), [], 5, [], false, [])
def mX4_waitingAt : MD := (yX4_waitingAt, cX4_waitingAt, 2, (some (.int)), [], 5, [(15, 3)], false, [])
def mX4_blockers : MD := (yX4_blockers, cX4_blockers, 6, (some (.int)), [], 5, [(15, 1)], false, [])
def mX4_stop : MD := (yX4_stop, cX4_stop, 3, (some (.int)), [], 5, [(13, 1)], false, [])
def mX4_goOn : MD := (yX4_goOn, cX4_goOn, 3, (some (.int)), [], 5, [(13, 1)], false, [])
def mX4_end : MD := (yX4_end, cX4_end, 3, (some (.int)), [], 5, [(13, 1)], false, [])
def mX4_signal : MD := (yX4_signal, cX4_signal, 7, (some (.int)), [], 5, [(24, 4)], false, [])
def mX4_tick : MD := (yX4_tick, cX4_tick, 4, (some (.int)), [], 5, [(11, 4)], false, [])
def mX4_entries : MD := (yX4_entries, cX4_entries, 1, (some (.int)), [], 5, [], false, [])
def mX4_entryJob : MD := (yX4_entryJob, cX4_entryJob, 2, (some (.int)), [], 5, [], false, [])
def mX4_entryState : MD := (yX4_entryState, cX4_entryState, 2, (some (.char)), [], 5, [], false, [])
def mX4_worked : MD := (yX4_worked, cX4_worked, 1, (some (.long)), [], 5, [], false, [])
def mX4_doneShare : MD := (yX4_doneShare, cX4_doneShare, 4, (some (.float)), [], 5, [(12, 3)], false, [])
def mX4_sessionNumbered : MD := (yX4_sessionNumbered, cX4_sessionNumbered, 2, (some (.object "Shellhouse$Session")), [], 5, [(15, 2)], false, [])
def mX4_jobNumbered : MD := (yX4_jobNumbered, cX4_jobNumbered, 2, (some (.object "Shellhouse$Job")), [], 5, [(15, 2)], false, [])
def mX4_jobInFrontOf : MD := (yX4_jobInFrontOf, cX4_jobInFrontOf, 2, (some (.object "Shellhouse$Job")), [], 5, [(9, 3)], false, [])
def mX4_commandOf : MD := (yX4_commandOf, cX4_commandOf, 2, (some (.int)), [], 5, [(12, 3)], false, [])
def mX4_refuseNoLock : MD := (yX4_refuseNoLock, cX4_refuseNoLock, 1, none, [], 5, [(10, 4)], false, [])
def mX4_refuseNoEntry : MD := (yX4_refuseNoEntry, cX4_refuseNoEntry, 2, none, [], 5, [(15, 3)], false, [])
def mX4_isCommand : MD := (yX4_isCommand, cX4_isCommand, 1, (some (.boolean)), [], 5, [], false, [])
def mX4_isWork : MD := (yX4_isWork, cX4_isWork, 1, (some (.boolean)), [], 5, [], false, [])
def mX4_areLocks : MD := (yX4_areLocks, cX4_areLocks, 1, (some (.boolean)), [], 5, [], false, [])
def mX4_isState : MD := (yX4_isState, cX4_isState, 1, (some (.boolean)), [], 5, [], false, [])
def mX4_canBeStopped : MD := (yX4_canBeStopped, cX4_canBeStopped, 1, (some (.boolean)), [], 5, [], false, [])
def mX4_canGoOn : MD := (yX4_canGoOn, cX4_canGoOn, 1, (some (.boolean)), [], 5, [], false, [])
def mX4_isOver : MD := (yX4_isOver, cX4_isOver, 1, (some (.boolean)), [], 5, [], false, [])
def mX4_remember : MD := (yX4_remember, cX4_remember, 3, none, [], 5, [], false, [])
def mX4_comeInto : MD := (yX4_comeInto, cX4_comeInto, 3, none, [], 5, [], false, [])
def mX4_waitForLocks : MD := (yX4_waitForLocks, cX4_waitForLocks, 2, none, [], 5, [], false, [])
def mX4_pause : MD := (yX4_pause, cX4_pause, 2, none, [], 5, [], false, [])
def mX4_resume : MD := (yX4_resume, cX4_resume, 2, none, [], 5, [], false, [])
def mX4_finish : MD := (yX4_finish, cX4_finish, 3, none, [], 5, [], false, [])
def mX4_obeys : MD := (yX4_obeys, cX4_obeys, 3, (some (.boolean)), [], 5, [], false, [])
def mX4_passOneTick : MD := (yX4_passOneTick, cX4_passOneTick, 4, (some (.int)), [], 5, [], false, [])
def mX4_workIsDone : MD := (yX4_workIsDone, cX4_workIsDone, 2, (some (.boolean)), [], 5, [], false, [])
def mX4_leaveOrder : MD := (yX4_leaveOrder, cX4_leaveOrder, 3, none, [], 5, [], false, [])
def mX4_lookAtOrder : MD := (yX4_lookAtOrder, cX4_lookAtOrder, 4, none, [], 5, [], false, [])
def mX4_locksAreFreeFor : MD := (yX4_locksAreFreeFor, cX4_locksAreFreeFor, 3, (some (.boolean)), [], 5, [], false, [])
def mX4_setHolder : MD := (yX4_setHolder, cX4_setHolder, 4, none, [], 5, [], false, [])
def mJxa1e45_init_da8c8 : MD := (yJxa1e45_init_da8c8, cJxa1e45_init_da8c8, 1, none, [], 13, [], true, [])
def mJxc12de_init_da8c8 : MD := (yJxc12de_init_da8c8, cJxc12de_init_da8c8, 1, none, [], 12, [], true, [])
def mJx4a65c_init_da8c8 : MD := (yJx4a65c_init_da8c8, cJx4a65c_init_da8c8, 1, none, [], 0, [], true, [])
def mJx4a65c_grow_92f84 : MD := (yJx4a65c_grow_92f84, cJx4a65c_grow_92f84, 4, (some (.array (.object "java/lang/Object"))), [], 0, [], false, [])
def mJx4a65c_grow_d5877 : MD := (yJx4a65c_grow_d5877, cJx4a65c_grow_d5877, 1, (some (.array (.object "java/lang/Object"))), [], 0, [], false, [])
def mJx4a65c_size_8abf5 : MD := (yJx4a65c_size_8abf5, cJx4a65c_size_8abf5, 1, (some (.int)), [], 0, [], false, [])
def mJx4a65c_elementData_915e3 : MD := (yJx4a65c_elementData_915e3, cJx4a65c_elementData_915e3, 2, (some (.object "java/lang/Object")), [], 0, [], false, [])
def mJx4a65c_get_915e3 : MD := (yJx4a65c_get_915e3, cJx4a65c_get_915e3, 2, (some (.object "java/lang/Object")), [], 0, [], false, [])
def mJx4a65c_add_72be8 : MD := (yJx4a65c_add_72be8, cJx4a65c_add_72be8, 4, none, [], 0, [], false, [])
def mJx4a65c_add_9ea2d : MD := (yJx4a65c_add_9ea2d, cJx4a65c_add_9ea2d, 2, (some (.boolean)), [], 0, [], false, [])
def mJx4a65c_remove_915e3 : MD := (yJx4a65c_remove_915e3, cJx4a65c_remove_915e3, 4, (some (.object "java/lang/Object")), [], 0, [], false, [])
def mJx4a65c_fastRemove_b59b0 : MD := (yJx4a65c_fastRemove_b59b0, cJx4a65c_fastRemove_b59b0, 4, none, [], 0, [], false, [])
def mJ7_fill_53178 : MD := (yJ7_fill_53178, cJ7_fill_53178, 4, none, [], 8, [], false, [])
def mJ7_copyOf_1904c : MD := (yJ7_copyOf_1904c, cJ7_copyOf_1904c, 2, (some (.array (.object "java/lang/Object"))), [], 8, [], false, [])
def mJ7_copyOf_6403c : MD := (yJ7_copyOf_6403c, cJ7_copyOf_6403c, 4, (some (.array (.object "java/lang/Object"))), [], 8, [], false, [])
def mJ7_copyOf_59c91 : MD := (yJ7_copyOf_59c91, cJ7_copyOf_59c91, 3, (some (.array .int)), [], 14, [], false, [])
def mJ15_checkIndex_7cf53 : MD := (yJ15_checkIndex_7cf53, cJ15_checkIndex_7cf53, 2, (some (.int)), [], 9, [], false, [])
def mJ8_newLength_cabcc : MD := (yJ8_newLength_cabcc, cJ8_newLength_cabcc, 4, (some (.int)), [], 11, [], false, [])
def mJ8_hugeLength_7cf53 : MD := (yJ8_hugeLength_7cf53, cJ8_hugeLength_7cf53, 3, (some (.int)), [], 11, [], false, [])
def mJ3_checkIndex_8e157 : MD := (yJ3_checkIndex_8e157, cJ3_checkIndex_8e157, 3, (some (.int)), [], 10, [], false, [])
def mL_cell : MD := (yL_cell, cL_cell, 2, (some (.int)), [], 7, [], false, [])
def mL_pick : MD := (yL_pick, cL_pick, 3, (some (.int)), [], 7, [], false, [])
def mL_open : MD := (yL_open, cL_open, 3, (some (.int)), [(0, 5, 6, 1)], 7, [], false, [])
def mL_drop : MD := (yL_drop, cL_drop, 3, (some (.int)), [(0, 5, 6, 2), (0, 5, 10, 1)], 7, [], false, [])
def mL_takeUp : MD := (yL_takeUp, cL_takeUp, 3, (some (.int)), [(0, 5, 6, 2), (0, 5, 10, 1)], 7, [], false, [])
def mL_isAttached : MD := (yL_isAttached, cL_isAttached, 3, (some (.int)), [(0, 13, 14, 2)], 7, [], false, [])
def mL_kept : MD := (yL_kept, cL_kept, 3, (some (.int)), [(0, 5, 6, 2)], 7, [], false, [])
def mL_commandAt : MD := (yL_commandAt, cL_commandAt, 4, (some (.int)), [(0, 6, 7, 2), (0, 6, 11, 3)], 7, [], false, [])
def mL_commonAt : MD := (yL_commonAt, cL_commonAt, 3, (some (.int)), [(0, 5, 6, 3)], 7, [], false, [])
def mL_search : MD := (yL_search, cL_search, 5, (some (.int)), [(0, 7, 8, 2), (0, 7, 13, 4), (0, 7, 18, 3)], 7, [], false, [])
def mL_start : MD := (yL_start, cL_start, 7, (some (.int)), [(0, 11, 12, 2), (0, 11, 17, 4), (0, 11, 22, 5), (0, 11, 27, 1)], 7, [], false, [])
def mL_state : MD := (yL_state, cL_state, 3, (some (.int)), [(0, 5, 6, 2)], 7, [], false, [])
def mL_stateByJournal : MD := (yL_stateByJournal, cL_stateByJournal, 3, (some (.int)), [(0, 5, 6, 2)], 7, [], false, [])
def mL_toDo : MD := (yL_toDo, cL_toDo, 3, (some (.int)), [(0, 5, 6, 2)], 7, [], false, [])
def mL_sessionOf : MD := (yL_sessionOf, cL_sessionOf, 3, (some (.int)), [(0, 5, 6, 2)], 7, [], false, [])
def mL_front : MD := (yL_front, cL_front, 3, (some (.int)), [(0, 5, 6, 2), (0, 5, 10, 3)], 7, [], false, [])
def mL_toFront : MD := (yL_toFront, cL_toFront, 3, (some (.int)), [(0, 13, 14, 2), (0, 13, 18, 5), (0, 13, 22, 1)], 7, [], false, [])
def mL_toBack : MD := (yL_toBack, cL_toBack, 3, (some (.int)), [(0, 5, 6, 2), (0, 5, 10, 3)], 7, [], false, [])
def mL_count : MD := (yL_count, cL_count, 4, (some (.int)), [(0, 6, 7, 2), (0, 6, 11, 4)], 7, [], false, [])
def mL_holder : MD := (yL_holder, cL_holder, 3, (some (.int)), [(0, 5, 6, 4)], 7, [], false, [])
def mL_holderByJobs : MD := (yL_holderByJobs, cL_holderByJobs, 3, (some (.int)), [(0, 5, 6, 4)], 7, [], false, [])
def mL_holds : MD := (yL_holds, cL_holds, 3, (some (.int)), [(0, 13, 14, 2)], 7, [], false, [])
def mL_waitingAt : MD := (yL_waitingAt, cL_waitingAt, 3, (some (.int)), [(0, 5, 6, 3)], 7, [], false, [])
def mL_blockers : MD := (yL_blockers, cL_blockers, 3, (some (.int)), [(0, 5, 6, 2), (0, 5, 10, 1)], 7, [], false, [])
def mL_stop : MD := (yL_stop, cL_stop, 3, (some (.int)), [(0, 5, 6, 2), (0, 5, 10, 1)], 7, [], false, [])
def mL_goOn : MD := (yL_goOn, cL_goOn, 3, (some (.int)), [(0, 5, 6, 2), (0, 5, 10, 1)], 7, [], false, [])
def mL_end : MD := (yL_end, cL_end, 3, (some (.int)), [(0, 5, 6, 2), (0, 5, 10, 1)], 7, [], false, [])
def mL_signal : MD := (yL_signal, cL_signal, 4, (some (.int)), [(0, 6, 7, 2), (0, 6, 11, 4)], 7, [], false, [])
def mL_tick : MD := (yL_tick, cL_tick, 3, (some (.int)), [(0, 5, 6, 4)], 7, [], false, [])
def mL_entryJob : MD := (yL_entryJob, cL_entryJob, 3, (some (.int)), [(0, 5, 6, 3)], 7, [], false, [])
def mL_entryState : MD := (yL_entryState, cL_entryState, 3, (some (.int)), [(0, 5, 6, 3)], 7, [], false, [])
def mL_doneShare : MD := (yL_doneShare, cL_doneShare, 2, (some (.float)), [(0, 4, 5, 3)], 7, [], false, [])
def mL_law : MD := (yL_law, cL_law, 20, (some (.boolean)), [], 7, [], false, [10])
def mL_ofSession : MD := (yL_ofSession, cL_ofSession, 5, (some (.int)), [], 7, [], false, [])
def mL_done : MD := (yL_done, cL_done, 4, (some (.int)), [], 7, [], false, [])
def mL_sum : MD := (yL_sum, cL_sum, 5, (some (.long)), [], 7, [], false, [2])
def mL_areJobs : MD := (yL_areJobs, cL_areJobs, 13, (some (.boolean)), [], 7, [], false, [7])
def mL_areFronts : MD := (yL_areFronts, cL_areFronts, 8, (some (.boolean)), [], 7, [], false, [])
def mL_isJournal : MD := (yL_isJournal, cL_isJournal, 8, (some (.boolean)), [], 7, [], false, [])
def mZ : MD := (⟨"", "", ""⟩, ⟨#[]⟩, 0, none, [], 99, [], false, [])
def fdT0 : List (Nat × (Nat × Nat)) := [(9, (0, 1)), (48, (0, 2)), (63, (0, 0))]
def fdT1 : List (Nat × (Nat × Nat)) := [(9, (1, 0)), (15, (1, 1))]
def fdT2 : List (Nat × (Nat × Nat)) := [(9, (2, 0)), (15, (2, 1)), (19, (2, 2)), (22, (2, 3)), (25, (2, 4)), (29, (2, 5)), (33, (2, 6))]
def fdT3 : List (Nat × (Nat × Nat)) := [(11, (3, 0)), (15, (3, 1)), (18, (3, 2))]
def fdT4 : List (Nat × (Nat × Nat)) := [(9, (4, 0)), (15, (4, 2)), (24, (4, 1)), (28, (4, 3)), (31, (4, 4)), (35, (4, 5))]
def fdT5 : List (Nat × (Nat × Nat)) := [(10, (5, 0)), (16, (5, 1)), (19, (5, 2)), (22, (5, 3)), (37, (5, 4)), (44, (5, 5)), (48, (5, 6)), (76, (4, 2)), (80, (4, 3)), (85, (4, 4)), (97, (4, 5)), (100, (2, 0)), (114, (4, 1)), (117, (1, 1)), (168, (2, 4)), (176, (2, 3)), (179, (2, 1)), (183, (4, 0)), (208, (2, 5)), (218, (2, 2)), (240, (3, 2)), (244, (3, 0)), (263, (1, 0)), (293, (2, 6))]
def fdT12 : List (Nat × (Nat × Nat)) := [(7, (0, 0))]
def fdT : Nat → Nat → Option ((Nat × Nat))
  | 0 => look fdT0
  | 1 => look fdT1
  | 2 => look fdT2
  | 3 => look fdT3
  | 4 => look fdT4
  | 5 => look fdT5
  | 12 => look fdT12
  | _ => fun _ => none
def nwT4 : List (Nat × Nat) := [(19, 1)]
def nwT5 : List (Nat × Nat) := [(7, 0), (32, 1), (41, 3), (63, 4), (101, 2)]
def nwT7 : List (Nat × Nat) := [(15, 5)]
def nwT : Nat → Nat → Option (Nat)
  | 4 => look nwT4
  | 5 => look nwT5
  | 7 => look nwT7
  | _ => fun _ => none
def clT0 : List (Nat × (Nat × Nat × MD)) := [(1, (1, 0, mJxc12de_init_da8c8)), (66, (2, 2, mJ7_copyOf_1904c)), (69, (0, 1, mJx4a65c_grow_92f84)), (73, (2, 3, mJ8_newLength_cabcc)), (79, (5, 2, mZ)), (112, (7, 5, mZ)), (118, (2, 2, mJ15_checkIndex_7cf53)), (123, (0, 1, mJx4a65c_elementData_915e3)), (129, (0, 0, mJx4a65c_grow_d5877)), (131, (0, 3, mJx4a65c_add_72be8)), (144, (0, 2, mJx4a65c_fastRemove_b59b0))]
def clT1 : List (Nat × (Nat × Nat × MD)) := [(3, (3, 0, mZ)), (19, (0, 1, mX0_takeOut))]
def clT2 : List (Nat × (Nat × Nat × MD)) := [(3, (3, 0, mZ))]
def clT3 : List (Nat × (Nat × Nat × MD)) := [(3, (3, 0, mZ)), (22, (4, 2, mZ)), (28, (2, 2, mJ7_copyOf_59c91)), (34, (0, 1, mX2_conditionAt))]
def clT4 : List (Nat × (Nat × Nat × MD)) := [(3, (3, 0, mZ)), (21, (1, 1, mX0_init))]
def clT5 : List (Nat × (Nat × Nat × MD)) := [(1, (3, 0, mZ)), (9, (1, 0, mJx4a65c_init_da8c8)), (26, (2, 2, mJ7_fill_53178)), (34, (1, 1, mX0_init)), (43, (1, 0, mX2_init)), (52, (0, 0, mJx4a65c_size_8abf5)), (65, (1, 2, mX3_init)), (68, (0, 1, mJx4a65c_add_9ea2d)), (72, (0, 1, mX4_sessionNumbered)), (89, (2, 1, mX4_canBeStopped)), (93, (0, 1, mX4_pause)), (108, (2, 1, mX4_canGoOn)), (111, (0, 1, mX4_resume)), (119, (2, 2, mX4_commandOf)), (128, (0, 2, mX0_lastBetween)), (137, (2, 1, mX4_isCommand)), (141, (2, 1, mX4_isWork)), (144, (2, 1, mX4_areLocks)), (154, (1, 4, mX1_init)), (157, (0, 2, mX4_remember)), (161, (0, 1, mX4_waitForLocks)), (164, (0, 1, mX4_jobNumbered)), (172, (0, 1, mX2_lastStateOf)), (184, (2, 1, mX4_jobInFrontOf)), (190, (2, 1, mX4_isOver)), (195, (2, 1, mX4_isState)), (201, (0, 1, mJx4a65c_get_915e3)), (205, (2, 1, mX4_refuseNoLock)), (211, (0, 1, mX1_needs)), (225, (0, 2, mX4_finish)), (231, (0, 2, mX4_obeys)), (237, (0, 0, mX4_passOneTick)), (241, (0, 1, mX4_refuseNoEntry)), (247, (0, 1, mX2_conditionAt)), (270, (0, 1, mX0_append)), (273, (0, 1, mX0_forget)), (276, (0, 2, mX2_write)), (280, (0, 2, mX4_comeInto)), (283, (0, 0, mX4_lookAtOrder)), (286, (0, 1, mX4_leaveOrder)), (289, (0, 2, mX4_setHolder)), (296, (0, 1, mX4_workIsDone)), (299, (0, 1, mJx4a65c_remove_915e3)), (302, (0, 1, mX4_locksAreFreeFor))]
def clT7 : List (Nat × (Nat × Nat × MD)) := [(8, (2, 2, mL_cell)), (14, (0, 1, mX4_open)), (22, (0, 1, mX4_drop)), (28, (0, 1, mX4_takeUp)), (31, (0, 1, mX4_isAttached)), (35, (0, 1, mX4_kept)), (38, (0, 2, mX4_commandAt)), (44, (0, 1, mX4_commonAt)), (47, (0, 3, mX4_search)), (53, (0, 5, mX4_start)), (59, (0, 1, mX4_state)), (63, (0, 1, mX4_stateByJournal)), (66, (0, 1, mX4_toDo)), (69, (0, 1, mX4_sessionOf)), (72, (0, 1, mX4_front)), (75, (0, 1, mX4_toFront)), (78, (0, 1, mX4_toBack)), (81, (0, 2, mX4_count)), (85, (0, 1, mX4_holder)), (88, (0, 1, mX4_holderByJobs)), (91, (0, 1, mX4_holds)), (94, (0, 1, mX4_waitingAt)), (97, (0, 1, mX4_blockers)), (100, (0, 1, mX4_stop)), (103, (0, 1, mX4_goOn)), (106, (0, 1, mX4_end)), (109, (0, 2, mX4_signal)), (112, (0, 1, mX4_tick)), (115, (0, 1, mX4_entryJob)), (118, (0, 1, mX4_entryState)), (121, (0, 0, mX4_doneShare)), (126, (1, 0, mX4_init)), (127, (2, 2, mL_open)), (130, (2, 2, mL_sum)), (134, (2, 3, mL_pick)), (138, (2, 2, mL_front)), (141, (2, 2, mL_drop)), (143, (2, 2, mL_isAttached)), (145, (2, 2, mL_state)), (147, (2, 2, mL_takeUp)), (149, (2, 2, mL_kept)), (151, (2, 6, mL_start)), (154, (2, 2, mL_sessionOf)), (156, (2, 3, mL_commandAt)), (159, (4, 2, mZ)), (164, (2, 4, mL_search)), (167, (2, 2, mL_toFront)), (169, (2, 2, mL_toBack)), (171, (2, 2, mL_holds)), (173, (2, 2, mL_stop)), (175, (0, 0, mX4_waiting)), (179, (2, 2, mL_goOn)), (181, (2, 2, mL_waitingAt)), (183, (2, 2, mL_end)), (185, (2, 3, mL_signal)), (188, (2, 3, mL_count)), (190, (2, 3, mL_ofSession)), (193, (2, 2, mL_done)), (196, (2, 2, mL_tick)), (198, (2, 4, mL_areJobs)), (202, (2, 4, mL_areFronts)), (206, (2, 2, mL_isJournal)), (210, (0, 0, mX4_entries)), (215, (0, 0, mX4_worked)), (223, (0, 0, mX4_common)), (232, (2, 2, mL_holder)), (234, (2, 2, mL_toDo)), (236, (2, 2, mL_stateByJournal)), (238, (2, 2, mL_holderByJobs)), (240, (2, 2, mL_blockers)), (242, (2, 1, mL_doneShare)), (245, (2, 2, mL_commonAt)), (247, (2, 2, mL_entryJob)), (249, (2, 2, mL_entryState))]
def clT8 : List (Nat × (Nat × Nat × MD)) := [(86, (8, 0, mZ)), (150, (7, 5, mZ)), (300, (2, 3, mJ7_copyOf_6403c)), (304, (4, 2, mZ))]
def clT9 : List (Nat × (Nat × Nat × MD)) := [(105, (2, 3, mJ3_checkIndex_8e157))]
def clT11 : List (Nat × (Nat × Nat × MD)) := [(194, (5, 2, mZ)), (201, (2, 2, mJ8_hugeLength_7cf53))]
def clT12 : List (Nat × (Nat × Nat × MD)) := [(1, (1, 0, mJxa1e45_init_da8c8))]
def clT13 : List (Nat × (Nat × Nat × MD)) := [(1, (3, 0, mZ))]
def clT14 : List (Nat × (Nat × Nat × MD)) := [(86, (8, 0, mZ)), (150, (6, 5, mZ)), (300, (2, 3, mJ7_copyOf_6403c)), (304, (4, 2, mZ))]
def clT : Nat → Nat → Option ((Nat × Nat × MD))
  | 0 => look clT0
  | 1 => look clT1
  | 2 => look clT2
  | 3 => look clT3
  | 4 => look clT4
  | 5 => look clT5
  | 7 => look clT7
  | 8 => look clT8
  | 9 => look clT9
  | 11 => look clT11
  | 12 => look clT12
  | 13 => look clT13
  | 14 => look clT14
  | _ => fun _ => none
def TTv : TAB := (fdT, nwT, nwT, clT)
abbrev Ev (E : EN) (d : Nat) (M : MD) (Q : Out → AH → Prop) : PT := EvR TTv E d M Q
theorem bX0_init : mB mX0_init = cX0_init := rfl
theorem bX0_append : mB mX0_append = cX0_append := rfl
theorem bX0_forget : mB mX0_forget = cX0_forget := rfl
theorem bX0_takeOut : mB mX0_takeOut = cX0_takeOut := rfl
theorem bX0_lastBetween : mB mX0_lastBetween = cX0_lastBetween := rfl
theorem bX1_init : mB mX1_init = cX1_init := rfl
theorem bX1_needs : mB mX1_needs = cX1_needs := rfl
theorem bX2_init : mB mX2_init = cX2_init := rfl
theorem bX2_write : mB mX2_write = cX2_write := rfl
theorem bX2_conditionAt : mB mX2_conditionAt = cX2_conditionAt := rfl
theorem bX2_lastStateOf : mB mX2_lastStateOf = cX2_lastStateOf := rfl
theorem bX3_init : mB mX3_init = cX3_init := rfl
theorem bX4_init : mB mX4_init = cX4_init := rfl
theorem bX4_open : mB mX4_open = cX4_open := rfl
theorem bX4_drop : mB mX4_drop = cX4_drop := rfl
theorem bX4_takeUp : mB mX4_takeUp = cX4_takeUp := rfl
theorem bX4_isAttached : mB mX4_isAttached = cX4_isAttached := rfl
theorem bX4_kept : mB mX4_kept = cX4_kept := rfl
theorem bX4_commandAt : mB mX4_commandAt = cX4_commandAt := rfl
theorem bX4_common : mB mX4_common = cX4_common := rfl
theorem bX4_commonAt : mB mX4_commonAt = cX4_commonAt := rfl
theorem bX4_search : mB mX4_search = cX4_search := rfl
theorem bX4_start : mB mX4_start = cX4_start := rfl
theorem bX4_state : mB mX4_state = cX4_state := rfl
theorem bX4_stateByJournal : mB mX4_stateByJournal = cX4_stateByJournal := rfl
theorem bX4_toDo : mB mX4_toDo = cX4_toDo := rfl
theorem bX4_sessionOf : mB mX4_sessionOf = cX4_sessionOf := rfl
theorem bX4_front : mB mX4_front = cX4_front := rfl
theorem bX4_toFront : mB mX4_toFront = cX4_toFront := rfl
theorem bX4_toBack : mB mX4_toBack = cX4_toBack := rfl
theorem bX4_count : mB mX4_count = cX4_count := rfl
theorem bX4_holder : mB mX4_holder = cX4_holder := rfl
theorem bX4_holderByJobs : mB mX4_holderByJobs = cX4_holderByJobs := rfl
theorem bX4_holds : mB mX4_holds = cX4_holds := rfl
theorem bX4_waiting : mB mX4_waiting = cX4_waiting := rfl
theorem bX4_waitingAt : mB mX4_waitingAt = cX4_waitingAt := rfl
theorem bX4_blockers : mB mX4_blockers = cX4_blockers := rfl
theorem bX4_stop : mB mX4_stop = cX4_stop := rfl
theorem bX4_goOn : mB mX4_goOn = cX4_goOn := rfl
theorem bX4_end : mB mX4_end = cX4_end := rfl
theorem bX4_signal : mB mX4_signal = cX4_signal := rfl
theorem bX4_tick : mB mX4_tick = cX4_tick := rfl
theorem bX4_entries : mB mX4_entries = cX4_entries := rfl
theorem bX4_entryJob : mB mX4_entryJob = cX4_entryJob := rfl
theorem bX4_entryState : mB mX4_entryState = cX4_entryState := rfl
theorem bX4_worked : mB mX4_worked = cX4_worked := rfl
theorem bX4_doneShare : mB mX4_doneShare = cX4_doneShare := rfl
theorem bX4_sessionNumbered : mB mX4_sessionNumbered = cX4_sessionNumbered := rfl
theorem bX4_jobNumbered : mB mX4_jobNumbered = cX4_jobNumbered := rfl
theorem bX4_jobInFrontOf : mB mX4_jobInFrontOf = cX4_jobInFrontOf := rfl
theorem bX4_commandOf : mB mX4_commandOf = cX4_commandOf := rfl
theorem bX4_refuseNoLock : mB mX4_refuseNoLock = cX4_refuseNoLock := rfl
theorem bX4_refuseNoEntry : mB mX4_refuseNoEntry = cX4_refuseNoEntry := rfl
theorem bX4_isCommand : mB mX4_isCommand = cX4_isCommand := rfl
theorem bX4_isWork : mB mX4_isWork = cX4_isWork := rfl
theorem bX4_areLocks : mB mX4_areLocks = cX4_areLocks := rfl
theorem bX4_isState : mB mX4_isState = cX4_isState := rfl
theorem bX4_canBeStopped : mB mX4_canBeStopped = cX4_canBeStopped := rfl
theorem bX4_canGoOn : mB mX4_canGoOn = cX4_canGoOn := rfl
theorem bX4_isOver : mB mX4_isOver = cX4_isOver := rfl
theorem bX4_remember : mB mX4_remember = cX4_remember := rfl
theorem bX4_comeInto : mB mX4_comeInto = cX4_comeInto := rfl
theorem bX4_waitForLocks : mB mX4_waitForLocks = cX4_waitForLocks := rfl
theorem bX4_pause : mB mX4_pause = cX4_pause := rfl
theorem bX4_resume : mB mX4_resume = cX4_resume := rfl
theorem bX4_finish : mB mX4_finish = cX4_finish := rfl
theorem bX4_obeys : mB mX4_obeys = cX4_obeys := rfl
theorem bX4_passOneTick : mB mX4_passOneTick = cX4_passOneTick := rfl
theorem bX4_workIsDone : mB mX4_workIsDone = cX4_workIsDone := rfl
theorem bX4_leaveOrder : mB mX4_leaveOrder = cX4_leaveOrder := rfl
theorem bX4_lookAtOrder : mB mX4_lookAtOrder = cX4_lookAtOrder := rfl
theorem bX4_locksAreFreeFor : mB mX4_locksAreFreeFor = cX4_locksAreFreeFor := rfl
theorem bX4_setHolder : mB mX4_setHolder = cX4_setHolder := rfl
theorem bJxa1e45_init_da8c8 : mB mJxa1e45_init_da8c8 = cJxa1e45_init_da8c8 := rfl
theorem bJxc12de_init_da8c8 : mB mJxc12de_init_da8c8 = cJxc12de_init_da8c8 := rfl
theorem bJx4a65c_init_da8c8 : mB mJx4a65c_init_da8c8 = cJx4a65c_init_da8c8 := rfl
theorem bJx4a65c_grow_92f84 : mB mJx4a65c_grow_92f84 = cJx4a65c_grow_92f84 := rfl
theorem bJx4a65c_grow_d5877 : mB mJx4a65c_grow_d5877 = cJx4a65c_grow_d5877 := rfl
theorem bJx4a65c_size_8abf5 : mB mJx4a65c_size_8abf5 = cJx4a65c_size_8abf5 := rfl
theorem bJx4a65c_elementData_915e3 : mB mJx4a65c_elementData_915e3 = cJx4a65c_elementData_915e3 := rfl
theorem bJx4a65c_get_915e3 : mB mJx4a65c_get_915e3 = cJx4a65c_get_915e3 := rfl
theorem bJx4a65c_add_72be8 : mB mJx4a65c_add_72be8 = cJx4a65c_add_72be8 := rfl
theorem bJx4a65c_add_9ea2d : mB mJx4a65c_add_9ea2d = cJx4a65c_add_9ea2d := rfl
theorem bJx4a65c_remove_915e3 : mB mJx4a65c_remove_915e3 = cJx4a65c_remove_915e3 := rfl
theorem bJx4a65c_fastRemove_b59b0 : mB mJx4a65c_fastRemove_b59b0 = cJx4a65c_fastRemove_b59b0 := rfl
theorem bJ7_fill_53178 : mB mJ7_fill_53178 = cJ7_fill_53178 := rfl
theorem bJ7_copyOf_1904c : mB mJ7_copyOf_1904c = cJ7_copyOf_1904c := rfl
theorem bJ7_copyOf_6403c : mB mJ7_copyOf_6403c = cJ7_copyOf_6403c := rfl
theorem bJ7_copyOf_59c91 : mB mJ7_copyOf_59c91 = cJ7_copyOf_59c91 := rfl
theorem bJ15_checkIndex_7cf53 : mB mJ15_checkIndex_7cf53 = cJ15_checkIndex_7cf53 := rfl
theorem bJ8_newLength_cabcc : mB mJ8_newLength_cabcc = cJ8_newLength_cabcc := rfl
theorem bJ8_hugeLength_7cf53 : mB mJ8_hugeLength_7cf53 = cJ8_hugeLength_7cf53 := rfl
theorem bJ3_checkIndex_8e157 : mB mJ3_checkIndex_8e157 = cJ3_checkIndex_8e157 := rfl
theorem bL_cell : mB mL_cell = cL_cell := rfl
theorem bL_pick : mB mL_pick = cL_pick := rfl
theorem bL_open : mB mL_open = cL_open := rfl
theorem bL_drop : mB mL_drop = cL_drop := rfl
theorem bL_takeUp : mB mL_takeUp = cL_takeUp := rfl
theorem bL_isAttached : mB mL_isAttached = cL_isAttached := rfl
theorem bL_kept : mB mL_kept = cL_kept := rfl
theorem bL_commandAt : mB mL_commandAt = cL_commandAt := rfl
theorem bL_commonAt : mB mL_commonAt = cL_commonAt := rfl
theorem bL_search : mB mL_search = cL_search := rfl
theorem bL_start : mB mL_start = cL_start := rfl
theorem bL_state : mB mL_state = cL_state := rfl
theorem bL_stateByJournal : mB mL_stateByJournal = cL_stateByJournal := rfl
theorem bL_toDo : mB mL_toDo = cL_toDo := rfl
theorem bL_sessionOf : mB mL_sessionOf = cL_sessionOf := rfl
theorem bL_front : mB mL_front = cL_front := rfl
theorem bL_toFront : mB mL_toFront = cL_toFront := rfl
theorem bL_toBack : mB mL_toBack = cL_toBack := rfl
theorem bL_count : mB mL_count = cL_count := rfl
theorem bL_holder : mB mL_holder = cL_holder := rfl
theorem bL_holderByJobs : mB mL_holderByJobs = cL_holderByJobs := rfl
theorem bL_holds : mB mL_holds = cL_holds := rfl
theorem bL_waitingAt : mB mL_waitingAt = cL_waitingAt := rfl
theorem bL_blockers : mB mL_blockers = cL_blockers := rfl
theorem bL_stop : mB mL_stop = cL_stop := rfl
theorem bL_goOn : mB mL_goOn = cL_goOn := rfl
theorem bL_end : mB mL_end = cL_end := rfl
theorem bL_signal : mB mL_signal = cL_signal := rfl
theorem bL_tick : mB mL_tick = cL_tick := rfl
theorem bL_entryJob : mB mL_entryJob = cL_entryJob := rfl
theorem bL_entryState : mB mL_entryState = cL_entryState := rfl
theorem bL_doneShare : mB mL_doneShare = cL_doneShare := rfl
theorem bL_law : mB mL_law = cL_law := rfl
theorem bL_ofSession : mB mL_ofSession = cL_ofSession := rfl
theorem bL_done : mB mL_done = cL_done := rfl
theorem bL_sum : mB mL_sum = cL_sum := rfl
theorem bL_areJobs : mB mL_areJobs = cL_areJobs := rfl
theorem bL_areFronts : mB mL_areFronts = cL_areFronts := rfl
theorem bL_isJournal : mB mL_isJournal = cL_isJournal := rfl
