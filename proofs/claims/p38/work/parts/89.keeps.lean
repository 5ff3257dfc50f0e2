/-! what each call keeps: codes, journal, Good -/
section KEEP
variable {σ : Sg} {T : Nat}
theorem z_open {p1 : Bool} : (a_open σ p1).1 ≤ 4 := by
    unfold a_open
    repeat' split
    all_goals simp
theorem y_open {p1 : Bool} : JJ σ ≤ JJ (a_open σ p1).2.2 := by
    unfold a_open
    split
    · exact Nat.le_refl _
    · show JJ σ ≤ JJ (openF σ _)
      rw [JJ_e (σ := σ) (τ := openF σ _) open_1.2.2.2.2.2.2.2.2.2.2.2.2.2.2.2]
      exact Nat.le_refl _
theorem x_open {p1 : Bool} (G : Good σ T) : Good (a_open σ p1).2.2 (T + 30) := a_open_keep G
theorem z_setPrivate {v1 : Int32} {p2 : Bool} : (q_setPrivate σ v1 p2).1 ≤ 4 := by
    unfold q_setPrivate
    repeat' split
    all_goals simp
theorem y_setPrivate {v1 : Int32} {p2 : Bool} : JJ σ ≤ JJ (q_setPrivate σ v1 p2).2.2 := by
    unfold q_setPrivate
    split
    · exact Nat.le_refl _
    · exact Nat.le_of_eq (JJ_e g_jn_pv).symm
theorem x_setPrivate {v1 : Int32} {p2 : Bool} (G : Good σ T) : Good (q_setPrivate σ v1 p2).2.2 (T + 30) := a_setPrivate_keep G
theorem z_drop {v1 : Int32} : (a_drop σ v1).1 ≤ 4 := by
    unfold a_drop
    repeat' split
    all_goals simp
theorem y_drop {v1 : Int32} : JJ σ ≤ JJ (a_drop σ v1).2.2 := by
    unfold a_drop
    split
    · exact Nat.le_refl _
    · split
      · split
        · rw [JJ_att]; exact Nat.le_refl _
        · split
          · rw [JJ_att]; exact Nat.le_refl _
          · rw [JJ_park]
            refine Nat.le_trans ?_ JJ_stops
            rw [JJ_att]; exact Nat.le_refl _
      · exact Nat.le_refl _
theorem x_drop {v1 : Int32} (G : Good σ T) : Good (a_drop σ v1).2.2 (T + 30) := a_drop_keep G
theorem z_takeUp {v1 : Int32} : (a_takeUp σ v1).1 ≤ 4 := by
    unfold a_takeUp
    repeat' split
    all_goals simp
theorem y_takeUp {v1 : Int32} : JJ σ ≤ JJ (a_takeUp σ v1).2.2 := by
    unfold a_takeUp
    split
    · exact Nat.le_refl _
    · split
      · exact Nat.le_refl _
      · split
        · rw [JJ_park, JJ_att]; exact Nat.le_refl _
        · split
          · refine Nat.le_trans ?_ JJ_goesOn
            rw [JJ_park, JJ_att]; exact Nat.le_refl _
          · rw [JJ_park, JJ_att]; exact Nat.le_refl _
theorem x_takeUp {v1 : Int32} (G : Good σ T) : Good (a_takeUp σ v1).2.2 (T + 30) := a_takeUp_keep G
theorem z_isAttached {v1 : Int32} : (q_isAttached σ v1).1 ≤ 4 := by
    unfold q_isAttached
    repeat' split
    all_goals simp
theorem u_isAttached {v1 : Int32} : (q_isAttached σ v1).2.2 = σ := by
    unfold q_isAttached
    repeat' split
    all_goals rfl
theorem y_isAttached {v1 : Int32} : JJ σ ≤ JJ (q_isAttached σ v1).2.2 := by rw [u_isAttached]; exact Nat.le_refl _
theorem x_isAttached {v1 : Int32} (G : Good σ T) : Good (q_isAttached σ v1).2.2 (T + 30) := by rw [u_isAttached]; exact G.up (by omega)
theorem z_kept {v1 : Int32} : (q_kept σ v1).1 ≤ 4 := by
    unfold q_kept
    repeat' split
    all_goals simp
theorem u_kept {v1 : Int32} : (q_kept σ v1).2.2 = σ := by
    unfold q_kept
    repeat' split
    all_goals rfl
theorem y_kept {v1 : Int32} : JJ σ ≤ JJ (q_kept σ v1).2.2 := by rw [u_kept]; exact Nat.le_refl _
theorem x_kept {v1 : Int32} (G : Good σ T) : Good (q_kept σ v1).2.2 (T + 30) := by rw [u_kept]; exact G.up (by omega)
theorem z_commandAt {v1 v2 : Int32} : (q_commandAt σ v1 v2).1 ≤ 4 := by
    unfold q_commandAt
    repeat' split
    all_goals simp
theorem u_commandAt {v1 v2 : Int32} : (q_commandAt σ v1 v2).2.2 = σ := by
    unfold q_commandAt
    repeat' split
    all_goals rfl
theorem y_commandAt {v1 v2 : Int32} : JJ σ ≤ JJ (q_commandAt σ v1 v2).2.2 := by rw [u_commandAt]; exact Nat.le_refl _
theorem x_commandAt {v1 v2 : Int32} (G : Good σ T) : Good (q_commandAt σ v1 v2).2.2 (T + 30) := by rw [u_commandAt]; exact G.up (by omega)
theorem z_commonAt {v1 : Int32} : (q_commonAt σ v1).1 ≤ 4 := by
    unfold q_commonAt
    repeat' split
    all_goals simp
theorem u_commonAt {v1 : Int32} : (q_commonAt σ v1).2.2 = σ := by
    unfold q_commonAt
    repeat' split
    all_goals rfl
theorem y_commonAt {v1 : Int32} : JJ σ ≤ JJ (q_commonAt σ v1).2.2 := by rw [u_commonAt]; exact Nat.le_refl _
theorem x_commonAt {v1 : Int32} (G : Good σ T) : Good (q_commonAt σ v1).2.2 (T + 30) := by rw [u_commonAt]; exact G.up (by omega)
theorem z_search {v1 v2 v3 : Int32} : (a_search σ v1 v2 v3).1 ≤ 4 := by
    unfold a_search
    repeat' split
    all_goals first | simp | skip
    all_goals (unfold sres sres2; repeat' split)
    all_goals simp
theorem u_search {v1 v2 v3 : Int32} : (a_search σ v1 v2 v3).2.2 = σ := by
    unfold a_search
    repeat' split
    all_goals first | rfl | skip
    all_goals (unfold sres sres2; repeat' split)
    all_goals rfl
theorem y_search {v1 v2 v3 : Int32} : JJ σ ≤ JJ (a_search σ v1 v2 v3).2.2 := by rw [u_search]; exact Nat.le_refl _
theorem x_search {v1 v2 v3 : Int32} (G : Good σ T) : Good (a_search σ v1 v2 v3).2.2 (T + 30) := by rw [u_search]; exact G.up (by omega)
theorem z_start {v1 v2 v3 v4 : Int32} {p5 : Bool} : (a_start σ v1 v2 v3 v4 p5).1 ≤ 4 := by
    unfold a_start
    repeat' split
    all_goals simp
theorem y_start {v1 v2 v3 v4 : Int32} {p5 : Bool} : JJ σ ≤ JJ (a_start σ v1 v2 v3 v4 p5).2.2 := by
    unfold a_start
    repeat' split
    all_goals first | exact Nat.le_refl _ | skip
    all_goals (
      show JJ σ ≤ JJ (started _ _ _ _ _ _)
      rw [started_eq]
      refine Nat.le_trans ?_ JJ_l
      refine jcap_mono ?_
      unfold bgn
      rw [g_jn_jn, List.length_append, rem_keep.2.2.2.1]
      omega)
theorem x_start {v1 v2 v3 v4 : Int32} {p5 : Bool} (G : Good σ T) : Good (a_start σ v1 v2 v3 v4 p5).2.2 (T + 30) := a_start_keep G
theorem z_state {v1 : Int32} : (q_state σ v1).1 ≤ 4 := by
    unfold q_state
    repeat' split
    all_goals simp
theorem u_state {v1 : Int32} : (q_state σ v1).2.2 = σ := by
    unfold q_state
    repeat' split
    all_goals rfl
theorem y_state {v1 : Int32} : JJ σ ≤ JJ (q_state σ v1).2.2 := by rw [u_state]; exact Nat.le_refl _
theorem x_state {v1 : Int32} (G : Good σ T) : Good (q_state σ v1).2.2 (T + 30) := by rw [u_state]; exact G.up (by omega)
theorem z_stateByJournal {v1 : Int32} : (q_state σ v1).1 ≤ 4 := by
    unfold q_state
    repeat' split
    all_goals simp
theorem u_stateByJournal {v1 : Int32} : (q_state σ v1).2.2 = σ := by
    unfold q_state
    repeat' split
    all_goals rfl
theorem y_stateByJournal {v1 : Int32} : JJ σ ≤ JJ (q_state σ v1).2.2 := by rw [u_stateByJournal]; exact Nat.le_refl _
theorem x_stateByJournal {v1 : Int32} (G : Good σ T) : Good (q_state σ v1).2.2 (T + 30) := by rw [u_stateByJournal]; exact G.up (by omega)
theorem z_toDo {v1 : Int32} : (q_toDo σ v1).1 ≤ 4 := by
    unfold q_toDo
    repeat' split
    all_goals simp
theorem u_toDo {v1 : Int32} : (q_toDo σ v1).2.2 = σ := by
    unfold q_toDo
    repeat' split
    all_goals rfl
theorem y_toDo {v1 : Int32} : JJ σ ≤ JJ (q_toDo σ v1).2.2 := by rw [u_toDo]; exact Nat.le_refl _
theorem x_toDo {v1 : Int32} (G : Good σ T) : Good (q_toDo σ v1).2.2 (T + 30) := by rw [u_toDo]; exact G.up (by omega)
theorem z_sessionOf {v1 : Int32} : (q_sessionOf σ v1).1 ≤ 4 := by
    unfold q_sessionOf
    repeat' split
    all_goals simp
theorem u_sessionOf {v1 : Int32} : (q_sessionOf σ v1).2.2 = σ := by
    unfold q_sessionOf
    repeat' split
    all_goals rfl
theorem y_sessionOf {v1 : Int32} : JJ σ ≤ JJ (q_sessionOf σ v1).2.2 := by rw [u_sessionOf]; exact Nat.le_refl _
theorem x_sessionOf {v1 : Int32} (G : Good σ T) : Good (q_sessionOf σ v1).2.2 (T + 30) := by rw [u_sessionOf]; exact G.up (by omega)
theorem z_front {v1 : Int32} : (q_front σ v1).1 ≤ 4 := by
    unfold q_front
    repeat' split
    all_goals simp
theorem u_front {v1 : Int32} : (q_front σ v1).2.2 = σ := by
    unfold q_front
    repeat' split
    all_goals rfl
theorem y_front {v1 : Int32} : JJ σ ≤ JJ (q_front σ v1).2.2 := by rw [u_front]; exact Nat.le_refl _
theorem x_front {v1 : Int32} (G : Good σ T) : Good (q_front σ v1).2.2 (T + 30) := by rw [u_front]; exact G.up (by omega)
theorem z_toFront {v1 : Int32} : (a_toFront σ v1).1 ≤ 4 := by
    unfold a_toFront
    repeat' split
    all_goals simp
theorem y_toFront {v1 : Int32} : JJ σ ≤ JJ (a_toFront σ v1).2.2 := by
    unfold a_toFront
    split
    · exact Nat.le_refl _
    · split
      · exact Nat.le_refl _
      · split
        · split
          · exact Nat.le_of_eq (JJ_e g_jn_fr).symm
          · exact Nat.le_refl _
        · exact Nat.le_refl _
theorem x_toFront {v1 : Int32} (G : Good σ T) : Good (a_toFront σ v1).2.2 (T + 30) := a_toFront_keep G
theorem z_toBack {v1 : Int32} : (q_toBack σ v1).1 ≤ 4 := by
    unfold q_toBack
    repeat' split
    all_goals simp
theorem y_toBack {v1 : Int32} : JJ σ ≤ JJ (q_toBack σ v1).2.2 := by
    unfold q_toBack
    split
    · exact Nat.le_refl _
    · split
      · exact Nat.le_refl _
      · exact Nat.le_of_eq (JJ_e g_jn_fr).symm
theorem x_toBack {v1 : Int32} (G : Good σ T) : Good (q_toBack σ v1).2.2 (T + 30) := a_toBack_keep G
theorem z_count {v1 v2 : Int32} : (q_count σ v1 v2).1 ≤ 4 := by
    unfold q_count
    repeat' split
    all_goals simp
theorem u_count {v1 v2 : Int32} : (q_count σ v1 v2).2.2 = σ := by
    unfold q_count
    repeat' split
    all_goals rfl
theorem y_count {v1 v2 : Int32} : JJ σ ≤ JJ (q_count σ v1 v2).2.2 := by rw [u_count]; exact Nat.le_refl _
theorem x_count {v1 v2 : Int32} (G : Good σ T) : Good (q_count σ v1 v2).2.2 (T + 30) := by rw [u_count]; exact G.up (by omega)
theorem z_holder {v1 : Int32} : (q_holder σ v1).1 ≤ 4 := by
    unfold q_holder
    repeat' split
    all_goals simp
theorem u_holder {v1 : Int32} : (q_holder σ v1).2.2 = σ := by
    unfold q_holder
    repeat' split
    all_goals rfl
theorem y_holder {v1 : Int32} : JJ σ ≤ JJ (q_holder σ v1).2.2 := by rw [u_holder]; exact Nat.le_refl _
theorem x_holder {v1 : Int32} (G : Good σ T) : Good (q_holder σ v1).2.2 (T + 30) := by rw [u_holder]; exact G.up (by omega)
theorem z_holderByJobs {v1 : Int32} : (q_holder σ v1).1 ≤ 4 := by
    unfold q_holder
    repeat' split
    all_goals simp
theorem u_holderByJobs {v1 : Int32} : (q_holder σ v1).2.2 = σ := by
    unfold q_holder
    repeat' split
    all_goals rfl
theorem y_holderByJobs {v1 : Int32} : JJ σ ≤ JJ (q_holder σ v1).2.2 := by rw [u_holderByJobs]; exact Nat.le_refl _
theorem x_holderByJobs {v1 : Int32} (G : Good σ T) : Good (q_holder σ v1).2.2 (T + 30) := by rw [u_holderByJobs]; exact G.up (by omega)
theorem z_holds {v1 : Int32} : (q_holds σ v1).1 ≤ 4 := by
    unfold q_holds
    repeat' split
    all_goals simp
theorem u_holds {v1 : Int32} : (q_holds σ v1).2.2 = σ := by
    unfold q_holds
    repeat' split
    all_goals rfl
theorem y_holds {v1 : Int32} : JJ σ ≤ JJ (q_holds σ v1).2.2 := by rw [u_holds]; exact Nat.le_refl _
theorem x_holds {v1 : Int32} (G : Good σ T) : Good (q_holds σ v1).2.2 (T + 30) := by rw [u_holds]; exact G.up (by omega)
theorem z_waitingAt {v1 : Int32} : (q_waitingAt σ v1).1 ≤ 4 := by
    unfold q_waitingAt
    repeat' split
    all_goals simp
theorem u_waitingAt {v1 : Int32} : (q_waitingAt σ v1).2.2 = σ := by
    unfold q_waitingAt
    repeat' split
    all_goals rfl
theorem y_waitingAt {v1 : Int32} : JJ σ ≤ JJ (q_waitingAt σ v1).2.2 := by rw [u_waitingAt]; exact Nat.le_refl _
theorem x_waitingAt {v1 : Int32} (G : Good σ T) : Good (q_waitingAt σ v1).2.2 (T + 30) := by rw [u_waitingAt]; exact G.up (by omega)
theorem z_blockers {v1 : Int32} : (q_blockers σ v1).1 ≤ 4 := by
    unfold q_blockers
    repeat' split
    all_goals simp
theorem u_blockers {v1 : Int32} : (q_blockers σ v1).2.2 = σ := by
    unfold q_blockers
    repeat' split
    all_goals rfl
theorem y_blockers {v1 : Int32} : JJ σ ≤ JJ (q_blockers σ v1).2.2 := by rw [u_blockers]; exact Nat.le_refl _
theorem x_blockers {v1 : Int32} (G : Good σ T) : Good (q_blockers σ v1).2.2 (T + 30) := by rw [u_blockers]; exact G.up (by omega)
theorem z_stop {v1 : Int32} : (a_stop σ v1).1 ≤ 4 := by
    unfold a_stop
    repeat' split
    all_goals simp
theorem y_stop {v1 : Int32} : JJ σ ≤ JJ (a_stop σ v1).2.2 := by
    unfold a_stop
    split
    · exact Nat.le_refl _
    · split
      · exact Nat.le_refl _
      · exact JJ_stops
theorem x_stop {v1 : Int32} (G : Good σ T) : Good (a_stop σ v1).2.2 (T + 30) := a_stop_keep G
theorem z_goOn {v1 : Int32} : (a_goOn σ v1).1 ≤ 4 := by
    unfold a_goOn
    repeat' split
    all_goals simp
theorem y_goOn {v1 : Int32} : JJ σ ≤ JJ (a_goOn σ v1).2.2 := by
    unfold a_goOn
    split
    · exact Nat.le_refl _
    · split
      · exact JJ_goesOn
      · exact Nat.le_refl _
theorem x_goOn {v1 : Int32} (G : Good σ T) : Good (a_goOn σ v1).2.2 (T + 30) := a_goOn_keep G
theorem z_end {v1 : Int32} : (a_end σ v1).1 ≤ 4 := by
    unfold a_end
    repeat' split
    all_goals simp
theorem y_end {v1 : Int32} : JJ σ ≤ JJ (a_end σ v1).2.2 := by
    unfold a_end
    split
    · exact Nat.le_refl _
    · split
      · exact JJ_ends
      · exact Nat.le_refl _
theorem x_end {v1 : Int32} (G : Good σ T) : Good (a_end σ v1).2.2 (T + 30) := a_end_keep G
theorem z_signal {v1 v2 : Int32} : (a_signal σ v1 v2).1 ≤ 4 := by
    unfold a_signal
    repeat' split
    all_goals simp
theorem y_signal {v1 v2 : Int32} : JJ σ ≤ JJ (a_signal σ v1 v2).2.2 := by
    unfold a_signal
    split
    · exact Nat.le_refl _
    · split
      · exact Nat.le_refl _
      · exact JJ_sigL _ _ _ _
theorem x_signal {v1 v2 : Int32} (G : Good σ T) : Good (a_signal σ v1 v2).2.2 (T + 30) := a_signal_keep G
theorem z_tick {v1 : Int32} : (a_tick σ v1).1 ≤ 4 := by
    unfold a_tick
    repeat' split
    all_goals simp
theorem y_tick {v1 : Int32} : JJ σ ≤ JJ (a_tick σ v1).2.2 := by
    unfold a_tick
    split
    · exact Nat.le_refl _
    · exact JJ_manyF _ _ _
theorem x_tick {v1 : Int32} (G : Good σ T) : Good (a_tick σ v1).2.2 (T + 30) := a_tick_keep G
theorem z_entryJob {v1 : Int32} : (q_entryJob σ v1).1 ≤ 4 := by
    unfold q_entryJob
    repeat' split
    all_goals simp
theorem u_entryJob {v1 : Int32} : (q_entryJob σ v1).2.2 = σ := by
    unfold q_entryJob
    repeat' split
    all_goals rfl
theorem y_entryJob {v1 : Int32} : JJ σ ≤ JJ (q_entryJob σ v1).2.2 := by rw [u_entryJob]; exact Nat.le_refl _
theorem x_entryJob {v1 : Int32} (G : Good σ T) : Good (q_entryJob σ v1).2.2 (T + 30) := by rw [u_entryJob]; exact G.up (by omega)
theorem z_entryState {v1 : Int32} : (q_entryState σ v1).1 ≤ 4 := by
    unfold q_entryState
    repeat' split
    all_goals simp
theorem u_entryState {v1 : Int32} : (q_entryState σ v1).2.2 = σ := by
    unfold q_entryState
    repeat' split
    all_goals rfl
theorem y_entryState {v1 : Int32} : JJ σ ≤ JJ (q_entryState σ v1).2.2 := by rw [u_entryState]; exact Nat.le_refl _
theorem x_entryState {v1 : Int32} (G : Good σ T) : Good (q_entryState σ v1).2.2 (T + 30) := by rw [u_entryState]; exact G.up (by omega)
end KEEP
