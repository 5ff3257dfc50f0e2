theorem cl_at : ∀ {ci : Nat}, ci < 6 → vwCl[ci]? = some (oN ci, TC ci, nC ci)
  | 0, _ => rfl
  | 1, _ => rfl
  | 2, _ => rfl
  | 3, _ => rfl
  | 4, _ => rfl
  | 5, _ => rfl
  | _ + 6, h => absurd h (by omega)
theorem nm_at : ∀ {ci : Nat}, ci < 6 → ∀ a, a < nC ci → ∀ b, b < nC ci → a ≠ b → (TC ci a).2.1 ≠ (TC ci b).2.1
  | 0, _ => nmJx4a65c
  | 1, _ => nmX0
  | 2, _ => nmX1
  | 3, _ => nmX2
  | 4, _ => nmX3
  | 5, _ => nmX4
  | _ + 6, h => absurd h (by omega)
theorem ty_at : ∀ {ci : Nat}, ci < 6 → ∀ k, k < nC ci → parseFieldDescriptor (TC ci k).2.2.1 = some (tyC ci k)
  | 0, _ => tyJx4a65c_ok
  | 1, _ => tyX0_ok
  | 2, _ => tyX1_ok
  | 3, _ => tyX2_ok
  | 4, _ => tyX3_ok
  | 5, _ => tyX4_ok
  | _ + 6, h => absurd h (by omega)
theorem wl_at : ∀ {ci : Nat}, ci < 6 → ∀ w ∈ u_ws (oN ci) (TC ci) (nC ci), w ∈ lw_G
  | 0, _ => wl0
  | 1, _ => wl1
  | 2, _ => wl2
  | 3, _ => wl3
  | 4, _ => wl4
  | 5, _ => wl5
  | _ + 6, h => absurd h (by omega)
theorem wi_at : ∀ {ci : Nat}, ci < 6 → Cond.instantiable (oN ci) (nC ci) ∈ lw_G
  | 0, _ => wi0
  | 1, _ => wi1
  | 2, _ => wi2
  | 3, _ => wi3
  | 4, _ => wi4
  | 5, _ => wi5
  | _ + 6, h => absurd h (by omega)
theorem wj_at : ∀ {ci : Nat}, ci < 6 → Cond.initialized (oN ci) ∈ lw_G
  | 0, _ => wj0
  | 1, _ => wj1
  | 2, _ => wj2
  | 3, _ => wj3
  | 4, _ => wj4
  | 5, _ => wj5
  | _ + 6, h => absurd h (by omega)
/-- the machine's locals under ours -/
def Lr (l : List Nat) (lsA : Array Slot) (nL : Nat) (ls : List Value) : Prop := ∃ lv, lv_has lsA nL lv ∧ ls.length = nL ∧ ∀ (i : Nat) (v : Value), ls[i]? = some v → v ≠ .retAddr 0 → (v.category = 1 ∨ jl l i = true) ∧ (i, v) ∈ lv
theorem Lr.at {l : List Nat} {lsA : Array Slot} {nL : Nat} {ls : List Value} (h : Lr l lsA nL ls) {i : Nat} {v : Value} (hv : ls[i]? = some v) (hn : v ≠ .retAddr 0) : lsA[i]? = some (.val v) := by
  obtain ⟨lv, h1, h2, h3⟩ := h
  exact h1.2.2 (i, v) (h3 i v hv hn).2
theorem Lr.size {l : List Nat} {lsA : Array Slot} {nL : Nat} {ls : List Value} (h : Lr l lsA nL ls) : lsA.size = nL := by
  obtain ⟨lv, h1, -⟩ := h
  exact h1.1
theorem jl_jp : ∀ {l : List Nat} {j : Nat}, jl l j = true → jp l (j + 1) = true
  | [], _, h => nomatch h
  | x :: r, j, h => by
    unfold jl at h
    unfold jp
    cases h1 : Nat.beq x j with
    | true => rw [Nat.eq_of_beq_eq_true h1, Nat.beq_refl]
    | false =>
      rw [h1] at h
      have ih := jl_jp (l := r) h
      cases Nat.beq (x + 1) (j + 1) with
      | true => rfl
      | false => exact ih
theorem Lr_set {l : List Nat} {lsB : Array Slot} {nL : Nat} {ls : List Value} {lv : List (Nat × Value)} {i : Nat} {v : Value} (hjp : jp l i = false) (hl : ls.length = nL) (h3 : ∀ (i : Nat) (v : Value), ls[i]? = some v → v ≠ .retAddr 0 → (v.category = 1 ∨ jl l i = true) ∧ (i, v) ∈ lv) (hv : v.category = 1)
    (h1 : lv_has lsB nL ((i, v) :: lv.filter (fun q => !(q.1 == i) && !(q.1 + 1 == i && q.2.category == 2)))) : Lr l lsB nL (ls.set i v) := by
  refine ⟨_, h1, by rw [List.length_set]; exact hl, fun j w hw hn => ?_⟩
  by_cases hj : j = i
  · subst hj
    by_cases hlt : j < ls.length
    · rw [List.getElem?_set_self hlt] at hw
      cases hw
      exact ⟨Or.inl hv, List.mem_cons_self⟩
    · rw [List.getElem?_eq_none (by rw [List.length_set]; omega)] at hw
      cases hw
  · rw [List.getElem?_set_ne (Ne.symm hj)] at hw
    obtain ⟨g1, g2⟩ := h3 j w hw hn
    refine ⟨g1, List.mem_cons_of_mem _ (List.mem_filter.mpr ⟨g2, ?_⟩)⟩
    rcases g1 with g1 | g1
    · simp [hj, g1]
    · have h9 : ¬ j + 1 = i := by
        intro h9
        rw [← h9, jl_jp g1] at hjp
        cases hjp
      simp [hj, h9]
theorem Lr_set2 {l : List Nat} {lsB : Array Slot} {nL : Nat} {ls : List Value} {lv : List (Nat × Value)} {i : Nat} {v : Value} (hjl : jl l i = true) (hjp : jp l i = false) (hl : ls.length = nL) (h3 : ∀ (i : Nat) (v : Value), ls[i]? = some v → v ≠ .retAddr 0 → (v.category = 1 ∨ jl l i = true) ∧ (i, v) ∈ lv)
    (h1 : lv_has lsB nL ((i, v) :: lv.filter (fun q => !(q.1 == i) && (!(q.1 == i + 1) && !(q.1 + 1 == i && q.2.category == 2))))) : Lr l lsB nL ((ls.set i v).set (i + 1) (.retAddr 0)) := by
  refine ⟨_, h1, by rw [List.length_set, List.length_set]; exact hl, fun j w hw hn => ?_⟩
  by_cases hj1 : j = i + 1
  · subst hj1
    by_cases hlt : i + 1 < (ls.set i v).length
    · rw [List.getElem?_set_self hlt] at hw
      cases hw
      exact absurd rfl hn
    · rw [List.getElem?_eq_none (by rw [List.length_set]; omega)] at hw
      cases hw
  · rw [List.getElem?_set_ne (Ne.symm hj1)] at hw
    by_cases hj : j = i
    · subst hj
      by_cases hlt : j < ls.length
      · rw [List.getElem?_set_self hlt] at hw
        cases hw
        exact ⟨Or.inr hjl, List.mem_cons_self⟩
      · rw [List.getElem?_eq_none (by rw [List.length_set]; omega)] at hw
        cases hw
    · rw [List.getElem?_set_ne (Ne.symm hj)] at hw
      obtain ⟨g1, g2⟩ := h3 j w hw hn
      refine ⟨g1, List.mem_cons_of_mem _ (List.mem_filter.mpr ⟨g2, ?_⟩)⟩
      rcases g1 with g1 | g1
      · simp [hj, hj1, g1]
      · have h9 : ¬ j + 1 = i := by
          intro h9
          rw [← h9, jl_jp g1] at hjp
          cases hjp
        simp [hj, hj1, h9]
/-- a cell of ours in a world of the kit's -/
def inW (ws : va_W) (tys : List (ClassId × FieldType)) (a : Nat) (x : AC) : Prop := match x with
  | .inl y => ∃ (i j : Nat) (cA : ClassId), ws[i]? = some (a, .inl (cA, y.2)) ∧ tys[j]? = some (cA, kT y.1)
  | .inr o => ∃ i : Nat, ws[i]? = some (a, .inr o)
def Wd (G : va_G) (A : Nat → Prop) (h : AH) (U : State) (H : Heap) : Prop := ∃ (ws : va_W) (tys : List (ClassId × FieldType)), va_P G vwCl ws H ∧ va_K G vwCl tys U ∧ va_D A ws ∧ ∀ a x, h a = some x → inW ws tys a x
def lw_D : List Cond := lw_tbl.filter (fun w => match w with
  | .declares _ => true
  | .castable _ _ => true
  | _ => false)
/-- what a read-only cell is: the script, or the empty array of objects -/
def RO (a : Nat) (x : AC) (U : State) (H : Heap) : Prop := match x with
  | .inl (0, N, .inl f) => va_X a N f U H
  | .inl (4, 0, _) => ∃ cell : Cell, H[a]? = some cell ∧ U.isArrayOf cell (.object "java/lang/Object") ∧ cell.slots.size.toInt32 = 0
  | _ => False
theorem RO.lt {a : Nat} {x : AC} {U : State} {H : Heap} (h : RO a x U H) : a < H.size := by
  unfold RO at h
  split at h
  · obtain ⟨scr, h1, -⟩ := h; exact (Array.getElem?_eq_some_iff.mp h1).1
  · obtain ⟨cell, h1, -⟩ := h; exact (Array.getElem?_eq_some_iff.mp h1).1
  · exact h.elim
theorem RO.kept {a : Nat} {x : AC} {U : State} {H H1 : Heap} (h : RO a x U H) (hq : H1[a]? = H[a]?) : RO a x U H1 := by
  unfold RO at h ⊢
  split at h
  · exact va_X.kept h hq
  · obtain ⟨cell, h1, h2⟩ := h; exact ⟨cell, hq.trans h1, h2⟩
  · exact h.elim
theorem RO.moved {a : Nat} {x : AC} {u U : State} {H : Heap} (hvm : u.vm.Alike U.vm) (h : RO a x u H) : RO a x U H := by
  unfold RO at h ⊢
  split at h
  · exact va_X.moved hvm h
  · obtain ⟨cell, h1, h2, h3⟩ := h; exact ⟨cell, h1, State.isArrayOf_alike hvm h2, h3⟩
  · exact h.elim
def EvOK (G : va_G) (E : EN) (A : Nat → Prop) (U : State) (H : Heap) : Prop :=
  (∀ a x, E.1 a = some x → ¬ A a ∧ RO a x U H) ∧
  va_Z RJx4a65c "DEFAULTCAPACITY_EMPTY_ELEMENTDATA" "[Ljava/lang/Object;" (.ref E.2.1) A U H ∧
  va_Mi "[Ljava/lang/Object;" E.2.2 U ∧ vx_Zq Bundle.tN "UNASSIGNED_STACK" Bundle.steD A U H ∧ vx_Zq Bundle.tN "SUPPRESSED_SENTINEL" Bundle.listD A U H ∧
  (∀ x ∈ strL, ∃ sa, vk_R RX4 x.1 x.2 sa U) ∧ (∀ w ∈ lw_D, va_Nw w U) ∧ va_AO "java/lang/Object" U ∧
  (∀ X Y : Nat, X < 6 → Y < 6 → 0 < X → 0 < Y → X ≠ Y → va_Nc (exN X) (exN Y) U)
theorem lw_D_on {w : Cond} (h : w ∈ lw_D) : w.onTables = true := by
  have h2 := (List.mem_filter.mp h).2
  cases w <;> first | rfl | cases h2
theorem EvOK.mv {G : va_G} {E : EN} {A : Nat → Prop} {s U : State} {H : Heap} {locs : List Loc} (h : EvOK G E A s s.heap) (hS : va_S A s.heap H locs) (hU : U.heap = H) (hW : s.WarmedH U.vm) : EvOK G E A U U.heap := by
  have hq : ∀ a : Nat, a < s.heap.size → ¬ A a → H[a]? = s.heap[a]? := hS.2.1
  obtain ⟨h1, g1, g2, g3, g4, g5, g6, g7, g8⟩ := h
  have hv := hW.alike
  rw [hU]
  refine ⟨fun a x hx => ⟨(h1 a x hx).1, ((h1 a x hx).2.kept (hq a (h1 a x hx).2.lt (h1 a x hx).1)).moved hv⟩, (g1.moved hv).kept hq, g2.moved hv, (g3.moved hv).kept hq, (g4.moved hv).kept hq, fun x hx => ?_, fun w hw => ?_, g7.moved hv, fun X Y a1 a2 a3 a4 a5 => (g8 X Y a1 a2 a3 a4 a5).moved hv⟩
  · obtain ⟨sa, hs⟩ := g5 x hx
    exact ⟨sa, hs.warm hW⟩
  · have h2 := (List.mem_filter.mp hw).2
    have h0 := g6 w hw
    cases w <;> first | exact va_Nw.warmD hW h0 | exact va_Nw.warmC hW h0 | cases h2
theorem EvOK.same {G : va_G} {E : EN} {A : Nat → Prop} {u U : State} (hv : u.vm = U.vm) (hh : u.heap = U.heap) (h : EvOK G E A u u.heap) : EvOK G E A U U.heap := by
  have ha : u.vm.Alike U.vm := by rw [hv]; exact Vm.Alike.refl _
  obtain ⟨h1, g1, g2, g3, g4, g5, g6, g7, g8⟩ := h
  rw [← hh]
  refine ⟨fun a x hx => ⟨(h1 a x hx).1, (h1 a x hx).2.moved ha⟩, g1.moved ha, g2.moved ha, g3.moved ha, g4.moved ha, fun x hx => ?_, fun w hw => va_Nw.same (lw_D_on hw) hv (g6 w hw), g7.moved ha, fun X Y a1 a2 a3 a4 a5 => (g8 X Y a1 a2 a3 a4 a5).moved ha⟩
  obtain ⟨sa, hs⟩ := g5 x hx
  exact ⟨sa, hs.same hv.symm⟩
theorem Wd.same {G : va_G} {A : Nat → Prop} {h : AH} {u U : State} (hv : u.vm = U.vm) (hh : u.heap = U.heap) (H : Wd G A h u u.heap) : Wd G A h U U.heap := by
  obtain ⟨ws, tys, h1, h2, h3, h4⟩ := H
  rw [← hh]
  exact ⟨ws, tys, h1, h2.moved (by rw [hv]; exact Vm.Alike.refl _), h3, h4⟩
def PcM (G : va_G) (E : EN) (A : Nat → Prop) (as : List Value) (h : AH) : Array Value → State → Prop := va_Pc as (fun U => Wd G A h U U.heap ∧ EvOK G E A U U.heap ∧ ∀ q : Nat, U.heap.size ≤ q → A q)
def QcM (G : va_G) (A : Nat → Prop) (K : Out → AH → Prop) : Array Value → State → Outcome → State → Prop := fun _ st oc t => (∃ v h', oc = .returned v ∧ K (.inl v) h' ∧ Wd G A h' t t.heap) ∧ va_F A st t
def XcM (G : va_G) (A : Nat → Prop) (K : Out → AH → Prop) : String → State → State → Prop := fun X st t => (∃ x h', X = exN x ∧ 0 < x ∧ x < 6 ∧ K (.inr x) h' ∧ Wd G A h' t t.heap) ∧ va_F A st t
theorem PcM.blind {G : va_G} {E : EN} {A : Nat → Prop} {as : List Value} {h : AH} : FrameBlind (PcM G E A as h) := fun a U g mk H => ⟨H.1, H.2.1.same (u := U) (U := U.calling g mk a) rfl rfl, H.2.2.1.same (u := U) (U := U.calling g mk a) rfl rfl, H.2.2.2⟩
theorem vx_noThrow {l : Launch} {y : MethodName} {ws : List Cond} {rm : Room} {Pc : Array Value → State → Prop} {Qc : Array Value → State → Outcome → State → Prop} {XC : String → State → State → Prop} {mc ms : Nat} {free : Addr → Prop} (h : vx_Met l y ws rm Pc Qc XC mc ms free) (hX : ∀ X st t, ¬ XC X st t) : Met l y ws rm Pc Qc mc ms free := by
  intro p e h1 h2 h3 s m args below h4 h5 h6 h7
  obtain ⟨n, o, g1, g2, g3, g4⟩ := h p e h1 h2 h3 s m args below h4 h5 h6 h7
  refine ⟨n, o, g1, g2, g3, ?_⟩
  rcases g4 with g4 | ⟨q, -, E, ce, L, hx, -⟩
  · exact g4
  · exact absurd hx (hX _ _ _)
