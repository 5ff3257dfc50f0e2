/-! the law's start: what our machine wants of it, out of what is given; THE CLAIM OUT OF ONE PURE STATEMENT -/
def emA : vp_A := (0, .inr (.inr (.inr (.inr (fun _ => none)))))
def enV (b L eA mi : Nat) (xs : Nat → Int32) : EN := (fun q => if q = b then some (.inl (0, L, .inl xs)) else if q = eA then some (.inl (4, emA)) else none, eA, mi)
def fl1 : List Cond := flatC (Jvm.Cond.and given_1 narrow_1)
theorem fl_str : ∀ x ∈ strL, Cond.exactly (.string RX4 x.1) "java/lang/String" ∈ fl1 ∧ Cond.stringRef RX4 x.1 x.2 ∈ lw_tbl := by decide +kernel
theorem fl_nc0 : ∀ X ∈ [1, 2, 3, 4, 5], ∀ Y ∈ [1, 2, 3, 4, 5], X = Y ∨ Cond.not (.castable (exN X) (exN Y)) ∈ fl1 := by decide +kernel
theorem fl_nc (X : Nat) (h1 : X < 6) (Y : Nat) (h2 : Y < 6) (h3 : 0 < X) (h4 : 0 < Y) (h5 : X ≠ Y) : Cond.not (.castable (exN X) (exN Y)) ∈ fl1 := by
  have m : ∀ {Z : Nat}, Z < 6 → 0 < Z → Z ∈ [1, 2, 3, 4, 5] := fun {Z} a b => by
    rcases (by omega : Z = 1 ∨ Z = 2 ∨ Z = 3 ∨ Z = 4 ∨ Z = 5) with rfl | rfl | rfl | rfl | rfl <;> simp
  exact (fl_nc0 X (m h1 h3) Y (m h2 h4)).resolve_left h5
theorem fl_e1 : Cond.exactly (.static RJx4a65c "DEFAULTCAPACITY_EMPTY_ELEMENTDATA" "[Ljava/lang/Object;") "[Ljava/lang/Object;" ∈ fl1 := by decide +kernel
theorem fl_e2 : Cond.arrayOf (.static RJx4a65c "DEFAULTCAPACITY_EMPTY_ELEMENTDATA" "[Ljava/lang/Object;") (.object "java/lang/Object") ∈ fl1 := by decide +kernel
theorem fl_e3 : Cond.eq (.length (.static RJx4a65c "DEFAULTCAPACITY_EMPTY_ELEMENTDATA" "[Ljava/lang/Object;")) (.int 0) ∈ fl1 := by decide +kernel
theorem fl_u : Cond.isRef (.static Bundle.tN "UNASSIGNED_STACK" Bundle.steD) ∈ fl1 := by decide +kernel
theorem fl_s : Cond.isRef (.static Bundle.tN "SUPPRESSED_SENTINEL" Bundle.listD) ∈ fl1 := by decide +kernel
theorem fl_m : Cond.isRef (.mirror "[Ljava/lang/Object;") ∈ fl1 := by decide +kernel
theorem tb_e : Cond.laysStatic RJx4a65c "DEFAULTCAPACITY_EMPTY_ELEMENTDATA" "[Ljava/lang/Object;" ∈ lw_tbl ∧ Cond.initialized RJx4a65c ∈ lw_tbl := by decide +kernel
theorem tb_u : Cond.laysStatic Bundle.tN "UNASSIGNED_STACK" Bundle.steD ∈ lw_tbl ∧ Cond.laysStatic Bundle.tN "SUPPRESSED_SENTINEL" Bundle.listD ∈ lw_tbl ∧ Cond.initialized Bundle.tN ∈ lw_tbl := by decide +kernel
theorem tb_o : Cond.arrayOver (.object "java/lang/Object") ∈ lw_tbl := by decide +kernel
/-- the pure statement -/
def PureLaw : Prop := ∀ (b L eA mi : Nat) (xs : Nat → Int32), L ≤ 260 → b ≠ eA → Ev (enV b L eA mi xs) 14 mL_law (fun o _ => o = .inl (some (.int 1))) 0 (ent mL_law [.ref b]) [] (fun _ => none) 676699 7071600
theorem start_ok {s : State} {b L : Nat} {xs : Nat → Int32} (hts : ∀ w ∈ lw_tbl, w.before #[Value.ref b] s = true) (hX : va_X b L xs s s.heap) (hbl : b < s.heap.size) (hgv : (Jvm.Cond.and given_1 narrow_1).before #[Value.ref b] s = true) : ∃ (G : va_G) (eA mi : Nat), b ≠ eA ∧ va_K G vwCl [] s ∧ EvOK G (enV b L eA mi xs) (fun q : Nat => s.heap.size ≤ q) s s.heap := by
  have hfl : ∀ c ∈ fl1, c.before #[Value.ref b] s = true := flat_of_before _ hgv
  have hG : ∀ w ∈ lw_G, w.before #[Value.ref b] s = true := fun w hw => hts w (List.mem_filter.mp hw).1
  have hnA : ∀ a : Nat, a < s.heap.size → ¬ s.heap.size ≤ a := fun a h => Nat.not_le.mpr h
  have hkn : ∀ ci : Nat, ∃ (c : ClassId) (iS : Nat → Nat), ci < 6 → u_Kn s (oN ci) (TC ci) (nC ci) c iS := by
    intro ci
    by_cases h : ci < 6
    · obtain ⟨c, iS, hk⟩ := u_known (C := oN ci) (T := TC ci) (N := nC ci) (n := nC ci) hG (wl_at h) (hG _ (wi_at h))
      exact ⟨c, iS, fun _ => hk⟩
    · exact ⟨0, fun _ => 0, fun h2 => absurd h2 h⟩
  obtain ⟨eA, cE, cellE, kE, hev, -, hcE, -, -, -, -⟩ := Cond.exactly_spec (hfl _ fl_e1)
  obtain ⟨hao, hunk⟩ := Cond.arrayOf_spec (hfl _ fl_e2) hev hcE
  have hlen := Cond.eq_int (hfl _ fl_e3) (n := 0) rfl
  obtain ⟨a2, cell2, hev2, hat2, hsz⟩ := Term.length_spec hlen
  have e2 : a2 = eA := by
    have := hev2.symm.trans hev
    cases this
    rfl
  subst e2
  have e3 : cell2 = cellE := Option.some.inj ((State.arrayAt?_spec hat2).1.symm.trans hcE)
  subst e3
  have hsz0 : cell2.slots.size.toInt32 = 0 := by
    exact (Value.int.inj hsz).symm
  have hne : b ≠ a2 := by
    intro h
    subst h
    obtain ⟨scr, h1, h2, -⟩ := hX
    cases Option.some.inj (h1.symm.trans hcE)
    obtain ⟨-, k1, g1, cp1, g2⟩ := h2
    obtain ⟨-, k2, g3, cp2, g4⟩ := hao
    cases Option.some.inj (g1.symm.trans g3)
    rw [g2] at g4
    cases g4
  obtain ⟨mi, hmi⟩ := va_Mi.of (hfl _ fl_m)
  refine ⟨(fun ci => Classical.choose (hkn ci), fun ci => Classical.choose (Classical.choose_spec (hkn ci))), a2, mi, hne, ⟨fun c q hq => ?_, fun k q h => by simp at h⟩, fun a x hx => ?_, va_Zof (hts _ tb_e.1) (hts _ tb_e.2) hev hnA, hmi, vx_Zqof (hts _ tb_u.1) (hts _ tb_u.2.2) (hfl _ fl_u) hnA, vx_Zqof (hts _ tb_u.2.1) (hts _ tb_u.2.2) (hfl _ fl_s) hnA, fun x hx => ?_, fun w hw => va_Nw.of (lw_D_on hw) (hts w (List.mem_filter.mp hw).1), va_AO.of (hts _ tb_o), fun X Y h1 h2 h3 h4 h5 => va_Nc.of (hfl _ (fl_nc X h1 Y h2 h3 h4 h5))⟩
  · have h7 : c < 6 := (List.getElem?_eq_some_iff.mp hq).1
    have hq2 := (cl_at h7).symm.trans hq
    cases hq2
    exact Classical.choose_spec (Classical.choose_spec (hkn c)) h7
  · unfold enV at hx
    dsimp only at hx
    split at hx
    · next h => subst h; cases hx; exact ⟨hnA _ hbl, hX⟩
    · split at hx
      · next h => subst h; cases hx; exact ⟨hnA _ (Array.getElem?_eq_some_iff.mp hcE).1, cell2, hcE, hao, hsz0⟩
      · cases hx
  · obtain ⟨h1, h2⟩ := fl_str x hx
    obtain ⟨a, c, cell, k, hv, -⟩ := Cond.exactly_spec (hfl _ h1)
    exact ⟨a, vk_R.of (U := s) (A := #[Value.ref b]) (hts _ h2) hv⟩
/-! THE CLAIM OUT OF ONE WALK OF THE LAW'S BODY. Your part is whole_start (and what it stands on); all else here is the same for every law, but numbers. -/
def R_law : String := "ShellhouseLaw"
def lw_P (b : Addr) (xs : List Int32) (args : Array Value) (s : State) : Prop := args = #[.ref b] ∧ s.IntsAt b xs ∧ xs.length ≤ 260 ∧ (Jvm.Cond.and given_1 narrow_1).before args s = true
/-- what a walk over the start with the record d0 says of its end, said of the start itself -/
theorem lw_closed {s t : State} {o : Outcome} {d0 : Drawn} {L : List Loc} {k n : Nat} (hd0 : s.drawn.sameBut d0 lw_cs) (hv : ∃ v, o = .returned v) (hW : (s.setDrawn d0).WarmedH t.vm) (hs : (s.setDrawn d0).sameButNew ({ t with vm := s.vm } : State) L k n) : State.butDraws s t lw_cs (fun t1 => Framed s o t1 L k n) := by
  have h2 : t.drawn = d0 := congrArg State.drawn hs.1
  refine ⟨⟨hv, hW, State.sameButNew.setDrawn hs s.drawn⟩, ?_, by decide⟩
  rw [h2]
  exact hd0
def lw_Q (_ : Array Value) (s : State) (o : Outcome) (t : State) : Prop := o = .returned (some (.int 1)) ∧ State.butDraws s t lw_cs (fun t1 => Framed s o t1 [] 676699 7071600)
def lw_Z (below : List Frame) (a : Array Value) (s : State) : State → Prop := fun t => ∃ o, t.status = .running ∧ Ended t below o ∧ lw_Q a s o t
/-- the law's own end, with 1 on the stack, nothing written that was there before, its room as the claim has it; d0: the record of draws at this point (at the entry s.drawn: begin with 'refine W.base ?_' and 'have hd0 := Drawn.sameBut.refl s.drawn lw_cs') -/
theorem lw_ret {p : Program} {l : Launch} {e : Env} {s : State} {m : MethodId} {below : List Frame} {meth : Method} {c : Code} {b : Nat} {d0 : Drawn} (hd0 : s.drawn.sameBut d0 lw_cs) (hx : p.tables.exec = Jvm.exec) (hb : c.code = code) (hr : meth.sig.returnType = ret) (hlocks : meth.locks = false) {pc : Nat} {H : Heap} {ls : Array Slot} (hdg : decode code pc = .ok (.ireturn, 1)) : W p l e room_1 (s.setDrawn d0) m #[Value.ref b] below meth c H [] 676699 7071600 (lw_Z below #[Value.ref b] s) (F0 m pc ls [.int 1]) := by
  intro T hT X
  obtain ⟨fs, hret, hrun, hended, hW, hframe⟩ := X.leave (v := some (.int 1)) (hlocks := hlocks) (fun h => by rw [hr] at h; cases h)
  have hmeth' : T.vm.method? m = some meth := X.method'
  refine ⟨T.setFrames fs, ?_, .returned (some (.int 1)), hrun, hended, rfl, lw_closed hd0 ⟨_, rfl⟩ hW hframe⟩
  jvm_step X.here [X.here.top, hx, hb, hdg, hmeth', hr, ret, narrow_b1]
  (try refine ⟨rfl, ?_⟩); (try refine ⟨rfl, ?_⟩)
  first | (intro acts; rw [hret _ acts rfl rfl rfl]) | rw [hret _ _ rfl rfl rfl]
  exact Steps.refl _
/-- what holds at the law's entry: the machine, the code, the tables' words (any of lw_tbl by 'hts w (by decide +kernel)'), the script of L ints xs at the cell b, what the Statement gives of the start (any of its parts by flat_of_before) -/
def lw_At (p : Program) (s : State) (m : MethodId) (meth : Method) (c : Code) (b L : Nat) (xs : Nat → Int32) : Prop :=
  p.tables.exec = Jvm.exec ∧ c.code = code ∧ meth.sig.returnType = ret ∧ c.maxLocals = 20 ∧ s.vm.findClass R_law = some m.cls ∧ (∀ w ∈ lw_tbl, w.before #[Value.ref b] s = true) ∧ va_X b L xs s s.heap ∧ b < s.heap.size ∧ meth.locks = false ∧ (Jvm.Cond.and given_1 narrow_1).before #[Value.ref b] s = true

/-- FROM THE ENTRY: the pure statement gives the walk -/
theorem whole_start {p : Program} {e : Env} {s : State} {m : MethodId} {below : List Frame} {meth : Method} {c : Code} (l : Launch) (hflags : l.flags = flags0) (hpure : PureLaw) (hnoh : c.exceptionTable.toList = []) {b L : Nat} {xs : Nat → Int32} (hL : L ≤ 260) (C0 : lw_At p s m meth c b L xs) : W p l e room_1 s m #[Value.ref b] below meth c s.heap [] 0 0 (lw_Z below #[Value.ref b] s) (entryFrame m ([Value.ref b] : List Value).toArray 20) := by
  obtain ⟨hx, hb, hr, hml, hown, hts, hX, hbl, hlocks, hgv⟩ := C0
  have hlt : l.stackTraces = false := by unfold Launch.stackTraces; rw [hflags]; decide +kernel
  obtain ⟨G, eA, mi, hne, hK, hE⟩ := start_ok hts hX hbl hgv
  have C : Cx p l room_1 s m #[Value.ref b] meth c G (enV b L eA mi xs) (fun q : Nat => s.heap.size ≤ q) 14 mL_law := ⟨hx, hb, hml, hown, fun w hw => hts w (List.mem_filter.mp hw).1, hE, fun q h => h, ⟨by decide, by decide⟩, (fun h => Bool.noConfusion h), hlocks, hnoh, (fun x hx => nomatch hx), (fun pc X h => nomatch h)⟩
  have H := hpure b L eA mi xs hL hne
  have H : EvR TTv (enV b L eA mi xs) 14 mL_law (fun o _ => o = .inl (some (.int 1))) 0 (ent mL_law [.ref b]) [] (fun _ => none) 676699 7071600 := H
  rw [EvR_eq] at H
  have hER : EndR p l e room_1 s m #[Value.ref b] below meth c (lw_Z below #[Value.ref b] s) G (fun q : Nat => s.heap.size ≤ q) mL_law (fun o _ => o = .inl (some (.int 1))) := by
    intro i v st pc lsA h H locs cells slots hdg hI hQ hD hc hn
    obtain ⟨ws, tys, hP, hK2, hDD, hS, hcov⟩ := hD
    have hv : v = some (.int 1) := Sum.inl.inj hQ
    subst hv
    rcases hI with ⟨rfl, x, rfl, hx1, -⟩ | ⟨rfl, x, rfl, hx1, -⟩ | ⟨rfl, x, rfl, hx1, -⟩ | ⟨rfl, x, rfl, hx1, -, hx2⟩ | ⟨rfl, rfl, hx1, -⟩
    · cases hx1
      refine va_forget (fun q hq => hS.2.2 q hq) ?_
      refine W.widen (k := 676699) (n := 7071600) hc hn ?_
      exact lw_ret (d0 := s.drawn) (Drawn.sameBut.refl s.drawn lw_cs) hx hb hr hlocks hdg
    · cases hx1
    · cases hx1
    · cases hx2
    · cases hx1
  obtain ⟨lsA, he, hLr⟩ := ent_Lr (m := m) (M := mL_law) (as := [.ref b]) rfl
  have he2 : entryFrame m ([Value.ref b] : List Value).toArray 20 = F0 m 0 lsA [] := he
  rw [he2]
  exact H _ (snd_step (Qw := lw_Z below #[Value.ref b] s) C (CRd_ok l hlt _ 14) hER (fun x h' _ _ _ _ _ _ _ _ _ _ _ hQ => nomatch hQ) (fun pc X h _ _ _ _ _ _ h2 => nomatch h2)) s.heap [] 0 0 lsA ⟨[], [], fun k q h => by simp at h, hK, ⟨fun i j p q h => by simp at h, fun k q h => by simp at h⟩, va_S.rf, fun a x h => nomatch h⟩ hLr (by decide) (by decide)
set_option maxHeartbeats 4000000 in
theorem lw_walk (hpure : PureLaw) (l : Launch) (hflags : l.flags = flags0) (b : Addr) (xs : List Int32) : MetFree l x (headSpec (Jvm.Cond.code x code maxLocals ret :: tables_1) room_1) (lw_P b xs) (fun _ _ _ _ _ => True) lw_Q := by
  refine MetFree.of_bodyS (code := code) (maxLocals := maxLocals) (ret := ret) (by decide) ?_ ?_
  · intro args s m h hn
    obtain ⟨meth, c, h1, h2, h3, h4, h5, h6, -, -⟩ := Cond.code_spec hn (atoms_spec (ws := Jvm.Cond.code x code maxLocals ret :: tables_1) h _ List.mem_cons_self)
    exact ⟨meth, c, h1, h2, h3, h4, h5, h6⟩
  · intro p e s m args below meth c s₁ B hml0 hP _
    obtain ⟨rfl, hx, hbd, hgv⟩ := hP
    obtain ⟨scr, harrAt, hlist, hof, hsmall⟩ := hx
    obtain ⟨hcb, hkn, -, -⟩ := State.arrayAt?_spec harrAt
    have hown : s.vm.findClass R_law = some m.cls := findClass_of_methodNamed B.named
    have hts0 : ∀ c ∈ (Jvm.Cond.code x code maxLocals ret :: tables_1), c.before #[Value.ref b] s = true := atoms_spec (ws := Jvm.Cond.code x code maxLocals ret :: tables_1) B.pre
    have hts : ∀ w ∈ lw_tbl, w.before #[Value.ref b] s = true := k2_hts_sels lw_privs (fun w hw => hts0 w (List.mem_cons_of_mem _ hw)) lw_privs_ok
    have hml : c.maxLocals = 20 := B.maxLocals_eq (hts0 _ List.mem_cons_self)
    have hnoh : c.exceptionTable.toList = [] := by
      obtain ⟨meth9, c9, h1, h2, -, -, -, -, h7, -⟩ := Cond.code_spec B.named (hts0 _ List.mem_cons_self)
      cases Option.some.inj (h1.symm.trans B.method)
      cases Option.some.inj (h2.symm.trans (Stand.of_body B).code)
      rw [Array.isEmpty_iff.mp h7]
    have X₀ : Stand p l e room_1 s m #[Value.ref b] below meth c s₁ [] 0 0 := Stand.of_body B
    have hh0 : s₁.heap = s.heap := by rw [B.state]; rfl
    have hsz : scr.slots.size = xs.length := by rw [← Array.length_toList, hlist, List.length_map]
    have hval : ∀ j : Nat, j < xs.length → scr.slots[j]? = some (.int (xs.getD j 0)) := fun j hj => by
      rw [← Array.getElem?_toList, hlist]
      simp [hj]
    have hbl : b < s.heap.size := (Array.getElem?_eq_some_iff.mp hcb).1
    have hX : va_X b xs.length (fun j => xs.getD j 0) s s.heap := ⟨scr, hcb, hof, hkn, hsz, hval⟩
    have K : W p l e room_1 s m #[Value.ref b] below meth c s₁.heap [] 0 0 (lw_Z below #[Value.ref b] s) (entryFrame m ([Value.ref b] : List Value).toArray 20) := by
      rw [hh0]
      exact whole_start l hflags hpure hnoh hbd ⟨B.exec, B.bytes, B.returns, hml, hown, hts, hX, hbl, B.notSynchronized, hgv⟩
    obtain ⟨t, a1, o, b1, b2, b3⟩ := K s₁ rfl X₀
    exact ⟨t, o, a1, b1, b2, b3⟩
theorem lw_pre_spec {args : Array Value} {s : State} (h : (Jvm.Cond.and given_1 narrow_1).before args s = true) (hr : rest_1_c.before args s = true) : ∃ (b : Addr) (xs : List Int32), lw_P b xs args s := by
  have hs := flat_of_before _ h
  have hq := flat_of_before _ hr
  have hc : (Cond.count 1).before args s = true := hs _ (by decide +kernel)
  have harr : (Cond.arrayOf (.arg 0) .int).before args s = true := hs _ (by decide +kernel)
  have hle : (Cond.le (.length (.arg 0)) (.int 260)).before args s = true := hs _ (by decide +kernel)
  have hlen : (Cond.isInt (.length (.arg 0))).before args s = true := hq _ (by decide +kernel)
  have hall : (Cond.all (.arg 0) (.isInt (.elem (.arg 0) (.index 0)))).before args s = true := hq _ (by decide +kernel)
  obtain ⟨b, xs, hb, hx⟩ := State.ints_of_pre rfl harr hlen hall
  have hsm : xs.length < 2 ^ 31 := hx.choose_spec.2.2.2
  have hev : (Term.length (.arg 0)).eval args s none [] s = some (.int xs.length.toInt32) := hx.length_eval hb
  have hv := Cond.le_ints hev (show (Term.int 260).eval args s none [] s = some (.int 260) from rfl)
  have hd : xs.length.toInt32 ≤ 260 := by
    simpa [Cond.before, Cond.holds, hv] using hle
  have hN : xs.length ≤ 260 := (Int32.ofNat_le_ofNat hsm (by decide)).mp (show Int32.ofNat xs.length ≤ Int32.ofNat 260 from hd)
  exact ⟨b, xs, Cond.one_arg hc (show args[0]? = some (.ref b) from hb), hx, hN, h⟩
theorem lw_comes (hpure : PureLaw) (l : Launch) (hflags : l.flags = flags0) : Comes l x (Jvm.Cond.code x code maxLocals ret :: tables_1) room_1 (fun tb e args s => Calls_1 tb e args s ∧ rest_1 tb e args s ∧ Pre_1 tb e args s)
    (fun _ _ args s o t => lw_Q args s o t) := by
  intro p e ha hc hk s m args below hf hfit hheap happ hpre
  obtain ⟨b, xs, hP⟩ := lw_pre_spec hpre.2.2 hpre.2.1
  obtain ⟨k, o, h1, h2, h3, hQ⟩ := lw_walk hpure l hflags b xs p e ha hc hk s m args below hf ((Spec.applies_iff_loose hf).mp happ).1 hP trivial
  exact ⟨k, o, h1, h2, h3, hQ⟩
theorem lw_frame {s t : State} {o : Outcome} {args : Array Value} (h : State.butDraws s t lw_cs (fun t1 => Framed s o t1 [] 676699 7071600)) :
    State.butDraws s t [Jvm.Choice.named "NaN.bits"] (fun t1 => Framed s o t1 (fieldLocs frame_1_writes args s ++ arrayLocs frame_1_arrays args s ++ staticLocs frame_1_statics s) 676699 7071600) := h
theorem lw_limb (hpure : PureLaw) (L : Cond) (hL : ∀ (args : Array Value) (s t : State), L.after args s (.returned (some (.int 1))) t = true) :
    ArmFor flags0 classFile x code maxLocals ret World_1 tables_1 room_1 Calls_1 rest_1 Pre_1
      (fun tb e a s o t => postC L tb e a s o t ∧ State.butDraws s t [Jvm.Choice.named "NaN.bits"] (fun t1 => Framed s o t1 (fieldLocs frame_1_writes a s ++ arrayLocs frame_1_arrays a s ++ staticLocs frame_1_statics s) 676699 7071600)) := by
  intro l hflags _ _ p e ha hc hk s m args below hf hfit hheap happ hpre
  obtain ⟨k, o, h1, h2, h3, rfl, hF⟩ := lw_comes hpure l hflags p e ha hc hk s m args below hf hfit hheap happ hpre
  exact ⟨k, _, h1, h2, h3, hL args s _, lw_frame hF⟩
