section
-- ===== PART A: goes FIRST, ahead of the names: the tables' words, and 'selects' of the private methods out of them =====
/-- a private method of a class that the tables say can be made, by its rows of tables_1 -/
def lw_okq (q : MethodName × Nat) : Prop := (q.1.cls ≠ "java/lang/invoke/MethodHandle" ∧ q.1.cls ≠ "java/lang/invoke/VarHandle") ∧ Cond.instantiable q.1.cls q.2 ∈ tables_1 ∧ Cond.privateMethod q.1 ∈ tables_1 ∧ Cond.instanceMethod q.1 ∈ tables_1
theorem lw_p0 : lw_okq (⟨"java/lang/Throwable", "fillInStackTrace", "(I)Ljava/lang/Throwable;"⟩, 6) := ⟨⟨by decide +kernel, by decide +kernel⟩, List.mem_of_getElem? (i := 180) (by decide +kernel), List.mem_of_getElem? (i := 178) (by decide +kernel), List.mem_of_getElem? (i := 179) (by decide +kernel)⟩
theorem lw_p1 : lw_okq (⟨"java/util/ArrayList", "add", "(Ljava/lang/Object;[Ljava/lang/Object;I)V"⟩, 3) := ⟨⟨by decide +kernel, by decide +kernel⟩, List.mem_of_getElem? (i := 32) (by decide +kernel), List.mem_of_getElem? (i := 247) (by decide +kernel), List.mem_of_getElem? (i := 248) (by decide +kernel)⟩
theorem lw_p2 : lw_okq (⟨"java/util/ArrayList", "grow", "()[Ljava/lang/Object;"⟩, 3) := ⟨⟨by decide +kernel, by decide +kernel⟩, List.mem_of_getElem? (i := 32) (by decide +kernel), List.mem_of_getElem? (i := 251) (by decide +kernel), List.mem_of_getElem? (i := 252) (by decide +kernel)⟩
theorem lw_p3 : lw_okq (⟨"java/util/ArrayList", "grow", "(I)[Ljava/lang/Object;"⟩, 3) := ⟨⟨by decide +kernel, by decide +kernel⟩, List.mem_of_getElem? (i := 32) (by decide +kernel), List.mem_of_getElem? (i := 255) (by decide +kernel), List.mem_of_getElem? (i := 256) (by decide +kernel)⟩
theorem lw_p4 : lw_okq (⟨"Shellhouse", "sessionNumbered", "(I)LShellhouse$Session;"⟩, 7) := ⟨⟨by decide +kernel, by decide +kernel⟩, List.mem_of_getElem? (i := 24) (by decide +kernel), List.mem_of_getElem? (i := 309) (by decide +kernel), List.mem_of_getElem? (i := 310) (by decide +kernel)⟩
theorem lw_p5 : lw_okq (⟨"Shellhouse", "pause", "(LShellhouse$Job;)V"⟩, 7) := ⟨⟨by decide +kernel, by decide +kernel⟩, List.mem_of_getElem? (i := 24) (by decide +kernel), List.mem_of_getElem? (i := 347) (by decide +kernel), List.mem_of_getElem? (i := 348) (by decide +kernel)⟩
theorem lw_p6 : lw_okq (⟨"Shellhouse", "leaveOrder", "(LShellhouse$Job;)V"⟩, 7) := ⟨⟨by decide +kernel, by decide +kernel⟩, List.mem_of_getElem? (i := 24) (by decide +kernel), List.mem_of_getElem? (i := 351) (by decide +kernel), List.mem_of_getElem? (i := 352) (by decide +kernel)⟩
theorem lw_p7 : lw_okq (⟨"java/util/ArrayList", "fastRemove", "([Ljava/lang/Object;I)V"⟩, 3) := ⟨⟨by decide +kernel, by decide +kernel⟩, List.mem_of_getElem? (i := 32) (by decide +kernel), List.mem_of_getElem? (i := 359) (by decide +kernel), List.mem_of_getElem? (i := 360) (by decide +kernel)⟩
theorem lw_p8 : lw_okq (⟨"Shellhouse", "comeInto", "(LShellhouse$Job;C)V"⟩, 7) := ⟨⟨by decide +kernel, by decide +kernel⟩, List.mem_of_getElem? (i := 24) (by decide +kernel), List.mem_of_getElem? (i := 364) (by decide +kernel), List.mem_of_getElem? (i := 365) (by decide +kernel)⟩
theorem lw_p9 : lw_okq (⟨"Shellhouse", "lookAtOrder", "()V"⟩, 7) := ⟨⟨by decide +kernel, by decide +kernel⟩, List.mem_of_getElem? (i := 24) (by decide +kernel), List.mem_of_getElem? (i := 383) (by decide +kernel), List.mem_of_getElem? (i := 384) (by decide +kernel)⟩
theorem lw_p10 : lw_okq (⟨"Shellhouse", "locksAreFreeFor", "(LShellhouse$Job;)Z"⟩, 7) := ⟨⟨by decide +kernel, by decide +kernel⟩, List.mem_of_getElem? (i := 24) (by decide +kernel), List.mem_of_getElem? (i := 388) (by decide +kernel), List.mem_of_getElem? (i := 389) (by decide +kernel)⟩
theorem lw_p11 : lw_okq (⟨"Shellhouse", "setHolder", "(LShellhouse$Job;I)V"⟩, 7) := ⟨⟨by decide +kernel, by decide +kernel⟩, List.mem_of_getElem? (i := 24) (by decide +kernel), List.mem_of_getElem? (i := 396) (by decide +kernel), List.mem_of_getElem? (i := 397) (by decide +kernel)⟩
theorem lw_p12 : lw_okq (⟨"Shellhouse", "resume", "(LShellhouse$Job;)V"⟩, 7) := ⟨⟨by decide +kernel, by decide +kernel⟩, List.mem_of_getElem? (i := 24) (by decide +kernel), List.mem_of_getElem? (i := 411) (by decide +kernel), List.mem_of_getElem? (i := 412) (by decide +kernel)⟩
theorem lw_p13 : lw_okq (⟨"Shellhouse", "waitForLocks", "(LShellhouse$Job;)V"⟩, 7) := ⟨⟨by decide +kernel, by decide +kernel⟩, List.mem_of_getElem? (i := 24) (by decide +kernel), List.mem_of_getElem? (i := 415) (by decide +kernel), List.mem_of_getElem? (i := 416) (by decide +kernel)⟩
theorem lw_p14 : lw_okq (⟨"Shellhouse", "remember", "(LShellhouse$Session;I)V"⟩, 7) := ⟨⟨by decide +kernel, by decide +kernel⟩, List.mem_of_getElem? (i := 24) (by decide +kernel), List.mem_of_getElem? (i := 557) (by decide +kernel), List.mem_of_getElem? (i := 558) (by decide +kernel)⟩
theorem lw_p15 : lw_okq (⟨"Shellhouse$History", "takeOut", "(I)V"⟩, 2) := ⟨⟨by decide +kernel, by decide +kernel⟩, List.mem_of_getElem? (i := 61) (by decide +kernel), List.mem_of_getElem? (i := 565) (by decide +kernel), List.mem_of_getElem? (i := 566) (by decide +kernel)⟩
def lw_privs_1 : List (MethodName × Nat) := [(⟨"java/lang/Throwable", "fillInStackTrace", "(I)Ljava/lang/Throwable;"⟩, 6), (⟨"java/util/ArrayList", "add", "(Ljava/lang/Object;[Ljava/lang/Object;I)V"⟩, 3), (⟨"java/util/ArrayList", "grow", "()[Ljava/lang/Object;"⟩, 3), (⟨"java/util/ArrayList", "grow", "(I)[Ljava/lang/Object;"⟩, 3), (⟨"Shellhouse", "sessionNumbered", "(I)LShellhouse$Session;"⟩, 7), (⟨"Shellhouse", "pause", "(LShellhouse$Job;)V"⟩, 7), (⟨"Shellhouse", "leaveOrder", "(LShellhouse$Job;)V"⟩, 7), (⟨"java/util/ArrayList", "fastRemove", "([Ljava/lang/Object;I)V"⟩, 3), (⟨"Shellhouse", "comeInto", "(LShellhouse$Job;C)V"⟩, 7), (⟨"Shellhouse", "lookAtOrder", "()V"⟩, 7), (⟨"Shellhouse", "locksAreFreeFor", "(LShellhouse$Job;)Z"⟩, 7), (⟨"Shellhouse", "setHolder", "(LShellhouse$Job;I)V"⟩, 7), (⟨"Shellhouse", "resume", "(LShellhouse$Job;)V"⟩, 7), (⟨"Shellhouse", "waitForLocks", "(LShellhouse$Job;)V"⟩, 7), (⟨"Shellhouse", "remember", "(LShellhouse$Session;I)V"⟩, 7), (⟨"Shellhouse$History", "takeOut", "(I)V"⟩, 2)]
theorem lw_r1 : ∀ q ∈ lw_privs_1, lw_okq q := List.forall_mem_cons.mpr ⟨lw_p0, List.forall_mem_cons.mpr ⟨lw_p1, List.forall_mem_cons.mpr ⟨lw_p2, List.forall_mem_cons.mpr ⟨lw_p3, List.forall_mem_cons.mpr ⟨lw_p4, List.forall_mem_cons.mpr ⟨lw_p5, List.forall_mem_cons.mpr ⟨lw_p6, List.forall_mem_cons.mpr ⟨lw_p7, List.forall_mem_cons.mpr ⟨lw_p8, List.forall_mem_cons.mpr ⟨lw_p9, List.forall_mem_cons.mpr ⟨lw_p10, List.forall_mem_cons.mpr ⟨lw_p11, List.forall_mem_cons.mpr ⟨lw_p12, List.forall_mem_cons.mpr ⟨lw_p13, List.forall_mem_cons.mpr ⟨lw_p14, List.forall_mem_cons.mpr ⟨lw_p15, fun _ h => absurd h List.not_mem_nil⟩⟩⟩⟩⟩⟩⟩⟩⟩⟩⟩⟩⟩⟩⟩⟩
theorem lw_p16 : lw_okq (⟨"Shellhouse", "jobNumbered", "(I)LShellhouse$Job;"⟩, 7) := ⟨⟨by decide +kernel, by decide +kernel⟩, List.mem_of_getElem? (i := 24) (by decide +kernel), List.mem_of_getElem? (i := 580) (by decide +kernel), List.mem_of_getElem? (i := 581) (by decide +kernel)⟩
theorem lw_p17 : lw_okq (⟨"Shellhouse", "finish", "(LShellhouse$Job;C)V"⟩, 7) := ⟨⟨by decide +kernel, by decide +kernel⟩, List.mem_of_getElem? (i := 24) (by decide +kernel), List.mem_of_getElem? (i := 671) (by decide +kernel), List.mem_of_getElem? (i := 672) (by decide +kernel)⟩
theorem lw_p18 : lw_okq (⟨"Shellhouse", "obeys", "(LShellhouse$Job;C)Z"⟩, 7) := ⟨⟨by decide +kernel, by decide +kernel⟩, List.mem_of_getElem? (i := 24) (by decide +kernel), List.mem_of_getElem? (i := 683) (by decide +kernel), List.mem_of_getElem? (i := 684) (by decide +kernel)⟩
theorem lw_p19 : lw_okq (⟨"Shellhouse", "passOneTick", "()I"⟩, 7) := ⟨⟨by decide +kernel, by decide +kernel⟩, List.mem_of_getElem? (i := 24) (by decide +kernel), List.mem_of_getElem? (i := 695) (by decide +kernel), List.mem_of_getElem? (i := 696) (by decide +kernel)⟩
theorem lw_p20 : lw_okq (⟨"Shellhouse", "workIsDone", "(LShellhouse$Job;)Z"⟩, 7) := ⟨⟨by decide +kernel, by decide +kernel⟩, List.mem_of_getElem? (i := 24) (by decide +kernel), List.mem_of_getElem? (i := 699) (by decide +kernel), List.mem_of_getElem? (i := 700) (by decide +kernel)⟩
theorem lw_p21 : lw_okq (⟨"Shellhouse", "refuseNoEntry", "(I)V"⟩, 7) := ⟨⟨by decide +kernel, by decide +kernel⟩, List.mem_of_getElem? (i := 24) (by decide +kernel), List.mem_of_getElem? (i := 810) (by decide +kernel), List.mem_of_getElem? (i := 811) (by decide +kernel)⟩
def lw_privs_2 : List (MethodName × Nat) := [(⟨"Shellhouse", "jobNumbered", "(I)LShellhouse$Job;"⟩, 7), (⟨"Shellhouse", "finish", "(LShellhouse$Job;C)V"⟩, 7), (⟨"Shellhouse", "obeys", "(LShellhouse$Job;C)Z"⟩, 7), (⟨"Shellhouse", "passOneTick", "()I"⟩, 7), (⟨"Shellhouse", "workIsDone", "(LShellhouse$Job;)Z"⟩, 7), (⟨"Shellhouse", "refuseNoEntry", "(I)V"⟩, 7)]
theorem lw_r2 : ∀ q ∈ lw_privs_2, lw_okq q := List.forall_mem_cons.mpr ⟨lw_p16, List.forall_mem_cons.mpr ⟨lw_p17, List.forall_mem_cons.mpr ⟨lw_p18, List.forall_mem_cons.mpr ⟨lw_p19, List.forall_mem_cons.mpr ⟨lw_p20, List.forall_mem_cons.mpr ⟨lw_p21, fun _ h => absurd h List.not_mem_nil⟩⟩⟩⟩⟩⟩
def lw_privs : List (MethodName × Nat) := lw_privs_1 ++ (lw_privs_2)
def lw_tbl : List Cond := k2_sels lw_privs ++ tables_1
theorem lw_privs_ok : ∀ q ∈ lw_privs, lw_okq q := by
  show ∀ q ∈ lw_privs_1 ++ (lw_privs_2), lw_okq q
  exact List.forall_mem_append.mpr ⟨lw_r1, lw_r2⟩
/-- the streams that the claim lets the run draw from -/
abbrev lw_cs : List Choice := [Jvm.Choice.named "NaN.bits"]
theorem lw_bits : nanBits ∈ lw_cs := by first | decide | exact List.mem_cons_self | simp [lw_cs, nanBits]
end
section
/-! ===== BEGIN words of one list among another's, by their places ===== -/
theorem goodIn_r {big : List Cond} (ws : List Cond) (ps : List Nat) (hp : ws = ps.filterMap (fun i => big[i]?)) (h : ws.all goodWord = true) : GoodIn big ws := by
  intro w hw
  have h1 := List.all_eq_true.mp h w hw
  rw [hp] at hw
  obtain ⟨i, -, hi⟩ := List.mem_filterMap.mp hw
  have hm : w ∈ big := by first | exact List.mem_of_getElem? hi | exact List.getElem?_mem hi
  exact ⟨hm, good_of_word h1⟩
theorem goodIn_app {big a b : List Cond} (ha : GoodIn big a) (hb : GoodIn big b) : GoodIn big (a ++ b) := fun w h => (List.mem_append.mp h).elim (ha w) (hb w)
theorem goodIn_ca {big a b : List Cond} {c : Cond} (ha : GoodIn big (c :: a)) (hb : GoodIn big b) : GoodIn big (c :: (a ++ b)) := fun w h => (List.mem_cons.mp h).elim (fun e => ha w (List.mem_cons.mpr (Or.inl e))) (fun h => (List.mem_append.mp h).elim (fun h => ha w (List.mem_cons.mpr (Or.inr h))) (hb w))
theorem goodIn_sub {big ws : List Cond} (hm : ∀ w ∈ ws, w ∈ big) (h : ws.all goodWord = true) : GoodIn big ws := fun w hw => ⟨hm w hw, good_of_word (List.all_eq_true.mp h w hw)⟩
/-! ===== END ===== -/

/-! ===== BEGIN exceptions that leave a method, and their catching by the caller (launches without stack traces) ===== -/
section VXA
/-! The laws vx_back, vx_callV, vx_callS, vx_callSW, vx_throw0, vx_throwS follow proofs of the library, with one case more: JvmDerived/Free/Laws.lean (Back.of_free), Shelf42/LK1.lean (callV, callS), Shelf/KitTraced.lean (throwNew0V, throwNewS). -/
/-- where a method has thrown q: the class by its name, the cell, what was written, the world -/
def vx_T (XC : String → State → State → Prop) (st : State) (q : Addr) (t : State) (mc ms : Nat) (free : Addr → Prop) : Prop :=
  ∃ (E : String) (ce : Cell) (L : List Loc), XC E st t ∧ t.heap[q]? = some ce ∧ ce.vm = .none ∧ st.vm.findClass E = some ce.cls ∧ st.WarmedH t.vm ∧ st.sameButNew ({ t with vm := st.vm } : State) L mc ms ∧ ∀ z ∈ L, free z.base
def vx_Q (Qc : Array Value → State → Outcome → State → Prop) (XC : String → State → State → Prop) (mc ms : Nat) (free : Addr → Prop) : Array Value → State → Outcome → State → Prop := fun a st o t =>
  (Qc a st o t ∧ ∃ L, FrameEnd st o t L mc ms ∧ ∀ q ∈ L, free q.base) ∨ ∃ q, o = .threw q ∧ vx_T XC st q t mc ms free
/-- a callee that returns or throws -/
def vx_Met (l : Launch) (y : MethodName) (ws : List Cond) (rm : Room) (Pc : Array Value → State → Prop) (Qc : Array Value → State → Outcome → State → Prop) (XC : String → State → State → Prop) (mc ms : Nat) (free : Addr → Prop) : Prop :=
  MetFree l y (headSpec ws rm) Pc (fun _ _ _ _ _ => True) (vx_Q Qc XC mc ms free)
def vx_Post (XC : String → State → State → Prop) (mc ms : Nat) (free : Addr → Prop) : Pt → Array Value → Addr → Pt → Prop := fun A a q B =>
  ∃ (g : JFrame) (mk : MethodId) (t : State) (L : List Loc) (E : String) (ce : Cell), B.U.heap = t.heap ∧ B.U.vm = t.vm ∧ XC E (A.U.calling g mk a) t ∧ t.heap[q]? = some ce ∧ ce.vm = .none ∧ A.U.vm.findClass E = some ce.cls ∧ B.locs = A.locs ++ L ∧ (∀ z ∈ L, free z.base) ∧ B.cells = A.cells + mc ∧ B.slots = A.slots + ms
def vx_Back (l : Launch) (R : Room) (p : Program) (e : Env) (below : List Frame) (s : State) (sargs : Array Value) (y : MethodName) (len W9 : Nat)
    (Pre : Pt → Array Value → Prop) (Post : Pt → Array Value → Option Value → Pt → Prop) (PostX : Pt → Array Value → Addr → Pt → Prop) : Prop :=
  ∀ (m : MethodId) (meth : Method) (c : Code) (A : Pt) (g : JFrame) (ig : Instr) (mk : MethodId) (a : Array Value),
    Stand p l e R s m sargs below meth c A.U A.locs A.cells A.slots → g.method = m → g.locals.size = c.maxLocals → decode c.code g.pc = .ok (ig, len) →
    2 * g.monitorRoom + (g.stack.map fun v => v.category).sum ≤ W9 → A.U.methodNamed? y = some mk → Pre A a →
    (∃ (v : Option Value) (B : Pt), Stand p l e R s m sargs below meth c B.U B.locs B.cells B.slots ∧ Post A a v B ∧
      Steps p.tables e below (doInvoke e (A.U.setTop g) [] mk a).1 (B.U.setTop { g with pc := g.pc + len, stack := v.toList ++ g.stack })) ∨
    (∃ (q : Addr) (B : Pt), Stand p l e R s m sargs below meth c B.U B.locs B.cells B.slots ∧ PostX A a q B ∧
      Steps p.tables e below (doInvoke e (A.U.setTop g) [] mk a).1 ((B.U.setTop g).pushFrame (.throwing q)))
section Payer
variable {l : Launch} {R : Room} {p : Program} {e : Env} {below : List Frame} {s : State} {sargs : Array Value} {y : MethodName} {len W9 : Nat}
theorem vx_back {ws : List Cond} {rm : Room} {Pc : Array Value → State → Prop} {Qc : Array Value → State → Outcome → State → Prop} {XC : String → State → State → Prop} {mc ms : Nat} {free : Addr → Prop} {bytes : ByteArray} {maxL : Nat} {ret : Option FieldType}
    (hM : vx_Met l y ws rm Pc Qc XC mc ms free) (hblind : FrameBlind Pc) (hrc : rm.cells = mc) (hrs : rm.slots = ms)
    (hframes : rm.frames + 1 ≤ R.frames) (hlocals : W9 + (maxL + 11) + rm.locals ≤ R.locals)
    (hws : ∀ w ∈ ws, ∀ a' U, s.WarmedH U.vm → w.before a' U = true) (hcode : Cond.code y bytes maxL ret ∈ ws) (hinit : ∀ a' U, s.WarmedH U.vm → (Cond.initialized y.cls).before a' U = true) :
    vx_Back l R p e below s sargs y len W9 (PreOf R mc ms Pc) (PostOf Qc mc ms free) (vx_Post XC mc ms free) := by
  intro m meth c A g ig mk a X hg hsize hdg hW hn hp
  have h1 : (headSpec ws rm).pre.before a A.U = true := atoms_intro fun w hw => hws w hw _ _ X.warmed
  have h2 : (Cond.code y bytes maxL ret).before a A.U = true := hws _ hcode _ _ X.warmed
  have h3 : (Cond.initialized y.cls).before a A.U = true := hinit _ _ X.warmed
  have h4 : A.cells + (headSpec ws rm).room.cells ≤ R.cells := by rw [show (headSpec ws rm).room.cells = mc from hrc]; exact hp.1
  have h5 : A.slots + (headSpec ws rm).room.slots ≤ R.slots := by rw [show (headSpec ws rm).room.slots = ms from hrs]; exact hp.2.1
  have hPc : Pc a (A.U.calling g mk a) := hblind _ _ _ _ hp.2.2
  obtain ⟨U, Ls, c0, s0⟩ := A
  dsimp only [Pt.U, Pt.locs, Pt.cells, Pt.slots] at h1 h2 h3 h4 h5 X hn hPc ⊢
  obtain ⟨methY, cY, hmY, hcY, -, hlY, -, -, -, -⟩ := Cond.code_spec hn h2
  obtain ⟨kY, hkY, -⟩ := className_of_methodNamed hn
  have hinitY : kY.init = .initialized := Cond.initialized_spec (findClass_of_methodNamed hn) hkY h3
  have h : At U g.method c below := by rw [hg]; exact X.here
  have hlocals9 : W9 + (maxL + 11) + (headSpec ws rm).room.locals ≤ R.locals := hlocals
  have happ : (headSpec ws rm).appliesLoose y e.platform (U.calling g mk a) = true :=
    Spec.appliesLoose_calling (g := g) h hdg hn hkY hinitY
      (X.room_calling (g := g) (R' := (headSpec ws rm).room) hsize hmY hcY hframes (by rw [hlY]; omega) h4 h5) h1
  obtain ⟨mid, hmid⟩ := h.above
  have hfr : (U.setTop g).frames = (.java g :: mid) ++ below := by rw [State.frames_setTop' g h.top, hmid]; rfl
  obtain ⟨o, s₂, hsteps, -, hend, hq⟩ := Steps.callFree hM p X.admits X.cas X.clock (acts := []) hfr happ hPc trivial
  have hq' : vx_Q Qc XC mc ms free a (U.calling g mk a) o s₂ := hq
  rw [State.frames_setTop' g h.top] at hend
  obtain ⟨g₀, hg0⟩ := Option.isSome_iff_exists.mp h.top
  obtain ⟨r, hr⟩ := State.topJava?_eq_some.mp hg0
  have hr' : (({ U with heap := s₂.heap, slotsUsed := s₂.slotsUsed } : State).setVm s₂.vm).frames = .java g₀ :: r := hr
  rcases hq' with ⟨hqc, L, hfe, hL⟩ | ⟨q, rfl, E, ce, L, hx, hce, hcv, hcl, hW₂, hsm, hL⟩
  · obtain ⟨⟨v, rfl⟩, hW₂, e2, q2, q3, q4, q5, q6⟩ := id hfe
    have e3 : s₂ = ({ (U.calling g mk a).setFrames s₂.frames with heap := s₂.heap, slotsUsed := s₂.slotsUsed } : State).setVm s₂.vm := by
      have : s₂ = ({ s₂ with vm := (U.calling g mk a).vm } : State).setVm s₂.vm := rfl
      rw [e2] at this
      exact this
    obtain ⟨c₂, i₂, len₂, hc₂, hd₂, hf₂⟩ := hend
    have hW' : U.WarmedH s₂.vm := hW₂
    have hcc : c₂ = c := by
      have h1 : s₂.code? g.method = U.code? g.method := by
        rw [State.code?_eq, State.code?_eq, hW'.alike.method?]
      exact Option.some.inj (hc₂.symm.trans (h1.trans h.code))
    subst hcc
    have hlen : len₂ = len := by rw [hdg] at hd₂; cases hd₂; rfl
    subst hlen
    have hs₂ : s₂ = (({ U with heap := s₂.heap, slotsUsed := s₂.slotsUsed } : State).setVm s₂.vm).setTop { g with pc := g.pc + len₂, stack := v.toList ++ g.stack } := by
      refine e3.trans ?_
      rw [hf₂, State.calling_eq h.top, State.setFrames_setFrames, State.setTop_of_frames _ hr', hr]
      rfl
    have hsame : U.sameButNew ({ U with heap := s₂.heap, slotsUsed := s₂.slotsUsed } : State) L mc ms := by
      refine ⟨?_, q2, q3, q4, q5, q6⟩
      obtain ⟨t, ht, -⟩ := State.frames_cons hr
      show ({ U with heap := s₂.heap, slotsUsed := s₂.slotsUsed } : State) = { U.setFrames U.frames with heap := s₂.heap, slotsUsed := s₂.slotsUsed }
      rw [State.setFrames_self ht]
    subst hg
    refine Or.inl ⟨v, ⟨(({ U with heap := s₂.heap, slotsUsed := s₂.slotsUsed } : State).setVm s₂.vm), Ls ++ L, c0 + mc, s0 + ms⟩,
      ⟨X.admits, X.cas, X.clock, X.frames, X.room, X.hears, X.method, X.code, (X.here.setHeapUsed s₂.heap s₂.slotsUsed).setVm hW'.alike, X.tail, State.WarmedH.trans X.warmed hW', X.limits, X.bytes, X.same.trans (hsame.setVm s.vm)⟩,
      ⟨g, mk, s₂, L, rfl, rfl, hqc, rfl, hL, rfl, rfl⟩, ?_⟩
    show Steps p.tables e below _ ((({ U with heap := s₂.heap, slotsUsed := s₂.slotsUsed } : State).setVm s₂.vm).setTop { g with pc := g.pc + len₂, stack := v.toList ++ g.stack })
    rw [← hs₂]
    exact hsteps
  · obtain ⟨e2, q2, q3, q4, q5, q6⟩ := id hsm
    have e3 : s₂ = ({ (U.calling g mk a).setFrames s₂.frames with heap := s₂.heap, slotsUsed := s₂.slotsUsed } : State).setVm s₂.vm := by
      have : s₂ = ({ s₂ with vm := (U.calling g mk a).vm } : State).setVm s₂.vm := rfl
      rw [e2] at this
      exact this
    have hf₂ : s₂.frames = .throwing q :: .java g :: U.frames.tail := hend
    have hW' : U.WarmedH s₂.vm := hW₂
    have hs₂ : s₂ = ((({ U with heap := s₂.heap, slotsUsed := s₂.slotsUsed } : State).setVm s₂.vm).setTop g).pushFrame (.throwing q) := by
      refine e3.trans ?_
      rw [hf₂, State.calling_eq h.top, State.setFrames_setFrames, State.pushFrame, State.frames_setTop _ hr', State.setTop_of_frames _ hr', State.setFrames_setFrames, hr]
      rfl
    have hsame : U.sameButNew ({ U with heap := s₂.heap, slotsUsed := s₂.slotsUsed } : State) L mc ms := by
      refine ⟨?_, q2, q3, q4, q5, q6⟩
      obtain ⟨t, ht, -⟩ := State.frames_cons hr
      show ({ U with heap := s₂.heap, slotsUsed := s₂.slotsUsed } : State) = { U.setFrames U.frames with heap := s₂.heap, slotsUsed := s₂.slotsUsed }
      rw [State.setFrames_self ht]
    subst hg
    refine Or.inr ⟨q, ⟨(({ U with heap := s₂.heap, slotsUsed := s₂.slotsUsed } : State).setVm s₂.vm), Ls ++ L, c0 + mc, s0 + ms⟩,
      ⟨X.admits, X.cas, X.clock, X.frames, X.room, X.hears, X.method, X.code, (X.here.setHeapUsed s₂.heap s₂.slotsUsed).setVm hW'.alike, X.tail, State.WarmedH.trans X.warmed hW', X.limits, X.bytes, X.same.trans (hsame.setVm s.vm)⟩,
      ⟨g, mk, s₂, L, E, ce, rfl, rfl, hx, hce, hcv, hcl, rfl, hL, rfl, rfl⟩, ?_⟩
    show Steps p.tables e below _ (((({ U with heap := s₂.heap, slotsUsed := s₂.slotsUsed } : State).setVm s₂.vm).setTop g).pushFrame (.throwing q))
    rw [← hs₂]
    exact hsteps
end Payer
section Calls
variable {p : Program} {l : Launch} {e : Env} {R : Room} {s : State} {m : MethodId} {args : Array Value} {below : List Frame} {meth : Method} {c : Code} {T : State} {locs : List Loc} {cells slots : Nat}
theorem vx_callV (X : Stand p l e R s m args below meth c T locs cells slots) (hexec : p.tables.exec = Jvm.exec) {own C : String} {index : Nat} {y : MethodName} {bytes : ByteArray} {maxL : Nat} {ret : Option FieldType}
    (hown : s.vm.findClass own = some m.cls) (hlink : (Cond.methodLink own index y).before args s = true) (hinst : (Cond.instanceMethod y).before args s = true) (hsel : (Cond.selects C y y).before args s = true)
    (hcode : (Cond.code y bytes maxL ret).before args s = true) (hy : y.cls ≠ "java/lang/invoke/MethodHandle" ∧ y.cls ≠ "java/lang/invoke/VarHandle")
    {W9 : Nat} {Pre : Pt → Array Value → Prop} {Post : Pt → Array Value → Option Value → Pt → Prop} {PostX : Pt → Array Value → Addr → Pt → Prop} (hK : vx_Back l R p e below s args y 3 W9 Pre Post PostX)
    {b : Addr} {cellB : Cell} (hcell : T.heap[b]? = some cellB) (hobj : cellB.vm.isStatics = false) (hcls : s.vm.findClass C = some cellB.cls)
    {g : JFrame} (hg : g.method = m) (hsize : g.locals.size = c.maxLocals) {argsL rest : List Value} (hlen : ∀ sig, parseMethodDescriptor y.desc = some sig → argsL.length = sig.parameters.length)
    (hstack : g.stack = argsL.reverse ++ .ref b :: rest) (hW : 2 * g.monitorRoom + (rest.map fun v => v.category).sum ≤ W9) (hdg : decode c.code g.pc = .ok (.invokevirtual index, 3))
    (hpre : ∀ vm₁, s.WarmedH vm₁ → Pre ⟨T.setVm vm₁, locs, cells, slots⟩ (Value.ref b :: argsL).toArray) :
    (∃ (v : Option Value) (vm₁ : Vm) (B : Pt), s.WarmedH vm₁ ∧ Stand p l e R s m args below meth c B.U B.locs B.cells B.slots ∧ Post ⟨T.setVm vm₁, locs, cells, slots⟩ (Value.ref b :: argsL).toArray v B ∧
      ∀ target, Steps p.tables e below (B.U.setTop { g with pc := g.pc + 3, stack := v.toList ++ rest }) target → Steps p.tables e below (T.setTop g) target) ∨
    (∃ (q : Addr) (vm₁ : Vm) (B : Pt), s.WarmedH vm₁ ∧ Stand p l e R s m args below meth c B.U B.locs B.cells B.slots ∧ PostX ⟨T.setVm vm₁, locs, cells, slots⟩ (Value.ref b :: argsL).toArray q B ∧
      Steps p.tables e below (T.setTop g) ((B.U.setTop { g with stack := rest }).pushFrame (.throwing q))) := by
  obtain ⟨mk, methM, hnamed, hmethM, hstM, habM⟩ := Cond.instanceMethod_spec hinst
  obtain ⟨methM', cM, hmethM', -, -, -, -, -, -, hsigM⟩ := Cond.code_spec hnamed hcode
  cases hmethM.symm.trans hmethM'
  obtain ⟨c2, r2, m2, q1, q2, q3, q4, kP, hkP, hkPi⟩ := Cond.selects_spec hsel
  cases hcls.symm.trans q1
  cases (State.methodFound?_of_named hnamed hy).symm.trans q2
  cases hnamed.symm.trans q3
  have hselP : selectMethod e.platform s.vm cellB.cls mk = .method mk := by rw [Launch.admits_selectMethod X.admits]; exact q4
  obtain ⟨vm₁, X₁, hstep₁⟩ := X.invokevirtual hexec hown hlink hnamed hmethM hstM hkP hkPi hy (a := b) (cell := cellB) hcell
    (fun z h => by rw [h] at hobj; cases hobj) hselP hmethM habM hkP hkPi (g := g) hg (argsL := argsL) (rest := rest) (hlen _ hsigM) hstack hdg
  rcases hK m meth c ⟨T.setVm vm₁, locs, cells, slots⟩ { g with stack := rest } (.invokevirtual index) mk (Value.ref b :: argsL).toArray X₁ hg hsize hdg hW (X₁.named hnamed) (hpre vm₁ X₁.warmed) with ⟨v, B, X', hpost, hsteps⟩ | ⟨q, B, X', hpost, hsteps⟩
  · exact Or.inl ⟨v, vm₁, B, X₁.warmed, X', hpost, fun target h => hstep₁ _ fun acts => by rw [doInvoke_state]; exact hsteps.trans h⟩
  · exact Or.inr ⟨q, vm₁, B, X₁.warmed, X', hpost, hstep₁ _ fun acts => by rw [doInvoke_state]; exact hsteps⟩
theorem vx_callS (X : Stand p l e R s m args below meth c T locs cells slots) (hexec : p.tables.exec = Jvm.exec) {own : String} {index : Nat} {y : MethodName} {bytes : ByteArray} {maxL : Nat} {ret : Option FieldType}
    (hown : s.vm.findClass own = some m.cls) (hlink : (Cond.methodLink own index y).before args s = true) (hstat : (Cond.static y).before args s = true) (hinit : (Cond.initialized y.cls).before args s = true)
    (hcode : (Cond.code y bytes maxL ret).before args s = true) (hy : y.cls ≠ "java/lang/invoke/MethodHandle" ∧ y.cls ≠ "java/lang/invoke/VarHandle")
    {W9 : Nat} {Pre : Pt → Array Value → Prop} {Post : Pt → Array Value → Option Value → Pt → Prop} {PostX : Pt → Array Value → Addr → Pt → Prop} (hK : vx_Back l R p e below s args y 3 W9 Pre Post PostX)
    {g : JFrame} (hg : g.method = m) (hsize : g.locals.size = c.maxLocals) {argsL rest : List Value} (hlen : ∀ sig, parseMethodDescriptor y.desc = some sig → argsL.length = sig.parameters.length)
    (hstack : g.stack = argsL.reverse ++ rest) (hW : 2 * g.monitorRoom + (rest.map fun v => v.category).sum ≤ W9) (hdg : decode c.code g.pc = .ok (.invokestatic index, 3))
    (hpre : ∀ vm₁, s.WarmedH vm₁ → Pre ⟨T.setVm vm₁, locs, cells, slots⟩ argsL.toArray) :
    (∃ (v : Option Value) (vm₁ : Vm) (B : Pt), s.WarmedH vm₁ ∧ Stand p l e R s m args below meth c B.U B.locs B.cells B.slots ∧ Post ⟨T.setVm vm₁, locs, cells, slots⟩ argsL.toArray v B ∧
      ∀ target, Steps p.tables e below (B.U.setTop { g with pc := g.pc + 3, stack := v.toList ++ rest }) target → Steps p.tables e below (T.setTop g) target) ∨
    (∃ (q : Addr) (vm₁ : Vm) (B : Pt), s.WarmedH vm₁ ∧ Stand p l e R s m args below meth c B.U B.locs B.cells B.slots ∧ PostX ⟨T.setVm vm₁, locs, cells, slots⟩ argsL.toArray q B ∧
      Steps p.tables e below (T.setTop g) ((B.U.setTop { g with stack := rest }).pushFrame (.throwing q))) := by
  obtain ⟨mk, hnamed⟩ := Cond.code_named hcode
  obtain ⟨methM, cM, hmethM, -, -, -, -, -, -, hsigM⟩ := Cond.code_spec hnamed hcode
  have hstatic : methM.isStatic = true := Cond.static_spec hnamed hmethM hstat
  obtain ⟨kP, hkP, -⟩ := className_of_methodNamed hnamed
  have hinitP : kP.init = .initialized := Cond.initialized_spec (findClass_of_methodNamed hnamed) hkP hinit
  obtain ⟨vm₁, X₁, hstep₁⟩ := X.invokestatic hexec hown hlink hnamed hmethM hstatic hkP hinitP hy (g := g) hg (argsL := argsL) (rest := rest) (hlen _ hsigM) hstack hdg
  rcases hK m meth c ⟨T.setVm vm₁, locs, cells, slots⟩ { g with stack := rest } (.invokestatic index) mk argsL.toArray X₁ hg hsize hdg hW (X₁.named hnamed) (hpre vm₁ X₁.warmed) with ⟨v, B, X', hpost, hsteps⟩ | ⟨q, B, X', hpost, hsteps⟩
  · exact Or.inl ⟨v, vm₁, B, X₁.warmed, X', hpost, fun target h => hstep₁ _ fun acts => by rw [doInvoke_state]; exact hsteps.trans h⟩
  · exact Or.inr ⟨q, vm₁, B, X₁.warmed, X', hpost, hstep₁ _ fun acts => by rw [doInvoke_state]; exact hsteps⟩
end Calls
theorem vx_cls {s : State} {T : State} {vm₁ : Vm} {E : String} {k : ClassId} (hW : s.WarmedH vm₁) (h : (T.setVm vm₁).vm.findClass E = some k) : s.vm.findClass E = some k := by
  have h1 : vm₁.findClass E = some k := h
  rw [hW.alike.findClass] at h1
  exact h1
/-- the method's frame g, with q thrown over it -/
def vx_W (p : Program) (l : Launch) (e : Env) (R : Room) (s : State) (m : MethodId) (args : Array Value) (below : List Frame) (meth : Method) (c : Code) (H : Heap) (locs : List Loc) (cells slots : Nat) (Q : State → Prop) (g : JFrame) (q : Addr) : Prop :=
  ∀ T : State, T.heap = H → Stand p l e R s m args below meth c T locs cells slots → ∃ t, Steps p.tables e below ((T.setTop g).pushFrame (.throwing q)) t ∧ Q t
def vx_Run (p : Program) (l : Launch) (e : Env) (R : Room) (s : State) (m : MethodId) (args : Array Value) (below : List Frame) (meth : Method) (c : Code) (H : Heap) (locs : List Loc) (cells slots mc ms : Nat) (g : JFrame) (rest : List Value) (Qa : State → Outcome → State → Prop) (XC : String → State → State → Prop) (free : Addr → Prop) : Prop :=
  ∀ T : State, T.heap = H → Stand p l e R s m args below meth c T locs cells slots →
    (∃ (v : Option Value) (st₀ t T' : State) (L : List Loc), st₀.heap = H ∧ Stand p l e R s m args below meth c T' (locs ++ L) (cells + mc) (slots + ms) ∧ (∀ q ∈ L, free q.base) ∧ T'.heap = t.heap ∧ T'.vm = t.vm ∧ Qa st₀ (.returned v) t ∧
      Goes p e below T g T' { g with pc := g.pc + 3, stack := v.toList ++ rest }) ∨
    (∃ (q : Addr) (st₀ t T' : State) (L : List Loc) (E : String) (ce : Cell), st₀.heap = H ∧ Stand p l e R s m args below meth c T' (locs ++ L) (cells + mc) (slots + ms) ∧ (∀ z ∈ L, free z.base) ∧ T'.heap = t.heap ∧ T'.vm = t.vm ∧ XC E st₀ t ∧ t.heap[q]? = some ce ∧ ce.vm = .none ∧ s.vm.findClass E = some ce.cls ∧
      Steps p.tables e below (T.setTop g) ((T'.setTop { g with stack := rest }).pushFrame (.throwing q)))
def vx_X {S : Type} (px : S → Prop) (B : String → S → State → Prop) (A : Nat → Prop) : String → State → State → Prop := fun E st t => ∃ u : S, px u ∧ B E u t ∧ va_F A st t
section Runs
variable {p : Program} {l : Launch} {e : Env} {R : Room} {s : State} {m : MethodId} {args : Array Value} {below : List Frame} {meth : Method} {c : Code} {H : Heap} {locs : List Loc} {cells slots : Nat}
variable {y : MethodName} {bytes cc : ByteArray} {maxL nL mc ms n index : Nat} {ret : Option FieldType} {ws : List Cond} {rm : Room} {Pc : Array Value → State → Prop} {Qc : Array Value → State → Outcome → State → Prop} {XC : String → State → State → Prop} {free : Addr → Prop} {Ts : List Cond} {own C : String} {b : Addr} {As rest : List Value} {g : JFrame}
theorem vx_callBack (cb : CallB R s args own index y bytes maxL ret ws rm mc ms n) (hM : vx_Met l y ws rm Pc Qc XC mc ms free) (hbl : FrameBlind Pc) : vx_Back l R p e below s args y 3 8 (PreOf R mc ms Pc) (PostOf Qc mc ms free) (vx_Post XC mc ms free) := by
  obtain ⟨hrc, hrs, hfr, hlo, hws, hcw, -, hini, -⟩ := cb
  exact vx_back (bytes := bytes) (maxL := maxL) (ret := ret) hM hbl hrc hrs hfr hlo hws hcw (fun a' U hW => word_at hW (Or.inl (by first | rfl | simp [Cond.onTables, Cond.keeps, Cond.steady])) hini)
theorem vx_runV (S : CallFix p m c cc nL s args Ts own) (hM : vx_Met l y ws rm Pc Qc XC mc ms free) (cw : CallW R s args own C index y bytes maxL ret ws rm mc ms n) (hp : PreV s H C b Pc As)
    (hg : g.method = m) (hn : As.length = n) (hsize : g.locals.size = nL) (hstack : g.stack = As.reverse ++ .ref b :: rest) (hW : 2 * g.monitorRoom + (rest.map fun v => v.category).sum ≤ 8) (hdg : decode cc g.pc = .ok (.invokevirtual index, 3)) (hf : cells + mc ≤ R.cells ∧ slots + ms ≤ R.slots) :
    vx_Run p l e R s m args below meth c H locs cells slots mc ms g rest (Qc (Value.ref b :: As).toArray) XC free := by
  have hK : vx_Back l R p e below s args y 3 8 (PreOf R mc ms Pc) (PostOf Qc mc ms free) (vx_Post XC mc ms free) := vx_callBack cw.1 hM hp.1
  obtain ⟨⟨-, -, -, -, -, -, hcode, -, hy, hlen, hl⟩, hin, hse⟩ := cw
  obtain ⟨hx, hb, hml, ho, -⟩ := S
  obtain ⟨-, ⟨cellB, hcB, hoB, hclB⟩, hPc⟩ := hp
  intro T hT X
  rcases vx_callV X hx (C := C) (bytes := bytes) (maxL := maxL) (ret := ret) ho hl hin hse hcode hy hK (by rw [hT]; exact hcB) hoB hclB hg (hsize.trans hml.symm) (argsL := As) (rest := rest) (fun sig h => hn.trans (hlen sig h)) hstack hW (by rw [hb]; exact hdg)
    (fun vm₁ hW₁ => ⟨hf.1, hf.2, hPc (T.setVm vm₁) hT hW₁⟩) with ⟨v, vm₁, ⟨U', l2, c2, s2⟩, hW₁, X', ⟨g', mk, t, L, e1, e2, hq, h1, hL, h2, h3⟩, st⟩ | ⟨q, vm₁, ⟨U', l2, c2, s2⟩, hW₁, X', ⟨g', mk, t, L, E, ce, e1, e2, hq, hce, hcv, hcl, h1, hL, h2, h3⟩, st⟩
  · dsimp only [Pt.U, Pt.locs, Pt.cells, Pt.slots] at X' e1 e2 h1 h2 h3 st
    subst h1; subst h2; subst h3
    exact Or.inl ⟨v, (T.setVm vm₁).calling g' mk (Value.ref b :: As).toArray, t, U', L, hT, X', hL, e1, e2, hq, st⟩
  · dsimp only [Pt.U, Pt.locs, Pt.cells, Pt.slots] at X' e1 e2 h1 h2 h3 st hcl
    subst h1; subst h2; subst h3
    exact Or.inr ⟨q, (T.setVm vm₁).calling g' mk (Value.ref b :: As).toArray, t, U', L, E, ce, hT, X', hL, e1, e2, hq, hce, hcv, vx_cls hW₁ hcl, st⟩
theorem vx_runS (S : CallFix p m c cc nL s args Ts own) (hM : vx_Met l y ws rm Pc Qc XC mc ms free) (cw : CallB R s args own index y bytes maxL ret ws rm mc ms n ∧ (Cond.static y).before args s = true) (hp : PreS s H Pc As)
    (hg : g.method = m) (hn : As.length = n) (hsize : g.locals.size = nL) (hstack : g.stack = As.reverse ++ rest) (hW : 2 * g.monitorRoom + (rest.map fun v => v.category).sum ≤ 8) (hdg : decode cc g.pc = .ok (.invokestatic index, 3)) (hf : cells + mc ≤ R.cells ∧ slots + ms ≤ R.slots) :
    vx_Run p l e R s m args below meth c H locs cells slots mc ms g rest (Qc As.toArray) XC free := by
  have hK : vx_Back l R p e below s args y 3 8 (PreOf R mc ms Pc) (PostOf Qc mc ms free) (vx_Post XC mc ms free) := vx_callBack cw.1 hM hp.1
  obtain ⟨⟨-, -, -, -, -, -, hcode, hini, hy, hlen, hl⟩, hstt⟩ := cw
  obtain ⟨hx, hb, hml, ho, -⟩ := S
  intro T hT X
  rcases vx_callS X hx (bytes := bytes) (maxL := maxL) (ret := ret) ho hl hstt hini hcode hy hK hg (hsize.trans hml.symm) (argsL := As) (rest := rest) (fun sig h => hn.trans (hlen sig h)) hstack hW (by rw [hb]; exact hdg)
    (fun vm₁ hW₁ => ⟨hf.1, hf.2, hp.2 (T.setVm vm₁) hT hW₁⟩) with ⟨v, vm₁, ⟨U', l2, c2, s2⟩, hW₁, X', ⟨g', mk, t, L, e1, e2, hq, h1, hL, h2, h3⟩, st⟩ | ⟨q, vm₁, ⟨U', l2, c2, s2⟩, hW₁, X', ⟨g', mk, t, L, E, ce, e1, e2, hq, hce, hcv, hcl, h1, hL, h2, h3⟩, st⟩
  · dsimp only [Pt.U, Pt.locs, Pt.cells, Pt.slots] at X' e1 e2 h1 h2 h3 st
    subst h1; subst h2; subst h3
    exact Or.inl ⟨v, (T.setVm vm₁).calling g' mk As.toArray, t, U', L, hT, X', hL, e1, e2, hq, st⟩
  · dsimp only [Pt.U, Pt.locs, Pt.cells, Pt.slots] at X' e1 e2 h1 h2 h3 st hcl
    subst h1; subst h2; subst h3
    exact Or.inr ⟨q, (T.setVm vm₁).calling g' mk As.toArray, t, U', L, E, ce, hT, X', hL, e1, e2, hq, hce, hcv, vx_cls hW₁ hcl, st⟩
end Runs
section Rows
variable {p : Program} {l : Launch} {e : Env} {R : Room} {s : State} {m : MethodId} {args : Array Value} {below : List Frame} {meth : Method} {c : Code} {H : Heap} {locs : List Loc} {cells slots : Nat} {Q : State → Prop}
variable {mc ms : Nat} {free : Addr → Prop} {A0 A1 : Nat → Prop} {H0 : Heap} {a : Array Value} {pc : Nat} {ls : Array Slot} {st0 rest : List Value}
theorem vx_keep {st₀ t T' : State} {L : List Loc} (h0 : st₀.heap = H) (e1 : T'.heap = t.heap) (hS : va_S A0 H0 H locs) (hA : ∀ q, q < H.size → A1 q → A0 q) (hf : ∀ q, free q → A0 q) (hL : ∀ q ∈ L, free q.base) (hF : va_F A1 st₀ t) :
    H.size ≤ T'.heap.size ∧ (∀ q : Nat, q < H.size → ¬ A1 q → T'.heap[q]? = H[q]?) ∧ va_S A0 H0 T'.heap (locs ++ L) := by
  obtain ⟨hz, hk⟩ := hF
  rw [h0] at hz hk
  exact ⟨by rw [e1]; exact hz, fun q h1 h2 => by rw [e1]; exact hk q h1 h2,
    ⟨Nat.le_trans hS.1 (by rw [e1]; exact hz), fun q h1 h2 => by rw [e1, hk q (Nat.lt_of_lt_of_le h1 hS.1) (fun z => h2 (hA q (Nat.lt_of_lt_of_le h1 hS.1) z))]; exact hS.2.1 q h1 h2, fun q hq => by
      rcases List.mem_append.mp hq with h | h
      · exact hS.2.2 q h
      · exact hf _ (hL q h)⟩⟩
theorem vx_calli {S SX : Type} {post : Int32 → S → Prop} {px : SX → Prop} {B : S → State → Prop} {BX : String → SX → State → Prop} {AX : Nat → Prop} (hr : vx_Run p l e R s m args below meth c H locs cells slots mc ms (F0 m pc ls st0) rest (va_Qi post B A1 a) (vx_X px BX AX) free) (hS : va_S A0 H0 H locs) (hA : ∀ q, q < H.size → A1 q → A0 q) (hf : ∀ q, free q → A0 q) (hAX : ∀ q, q < H.size → AX q → A0 q)
    (kx : ∀ (E : String) (ce : Cell) (q9 : Addr) (u : SX) (t : State) (H1 : Heap) (locs1 : List Loc), t.heap = H1 → s.vm.Alike t.vm → px u → BX E u t → H.size ≤ H1.size → (∀ q : Nat, q < H.size → ¬ AX q → H1[q]? = H[q]?) → va_S A0 H0 H1 locs1 → H1[q9]? = some ce → ce.vm = .none → s.vm.findClass E = some ce.cls → vx_W p l e R s m args below meth c H1 locs1 (cells + mc) (slots + ms) Q (F0 m pc ls rest) q9)
    (kk : ∀ (r : Int32) (u : S) (t : State) (H1 : Heap) (locs1 : List Loc), t.heap = H1 → s.vm.Alike t.vm → post r u → B u t → H.size ≤ H1.size → (∀ q : Nat, q < H.size → ¬ A1 q → H1[q]? = H[q]?) → va_S A0 H0 H1 locs1 → W p l e R s m args below meth c H1 locs1 (cells + mc) (slots + ms) Q (F0 m (pc + 3) ls (.int r :: rest))) : W p l e R s m args below meth c H locs cells slots Q (F0 m pc ls st0) := by
  intro T hT X
  rcases hr T hT X with ⟨v, st₀, t, T', L, h0, X', hL, e1, e2, ⟨⟨r, u, hv, hp, hb⟩, hF⟩, st⟩ | ⟨q, st₀, t, T', L, E, ce, h0, X', hL, e1, e2, ⟨u, hp, hb, hF⟩, hce, hcv, hcl, st⟩
  · cases hv
    obtain ⟨k1, k2, k3⟩ := vx_keep h0 e1 hS hA hf hL hF
    obtain ⟨t2, a1, b1⟩ := kk r u t T'.heap (locs ++ L) e1.symm (by rw [← e2]; exact X'.warmed.alike) hp hb k1 k2 k3 T' rfl X'
    exact ⟨t2, st t2 a1, b1⟩
  · obtain ⟨k1, k2, k3⟩ := vx_keep h0 e1 hS hAX hf hL hF
    obtain ⟨t2, a1, b1⟩ := kx E ce q u t T'.heap (locs ++ L) e1.symm (by rw [← e2]; exact X'.warmed.alike) hp hb k1 k2 k3 (by rw [e1]; exact hce) hcv hcl T' rfl X'
    exact ⟨t2, st.trans a1, b1⟩
theorem vx_calll {S SX : Type} {post : Int64 → S → Prop} {px : SX → Prop} {B : S → State → Prop} {BX : String → SX → State → Prop} {AX : Nat → Prop} (hr : vx_Run p l e R s m args below meth c H locs cells slots mc ms (F0 m pc ls st0) rest (va_Ql post B A1 a) (vx_X px BX AX) free) (hS : va_S A0 H0 H locs) (hA : ∀ q, q < H.size → A1 q → A0 q) (hf : ∀ q, free q → A0 q) (hAX : ∀ q, q < H.size → AX q → A0 q)
    (kx : ∀ (E : String) (ce : Cell) (q9 : Addr) (u : SX) (t : State) (H1 : Heap) (locs1 : List Loc), t.heap = H1 → s.vm.Alike t.vm → px u → BX E u t → H.size ≤ H1.size → (∀ q : Nat, q < H.size → ¬ AX q → H1[q]? = H[q]?) → va_S A0 H0 H1 locs1 → H1[q9]? = some ce → ce.vm = .none → s.vm.findClass E = some ce.cls → vx_W p l e R s m args below meth c H1 locs1 (cells + mc) (slots + ms) Q (F0 m pc ls rest) q9)
    (kk : ∀ (r : Int64) (u : S) (t : State) (H1 : Heap) (locs1 : List Loc), t.heap = H1 → s.vm.Alike t.vm → post r u → B u t → H.size ≤ H1.size → (∀ q : Nat, q < H.size → ¬ A1 q → H1[q]? = H[q]?) → va_S A0 H0 H1 locs1 → W p l e R s m args below meth c H1 locs1 (cells + mc) (slots + ms) Q (F0 m (pc + 3) ls (.long r :: rest))) : W p l e R s m args below meth c H locs cells slots Q (F0 m pc ls st0) := by
  intro T hT X
  rcases hr T hT X with ⟨v, st₀, t, T', L, h0, X', hL, e1, e2, ⟨⟨r, u, hv, hp, hb⟩, hF⟩, st⟩ | ⟨q, st₀, t, T', L, E, ce, h0, X', hL, e1, e2, ⟨u, hp, hb, hF⟩, hce, hcv, hcl, st⟩
  · cases hv
    obtain ⟨k1, k2, k3⟩ := vx_keep h0 e1 hS hA hf hL hF
    obtain ⟨t2, a1, b1⟩ := kk r u t T'.heap (locs ++ L) e1.symm (by rw [← e2]; exact X'.warmed.alike) hp hb k1 k2 k3 T' rfl X'
    exact ⟨t2, st t2 a1, b1⟩
  · obtain ⟨k1, k2, k3⟩ := vx_keep h0 e1 hS hAX hf hL hF
    obtain ⟨t2, a1, b1⟩ := kx E ce q u t T'.heap (locs ++ L) e1.symm (by rw [← e2]; exact X'.warmed.alike) hp hb k1 k2 k3 (by rw [e1]; exact hce) hcv hcl T' rfl X'
    exact ⟨t2, st.trans a1, b1⟩
theorem vx_callf {S SX : Type} {post : UInt32 → S → Prop} {px : SX → Prop} {B : S → State → Prop} {BX : String → SX → State → Prop} {AX : Nat → Prop} (hr : vx_Run p l e R s m args below meth c H locs cells slots mc ms (F0 m pc ls st0) rest (va_Qf post B A1 a) (vx_X px BX AX) free) (hS : va_S A0 H0 H locs) (hA : ∀ q, q < H.size → A1 q → A0 q) (hf : ∀ q, free q → A0 q) (hAX : ∀ q, q < H.size → AX q → A0 q)
    (kx : ∀ (E : String) (ce : Cell) (q9 : Addr) (u : SX) (t : State) (H1 : Heap) (locs1 : List Loc), t.heap = H1 → s.vm.Alike t.vm → px u → BX E u t → H.size ≤ H1.size → (∀ q : Nat, q < H.size → ¬ AX q → H1[q]? = H[q]?) → va_S A0 H0 H1 locs1 → H1[q9]? = some ce → ce.vm = .none → s.vm.findClass E = some ce.cls → vx_W p l e R s m args below meth c H1 locs1 (cells + mc) (slots + ms) Q (F0 m pc ls rest) q9)
    (kk : ∀ (r : UInt32) (u : S) (t : State) (H1 : Heap) (locs1 : List Loc), t.heap = H1 → s.vm.Alike t.vm → post r u → B u t → H.size ≤ H1.size → (∀ q : Nat, q < H.size → ¬ A1 q → H1[q]? = H[q]?) → va_S A0 H0 H1 locs1 → W p l e R s m args below meth c H1 locs1 (cells + mc) (slots + ms) Q (F0 m (pc + 3) ls (.float r :: rest))) : W p l e R s m args below meth c H locs cells slots Q (F0 m pc ls st0) := by
  intro T hT X
  rcases hr T hT X with ⟨v, st₀, t, T', L, h0, X', hL, e1, e2, ⟨⟨r, u, hv, hp, hb⟩, hF⟩, st⟩ | ⟨q, st₀, t, T', L, E, ce, h0, X', hL, e1, e2, ⟨u, hp, hb, hF⟩, hce, hcv, hcl, st⟩
  · cases hv
    obtain ⟨k1, k2, k3⟩ := vx_keep h0 e1 hS hA hf hL hF
    obtain ⟨t2, a1, b1⟩ := kk r u t T'.heap (locs ++ L) e1.symm (by rw [← e2]; exact X'.warmed.alike) hp hb k1 k2 k3 T' rfl X'
    exact ⟨t2, st t2 a1, b1⟩
  · obtain ⟨k1, k2, k3⟩ := vx_keep h0 e1 hS hAX hf hL hF
    obtain ⟨t2, a1, b1⟩ := kx E ce q u t T'.heap (locs ++ L) e1.symm (by rw [← e2]; exact X'.warmed.alike) hp hb k1 k2 k3 (by rw [e1]; exact hce) hcv hcl T' rfl X'
    exact ⟨t2, st.trans a1, b1⟩
theorem vx_calld {S SX : Type} {post : UInt64 → S → Prop} {px : SX → Prop} {B : S → State → Prop} {BX : String → SX → State → Prop} {AX : Nat → Prop} (hr : vx_Run p l e R s m args below meth c H locs cells slots mc ms (F0 m pc ls st0) rest (va_Qd post B A1 a) (vx_X px BX AX) free) (hS : va_S A0 H0 H locs) (hA : ∀ q, q < H.size → A1 q → A0 q) (hf : ∀ q, free q → A0 q) (hAX : ∀ q, q < H.size → AX q → A0 q)
    (kx : ∀ (E : String) (ce : Cell) (q9 : Addr) (u : SX) (t : State) (H1 : Heap) (locs1 : List Loc), t.heap = H1 → s.vm.Alike t.vm → px u → BX E u t → H.size ≤ H1.size → (∀ q : Nat, q < H.size → ¬ AX q → H1[q]? = H[q]?) → va_S A0 H0 H1 locs1 → H1[q9]? = some ce → ce.vm = .none → s.vm.findClass E = some ce.cls → vx_W p l e R s m args below meth c H1 locs1 (cells + mc) (slots + ms) Q (F0 m pc ls rest) q9)
    (kk : ∀ (r : UInt64) (u : S) (t : State) (H1 : Heap) (locs1 : List Loc), t.heap = H1 → s.vm.Alike t.vm → post r u → B u t → H.size ≤ H1.size → (∀ q : Nat, q < H.size → ¬ A1 q → H1[q]? = H[q]?) → va_S A0 H0 H1 locs1 → W p l e R s m args below meth c H1 locs1 (cells + mc) (slots + ms) Q (F0 m (pc + 3) ls (.double r :: rest))) : W p l e R s m args below meth c H locs cells slots Q (F0 m pc ls st0) := by
  intro T hT X
  rcases hr T hT X with ⟨v, st₀, t, T', L, h0, X', hL, e1, e2, ⟨⟨r, u, hv, hp, hb⟩, hF⟩, st⟩ | ⟨q, st₀, t, T', L, E, ce, h0, X', hL, e1, e2, ⟨u, hp, hb, hF⟩, hce, hcv, hcl, st⟩
  · cases hv
    obtain ⟨k1, k2, k3⟩ := vx_keep h0 e1 hS hA hf hL hF
    obtain ⟨t2, a1, b1⟩ := kk r u t T'.heap (locs ++ L) e1.symm (by rw [← e2]; exact X'.warmed.alike) hp hb k1 k2 k3 T' rfl X'
    exact ⟨t2, st t2 a1, b1⟩
  · obtain ⟨k1, k2, k3⟩ := vx_keep h0 e1 hS hAX hf hL hF
    obtain ⟨t2, a1, b1⟩ := kx E ce q u t T'.heap (locs ++ L) e1.symm (by rw [← e2]; exact X'.warmed.alike) hp hb k1 k2 k3 (by rw [e1]; exact hce) hcv hcl T' rfl X'
    exact ⟨t2, st.trans a1, b1⟩
theorem vx_callv {S SX : Type} {post : S → Prop} {px : SX → Prop} {B : S → State → Prop} {BX : String → SX → State → Prop} {AX : Nat → Prop} (hr : vx_Run p l e R s m args below meth c H locs cells slots mc ms (F0 m pc ls st0) rest (va_Qv post B A1 a) (vx_X px BX AX) free) (hS : va_S A0 H0 H locs) (hA : ∀ q, q < H.size → A1 q → A0 q) (hf : ∀ q, free q → A0 q) (hAX : ∀ q, q < H.size → AX q → A0 q)
    (kx : ∀ (E : String) (ce : Cell) (q9 : Addr) (u : SX) (t : State) (H1 : Heap) (locs1 : List Loc), t.heap = H1 → s.vm.Alike t.vm → px u → BX E u t → H.size ≤ H1.size → (∀ q : Nat, q < H.size → ¬ AX q → H1[q]? = H[q]?) → va_S A0 H0 H1 locs1 → H1[q9]? = some ce → ce.vm = .none → s.vm.findClass E = some ce.cls → vx_W p l e R s m args below meth c H1 locs1 (cells + mc) (slots + ms) Q (F0 m pc ls rest) q9)
    (kk : ∀ (u : S) (t : State) (H1 : Heap) (locs1 : List Loc), t.heap = H1 → s.vm.Alike t.vm → post u → B u t → H.size ≤ H1.size → (∀ q : Nat, q < H.size → ¬ A1 q → H1[q]? = H[q]?) → va_S A0 H0 H1 locs1 → W p l e R s m args below meth c H1 locs1 (cells + mc) (slots + ms) Q (F0 m (pc + 3) ls (rest))) : W p l e R s m args below meth c H locs cells slots Q (F0 m pc ls st0) := by
  intro T hT X
  rcases hr T hT X with ⟨v, st₀, t, T', L, h0, X', hL, e1, e2, ⟨⟨u, hv, hp, hb⟩, hF⟩, st⟩ | ⟨q, st₀, t, T', L, E, ce, h0, X', hL, e1, e2, ⟨u, hp, hb, hF⟩, hce, hcv, hcl, st⟩
  · cases hv
    obtain ⟨k1, k2, k3⟩ := vx_keep h0 e1 hS hA hf hL hF
    obtain ⟨t2, a1, b1⟩ := kk u t T'.heap (locs ++ L) e1.symm (by rw [← e2]; exact X'.warmed.alike) hp hb k1 k2 k3 T' rfl X'
    exact ⟨t2, st t2 a1, b1⟩
  · obtain ⟨k1, k2, k3⟩ := vx_keep h0 e1 hS hAX hf hL hF
    obtain ⟨t2, a1, b1⟩ := kx E ce q u t T'.heap (locs ++ L) e1.symm (by rw [← e2]; exact X'.warmed.alike) hp hb k1 k2 k3 (by rw [e1]; exact hce) hcv hcl T' rfl X'
    exact ⟨t2, st.trans a1, b1⟩
/-- caught by the row x of this method's table; the rows ahead don't take it -/
theorem vx_catch {own name : String} {E : String} {ce : Cell} {q : Addr} (hown : s.vm.findClass own = some m.cls) (pre : List ExceptionTableEntry) (x : ExceptionTableEntry) (suf : List ExceptionTableEntry) (hsplit : c.exceptionTable.toList = pre ++ x :: suf)
    (hpass : ∀ z ∈ pre, covers z pc = false ∨ (z.catchType ≠ 0 ∧ ∃ nm : String, (Cond.classLink own z.catchType nm).before args s = true ∧ va_Nc E nm s)) (hx : covers x pc = true) (h0 : x.catchType ≠ 0)
    (hlink : (Cond.classLink own x.catchType name).before args s = true) (hcast : (Cond.castable E name).before args s = true) (hcell : H[q]? = some ce) (hv : ce.vm = .none) (hcl : s.vm.findClass E = some ce.cls)
    (kk : W p l e R s m args below meth c H locs cells slots Q (F0 m x.handlerPc ls [.ref q])) : vx_W p l e R s m args below meth c H locs cells slots Q (F0 m pc ls rest) q := by
  intro T hT X
  have hpl : e.platform.magicAccessors = ({} : Platform).magicAccessors := by rw [X.admits.platform]
  obtain ⟨c3, c4, hc3, hc4, hasg⟩ := Cond.castable_spec hcast
  cases Option.some.inj (hc3.symm.trans hcl)
  obtain ⟨c5, hc5, hcl5⟩ := Cond.classLink_spec hown hlink e.platform hpl
  cases Option.some.inj (hc4.symm.trans hc5)
  obtain ⟨vm', X', st⟩ := X.thenCaughtThrough q (g := F0 m pc ls rest) rfl (Steps.refl _) (by rw [hT]; exact hcell) (by rw [hv]; rfl) (by obtain ⟨k9, h9, -⟩ := Vm.findClass_spec hcl; exact ⟨k9, h9⟩) pre x suf hsplit
    (fun z hz => by
      rcases hpass z hz with h | ⟨hz0, nm, hl1, hn1⟩
      · exact Or.inl h
      · obtain ⟨c6, hc6, hcl6⟩ := Cond.classLink_spec hown hl1 e.platform hpl
        obtain ⟨a8, b8, h1, h2, h3⟩ := hn1
        cases Option.some.inj (h1.symm.trans hcl)
        cases Option.some.inj (h2.symm.trans hc6)
        exact Or.inr ⟨hz0, _, hcl6, h3⟩) hx (Or.inr ⟨h0, c4, hcl5, hasg⟩)
  obtain ⟨t, a1, b1⟩ := kk (T.setVm vm') hT X'
  exact ⟨t, st.trans a1, b1⟩
end Rows
section Ends
variable {p : Program} {l : Launch} {e : Env} {R : Room} {s : State} {m : MethodId} {args : Array Value} {below : List Frame} {meth : Method} {c : Code} {H : Heap} {locs : List Loc} {cells slots : Nat} {Q : State → Prop}
variable {mc ms : Nat} {free : Addr → Prop} {A0 A1 : Nat → Prop} {H0 : Heap} {a : Array Value} {ls : Array Slot} {st0 rest : List Value}
variable {Qc : Array Value → State → Outcome → State → Prop} {XC : String → State → State → Prop}
/-- what a body that may throw owes at its end -/
def vx_MQ (below : List Frame) (Qc : Array Value → State → Outcome → State → Prop) (XC : String → State → State → Prop) (a : Array Value) (s : State) (mc ms : Nat) (free : Addr → Prop) : State → Prop := fun t =>
  ∃ o, t.status = .running ∧ Ended t below o ∧ vx_Q Qc XC mc ms free a s o t
theorem vx_ret {g : JFrame} {mc ms : Nat} (k : W p l e R s m args below meth c H locs cells slots (MQ below Qc args s mc ms free) g) : W p l e R s m args below meth c H locs cells slots (vx_MQ below Qc XC args s mc ms free) g := by
  intro T hT X
  obtain ⟨t, a1, o, b1, b2, b3, b4⟩ := k T hT X
  exact ⟨t, a1, o, b1, b2, Or.inl ⟨b3, b4⟩⟩
/-- not caught here: it goes on to the caller -/
theorem vx_widen {g : JFrame} {q : Addr} {k n : Nat} (h1 : cells ≤ k) (h2 : slots ≤ n) (kk : vx_W p l e R s m args below meth c H locs k n Q g q) : vx_W p l e R s m args below meth c H locs cells slots Q g q := fun T hT X => kk T hT (stand_widen X h1 h2)
theorem vx_out {pc : Nat} {E : String} {ce : Cell} {q : Addr} {mc ms : Nat} (hout : ∀ x ∈ c.exceptionTable.toList, covers x pc = false) (hlocks : meth.locks = false) (hcell : H[q]? = some ce) (hv : ce.vm = .none) (hcl : s.vm.findClass E = some ce.cls)
    (hx : ∀ t : State, t.heap = H → s.vm.Alike t.vm → XC E s t) (hf : ∀ z ∈ locs, free z.base) (hc : cells ≤ mc) (hs : slots ≤ ms) :
    vx_W p l e R s m args below meth c H locs cells slots (vx_MQ below Qc XC args s mc ms free) (F0 m pc ls rest) q := by
  intro T hT X
  obtain ⟨st1, hrun, hend, hW, hsm⟩ := X.leaveThrown q (g := F0 m pc ls rest) rfl rfl rfl hout hlocks
  have hcell9 : (T.setFrames (.throwing q :: below)).heap[q]? = some ce := by
    show T.heap[q]? = some ce
    rw [hT]; exact hcell
  exact ⟨_, st1, .threw q, hrun, hend, Or.inr ⟨q, rfl, E, ce, locs, hx _ hT hW.alike, hcell9, hv, hcl, hW, hsm.mono hc hs, hf⟩⟩
theorem vx_frame {U : State} {k n : Nat} (h : s.sameButNew ({ U with vm := s.vm } : State) locs k n) : s.heap.size ≤ U.heap.size ∧ ∀ q : Nat, q < s.heap.size → (∀ z ∈ locs, z.base ≠ q) → U.heap[q]? = s.heap[q]? := by
  obtain ⟨-, h2, -, -, -, h6⟩ := h
  refine ⟨h2, fun q hq hz => ?_⟩
  obtain ⟨c9, e1, e2, e3, e4⟩ := h6 q _ (Array.getElem?_eq_getElem hq)
  have hs : c9.slots = (s.heap[q]).slots := Array.ext_getElem? fun i => e4 i fun hm => hz _ hm rfl
  have h9 : c9 = s.heap[q] := by
    rw [hs] at e2
    exact e2
  have e5 : U.heap[q]? = some c9 := e1
  rw [e5, h9, Array.getElem?_eq_getElem hq]
/-- the words of a throw but the four that speak of the heap -/
def vx_no (w : Cond) : Bool := decide (w ≠ .isRef (.static Bundle.tN "UNASSIGNED_STACK" Bundle.steD)) && decide (w ≠ .isRef (.static Bundle.tN "SUPPRESSED_SENTINEL" Bundle.listD)) && decide (w ≠ .laysStatic Bundle.tN "UNASSIGNED_STACK" Bundle.steD) && decide (w ≠ .laysStatic Bundle.tN "SUPPRESSED_SENTINEL" Bundle.listD)
def vx_at0 (own : String) (ic : Nat) (X : String) (names : List String) : List Cond := (Bundle.ownAtoms0 own ic X names).filter vx_no
def vx_atS (own : String) (ic : Nat) (X : String) (names : List String) : List Cond := (Bundle.ownAtoms own ic X names).filter vx_no
/-- a word that the tables alone decide, or a good one -/
def vx_ot (w : Cond) : Bool := w.onTables || goodWord w
theorem vx_ot_at {args a' : Array Value} {s U : State} {w : Cond} (hW : s.WarmedH U.vm) (hvm : s.vm = U.vm) (hg : vx_ot w = true) (h : w.before args s = true) : w.before a' U = true := by
  simp only [vx_ot, Bool.or_eq_true] at hg
  rcases hg with hg | hg
  · exact va_tabs hg hvm h
  · exact word_at hW (good_of_word hg) h
/-- a list's words: the good ones out of the method's own list, the others by premises of their own -/
theorem vx_hat {args : Array Value} {s : State} {L B : List Cond} (h1 : ∀ w ∈ L.filter goodWord, w.before args s = true) (h2 : ∀ w ∈ L.filter (fun w => !goodWord w), w ∈ B) (h3 : ∀ w ∈ B, w.before args s = true) : ∀ w ∈ L, w.before args s = true := by
  intro w hw
  by_cases g : goodWord w = true
  · exact h1 w (List.mem_filter.mpr ⟨hw, g⟩)
  · refine h3 w (h2 w (List.mem_filter.mpr ⟨hw, ?_⟩))
    show (!goodWord w) = true
    cases hgw : goodWord w
    · rfl
    · exact absurd hgw g
theorem vx_c {args : Array Value} {s : State} {w : Cond} {B : List Cond} (h : w.before args s = true) (t : ∀ w ∈ B, w.before args s = true) : ∀ w' ∈ w :: B, w'.before args s = true := fun w' h' => (List.mem_cons.mp h').elim (fun e => by rw [e]; exact h) (t w')
theorem vx_n {args : Array Value} {s : State} : ∀ w ∈ ([] : List Cond), w.before args s = true := fun _ h => nomatch h
theorem vx_own {args : Array Value} {s : State} {L : List Cond} (h1 : ∀ w ∈ L.filter vx_no, w.before args s = true)
    (hU : (Cond.isRef (.static Bundle.tN "UNASSIGNED_STACK" Bundle.steD)).before args s = true) (hN : (Cond.isRef (.static Bundle.tN "SUPPRESSED_SENTINEL" Bundle.listD)).before args s = true)
    (lU : (Cond.laysStatic Bundle.tN "UNASSIGNED_STACK" Bundle.steD).before args s = true) (lN : (Cond.laysStatic Bundle.tN "SUPPRESSED_SENTINEL" Bundle.listD).before args s = true) : ∀ w ∈ L, w.before args s = true := by
  intro w hw
  by_cases e1 : w = .isRef (.static Bundle.tN "UNASSIGNED_STACK" Bundle.steD)
  · rw [e1]; exact hU
  · by_cases e2 : w = .isRef (.static Bundle.tN "SUPPRESSED_SENTINEL" Bundle.listD)
    · rw [e2]; exact hN
    · by_cases e3 : w = .laysStatic Bundle.tN "UNASSIGNED_STACK" Bundle.steD
      · rw [e3]; exact lU
      · by_cases e4 : w = .laysStatic Bundle.tN "SUPPRESSED_SENTINEL" Bundle.listD
        · rw [e4]; exact lN
        · exact h1 w (List.mem_filter.mpr ⟨hw, by unfold vx_no; rw [decide_eq_true e1, decide_eq_true e2, decide_eq_true e3, decide_eq_true e4]; rfl⟩)
/-- where a static field lies, its class's statics cell in H -/
def vx_L (C n d : String) (A : Nat → Prop) (U : State) (H : Heap) : Prop := ∃ (c : ClassId) (k : Class) (i : Nat) (f : Field) (a : Nat) (cell : Cell), U.vm.findClass C = some c ∧ U.fieldFound? C n d = some (c, k, i, f) ∧ f.isStatic = true ∧ k.statics = some a ∧ H[a]? = some cell ∧ cell.vm.isStatics = true ∧ cell.cls = c ∧ f.slot < cell.slots.size ∧ k.staticTypes[f.slot]? = some f.type ∧ ¬ A a
theorem vx_L.moved {C n d : String} {A : Nat → Prop} {u U : State} {H : Heap} (hvm : u.vm.Alike U.vm) (h : vx_L C n d A u H) : vx_L C n d A U H := by
  obtain ⟨c, k, i, f, a, cell, h1, h2, h3, h4, h5, h6, h7, h8, h9, h10⟩ := h
  obtain ⟨k', hi', he⟩ := State.fieldFound?_setVm hvm h2
  exact ⟨c, k', i, f, a, cell, by rw [hvm.findClass]; exact h1, hi', h3, by rw [he]; exact h4, h5, h6, h7, h8, by rw [he]; exact h9, h10⟩
theorem vx_L.kept {C n d : String} {A : Nat → Prop} {U : State} {H H1 : Heap} (h : vx_L C n d A U H) (hq : ∀ a : Nat, a < H.size → ¬ A a → H1[a]? = H[a]?) : vx_L C n d A U H1 := by
  obtain ⟨c, k, i, f, a, cell, h1, h2, h3, h4, h5, h6, h7, h8, h9, h10⟩ := h
  exact ⟨c, k, i, f, a, cell, h1, h2, h3, h4, by rw [hq a (Array.getElem?_eq_some_iff.mp h5).1 h10]; exact h5, h6, h7, h8, h9, h10⟩
theorem vx_L.narrow {C n d : String} {A B : Nat → Prop} {U : State} {H : Heap} (h : vx_L C n d A U H) (hAB : ∀ q, B q → A q) : vx_L C n d B U H := by
  obtain ⟨c, k, i, f, a, cell, h1, h2, h3, h4, h5, h6, h7, h8, h9, h10⟩ := h
  exact ⟨c, k, i, f, a, cell, h1, h2, h3, h4, h5, h6, h7, h8, h9, fun z => h10 (hAB _ z)⟩
theorem vx_L.word {C n d : String} {A : Nat → Prop} {s : State} {args : Array Value} (h : vx_L C n d A s s.heap) : (Cond.laysStatic C n d).before args s = true := by
  obtain ⟨c, k, i, f, a, cell, h1, h2, h3, h4, h5, h6, h7, h8, h9, -⟩ := h
  show (Cond.laysStatic C n d).holds args s none s [] = true
  exact Cond.laysStatic_of h1 h2 h3 h4 h5 h6 h7 h8 h9
/-- .. and what it holds: null or some reference -/
def vx_Zq (C n d : String) (A : Nat → Prop) (U : State) (H : Heap) : Prop := va_Zq C n d A U H ∧ vx_L C n d A U H
theorem vx_Zq.moved {C n d : String} {A : Nat → Prop} {u U : State} {H : Heap} (hvm : u.vm.Alike U.vm) (h : vx_Zq C n d A u H) : vx_Zq C n d A U H := ⟨va_Zq.moved hvm h.1, vx_L.moved hvm h.2⟩
theorem vx_Zq.kept {C n d : String} {A : Nat → Prop} {U : State} {H H1 : Heap} (h : vx_Zq C n d A U H) (hq : ∀ a : Nat, a < H.size → ¬ A a → H1[a]? = H[a]?) : vx_Zq C n d A U H1 := ⟨va_Zq.kept h.1 hq, vx_L.kept h.2 hq⟩
theorem vx_Zq.narrow {C n d : String} {A B : Nat → Prop} {U : State} {H : Heap} (h : vx_Zq C n d A U H) (hAB : ∀ q, B q → A q) : vx_Zq C n d B U H := ⟨va_Zq.narrow h.1 hAB, vx_L.narrow h.2 hAB⟩
theorem vx_Zqof {args : Array Value} {s : State} {C n d : String} {A : Nat → Prop} (hl : (Cond.laysStatic C n d).before args s = true) (hini : (Cond.initialized C).before args s = true) (h : (Cond.isRef (.static C n d)).before args s = true) (hA : ∀ a : Nat, a < s.heap.size → ¬ A a) : vx_Zq C n d A s s.heap := by
  refine ⟨va_Zqof hl hini h hA, ?_⟩
  obtain ⟨c, k, i, f, a, cell, h1, h2, h3, h4, h5, h6, h7, h8, h9⟩ := Cond.laysStatic_spec hl
  exact ⟨c, k, i, f, a, cell, h1, h2, h3, h4, h5, h6, h7, h8, h9, hA a (Array.getElem?_eq_some_iff.mp h5).1⟩
theorem vx_isRef {C n d : String} {v : Value} {A : Nat → Prop} {s : State} {args : Array Value} (h : va_Z C n d v A s s.heap) (hv : v.isRef = true) : (Cond.isRef (.static C n d)).before args s = true := by
  obtain ⟨cf, kf, fi, f, a, cell, h1, h2, h3, h4, h5, h6, h7, -⟩ := h
  have he : (Term.static C n d).eval args s none [] s = some v := by
    simp [Term.eval, State.fieldNamed?, h1, h2, h4, h5, h6, h7]
  simp only [Cond.before, Cond.holds, Cond.value, he]
  cases v <;> simp_all [Value.isRef]
theorem vx_isRefq {C n d : String} {A : Nat → Prop} {s : State} {args : Array Value} (h : va_Zq C n d A s s.heap) : (Cond.isRef (.static C n d)).before args s = true := by
  rcases h with h | ⟨t, h⟩
  · exact vx_isRef h rfl
  · exact vx_isRef h rfl
/-- the same frame, seen from here: as if the method were called anew in this heap -/
theorem vx_rebase {T : State} (X : Stand p l e R s m args below meth c T locs cells slots) {R' : Room} (hf : R'.frames ≤ R.frames) (hl : R'.locals ≤ R.locals) (hc : cells + R'.cells ≤ R.cells) (hs : slots + R'.slots ≤ R.slots) :
    Stand p l e R' ((T.setVm s.vm).setFrames (.invoking m args :: below)) m args below meth c T [] 0 0 := by
  have htop : (T.setVm s.vm).topJava?.isSome := X.here.top
  have hF : ((T.setVm s.vm).setFrames (.invoking m args :: below)).frames = .invoking m args :: below := State.frames_setFrames _ (State.cur_lt_of_top htop)
  obtain ⟨g₀, hg0⟩ := Option.isSome_iff_exists.mp htop
  obtain ⟨r, hr⟩ := State.topJava?_eq_some.mp hg0
  have hl9 : e.platform.stackLimits (T.setVm s.vm).me = e.platform.stackLimits s.me := X.limits
  have hb9 : (T.setVm s.vm).me.stackBytes = s.me.stackBytes := X.bytes
  refine ⟨X.admits, X.cas, X.clock, hF, ?_, X.hears, X.method, X.code, X.here, X.tail, X.warmed, ?_, ?_, ?_⟩
  · have h := X.room
    have hU : ((T.setVm s.vm).setFrames (.invoking m args :: below)).localsInUse = s.localsInUse := by
      rw [State.localsInUse_invoking hF (meth := meth) (c := c) X.method X.code, State.localsInUse_invoking X.frames X.method X.code]
    simp only [State.hasRoom, Bool.and_eq_true, decide_eq_true_eq] at h ⊢
    obtain ⟨⟨⟨⟨h1, h2, h3, h4, h5, h6⟩, h7⟩, h8⟩, h9⟩ := h
    rw [X.frames, List.length_cons] at h2 h3
    have q1 := X.heapSize
    have q2 := X.used
    simp only [hF, hU, List.length_cons, State.stackLimits_setFrames, State.stackBytes_setFrames, hl9, hb9]
    refine ⟨⟨⟨⟨by omega, by omega, by omega, by omega, by omega, h6⟩, ?_⟩, ?_⟩, X.book⟩
    · show T.heap.size + R'.cells ≤ e.platform.maxCells
      omega
    · show T.slotsUsed + R'.slots ≤ e.platform.maxSlots
      omega
  · rw [State.stackLimits_setFrames]; rfl
  · rw [State.stackBytes_setFrames]; rfl
  · refine ⟨?_, Nat.le_refl _, Nat.le_refl _, ?_, ?_, fun a c9 h9 => ⟨c9, h9, rfl, rfl, fun _ _ => rfl⟩⟩
    · obtain ⟨t, ht, -⟩ := State.frames_cons hr
      show T.setVm s.vm = { ((T.setVm s.vm).setFrames (.invoking m args :: below)).setFrames (T.setVm s.vm).frames with heap := T.heap, slotsUsed := T.slotsUsed }
      rw [State.setFrames_setFrames, State.setFrames_self ht]
      rfl
    · show T.slotsUsed = T.slotsUsed + ((T.heap.toList.drop T.heap.size).map (·.slots.size)).sum
      rw [List.drop_eq_nil_of_le (Nat.le_of_eq Array.length_toList)]
      rfl
    · show ((T.heap.toList.drop T.heap.size).map (·.slots.size)).sum ≤ 0
      rw [List.drop_eq_nil_of_le (Nat.le_of_eq Array.length_toList)]
      exact Nat.le_refl _
/-- 'throw new E()': new; dup; invokespecial; athrow -/
theorem vx_throw0 {cc : ByteArray} {pc : Nat} (hexec : p.tables.exec = Jvm.exec) (hb : c.code = cc) (hl : l.stackTraces = false) {own cls : String} {names : List String} {ik ic mc ms : Nat} {A : Nat → Prop}
    (hown : s.vm.findClass own = some m.cls) (hcls : Bundle.fit cls = true) (hnames : ∀ n ∈ names, Bundle.fit n = true)
    (hk : (Cond.classLink own ik cls).before args s = true) (hini : (Cond.initialized cls).before args s = true) (hat : ∀ w ∈ vx_at0 own ic cls names, w.before args s = true)
    (hgood : ∀ w ∈ Cond.classLink own ik cls :: Cond.initialized cls :: vx_at0 own ic cls names, vx_ot w = true)
    (hU : vx_Zq Bundle.tN "UNASSIGNED_STACK" Bundle.steD A s s.heap) (hN : vx_Zq Bundle.tN "SUPPRESSED_SENTINEL" Bundle.listD A s s.heap) (hS : va_S A s.heap H locs) (hsize : ls.size = c.maxLocals)
    (d0 : decode cc pc = .ok (.new ik, 3)) (d3 : decode cc (pc + 3) = .ok (.dup, 1)) (d4 : decode cc (pc + 4) = .ok (.invokespecial ic, 3)) (d7 : decode cc (pc + 7) = .ok (.athrow, 1))
    (hout : ∀ x ∈ c.exceptionTable.toList, covers x (pc + 7) = false)
    (hRframes : names.length + 3 < R.frames) (hRlocals : (rest.map fun v => v.category).sum + (13 * (names.length + 1) + 42) ≤ R.locals) (hRcells : cells + 1 ≤ R.cells) (hRslots : slots + 6 ≤ R.slots) (hlocks : meth.locks = false)
    (hx : ∀ t : State, s.vm.Alike t.vm → H.size ≤ t.heap.size → (∀ q : Nat, q < H.size → t.heap[q]? = H[q]?) → XC cls s t)
    (hf : ∀ z ∈ locs, free z.base) (hc : cells + 1 ≤ mc) (hs : slots + 6 ≤ ms) :
    W p l e R s m args below meth c H locs cells slots (vx_MQ below Qc XC args s mc ms free) (F0 m pc ls rest) := by
  intro T hT X
  have htr : e.platform.stackTraces = false := (show e.platform.stackTraces = l.stackTraces by rw [X.admits.platform]).trans hl
  have Y := vx_rebase X (R' := { frames := R.frames, locals := R.locals, cells := 1, slots := 6 }) (Nat.le_refl _) (Nat.le_refl _) hRcells hRslots
  obtain ⟨s', hA⟩ : ∃ z, z = (T.setVm s.vm).setFrames (.invoking m args :: below) := ⟨_, rfl⟩
  rw [← hA] at Y
  have hvm : s'.vm = s.vm := by rw [hA]; rfl
  have hhp : s'.heap = H := by rw [hA]; exact hT
  have hW0 : s.WarmedH s'.vm := by rw [hvm]; exact State.WarmedH.refl s
  have hat' : ∀ w ∈ vx_at0 own ic cls names, w.before args s' = true := fun w hw => vx_ot_at hW0 hvm.symm (hgood w (List.mem_cons_of_mem _ (List.mem_cons_of_mem _ hw))) (hat w hw)
  have hk' : (Cond.classLink own ik cls).before args s' = true := vx_ot_at hW0 hvm.symm (hgood _ List.mem_cons_self) hk
  have hini' : (Cond.initialized cls).before args s' = true := vx_ot_at hW0 hvm.symm (hgood _ (List.mem_cons_of_mem _ List.mem_cons_self)) hini
  have hU' : vx_Zq Bundle.tN "UNASSIGNED_STACK" Bundle.steD A s' s'.heap := by rw [hhp]; exact vx_Zq.moved hW0.alike (hU.kept hS.2.1)
  have hN' : vx_Zq Bundle.tN "SUPPRESSED_SENTINEL" Bundle.listD A s' s'.heap := by rw [hhp]; exact vx_Zq.moved hW0.alike (hN.kept hS.2.1)
  have h : ∀ w ∈ Bundle.ownAtoms0 own ic cls names, w.before args s' = true := vx_own hat' (vx_isRefq hU'.1) (vx_isRefq hN'.1) hU'.2.word hN'.2.word
  have hown' : s'.vm.findClass own = some m.cls := by rw [hvm]; exact hown
  have hins : (Cond.instantiable cls 6).before args s' = true := h _ (by simp [Bundle.ownAtoms0])
  obtain ⟨vm₁, cX, kX, hfX, hkX, -, -, X₁, st1⟩ := Y.newCold hexec (own := own) (C := cls) (index := ik) (n := 6) hown' hk' hins hini'
    (g := F0 m pc ls rest) rfl (by rw [hb]; exact d0) (Nat.le_refl _) (Nat.le_refl _)
  generalize hT1 : (T.setVm vm₁).pushCell { cls := cX, slots := kX.instanceTypes.map defaultValue, vm := .none } = T1 at X₁ st1
  have hcat : (Value.ref T.heap.size).category = 1 := rfl
  have hcellA : T1.heap[T.heap.size]? = some (freshCell cX kX) := by rw [← hT1]; exact State.heap_pushCell_size _ _
  have d3' : decode c.code (pc + 3) = .ok (.dup, 1) := by rw [hb]; exact d3
  obtain ⟨U, hsteps, hrun, hend, hW, hsame, ce, hce, hO⟩ := X₁.ctorThrow0 hexec htr (own := own) (cls := cls) (names := names) (ic := ic) hown' hcls hnames h (fun x hx => nomatch hx) hfX hkX hcellA (by rw [hhp, hT]; exact Nat.le_refl _)
    (g := { method := m, pc := pc + 4, locals := ls, stack := .ref T.heap.size :: .ref T.heap.size :: rest, locked := none }) rfl hsize rfl rfl (rest := rest) rfl
    (by rw [hb]; exact d4) (by rw [hb]; exact d7) hout hRframes (by simp only [List.map_cons, List.sum_cons, hcat]; omega) hlocks
  obtain ⟨f1, f2⟩ := vx_frame hsame
  rw [hhp] at f1 f2
  have hWs : s.WarmedH U.vm := State.WarmedH.trans hW0 hW
  have hcl : s.vm.findClass cls = some ce.cls := by
    have h9 := hO.cls
    rw [hvm] at h9
    exact h9
  have hall : s.sameButNew ({ U with vm := s.vm } : State) locs mc ms := by
    subst hA
    obtain ⟨e1, e2⟩ := hsame
    rw [State.setFrames_setFrames] at e1
    have h2 : (T.setVm s.vm).sameButNew ({ U with vm := s.vm } : State) [] (0 + 1) (0 + 6) := ⟨e1, e2⟩
    have h3 := X.same.trans h2
    rw [List.append_nil] at h3
    exact h3.mono hc hs
  refine ⟨U, ?_, .threw T.heap.size, hrun, hend, Or.inr ⟨T.heap.size, rfl, cls, ce, locs, hx U hWs.alike f1 (fun q hq => f2 q hq (fun z hz => nomatch hz)), hce, hO.vm, hcl, hWs, hall, hf⟩⟩
  refine st1 _ ?_
  show Steps p.tables e below (T1.setTop { method := m, pc := pc + 3, locals := ls, stack := .ref T.heap.size :: rest, locked := none }) _
  jvm_step X₁.here [X₁.here.top, hexec, d3', Value.category]
  exact hsteps
/-- 'throw new E("text")': new; dup; ldc; invokespecial; athrow -/
theorem vx_throwS {cc : ByteArray} {pc : Nat} (hexec : p.tables.exec = Jvm.exec) (hb : c.code = cc) (hl : l.stackTraces = false) {own cls text : String} {names : List String} {ik is ic mc ms sa : Nat} {A : Nat → Prop}
    (hown : s.vm.findClass own = some m.cls) (hcls : Bundle.fit cls = true) (hnames : ∀ n ∈ names, Bundle.fit n = true)
    (hk : (Cond.classLink own ik cls).before args s = true) (hini : (Cond.initialized cls).before args s = true) (hstr : vk_R own is text sa s) (hat : ∀ w ∈ vx_atS own ic cls names, w.before args s = true)
    (hgood : ∀ w ∈ Cond.classLink own ik cls :: Cond.initialized cls :: vx_atS own ic cls names, vx_ot w = true)
    (hU : vx_Zq Bundle.tN "UNASSIGNED_STACK" Bundle.steD A s s.heap) (hN : vx_Zq Bundle.tN "SUPPRESSED_SENTINEL" Bundle.listD A s s.heap) (hS : va_S A s.heap H locs) (hsize : ls.size = c.maxLocals)
    (d0 : decode cc pc = .ok (.new ik, 3)) (d3 : decode cc (pc + 3) = .ok (.dup, 1)) (d4 : decode cc (pc + 4) = .ok (.ldc is, 2)) (d6 : decode cc (pc + 6) = .ok (.invokespecial ic, 3)) (d9 : decode cc (pc + 9) = .ok (.athrow, 1))
    (hout : ∀ x ∈ c.exceptionTable.toList, covers x (pc + 9) = false)
    (hRframes : names.length + 3 < R.frames) (hRlocals : (rest.map fun v => v.category).sum + (13 * (names.length + 1) + 43) ≤ R.locals) (hRcells : cells + 1 ≤ R.cells) (hRslots : slots + 6 ≤ R.slots) (hlocks : meth.locks = false)
    (hx : ∀ t : State, s.vm.Alike t.vm → H.size ≤ t.heap.size → (∀ q : Nat, q < H.size → t.heap[q]? = H[q]?) → XC cls s t)
    (hf : ∀ z ∈ locs, free z.base) (hc : cells + 1 ≤ mc) (hs : slots + 6 ≤ ms) :
    W p l e R s m args below meth c H locs cells slots (vx_MQ below Qc XC args s mc ms free) (F0 m pc ls rest) := by
  intro T hT X
  have htr : e.platform.stackTraces = false := (show e.platform.stackTraces = l.stackTraces by rw [X.admits.platform]).trans hl
  have Y := vx_rebase X (R' := { frames := R.frames, locals := R.locals, cells := 1, slots := 6 }) (Nat.le_refl _) (Nat.le_refl _) hRcells hRslots
  obtain ⟨s', hA⟩ : ∃ z, z = (T.setVm s.vm).setFrames (.invoking m args :: below) := ⟨_, rfl⟩
  rw [← hA] at Y
  have hvm : s'.vm = s.vm := by rw [hA]; rfl
  have hhp : s'.heap = H := by rw [hA]; exact hT
  have hW0 : s.WarmedH s'.vm := by rw [hvm]; exact State.WarmedH.refl s
  have hat' : ∀ w ∈ vx_atS own ic cls names, w.before args s' = true := fun w hw => vx_ot_at hW0 hvm.symm (hgood w (List.mem_cons_of_mem _ (List.mem_cons_of_mem _ hw))) (hat w hw)
  have hk' : (Cond.classLink own ik cls).before args s' = true := vx_ot_at hW0 hvm.symm (hgood _ List.mem_cons_self) hk
  have hini' : (Cond.initialized cls).before args s' = true := vx_ot_at hW0 hvm.symm (hgood _ (List.mem_cons_of_mem _ List.mem_cons_self)) hini
  have hU' : vx_Zq Bundle.tN "UNASSIGNED_STACK" Bundle.steD A s' s'.heap := by rw [hhp]; exact vx_Zq.moved hW0.alike (hU.kept hS.2.1)
  have hN' : vx_Zq Bundle.tN "SUPPRESSED_SENTINEL" Bundle.listD A s' s'.heap := by rw [hhp]; exact vx_Zq.moved hW0.alike (hN.kept hS.2.1)
  have h : ∀ w ∈ Bundle.ownAtoms own ic cls names, w.before args s' = true := vx_own hat' (vx_isRefq hU'.1) (vx_isRefq hN'.1) hU'.2.word hN'.2.word
  have hown' : s'.vm.findClass own = some m.cls := by rw [hvm]; exact hown
  have hins : (Cond.instantiable cls 6).before args s' = true := h _ (by simp [Bundle.ownAtoms])
  obtain ⟨vm₁, cX, kX, hfX, hkX, -, -, X₁, st1⟩ := Y.newCold hexec (own := own) (C := cls) (index := ik) (n := 6) hown' hk' hins hini'
    (g := F0 m pc ls rest) rfl (by rw [hb]; exact d0) (Nat.le_refl _) (Nat.le_refl _)
  generalize hT1 : (T.setVm vm₁).pushCell { cls := cX, slots := kX.instanceTypes.map defaultValue, vm := .none } = T1 at X₁ st1
  have hcat : (Value.ref T.heap.size).category = 1 := rfl
  have hcellA : T1.heap[T.heap.size]? = some (freshCell cX kX) := by rw [← hT1]; exact State.heap_pushCell_size _ _
  have d3' : decode c.code (pc + 3) = .ok (.dup, 1) := by rw [hb]; exact d3
  have d4' : decode c.code (pc + 4) = .ok (.ldc is, 2) := by rw [hb]; exact d4
  have hstr' : vk_R own is text sa s' := vk_R.warm hW0 hstr
  obtain ⟨U, hsteps, hrun, hend, hW, hsame, ce, hce, hO⟩ := X₁.ctorThrowS hexec htr (own := own) (cls := cls) (names := names) (ic := ic) hown' hcls hnames h (fun x hx => nomatch hx) hfX hkX hcellA (by rw [hhp, hT]; exact Nat.le_refl _) (msg := .ref sa) rfl
    (g := { method := m, pc := pc + 6, locals := ls, stack := .ref sa :: .ref T.heap.size :: .ref T.heap.size :: rest, locked := none }) rfl hsize rfl rfl (rest := rest) rfl
    (by rw [hb]; exact d6) (by rw [hb]; exact d9) hout hRframes (by simp only [List.map_cons, List.sum_cons, hcat]; omega) hlocks
  obtain ⟨f1, f2⟩ := vx_frame hsame
  rw [hhp] at f1 f2
  have hWs : s.WarmedH U.vm := State.WarmedH.trans hW0 hW
  have hcl : s.vm.findClass cls = some ce.cls := by
    have h9 := hO.cls
    rw [hvm] at h9
    exact h9
  have hall : s.sameButNew ({ U with vm := s.vm } : State) locs mc ms := by
    subst hA
    obtain ⟨e1, e2⟩ := hsame
    rw [State.setFrames_setFrames] at e1
    have h2 : (T.setVm s.vm).sameButNew ({ U with vm := s.vm } : State) [] (0 + 1) (0 + 6) := ⟨e1, e2⟩
    have h3 := X.same.trans h2
    rw [List.append_nil] at h3
    exact h3.mono hc hs
  refine ⟨U, ?_, .threw T.heap.size, hrun, hend, Or.inr ⟨T.heap.size, rfl, cls, ce, locs, hx U hWs.alike f1 (fun q hq => f2 q hq (fun z hz => nomatch hz)), hce, hO.vm, hcl, hWs, hall, hf⟩⟩
  refine st1 _ ?_
  show Steps p.tables e below (T1.setTop { method := m, pc := pc + 3, locals := ls, stack := .ref T.heap.size :: rest, locked := none }) _
  jvm_step X₁.here [X₁.here.top, hexec, d3', Value.category]
  exact X₁.ldcString hexec (own := own) (text := text) (index := is) (a := sa) hown' hstr'.1 hstr'.2
    (g := { method := m, pc := pc + 4, locals := ls, stack := .ref T.heap.size :: .ref T.heap.size :: rest, locked := none }) rfl d4' _ hsteps
/-- 'throw new E("text")', the text by a wide index -/
theorem vx_throwSW {cc : ByteArray} {pc : Nat} (hexec : p.tables.exec = Jvm.exec) (hb : c.code = cc) (hl : l.stackTraces = false) {own cls text : String} {names : List String} {ik is ic mc ms sa : Nat} {A : Nat → Prop}
    (hown : s.vm.findClass own = some m.cls) (hcls : Bundle.fit cls = true) (hnames : ∀ n ∈ names, Bundle.fit n = true)
    (hk : (Cond.classLink own ik cls).before args s = true) (hini : (Cond.initialized cls).before args s = true) (hstr : vk_R own is text sa s) (hat : ∀ w ∈ vx_atS own ic cls names, w.before args s = true)
    (hgood : ∀ w ∈ Cond.classLink own ik cls :: Cond.initialized cls :: vx_atS own ic cls names, vx_ot w = true)
    (hU : vx_Zq Bundle.tN "UNASSIGNED_STACK" Bundle.steD A s s.heap) (hN : vx_Zq Bundle.tN "SUPPRESSED_SENTINEL" Bundle.listD A s s.heap) (hS : va_S A s.heap H locs) (hsize : ls.size = c.maxLocals)
    (d0 : decode cc pc = .ok (.new ik, 3)) (d3 : decode cc (pc + 3) = .ok (.dup, 1)) (d4 : decode cc (pc + 4) = .ok (.ldc_w is, 3)) (d7 : decode cc (pc + 7) = .ok (.invokespecial ic, 3)) (d10 : decode cc (pc + 10) = .ok (.athrow, 1))
    (hout : ∀ x ∈ c.exceptionTable.toList, covers x (pc + 10) = false)
    (hRframes : names.length + 3 < R.frames) (hRlocals : (rest.map fun v => v.category).sum + (13 * (names.length + 1) + 43) ≤ R.locals) (hRcells : cells + 1 ≤ R.cells) (hRslots : slots + 6 ≤ R.slots) (hlocks : meth.locks = false)
    (hx : ∀ t : State, s.vm.Alike t.vm → H.size ≤ t.heap.size → (∀ q : Nat, q < H.size → t.heap[q]? = H[q]?) → XC cls s t)
    (hf : ∀ z ∈ locs, free z.base) (hc : cells + 1 ≤ mc) (hs : slots + 6 ≤ ms) :
    W p l e R s m args below meth c H locs cells slots (vx_MQ below Qc XC args s mc ms free) (F0 m pc ls rest) := by
  intro T hT X
  have htr : e.platform.stackTraces = false := (show e.platform.stackTraces = l.stackTraces by rw [X.admits.platform]).trans hl
  have Y := vx_rebase X (R' := { frames := R.frames, locals := R.locals, cells := 1, slots := 6 }) (Nat.le_refl _) (Nat.le_refl _) hRcells hRslots
  obtain ⟨s', hA⟩ : ∃ z, z = (T.setVm s.vm).setFrames (.invoking m args :: below) := ⟨_, rfl⟩
  rw [← hA] at Y
  have hvm : s'.vm = s.vm := by rw [hA]; rfl
  have hhp : s'.heap = H := by rw [hA]; exact hT
  have hW0 : s.WarmedH s'.vm := by rw [hvm]; exact State.WarmedH.refl s
  have hat' : ∀ w ∈ vx_atS own ic cls names, w.before args s' = true := fun w hw => vx_ot_at hW0 hvm.symm (hgood w (List.mem_cons_of_mem _ (List.mem_cons_of_mem _ hw))) (hat w hw)
  have hk' : (Cond.classLink own ik cls).before args s' = true := vx_ot_at hW0 hvm.symm (hgood _ List.mem_cons_self) hk
  have hini' : (Cond.initialized cls).before args s' = true := vx_ot_at hW0 hvm.symm (hgood _ (List.mem_cons_of_mem _ List.mem_cons_self)) hini
  have hU' : vx_Zq Bundle.tN "UNASSIGNED_STACK" Bundle.steD A s' s'.heap := by rw [hhp]; exact vx_Zq.moved hW0.alike (hU.kept hS.2.1)
  have hN' : vx_Zq Bundle.tN "SUPPRESSED_SENTINEL" Bundle.listD A s' s'.heap := by rw [hhp]; exact vx_Zq.moved hW0.alike (hN.kept hS.2.1)
  have h : ∀ w ∈ Bundle.ownAtoms own ic cls names, w.before args s' = true := vx_own hat' (vx_isRefq hU'.1) (vx_isRefq hN'.1) hU'.2.word hN'.2.word
  have hown' : s'.vm.findClass own = some m.cls := by rw [hvm]; exact hown
  have hins : (Cond.instantiable cls 6).before args s' = true := h _ (by simp [Bundle.ownAtoms])
  obtain ⟨vm₁, cX, kX, hfX, hkX, -, -, X₁, st1⟩ := Y.newCold hexec (own := own) (C := cls) (index := ik) (n := 6) hown' hk' hins hini'
    (g := F0 m pc ls rest) rfl (by rw [hb]; exact d0) (Nat.le_refl _) (Nat.le_refl _)
  generalize hT1 : (T.setVm vm₁).pushCell { cls := cX, slots := kX.instanceTypes.map defaultValue, vm := .none } = T1 at X₁ st1
  have hcat : (Value.ref T.heap.size).category = 1 := rfl
  have hcellA : T1.heap[T.heap.size]? = some (freshCell cX kX) := by rw [← hT1]; exact State.heap_pushCell_size _ _
  have d3' : decode c.code (pc + 3) = .ok (.dup, 1) := by rw [hb]; exact d3
  have d4' : decode c.code (pc + 4) = .ok (.ldc_w is, 3) := by rw [hb]; exact d4
  have hstr' : vk_R own is text sa s' := vk_R.warm hW0 hstr
  obtain ⟨U, hsteps, hrun, hend, hW, hsame, ce, hce, hO⟩ := X₁.ctorThrowS hexec htr (own := own) (cls := cls) (names := names) (ic := ic) hown' hcls hnames h (fun x hx => nomatch hx) hfX hkX hcellA (by rw [hhp, hT]; exact Nat.le_refl _) (msg := .ref sa) rfl
    (g := { method := m, pc := pc + 7, locals := ls, stack := .ref sa :: .ref T.heap.size :: .ref T.heap.size :: rest, locked := none }) rfl hsize rfl rfl (rest := rest) rfl
    (by rw [hb]; exact d7) (by rw [hb]; exact d10) hout hRframes (by simp only [List.map_cons, List.sum_cons, hcat]; omega) hlocks
  obtain ⟨f1, f2⟩ := vx_frame hsame
  rw [hhp] at f1 f2
  have hWs : s.WarmedH U.vm := State.WarmedH.trans hW0 hW
  have hcl : s.vm.findClass cls = some ce.cls := by
    have h9 := hO.cls
    rw [hvm] at h9
    exact h9
  have hall : s.sameButNew ({ U with vm := s.vm } : State) locs mc ms := by
    subst hA
    obtain ⟨e1, e2⟩ := hsame
    rw [State.setFrames_setFrames] at e1
    have h2 : (T.setVm s.vm).sameButNew ({ U with vm := s.vm } : State) [] (0 + 1) (0 + 6) := ⟨e1, e2⟩
    have h3 := X.same.trans h2
    rw [List.append_nil] at h3
    exact h3.mono hc hs
  refine ⟨U, ?_, .threw T.heap.size, hrun, hend, Or.inr ⟨T.heap.size, rfl, cls, ce, locs, hx U hWs.alike f1 (fun q hq => f2 q hq (fun z hz => nomatch hz)), hce, hO.vm, hcl, hWs, hall, hf⟩⟩
  refine st1 _ ?_
  show Steps p.tables e below (T1.setTop { method := m, pc := pc + 3, locals := ls, stack := .ref T.heap.size :: rest, locked := none }) _
  jvm_step X₁.here [X₁.here.top, hexec, d3', Value.category]
  exact X₁.ldcStringW hexec (own := own) (text := text) (index := is) (a := sa) hown' hstr'.1 hstr'.2
    (g := { method := m, pc := pc + 4, locals := ls, stack := .ref T.heap.size :: .ref T.heap.size :: rest, locked := none }) rfl d4' _ hsteps
end Ends
section Bodies
variable {l : Launch}
theorem vx_ofW {y : MethodName} {ws ws' : List Cond} {rm : Room} {Pc : Array Value → State → Prop} {Qc : Array Value → State → Outcome → State → Prop} {XC : String → State → State → Prop} {mc ms : Nat} {free : Addr → Prop} {cc : ByteArray} {maxL : Nat} {ret : Option FieldType}
    (hy : plainName y.cls = true) (hw : ws = Cond.code y cc maxL ret :: ws')
    (body : ∀ p e s m args below meth c s₁, BodyLoose p l y (headSpec ws rm) cc maxL ret e s m args below meth c s₁ → c.maxLocals = maxL → (∀ x ∈ c.exceptionTable.toList, False) → Pc args s →
      W p l e (headSpec ws rm).room s m args below meth c s.heap [] 0 0 (vx_MQ below Qc XC args s mc ms free) (entryFrame m args maxL)) : vx_Met l y ws rm Pc Qc XC mc ms free := by
  refine MetFree.of_bodyS (code := cc) (maxLocals := maxL) (ret := ret) hy ?_ ?_
  · intro args s m h hn
    obtain ⟨meth, c, h1, h2, h3, h4, h5, h6, -, -⟩ := Cond.code_spec hn (atoms_spec (ws := ws) h _ (by rw [hw]; exact List.mem_cons_self))
    exact ⟨meth, c, h1, h2, h3, h4, h5, h6⟩
  · intro p e s m args below meth c s₁ B hml hP _
    have hh0 : s₁.heap = s.heap := by rw [B.state]; rfl
    have ht : ∀ x ∈ c.exceptionTable.toList, False := by
      obtain ⟨meth9, c9, h1, h2, -, -, -, -, h7, -⟩ := Cond.code_spec B.named (atoms_spec (ws := ws) B.pre _ (by rw [hw]; exact List.mem_cons_self))
      cases Option.some.inj (h1.symm.trans B.method)
      cases Option.some.inj (h2.symm.trans (Stand.of_body B).code)
      intro x hx
      rw [Array.isEmpty_iff.mp h7] at hx
      cases hx
    obtain ⟨t, a1, o, b1, b2, b3⟩ := body p e s m args below meth c s₁ B hml ht hP s₁ hh0 (Stand.of_body B)
    exact ⟨t, o, a1, b1, b2, b3⟩
/-- the table of a body with handlers -/
theorem vx_table {p : Program} {x y : MethodName} {S : Spec} {cc bytes : ByteArray} {maxL maxL' : Nat} {ret ret' : Option FieldType} {e : Env} {s s₁ : State} {m : MethodId} {args : Array Value} {below : List Frame} {meth : Method} {c : Code} {hh : List (Nat × Nat × Nat × Nat)}
    (B : BodyLoose p l y S cc maxL ret e s m args below meth c s₁) (h : (Cond.codeWith y bytes maxL' ret' hh).before args s = true) : c.exceptionTable.toList = tableOf hh := by
  obtain ⟨m9, meth9, c9, hn9, h1, h2, -, -, h6, -⟩ := Cond.codeWith_spec h
  cases Option.some.inj (hn9.symm.trans B.named)
  cases Option.some.inj (h1.symm.trans B.method)
  cases Option.some.inj (h2.symm.trans (Stand.of_body B).code)
  rw [← h6, table_eq]
end Bodies
end VXA
/-! ===== END ===== -/
/-! ===== BEGIN a static call of a method with an exception table ===== -/
section VXS
variable {p : Program} {l : Launch} {e : Env} {R : Room} {s : State} {m : MethodId} {args : Array Value} {below : List Frame} {meth : Method} {c : Code} {T : State} {H : Heap} {locs : List Loc} {cells slots : Nat}
abbrev vx_CSW (R : Room) (s : State) (args : Array Value) (own : String) (index : Nat) (y : MethodName) (bytes : ByteArray) (maxL : Nat) (ret : Option FieldType) (hh : List (Nat × Nat × Nat × Nat)) (ws : List Cond) (rm : Room) (mc ms n : Nat) : Prop :=
  (rm.cells = mc ∧ rm.slots = ms ∧ rm.frames + 1 ≤ R.frames ∧ 8 + (maxL + 11) + rm.locals ≤ R.locals ∧ (∀ w ∈ ws, ∀ (a' : Array Value) (U : State), s.WarmedH U.vm → w.before a' U = true) ∧ Cond.codeWith y bytes maxL ret hh ∈ ws) ∧
  (Cond.codeWith y bytes maxL ret hh).before args s = true ∧ (Cond.initialized y.cls).before args s = true ∧ (y.cls ≠ "java/lang/invoke/MethodHandle" ∧ y.cls ≠ "java/lang/invoke/VarHandle") ∧
  (∀ sig, parseMethodDescriptor y.desc = some sig → n = sig.parameters.length) ∧ (Cond.methodLink own index y).before args s = true ∧ (Cond.static y).before args s = true
theorem vx_cwSW {own : String} {index maxL mc ms : Nat} {y : MethodName} {bytes : ByteArray} {ret : Option FieldType} {hh : List (Nat × Nat × Nat × Nat)} {Ts ws ws' : List Cond} {rm : Room} (n : Nat) (ht : ∀ w ∈ Ts, w.before args s = true) (hT : GoodIn Ts (va_wsS own index y ws)) (hw : ws = Cond.codeWith y bytes maxL ret hh :: ws') (hrc : rm.cells = mc) (hrs : rm.slots = ms)
    (hd : y.cls ≠ "java/lang/invoke/MethodHandle" ∧ y.cls ≠ "java/lang/invoke/VarHandle" ∧ (parseMethodDescriptor y.desc).map (fun d => d.parameters.length) = some n) (hR : rm.frames + 1 ≤ R.frames ∧ 8 + (maxL + 11) + rm.locals ≤ R.locals) :
    vx_CSW R s args own index y bytes maxL ret hh ws rm mc ms n := by
  have ok : ∀ w ∈ va_wsS own index y ws, w.before args s = true := fun w h => ht w (hT w h).1
  have hG : GoodIn Ts ws := fun w h => hT w (by unfold va_wsS; exact List.mem_append_right _ h)
  have hc : Cond.codeWith y bytes maxL ret hh ∈ ws := by rw [hw]; exact List.mem_cons_self
  refine ⟨⟨hrc, hrs, hR.1, hR.2, pay_in ht hG, hc⟩, ht _ (hG _ hc).1, ok _ (by simp [va_wsS]), ⟨hd.1, hd.2.1⟩, fun sig h => ?_, ok _ (by simp [va_wsS]), ok _ (by simp [va_wsS])⟩
  have h2 := hd.2.2
  rw [h] at h2
  exact (Option.some.inj h2).symm
theorem vx_callSW (X : Stand p l e R s m args below meth c T locs cells slots) (hexec : p.tables.exec = Jvm.exec) {own : String} {index : Nat} {y : MethodName} {bytes : ByteArray} {maxL : Nat} {ret : Option FieldType} {hh : List (Nat × Nat × Nat × Nat)}
    (hown : s.vm.findClass own = some m.cls) (hlink : (Cond.methodLink own index y).before args s = true) (hstat : (Cond.static y).before args s = true) (hinit : (Cond.initialized y.cls).before args s = true)
    (hcode : (Cond.codeWith y bytes maxL ret hh).before args s = true) (hy : y.cls ≠ "java/lang/invoke/MethodHandle" ∧ y.cls ≠ "java/lang/invoke/VarHandle")
    {W9 : Nat} {Pre : Pt → Array Value → Prop} {Post : Pt → Array Value → Option Value → Pt → Prop} (hK : Back l R p e below s args y 3 W9 Pre Post)
    {g : JFrame} (hg : g.method = m) (hsize : g.locals.size = c.maxLocals) {argsL rest : List Value} (hlen : ∀ sig, parseMethodDescriptor y.desc = some sig → argsL.length = sig.parameters.length)
    (hstack : g.stack = argsL.reverse ++ rest) (hW : 2 * g.monitorRoom + (rest.map fun v => v.category).sum ≤ W9) (hdg : decode c.code g.pc = .ok (.invokestatic index, 3))
    (hpre : ∀ vm₁, s.WarmedH vm₁ → Pre ⟨T.setVm vm₁, locs, cells, slots⟩ argsL.toArray) :
    ∃ (v : Option Value) (vm₁ : Vm) (B : Pt), s.WarmedH vm₁ ∧ Stand p l e R s m args below meth c B.U B.locs B.cells B.slots ∧ Post ⟨T.setVm vm₁, locs, cells, slots⟩ argsL.toArray v B ∧
      ∀ target, Steps p.tables e below (B.U.setTop { g with pc := g.pc + 3, stack := v.toList ++ rest }) target → Steps p.tables e below (T.setTop g) target := by
  obtain ⟨mk, methM, cM, hnamed, hmethM, -, -, -, -, -, -, hsigM⟩ := Cond.codeWith_spec hcode
  have hstatic : methM.isStatic = true := Cond.static_spec hnamed hmethM hstat
  obtain ⟨kP, hkP, -⟩ := className_of_methodNamed hnamed
  have hinitP : kP.init = .initialized := Cond.initialized_spec (findClass_of_methodNamed hnamed) hkP hinit
  obtain ⟨vm₁, X₁, hstep₁⟩ := X.invokestatic hexec hown hlink hnamed hmethM hstatic hkP hinitP hy (g := g) hg (argsL := argsL) (rest := rest) (hlen _ hsigM) hstack hdg
  obtain ⟨v, B, X', hpost, hsteps⟩ := hK m meth c ⟨T.setVm vm₁, locs, cells, slots⟩ { g with stack := rest } (.invokestatic index) mk argsL.toArray X₁ hg hsize hdg hW (X₁.named hnamed) (hpre vm₁ X₁.warmed)
  exact ⟨v, vm₁, B, X₁.warmed, X', hpost, fun target h => hstep₁ _ fun acts => by rw [doInvoke_state]; exact hsteps.trans h⟩
theorem vx_runSW {y : MethodName} {bytes cc : ByteArray} {maxL nL mc ms n index : Nat} {ret : Option FieldType} {hh : List (Nat × Nat × Nat × Nat)} {ws : List Cond} {rm : Room} {Pc : Array Value → State → Prop} {Qc : Array Value → State → Outcome → State → Prop} {free : Addr → Prop} {Ts : List Cond} {own : String} {As rest : List Value} {g : JFrame}
    (S : CallFix p m c cc nL s args Ts own) (hM : Met l y ws rm Pc Qc mc ms free) (cw : vx_CSW R s args own index y bytes maxL ret hh ws rm mc ms n) (hp : PreS s H Pc As)
    (hg : g.method = m) (hn : As.length = n) (hsize : g.locals.size = nL) (hstack : g.stack = As.reverse ++ rest) (hW : 2 * g.monitorRoom + (rest.map fun v => v.category).sum ≤ 8) (hdg : decode cc g.pc = .ok (.invokestatic index, 3)) (hf : cells + mc ≤ R.cells ∧ slots + ms ≤ R.slots) :
    va_Run p l e R s m args below meth c H locs cells slots mc ms g rest (Qc As.toArray) (free) := by
  obtain ⟨⟨hrc, hrs, hfr, hlo, hws, hcw⟩, hcode, hini, hy, hlen, hl, hstt⟩ := cw
  have hK : Back l R p e below s args y 3 8 (PreOf R mc ms Pc) (PostOf Qc mc ms free) := va_backW (hh := hh) (bytes := bytes) (maxL := maxL) (ret := ret) hM hp.1 hrc hrs hfr hlo hws hcw (fun a' U hW => word_at hW (Or.inl (by first | rfl | simp [Cond.onTables, Cond.keeps, Cond.steady])) hini)
  obtain ⟨hx, hb, hml, ho, -⟩ := S
  intro T hT X
  obtain ⟨v, vm₁, ⟨U', l2, c2, s2⟩, hW₁, X', ⟨g', mk, t, L, e1, e2, hq, h1, hL, h2, h3⟩, st⟩ := vx_callSW X hx (hh := hh) (bytes := bytes) (maxL := maxL) (ret := ret) ho hl hstt hini hcode hy hK hg (hsize.trans hml.symm) (argsL := As) (rest := rest) (fun sig h => hn.trans (hlen sig h)) hstack hW (by rw [hb]; exact hdg)
    (fun vm₁ hW₁ => ⟨hf.1, hf.2, hp.2 (T.setVm vm₁) hT hW₁⟩)
  dsimp only [Pt.U, Pt.locs, Pt.cells, Pt.slots] at X' e1 e2 h1 h2 h3 st
  subst h1; subst h2; subst h3
  exact ⟨v, (T.setVm vm₁).calling g' mk As.toArray, t, U', L, hT, X', hL, e1, e2, hq, st⟩
/-- not caught here, past rows that name other classes: it goes on to the caller -/
theorem vx_outP {p : Program} {l : Launch} {e : Env} {R : Room} {s : State} {m : MethodId} {args : Array Value} {below : List Frame} {meth : Method} {c : Code} {H : Heap} {locs : List Loc} {cells slots : Nat} {free : Addr → Prop} {ls : Array Slot} {rest : List Value} {Qc : Array Value → State → Outcome → State → Prop} {XC : String → State → State → Prop}
    {pc : Nat} {own E : String} {ce : Cell} {q : Addr} {mc ms : Nat} (hown : s.vm.findClass own = some m.cls) (hlocks : meth.locks = false)
    (hpass : ∀ z ∈ c.exceptionTable.toList, covers z pc = false ∨ (z.catchType ≠ 0 ∧ ∃ nm : String, (Cond.classLink own z.catchType nm).before args s = true ∧ va_Nc E nm s)) (hcell : H[q]? = some ce) (hv : ce.vm = .none) (hcl : s.vm.findClass E = some ce.cls)
    (hx : ∀ t : State, t.heap = H → s.vm.Alike t.vm → XC E s t) (hf : ∀ z ∈ locs, free z.base) (hc : cells ≤ mc) (hs : slots ≤ ms) :
    vx_W p l e R s m args below meth c H locs cells slots (vx_MQ below Qc XC args s mc ms free) (F0 m pc ls rest) q := by
  intro T hT X
  have hpl : e.platform.magicAccessors = ({} : Platform).magicAccessors := by rw [X.admits.platform]
  obtain ⟨vm', hW', X', st⟩ := X.outThrough hlocks q (g := F0 m pc ls rest) rfl rfl rfl (cell := ce) (by rw [hT]; exact hcell) (by rw [hv]; rfl)
    (by obtain ⟨k9, h9, -⟩ := Vm.findClass_spec hcl; exact ⟨k9, h9⟩) (fun z hz => by
      rcases hpass z hz with h | ⟨hz0, nm, hl1, hn1⟩
      · exact Or.inl h
      · obtain ⟨c6, hc6, hcl6⟩ := Cond.classLink_spec hown hl1 e.platform hpl
        obtain ⟨a8, b8, h1, h2, h3⟩ := hn1
        cases Option.some.inj (h1.symm.trans hcl)
        cases Option.some.inj (h2.symm.trans hc6)
        exact Or.inr ⟨hz0, _, hcl6, h3⟩)
  obtain ⟨g₀, hfr⟩ := X'.frames_eq
  have hcell9 : ((T.setVm vm').setFrames (.throwing q :: below)).heap[q]? = some ce := by
    show T.heap[q]? = some ce
    rw [hT]; exact hcell
  have hend : Ended ((T.setVm vm').setFrames (.throwing q :: below)) below (.threw q) := State.frames_setFrames _ (State.cur_lt_of_frames hfr)
  refine ⟨(T.setVm vm').setFrames (.throwing q :: below), ?_, .threw q, X'.here.running, hend, Or.inr ⟨q, rfl, E, ce, locs, hx _ hT (X'.ends _).1.alike, hcell9, hv, hcl, (X'.ends _).1, (X'.ends _).2.mono hc hs, hf⟩⟩
  rw [X.pushThrowing_eq]
  exact st
/-- a thing of a world lies in the heap -/
theorem vx_lt {D : va_G} {cl : List vw_C} {ws : va_W} {H1 : Heap} (h : va_P D cl ws H1) {k : Nat} {q : Nat × va_E} (hk : ws[k]? = some q) : q.1 < H1.size := (h k q hk).lt
end VXS
/-! ===== END ===== -/
/-! ===== BEGIN methods with a table of their own: called by a name, returning or throwing ===== -/
section VXH
/-! vx_backW, vx_callVX, vx_callSX, vx_callVW, vx_runVW, vx_runVX, vx_runSX, vx_ofWH follow the same proofs as their sisters above (Free/Laws.lean, Shelf42/LK1.lean); vx_outP calls Shelf42/NT130.lean (outThrough). -/
section
variable {l : Launch} {R : Room} {p : Program} {e : Env} {below : List Frame} {s : State} {sargs : Array Value} {y : MethodName} {len W9 : Nat}
theorem vx_backW {ws : List Cond} {rm : Room} {Pc : Array Value → State → Prop} {Qc : Array Value → State → Outcome → State → Prop} {XC : String → State → State → Prop} {mc ms : Nat} {free : Addr → Prop} {bytes : ByteArray} {maxL : Nat} {ret : Option FieldType} {hh : List (Nat × Nat × Nat × Nat)}
    (hM : vx_Met l y ws rm Pc Qc XC mc ms free) (hblind : FrameBlind Pc) (hrc : rm.cells = mc) (hrs : rm.slots = ms)
    (hframes : rm.frames + 1 ≤ R.frames) (hlocals : W9 + (maxL + 11) + rm.locals ≤ R.locals)
    (hws : ∀ w ∈ ws, ∀ a' U, s.WarmedH U.vm → w.before a' U = true) (hcode : Cond.codeWith y bytes maxL ret hh ∈ ws) (hinit : ∀ a' U, s.WarmedH U.vm → (Cond.initialized y.cls).before a' U = true) :
    vx_Back l R p e below s sargs y len W9 (PreOf R mc ms Pc) (PostOf Qc mc ms free) (vx_Post XC mc ms free) := by
  intro m meth c A g ig mk a X hg hsize hdg hW hn hp
  have h1 : (headSpec ws rm).pre.before a A.U = true := atoms_intro fun w hw => hws w hw _ _ X.warmed
  have h2 : (Cond.codeWith y bytes maxL ret hh).before a A.U = true := hws _ hcode _ _ X.warmed
  have h3 : (Cond.initialized y.cls).before a A.U = true := hinit _ _ X.warmed
  have h4 : A.cells + (headSpec ws rm).room.cells ≤ R.cells := by rw [show (headSpec ws rm).room.cells = mc from hrc]; exact hp.1
  have h5 : A.slots + (headSpec ws rm).room.slots ≤ R.slots := by rw [show (headSpec ws rm).room.slots = ms from hrs]; exact hp.2.1
  have hPc : Pc a (A.U.calling g mk a) := hblind _ _ _ _ hp.2.2
  obtain ⟨U, Ls, c0, s0⟩ := A
  dsimp only [Pt.U, Pt.locs, Pt.cells, Pt.slots] at h1 h2 h3 h4 h5 X hn hPc ⊢
  obtain ⟨m9, methY, cY, hn9, hmY, hcY, -, hlY, -⟩ := Cond.codeWith_spec h2
  cases Option.some.inj (hn9.symm.trans hn)
  obtain ⟨kY, hkY, -⟩ := className_of_methodNamed hn
  have hinitY : kY.init = .initialized := Cond.initialized_spec (findClass_of_methodNamed hn) hkY h3
  have h : At U g.method c below := by rw [hg]; exact X.here
  have hlocals9 : W9 + (maxL + 11) + (headSpec ws rm).room.locals ≤ R.locals := hlocals
  have happ : (headSpec ws rm).appliesLoose y e.platform (U.calling g mk a) = true :=
    Spec.appliesLoose_calling (g := g) h hdg hn hkY hinitY
      (X.room_calling (g := g) (R' := (headSpec ws rm).room) hsize hmY hcY hframes (by rw [hlY]; omega) h4 h5) h1
  obtain ⟨mid, hmid⟩ := h.above
  have hfr : (U.setTop g).frames = (.java g :: mid) ++ below := by rw [State.frames_setTop' g h.top, hmid]; rfl
  obtain ⟨o, s₂, hsteps, -, hend, hq⟩ := Steps.callFree hM p X.admits X.cas X.clock (acts := []) hfr happ hPc trivial
  have hq' : vx_Q Qc XC mc ms free a (U.calling g mk a) o s₂ := hq
  rw [State.frames_setTop' g h.top] at hend
  obtain ⟨g₀, hg0⟩ := Option.isSome_iff_exists.mp h.top
  obtain ⟨r, hr⟩ := State.topJava?_eq_some.mp hg0
  have hr' : (({ U with heap := s₂.heap, slotsUsed := s₂.slotsUsed } : State).setVm s₂.vm).frames = .java g₀ :: r := hr
  rcases hq' with ⟨hqc, L, hfe, hL⟩ | ⟨q, rfl, E, ce, L, hx, hce, hcv, hcl, hW₂, hsm, hL⟩
  · obtain ⟨⟨v, rfl⟩, hW₂, e2, q2, q3, q4, q5, q6⟩ := id hfe
    have e3 : s₂ = ({ (U.calling g mk a).setFrames s₂.frames with heap := s₂.heap, slotsUsed := s₂.slotsUsed } : State).setVm s₂.vm := by
      have : s₂ = ({ s₂ with vm := (U.calling g mk a).vm } : State).setVm s₂.vm := rfl
      rw [e2] at this
      exact this
    obtain ⟨c₂, i₂, len₂, hc₂, hd₂, hf₂⟩ := hend
    have hW' : U.WarmedH s₂.vm := hW₂
    have hcc : c₂ = c := by
      have h1 : s₂.code? g.method = U.code? g.method := by
        rw [State.code?_eq, State.code?_eq, hW'.alike.method?]
      exact Option.some.inj (hc₂.symm.trans (h1.trans h.code))
    subst hcc
    have hlen : len₂ = len := by rw [hdg] at hd₂; cases hd₂; rfl
    subst hlen
    have hs₂ : s₂ = (({ U with heap := s₂.heap, slotsUsed := s₂.slotsUsed } : State).setVm s₂.vm).setTop { g with pc := g.pc + len₂, stack := v.toList ++ g.stack } := by
      refine e3.trans ?_
      rw [hf₂, State.calling_eq h.top, State.setFrames_setFrames, State.setTop_of_frames _ hr', hr]
      rfl
    have hsame : U.sameButNew ({ U with heap := s₂.heap, slotsUsed := s₂.slotsUsed } : State) L mc ms := by
      refine ⟨?_, q2, q3, q4, q5, q6⟩
      obtain ⟨t, ht, -⟩ := State.frames_cons hr
      show ({ U with heap := s₂.heap, slotsUsed := s₂.slotsUsed } : State) = { U.setFrames U.frames with heap := s₂.heap, slotsUsed := s₂.slotsUsed }
      rw [State.setFrames_self ht]
    subst hg
    refine Or.inl ⟨v, ⟨(({ U with heap := s₂.heap, slotsUsed := s₂.slotsUsed } : State).setVm s₂.vm), Ls ++ L, c0 + mc, s0 + ms⟩,
      ⟨X.admits, X.cas, X.clock, X.frames, X.room, X.hears, X.method, X.code, (X.here.setHeapUsed s₂.heap s₂.slotsUsed).setVm hW'.alike, X.tail, State.WarmedH.trans X.warmed hW', X.limits, X.bytes, X.same.trans (hsame.setVm s.vm)⟩,
      ⟨g, mk, s₂, L, rfl, rfl, hqc, rfl, hL, rfl, rfl⟩, ?_⟩
    show Steps p.tables e below _ ((({ U with heap := s₂.heap, slotsUsed := s₂.slotsUsed } : State).setVm s₂.vm).setTop { g with pc := g.pc + len₂, stack := v.toList ++ g.stack })
    rw [← hs₂]
    exact hsteps
  · obtain ⟨e2, q2, q3, q4, q5, q6⟩ := id hsm
    have e3 : s₂ = ({ (U.calling g mk a).setFrames s₂.frames with heap := s₂.heap, slotsUsed := s₂.slotsUsed } : State).setVm s₂.vm := by
      have : s₂ = ({ s₂ with vm := (U.calling g mk a).vm } : State).setVm s₂.vm := rfl
      rw [e2] at this
      exact this
    have hf₂ : s₂.frames = .throwing q :: .java g :: U.frames.tail := hend
    have hW' : U.WarmedH s₂.vm := hW₂
    have hs₂ : s₂ = ((({ U with heap := s₂.heap, slotsUsed := s₂.slotsUsed } : State).setVm s₂.vm).setTop g).pushFrame (.throwing q) := by
      refine e3.trans ?_
      rw [hf₂, State.calling_eq h.top, State.setFrames_setFrames, State.pushFrame, State.frames_setTop _ hr', State.setTop_of_frames _ hr', State.setFrames_setFrames, hr]
      rfl
    have hsame : U.sameButNew ({ U with heap := s₂.heap, slotsUsed := s₂.slotsUsed } : State) L mc ms := by
      refine ⟨?_, q2, q3, q4, q5, q6⟩
      obtain ⟨t, ht, -⟩ := State.frames_cons hr
      show ({ U with heap := s₂.heap, slotsUsed := s₂.slotsUsed } : State) = { U.setFrames U.frames with heap := s₂.heap, slotsUsed := s₂.slotsUsed }
      rw [State.setFrames_self ht]
    subst hg
    refine Or.inr ⟨q, ⟨(({ U with heap := s₂.heap, slotsUsed := s₂.slotsUsed } : State).setVm s₂.vm), Ls ++ L, c0 + mc, s0 + ms⟩,
      ⟨X.admits, X.cas, X.clock, X.frames, X.room, X.hears, X.method, X.code, (X.here.setHeapUsed s₂.heap s₂.slotsUsed).setVm hW'.alike, X.tail, State.WarmedH.trans X.warmed hW', X.limits, X.bytes, X.same.trans (hsame.setVm s.vm)⟩,
      ⟨g, mk, s₂, L, E, ce, rfl, rfl, hx, hce, hcv, hcl, rfl, hL, rfl, rfl⟩, ?_⟩
    show Steps p.tables e below _ (((({ U with heap := s₂.heap, slotsUsed := s₂.slotsUsed } : State).setVm s₂.vm).setTop g).pushFrame (.throwing q))
    rw [← hs₂]
    exact hsteps
end
variable {p : Program} {l : Launch} {e : Env} {R : Room} {s : State} {m : MethodId} {args : Array Value} {below : List Frame} {meth : Method} {c : Code} {T : State} {H : Heap} {locs : List Loc} {cells slots : Nat}
theorem vx_callVX (X : Stand p l e R s m args below meth c T locs cells slots) (hexec : p.tables.exec = Jvm.exec) {own C : String} {index : Nat} {y : MethodName} {bytes : ByteArray} {maxL : Nat} {ret : Option FieldType} {hh : List (Nat × Nat × Nat × Nat)}
    (hown : s.vm.findClass own = some m.cls) (hlink : (Cond.methodLink own index y).before args s = true) (hinst : (Cond.instanceMethod y).before args s = true) (hsel : (Cond.selects C y y).before args s = true)
    (hcode : (Cond.codeWith y bytes maxL ret hh).before args s = true) (hy : y.cls ≠ "java/lang/invoke/MethodHandle" ∧ y.cls ≠ "java/lang/invoke/VarHandle")
    {W9 : Nat} {Pre : Pt → Array Value → Prop} {Post : Pt → Array Value → Option Value → Pt → Prop} {PostX : Pt → Array Value → Addr → Pt → Prop} (hK : vx_Back l R p e below s args y 3 W9 Pre Post PostX)
    {b : Addr} {cellB : Cell} (hcell : T.heap[b]? = some cellB) (hobj : cellB.vm.isStatics = false) (hcls : s.vm.findClass C = some cellB.cls)
    {g : JFrame} (hg : g.method = m) (hsize : g.locals.size = c.maxLocals) {argsL rest : List Value} (hlen : ∀ sig, parseMethodDescriptor y.desc = some sig → argsL.length = sig.parameters.length)
    (hstack : g.stack = argsL.reverse ++ .ref b :: rest) (hW : 2 * g.monitorRoom + (rest.map fun v => v.category).sum ≤ W9) (hdg : decode c.code g.pc = .ok (.invokevirtual index, 3))
    (hpre : ∀ vm₁, s.WarmedH vm₁ → Pre ⟨T.setVm vm₁, locs, cells, slots⟩ (Value.ref b :: argsL).toArray) :
    (∃ (v : Option Value) (vm₁ : Vm) (B : Pt), s.WarmedH vm₁ ∧ Stand p l e R s m args below meth c B.U B.locs B.cells B.slots ∧ Post ⟨T.setVm vm₁, locs, cells, slots⟩ (Value.ref b :: argsL).toArray v B ∧
      ∀ target, Steps p.tables e below (B.U.setTop { g with pc := g.pc + 3, stack := v.toList ++ rest }) target → Steps p.tables e below (T.setTop g) target) ∨
    (∃ (q : Addr) (vm₁ : Vm) (B : Pt), s.WarmedH vm₁ ∧ Stand p l e R s m args below meth c B.U B.locs B.cells B.slots ∧ PostX ⟨T.setVm vm₁, locs, cells, slots⟩ (Value.ref b :: argsL).toArray q B ∧
      Steps p.tables e below (T.setTop g) ((B.U.setTop { g with stack := rest }).pushFrame (.throwing q))) := by
  obtain ⟨mk, methM, hnamed, hmethM, hstM, habM⟩ := Cond.instanceMethod_spec hinst
  obtain ⟨m8, methM', cM, hn8, hmethM', -, -, -, -, -, -, hsigM⟩ := Cond.codeWith_spec hcode
  cases Option.some.inj (hn8.symm.trans hnamed)
  cases hmethM.symm.trans hmethM'
  obtain ⟨c2, r2, m2, q1, q2, q3, q4, kP, hkP, hkPi⟩ := Cond.selects_spec hsel
  cases hcls.symm.trans q1
  cases (State.methodFound?_of_named hnamed hy).symm.trans q2
  cases hnamed.symm.trans q3
  have hselP : selectMethod e.platform s.vm cellB.cls mk = .method mk := by rw [Launch.admits_selectMethod X.admits]; exact q4
  obtain ⟨vm₁, X₁, hstep₁⟩ := X.invokevirtual hexec hown hlink hnamed hmethM hstM hkP hkPi hy (a := b) (cell := cellB) hcell
    (fun z h => by rw [h] at hobj; cases hobj) hselP hmethM habM hkP hkPi (g := g) hg (argsL := argsL) (rest := rest) (hlen _ hsigM) hstack hdg
  rcases hK m meth c ⟨T.setVm vm₁, locs, cells, slots⟩ { g with stack := rest } (.invokevirtual index) mk (Value.ref b :: argsL).toArray X₁ hg hsize hdg hW (X₁.named hnamed) (hpre vm₁ X₁.warmed) with ⟨v, B, X', hpost, hsteps⟩ | ⟨q, B, X', hpost, hsteps⟩
  · exact Or.inl ⟨v, vm₁, B, X₁.warmed, X', hpost, fun target h => hstep₁ _ fun acts => by rw [doInvoke_state]; exact hsteps.trans h⟩
  · exact Or.inr ⟨q, vm₁, B, X₁.warmed, X', hpost, hstep₁ _ fun acts => by rw [doInvoke_state]; exact hsteps⟩
theorem vx_callSX (X : Stand p l e R s m args below meth c T locs cells slots) (hexec : p.tables.exec = Jvm.exec) {own : String} {index : Nat} {y : MethodName} {bytes : ByteArray} {maxL : Nat} {ret : Option FieldType} {hh : List (Nat × Nat × Nat × Nat)}
    (hown : s.vm.findClass own = some m.cls) (hlink : (Cond.methodLink own index y).before args s = true) (hstat : (Cond.static y).before args s = true) (hinit : (Cond.initialized y.cls).before args s = true)
    (hcode : (Cond.codeWith y bytes maxL ret hh).before args s = true) (hy : y.cls ≠ "java/lang/invoke/MethodHandle" ∧ y.cls ≠ "java/lang/invoke/VarHandle")
    {W9 : Nat} {Pre : Pt → Array Value → Prop} {Post : Pt → Array Value → Option Value → Pt → Prop} {PostX : Pt → Array Value → Addr → Pt → Prop} (hK : vx_Back l R p e below s args y 3 W9 Pre Post PostX)
    {g : JFrame} (hg : g.method = m) (hsize : g.locals.size = c.maxLocals) {argsL rest : List Value} (hlen : ∀ sig, parseMethodDescriptor y.desc = some sig → argsL.length = sig.parameters.length)
    (hstack : g.stack = argsL.reverse ++ rest) (hW : 2 * g.monitorRoom + (rest.map fun v => v.category).sum ≤ W9) (hdg : decode c.code g.pc = .ok (.invokestatic index, 3))
    (hpre : ∀ vm₁, s.WarmedH vm₁ → Pre ⟨T.setVm vm₁, locs, cells, slots⟩ argsL.toArray) :
    (∃ (v : Option Value) (vm₁ : Vm) (B : Pt), s.WarmedH vm₁ ∧ Stand p l e R s m args below meth c B.U B.locs B.cells B.slots ∧ Post ⟨T.setVm vm₁, locs, cells, slots⟩ argsL.toArray v B ∧
      ∀ target, Steps p.tables e below (B.U.setTop { g with pc := g.pc + 3, stack := v.toList ++ rest }) target → Steps p.tables e below (T.setTop g) target) ∨
    (∃ (q : Addr) (vm₁ : Vm) (B : Pt), s.WarmedH vm₁ ∧ Stand p l e R s m args below meth c B.U B.locs B.cells B.slots ∧ PostX ⟨T.setVm vm₁, locs, cells, slots⟩ argsL.toArray q B ∧
      Steps p.tables e below (T.setTop g) ((B.U.setTop { g with stack := rest }).pushFrame (.throwing q))) := by
  obtain ⟨mk, methM, cM, hnamed, hmethM, -, -, -, -, -, -, hsigM⟩ := Cond.codeWith_spec hcode
  have hstatic : methM.isStatic = true := Cond.static_spec hnamed hmethM hstat
  obtain ⟨kP, hkP, -⟩ := className_of_methodNamed hnamed
  have hinitP : kP.init = .initialized := Cond.initialized_spec (findClass_of_methodNamed hnamed) hkP hinit
  obtain ⟨vm₁, X₁, hstep₁⟩ := X.invokestatic hexec hown hlink hnamed hmethM hstatic hkP hinitP hy (g := g) hg (argsL := argsL) (rest := rest) (hlen _ hsigM) hstack hdg
  rcases hK m meth c ⟨T.setVm vm₁, locs, cells, slots⟩ { g with stack := rest } (.invokestatic index) mk argsL.toArray X₁ hg hsize hdg hW (X₁.named hnamed) (hpre vm₁ X₁.warmed) with ⟨v, B, X', hpost, hsteps⟩ | ⟨q, B, X', hpost, hsteps⟩
  · exact Or.inl ⟨v, vm₁, B, X₁.warmed, X', hpost, fun target h => hstep₁ _ fun acts => by rw [doInvoke_state]; exact hsteps.trans h⟩
  · exact Or.inr ⟨q, vm₁, B, X₁.warmed, X', hpost, hstep₁ _ fun acts => by rw [doInvoke_state]; exact hsteps⟩
theorem vx_callVW (X : Stand p l e R s m args below meth c T locs cells slots) (hexec : p.tables.exec = Jvm.exec) {own C : String} {index : Nat} {y : MethodName} {bytes : ByteArray} {maxL : Nat} {ret : Option FieldType} {hh : List (Nat × Nat × Nat × Nat)}
    (hown : s.vm.findClass own = some m.cls) (hlink : (Cond.methodLink own index y).before args s = true) (hinst : (Cond.instanceMethod y).before args s = true) (hsel : (Cond.selects C y y).before args s = true)
    (hcode : (Cond.codeWith y bytes maxL ret hh).before args s = true) (hy : y.cls ≠ "java/lang/invoke/MethodHandle" ∧ y.cls ≠ "java/lang/invoke/VarHandle")
    {W9 : Nat} {Pre : Pt → Array Value → Prop} {Post : Pt → Array Value → Option Value → Pt → Prop} (hK : Back l R p e below s args y 3 W9 Pre Post)
    {b : Addr} {cellB : Cell} (hcell : T.heap[b]? = some cellB) (hobj : cellB.vm.isStatics = false) (hcls : s.vm.findClass C = some cellB.cls)
    {g : JFrame} (hg : g.method = m) (hsize : g.locals.size = c.maxLocals) {argsL rest : List Value} (hlen : ∀ sig, parseMethodDescriptor y.desc = some sig → argsL.length = sig.parameters.length)
    (hstack : g.stack = argsL.reverse ++ .ref b :: rest) (hW : 2 * g.monitorRoom + (rest.map fun v => v.category).sum ≤ W9) (hdg : decode c.code g.pc = .ok (.invokevirtual index, 3))
    (hpre : ∀ vm₁, s.WarmedH vm₁ → Pre ⟨T.setVm vm₁, locs, cells, slots⟩ (Value.ref b :: argsL).toArray) :
    ∃ (v : Option Value) (vm₁ : Vm) (B : Pt), s.WarmedH vm₁ ∧ Stand p l e R s m args below meth c B.U B.locs B.cells B.slots ∧ Post ⟨T.setVm vm₁, locs, cells, slots⟩ (Value.ref b :: argsL).toArray v B ∧
      ∀ target, Steps p.tables e below (B.U.setTop { g with pc := g.pc + 3, stack := v.toList ++ rest }) target → Steps p.tables e below (T.setTop g) target := by
  obtain ⟨mk, methM, hnamed, hmethM, hstM, habM⟩ := Cond.instanceMethod_spec hinst
  obtain ⟨m8, methM', cM, hn8, hmethM', -, -, -, -, -, -, hsigM⟩ := Cond.codeWith_spec hcode
  cases Option.some.inj (hn8.symm.trans hnamed)
  cases hmethM.symm.trans hmethM'
  obtain ⟨c2, r2, m2, q1, q2, q3, q4, kP, hkP, hkPi⟩ := Cond.selects_spec hsel
  cases hcls.symm.trans q1
  cases (State.methodFound?_of_named hnamed hy).symm.trans q2
  cases hnamed.symm.trans q3
  have hselP : selectMethod e.platform s.vm cellB.cls mk = .method mk := by rw [Launch.admits_selectMethod X.admits]; exact q4
  obtain ⟨vm₁, X₁, hstep₁⟩ := X.invokevirtual hexec hown hlink hnamed hmethM hstM hkP hkPi hy (a := b) (cell := cellB) hcell
    (fun z h => by rw [h] at hobj; cases hobj) hselP hmethM habM hkP hkPi (g := g) hg (argsL := argsL) (rest := rest) (hlen _ hsigM) hstack hdg
  obtain ⟨v, B, X', hpost, hsteps⟩ := hK m meth c ⟨T.setVm vm₁, locs, cells, slots⟩ { g with stack := rest } (.invokevirtual index) mk (Value.ref b :: argsL).toArray X₁ hg hsize hdg hW (X₁.named hnamed) (hpre vm₁ X₁.warmed)
  exact ⟨v, vm₁, B, X₁.warmed, X', hpost, fun target h => hstep₁ _ fun acts => by rw [doInvoke_state]; exact hsteps.trans h⟩
abbrev vx_CVW (R : Room) (s : State) (args : Array Value) (own C : String) (index : Nat) (y : MethodName) (bytes : ByteArray) (maxL : Nat) (ret : Option FieldType) (hh : List (Nat × Nat × Nat × Nat)) (ws : List Cond) (rm : Room) (mc ms n : Nat) : Prop :=
  (rm.cells = mc ∧ rm.slots = ms ∧ rm.frames + 1 ≤ R.frames ∧ 8 + (maxL + 11) + rm.locals ≤ R.locals ∧ (∀ w ∈ ws, ∀ (a' : Array Value) (U : State), s.WarmedH U.vm → w.before a' U = true) ∧ Cond.codeWith y bytes maxL ret hh ∈ ws) ∧
  (Cond.codeWith y bytes maxL ret hh).before args s = true ∧ (Cond.initialized y.cls).before args s = true ∧ (y.cls ≠ "java/lang/invoke/MethodHandle" ∧ y.cls ≠ "java/lang/invoke/VarHandle") ∧
  (∀ sig, parseMethodDescriptor y.desc = some sig → n = sig.parameters.length) ∧ (Cond.methodLink own index y).before args s = true ∧ (Cond.instanceMethod y).before args s = true ∧ (Cond.selects C y y).before args s = true
theorem vx_cwVW {own C : String} {index maxL mc ms : Nat} {y : MethodName} {bytes : ByteArray} {ret : Option FieldType} {hh : List (Nat × Nat × Nat × Nat)} {Ts ws ws' : List Cond} {rm : Room} (n : Nat) (ht : ∀ w ∈ Ts, w.before args s = true) (hT : GoodIn Ts (wsV own index C y ws)) (hw : ws = Cond.codeWith y bytes maxL ret hh :: ws') (hrc : rm.cells = mc) (hrs : rm.slots = ms)
    (hd : y.cls = C ∧ y.cls ≠ "java/lang/invoke/MethodHandle" ∧ y.cls ≠ "java/lang/invoke/VarHandle" ∧ (parseMethodDescriptor y.desc).map (fun d => d.parameters.length) = some n) (hR : rm.frames + 1 ≤ R.frames ∧ 8 + (maxL + 11) + rm.locals ≤ R.locals) :
    vx_CVW R s args own C index y bytes maxL ret hh ws rm mc ms n := by
  obtain ⟨hC, hd⟩ := hd
  subst hC
  have ok : ∀ w ∈ wsV own index y.cls y ws, w.before args s = true := fun w h => ht w (hT w h).1
  have hG : GoodIn Ts ws := fun w h => hT w (by unfold wsV; exact List.mem_append_right _ h)
  have hc : Cond.codeWith y bytes maxL ret hh ∈ ws := by rw [hw]; exact List.mem_cons_self
  refine ⟨⟨hrc, hrs, hR.1, hR.2, pay_in ht hG, hc⟩, ht _ (hG _ hc).1, ok _ (by simp [wsV]), ⟨hd.1, hd.2.1⟩, fun sig h => ?_, ok _ (by simp [wsV]), ok _ (by simp [wsV]), ok _ (by simp [wsV])⟩
  have h2 := hd.2.2
  rw [h] at h2
  exact (Option.some.inj h2).symm
theorem vx_runVW {y : MethodName} {bytes cc : ByteArray} {maxL nL mc ms n index : Nat} {ret : Option FieldType} {hh : List (Nat × Nat × Nat × Nat)} {ws : List Cond} {rm : Room} {Pc : Array Value → State → Prop} {Qc : Array Value → State → Outcome → State → Prop} {free : Addr → Prop} {Ts : List Cond} {own C : String} {b : Addr} {As rest : List Value} {g : JFrame}
    (S : CallFix p m c cc nL s args Ts own) (hM : Met l y ws rm Pc Qc mc ms free) (cw : vx_CVW R s args own C index y bytes maxL ret hh ws rm mc ms n) (hp : PreV s H C b Pc As)
    (hg : g.method = m) (hn : As.length = n) (hsize : g.locals.size = nL) (hstack : g.stack = As.reverse ++ .ref b :: rest) (hW : 2 * g.monitorRoom + (rest.map fun v => v.category).sum ≤ 8) (hdg : decode cc g.pc = .ok (.invokevirtual index, 3)) (hf : cells + mc ≤ R.cells ∧ slots + ms ≤ R.slots) :
    va_Run p l e R s m args below meth c H locs cells slots mc ms g rest (Qc (Value.ref b :: As).toArray) free := by
  obtain ⟨⟨hrc, hrs, hfr, hlo, hws, hcw⟩, hcode, hini, hy, hlen, hl, hin, hse⟩ := cw
  have hK : Back l R p e below s args y 3 8 (PreOf R mc ms Pc) (PostOf Qc mc ms free) := va_backW (hh := hh) (bytes := bytes) (maxL := maxL) (ret := ret) hM hp.1 hrc hrs hfr hlo hws hcw (fun a' U hW => word_at hW (Or.inl (by first | rfl | simp [Cond.onTables, Cond.keeps, Cond.steady])) hini)
  obtain ⟨hx, hb, hml, ho, -⟩ := S
  obtain ⟨-, ⟨cellB, hcB, hoB, hclB⟩, hPc⟩ := hp
  intro T hT X
  obtain ⟨v, vm₁, ⟨U', l2, c2, s2⟩, hW₁, X', ⟨g', mk, t, L, e1, e2, hq, h1, hL, h2, h3⟩, st⟩ := vx_callVW X hx (C := C) (hh := hh) (bytes := bytes) (maxL := maxL) (ret := ret) ho hl hin hse hcode hy hK (by rw [hT]; exact hcB) hoB hclB hg (hsize.trans hml.symm) (argsL := As) (rest := rest) (fun sig h => hn.trans (hlen sig h)) hstack hW (by rw [hb]; exact hdg)
    (fun vm₁ hW₁ => ⟨hf.1, hf.2, hPc (T.setVm vm₁) hT hW₁⟩)
  dsimp only [Pt.U, Pt.locs, Pt.cells, Pt.slots] at X' e1 e2 h1 h2 h3 st
  subst h1; subst h2; subst h3
  exact ⟨v, (T.setVm vm₁).calling g' mk (Value.ref b :: As).toArray, t, U', L, hT, X', hL, e1, e2, hq, st⟩
section
variable {y : MethodName} {bytes cc : ByteArray} {maxL nL mc ms n index : Nat} {ret : Option FieldType} {ws : List Cond} {rm : Room} {Pc : Array Value → State → Prop} {Qc : Array Value → State → Outcome → State → Prop} {XC : String → State → State → Prop} {free : Addr → Prop} {Ts : List Cond} {own C : String} {b : Addr} {As rest : List Value} {g : JFrame}
theorem vx_runVX {hh : List (Nat × Nat × Nat × Nat)} (S : CallFix p m c cc nL s args Ts own) (hM : vx_Met l y ws rm Pc Qc XC mc ms free) (cw : vx_CVW R s args own C index y bytes maxL ret hh ws rm mc ms n) (hp : PreV s H C b Pc As)
    (hg : g.method = m) (hn : As.length = n) (hsize : g.locals.size = nL) (hstack : g.stack = As.reverse ++ .ref b :: rest) (hW : 2 * g.monitorRoom + (rest.map fun v => v.category).sum ≤ 8) (hdg : decode cc g.pc = .ok (.invokevirtual index, 3)) (hf : cells + mc ≤ R.cells ∧ slots + ms ≤ R.slots) :
    vx_Run p l e R s m args below meth c H locs cells slots mc ms g rest (Qc (Value.ref b :: As).toArray) XC free := by
  obtain ⟨⟨hrc, hrs, hfr, hlo, hws, hcw⟩, hcode, hini, hy, hlen, hl, hin, hse⟩ := cw
  have hK : vx_Back l R p e below s args y 3 8 (PreOf R mc ms Pc) (PostOf Qc mc ms free) (vx_Post XC mc ms free) := vx_backW (hh := hh) (bytes := bytes) (maxL := maxL) (ret := ret) hM hp.1 hrc hrs hfr hlo hws hcw (fun a' U hW => word_at hW (Or.inl (by first | rfl | simp [Cond.onTables, Cond.keeps, Cond.steady])) hini)
  obtain ⟨hx, hb, hml, ho, -⟩ := S
  obtain ⟨-, ⟨cellB, hcB, hoB, hclB⟩, hPc⟩ := hp
  intro T hT X
  rcases vx_callVX X hx (C := C) (hh := hh) (bytes := bytes) (maxL := maxL) (ret := ret) ho hl hin hse hcode hy hK (by rw [hT]; exact hcB) hoB hclB hg (hsize.trans hml.symm) (argsL := As) (rest := rest) (fun sig h => hn.trans (hlen sig h)) hstack hW (by rw [hb]; exact hdg)
    (fun vm₁ hW₁ => ⟨hf.1, hf.2, hPc (T.setVm vm₁) hT hW₁⟩) with ⟨v, vm₁, ⟨U', l2, c2, s2⟩, hW₁, X', ⟨g', mk, t, L, e1, e2, hq, h1, hL, h2, h3⟩, st⟩ | ⟨q, vm₁, ⟨U', l2, c2, s2⟩, hW₁, X', ⟨g', mk, t, L, E, ce, e1, e2, hq, hce, hcv, hcl, h1, hL, h2, h3⟩, st⟩
  · dsimp only [Pt.U, Pt.locs, Pt.cells, Pt.slots] at X' e1 e2 h1 h2 h3 st
    subst h1; subst h2; subst h3
    exact Or.inl ⟨v, (T.setVm vm₁).calling g' mk (Value.ref b :: As).toArray, t, U', L, hT, X', hL, e1, e2, hq, st⟩
  · dsimp only [Pt.U, Pt.locs, Pt.cells, Pt.slots] at X' e1 e2 h1 h2 h3 st hcl
    subst h1; subst h2; subst h3
    exact Or.inr ⟨q, (T.setVm vm₁).calling g' mk (Value.ref b :: As).toArray, t, U', L, E, ce, hT, X', hL, e1, e2, hq, hce, hcv, vx_cls hW₁ hcl, st⟩
theorem vx_runSX {hh : List (Nat × Nat × Nat × Nat)} (S : CallFix p m c cc nL s args Ts own) (hM : vx_Met l y ws rm Pc Qc XC mc ms free) (cw : vx_CSW R s args own index y bytes maxL ret hh ws rm mc ms n) (hp : PreS s H Pc As)
    (hg : g.method = m) (hn : As.length = n) (hsize : g.locals.size = nL) (hstack : g.stack = As.reverse ++ rest) (hW : 2 * g.monitorRoom + (rest.map fun v => v.category).sum ≤ 8) (hdg : decode cc g.pc = .ok (.invokestatic index, 3)) (hf : cells + mc ≤ R.cells ∧ slots + ms ≤ R.slots) :
    vx_Run p l e R s m args below meth c H locs cells slots mc ms g rest (Qc As.toArray) XC free := by
  obtain ⟨⟨hrc, hrs, hfr, hlo, hws, hcw⟩, hcode, hini, hy, hlen, hl, hstt⟩ := cw
  have hK : vx_Back l R p e below s args y 3 8 (PreOf R mc ms Pc) (PostOf Qc mc ms free) (vx_Post XC mc ms free) := vx_backW (hh := hh) (bytes := bytes) (maxL := maxL) (ret := ret) hM hp.1 hrc hrs hfr hlo hws hcw (fun a' U hW => word_at hW (Or.inl (by first | rfl | simp [Cond.onTables, Cond.keeps, Cond.steady])) hini)
  obtain ⟨hx, hb, hml, ho, -⟩ := S
  intro T hT X
  rcases vx_callSX X hx (hh := hh) (bytes := bytes) (maxL := maxL) (ret := ret) ho hl hstt hini hcode hy hK hg (hsize.trans hml.symm) (argsL := As) (rest := rest) (fun sig h => hn.trans (hlen sig h)) hstack hW (by rw [hb]; exact hdg)
    (fun vm₁ hW₁ => ⟨hf.1, hf.2, hp.2 (T.setVm vm₁) hT hW₁⟩) with ⟨v, vm₁, ⟨U', l2, c2, s2⟩, hW₁, X', ⟨g', mk, t, L, e1, e2, hq, h1, hL, h2, h3⟩, st⟩ | ⟨q, vm₁, ⟨U', l2, c2, s2⟩, hW₁, X', ⟨g', mk, t, L, E, ce, e1, e2, hq, hce, hcv, hcl, h1, hL, h2, h3⟩, st⟩
  · dsimp only [Pt.U, Pt.locs, Pt.cells, Pt.slots] at X' e1 e2 h1 h2 h3 st
    subst h1; subst h2; subst h3
    exact Or.inl ⟨v, (T.setVm vm₁).calling g' mk As.toArray, t, U', L, hT, X', hL, e1, e2, hq, st⟩
  · dsimp only [Pt.U, Pt.locs, Pt.cells, Pt.slots] at X' e1 e2 h1 h2 h3 st hcl
    subst h1; subst h2; subst h3
    exact Or.inr ⟨q, (T.setVm vm₁).calling g' mk As.toArray, t, U', L, E, ce, hT, X', hL, e1, e2, hq, hce, hcv, vx_cls hW₁ hcl, st⟩
end
end VXH
theorem vx_ofWH {l : Launch} {y : MethodName} {ws ws' : List Cond} {rm : Room} {Pc : Array Value → State → Prop} {Qc : Array Value → State → Outcome → State → Prop} {XC : String → State → State → Prop} {mc ms : Nat} {free : Addr → Prop} {cc : ByteArray} {maxL : Nat} {ret : Option FieldType} {hh : List (Nat × Nat × Nat × Nat)}
    (hy : plainName y.cls = true) (hw : ws = Cond.codeWith y cc maxL ret hh :: ws')
    (body : ∀ p e s m args below meth c s₁, BodyLoose p l y (headSpec ws rm) cc maxL ret e s m args below meth c s₁ → c.maxLocals = maxL → Pc args s →
      W p l e (headSpec ws rm).room s m args below meth c s.heap [] 0 0 (vx_MQ below Qc XC args s mc ms free) (entryFrame m args maxL)) : vx_Met l y ws rm Pc Qc XC mc ms free := by
  refine MetFree.of_bodyS (code := cc) (maxLocals := maxL) (ret := ret) hy ?_ ?_
  · intro args s m h hn
    obtain ⟨m9, meth, c, hn9, h1, h2, h3, h4, -, h5, h6, -⟩ := Cond.codeWith_spec (atoms_spec (ws := ws) h _ (by rw [hw]; exact List.mem_cons_self))
    cases hn.symm.trans hn9
    exact ⟨meth, c, h1, h2, h3, h4, h5, h6⟩
  · intro p e s m args below meth c s₁ B hml hP _
    have hh0 : s₁.heap = s.heap := by rw [B.state]; rfl
    obtain ⟨t, a1, o, b1, b2, b3⟩ := body p e s m args below meth c s₁ B hml hP s₁ hh0 (Stand.of_body B)
    exact ⟨t, o, a1, b1, b2, b3⟩
/-! ===== END ===== -/
end
section
def RX0 : String := "Shellhouse$History"
def TX0 : u_T := fun k => match k with
  | 0 => ("Shellhouse$History", "commands", "[I", true)
  | _ => ("Shellhouse$History", "size", "I", false)
def tyX0 : Nat → FieldType := fun k => match k with
  | 0 => .array .int
  | _ => .int
abbrev wsX00 : List Cond := u_ws RX0 TX0 2
theorem nmX0 : ∀ a, a < 2 → ∀ b, b < 2 → a ≠ b → (TX0 a).2.1 ≠ (TX0 b).2.1 := by decide +kernel
theorem tyX0_ok : ∀ k, k < 2 → parseFieldDescriptor (TX0 k).2.2.1 = some (tyX0 k) := by decide +kernel
abbrev cX0_init : ByteArray := prog_2_method_1_code
def yX0_init : MethodName := ⟨RX0, "<init>", "(I)V"⟩
abbrev cX0_append : ByteArray := prog_2_method_2_code
def yX0_append : MethodName := ⟨RX0, "append", "(I)V"⟩
abbrev cX0_forget : ByteArray := prog_2_method_3_code
def yX0_forget : MethodName := ⟨RX0, "forget", "(I)V"⟩
abbrev cX0_takeOut : ByteArray := prog_2_method_4_code
def yX0_takeOut : MethodName := ⟨RX0, "takeOut", "(I)V"⟩
abbrev cX0_lastBetween : ByteArray := prog_2_method_5_code
def yX0_lastBetween : MethodName := ⟨RX0, "lastBetween", "(II)I"⟩
def RX1 : String := "Shellhouse$Job"
def TX1 : u_T := fun k => match k with
  | 0 => ("Shellhouse$Job", "number", "I", true)
  | 1 => ("Shellhouse$Job", "home", "LShellhouse$Session;", true)
  | 2 => ("Shellhouse$Job", "needed", "I", true)
  | 3 => ("Shellhouse$Job", "ticksLeft", "I", false)
  | 4 => ("Shellhouse$Job", "condition", "C", false)
  | 5 => ("Shellhouse$Job", "holding", "Z", false)
  | _ => ("Shellhouse$Job", "works", "Z", false)
def tyX1 : Nat → FieldType := fun k => match k with
  | 0 => .int
  | 1 => .object "Shellhouse$Session"
  | 2 => .int
  | 3 => .int
  | 4 => .char
  | 5 => .boolean
  | _ => .boolean
abbrev wsX10 : List Cond := u_ws RX1 TX1 7
theorem nmX1 : ∀ a, a < 7 → ∀ b, b < 7 → a ≠ b → (TX1 a).2.1 ≠ (TX1 b).2.1 := by decide +kernel
theorem tyX1_ok : ∀ k, k < 7 → parseFieldDescriptor (TX1 k).2.2.1 = some (tyX1 k) := by decide +kernel
abbrev cX1_init : ByteArray := prog_3_method_1_code
def yX1_init : MethodName := ⟨RX1, "<init>", "(ILShellhouse$Session;II)V"⟩
abbrev cX1_needs : ByteArray := prog_3_method_2_code
def yX1_needs : MethodName := ⟨RX1, "needs", "(I)Z"⟩
def RX2 : String := "Shellhouse$Journal"
def TX2 : u_T := fun k => match k with
  | 0 => ("Shellhouse$Journal", "jobNumbers", "[I", false)
  | 1 => ("Shellhouse$Journal", "conditions", "[I", false)
  | _ => ("Shellhouse$Journal", "size", "I", false)
def tyX2 : Nat → FieldType := fun k => match k with
  | 0 => .array .int
  | 1 => .array .int
  | _ => .int
abbrev wsX20 : List Cond := u_ws RX2 TX2 3
theorem nmX2 : ∀ a, a < 3 → ∀ b, b < 3 → a ≠ b → (TX2 a).2.1 ≠ (TX2 b).2.1 := by decide +kernel
theorem tyX2_ok : ∀ k, k < 3 → parseFieldDescriptor (TX2 k).2.2.1 = some (tyX2 k) := by decide +kernel
abbrev cX2_init : ByteArray := prog_4_method_1_code
def yX2_init : MethodName := ⟨RX2, "<init>", "()V"⟩
abbrev cX2_write : ByteArray := prog_4_method_2_code
def yX2_write : MethodName := ⟨RX2, "write", "(IC)V"⟩
abbrev cX2_conditionAt : ByteArray := prog_4_method_3_code
def yX2_conditionAt : MethodName := ⟨RX2, "conditionAt", "(I)C"⟩
abbrev cX2_lastStateOf : ByteArray := prog_4_method_4_code
def yX2_lastStateOf : MethodName := ⟨RX2, "lastStateOf", "(I)C"⟩
def RX3 : String := "Shellhouse$Session"
def TX3 : u_T := fun k => match k with
  | 0 => ("Shellhouse$Session", "number", "I", true)
  | 1 => ("Shellhouse$Session", "history", "LShellhouse$History;", true)
  | 2 => ("Shellhouse$Session", "hidden", "Z", false)
  | 3 => ("Shellhouse$Session", "attached", "Z", false)
  | 4 => ("Shellhouse$Session", "inFront", "LShellhouse$Job;", false)
  | _ => ("Shellhouse$Session", "pausedByDrop", "LShellhouse$Job;", false)
def tyX3 : Nat → FieldType := fun k => match k with
  | 0 => .int
  | 1 => .object "Shellhouse$History"
  | 2 => .boolean
  | 3 => .boolean
  | 4 => .object "Shellhouse$Job"
  | _ => .object "Shellhouse$Job"
abbrev wsX30 : List Cond := u_ws RX3 TX3 6
theorem nmX3 : ∀ a, a < 6 → ∀ b, b < 6 → a ≠ b → (TX3 a).2.1 ≠ (TX3 b).2.1 := by decide +kernel
theorem tyX3_ok : ∀ k, k < 6 → parseFieldDescriptor (TX3 k).2.2.1 = some (tyX3 k) := by decide +kernel
abbrev cX3_init : ByteArray := prog_5_method_1_code
def yX3_init : MethodName := ⟨RX3, "<init>", "(ZI)V"⟩
def RX4 : String := "Shellhouse"
def TX4 : u_T := fun k => match k with
  | 0 => ("Shellhouse", "sessions", "Ljava/util/ArrayList;", true)
  | 1 => ("Shellhouse", "jobs", "Ljava/util/ArrayList;", true)
  | 2 => ("Shellhouse", "order", "Ljava/util/ArrayList;", true)
  | 3 => ("Shellhouse", "holders", "[I", true)
  | 4 => ("Shellhouse", "commonHistory", "LShellhouse$History;", true)
  | 5 => ("Shellhouse", "journal", "LShellhouse$Journal;", true)
  | _ => ("Shellhouse", "ticksWorked", "J", false)
def tyX4 : Nat → FieldType := fun k => match k with
  | 0 => .object "java/util/ArrayList"
  | 1 => .object "java/util/ArrayList"
  | 2 => .object "java/util/ArrayList"
  | 3 => .array .int
  | 4 => .object "Shellhouse$History"
  | 5 => .object "Shellhouse$Journal"
  | _ => .long
abbrev wsX40 : List Cond := u_ws RX4 TX4 7
theorem nmX4 : ∀ a, a < 7 → ∀ b, b < 7 → a ≠ b → (TX4 a).2.1 ≠ (TX4 b).2.1 := by decide +kernel
theorem tyX4_ok : ∀ k, k < 7 → parseFieldDescriptor (TX4 k).2.2.1 = some (tyX4 k) := by decide +kernel
abbrev cX4_init : ByteArray := prog_1_method_1_code
def yX4_init : MethodName := ⟨RX4, "<init>", "()V"⟩
abbrev cX4_open : ByteArray := prog_1_method_2_code
def yX4_open : MethodName := ⟨RX4, "open", "(Z)I"⟩
abbrev cX4_drop : ByteArray := prog_1_method_4_code
def yX4_drop : MethodName := ⟨RX4, "drop", "(I)I"⟩
abbrev cX4_takeUp : ByteArray := prog_1_method_5_code
def yX4_takeUp : MethodName := ⟨RX4, "takeUp", "(I)I"⟩
abbrev cX4_isAttached : ByteArray := prog_1_method_6_code
def yX4_isAttached : MethodName := ⟨RX4, "isAttached", "(I)Z"⟩
abbrev cX4_kept : ByteArray := prog_1_method_7_code
def yX4_kept : MethodName := ⟨RX4, "kept", "(I)I"⟩
abbrev cX4_commandAt : ByteArray := prog_1_method_8_code
def yX4_commandAt : MethodName := ⟨RX4, "commandAt", "(II)I"⟩
abbrev cX4_common : ByteArray := prog_1_method_9_code
def yX4_common : MethodName := ⟨RX4, "common", "()I"⟩
abbrev cX4_commonAt : ByteArray := prog_1_method_10_code
def yX4_commonAt : MethodName := ⟨RX4, "commonAt", "(I)I"⟩
abbrev cX4_search : ByteArray := prog_1_method_11_code
def yX4_search : MethodName := ⟨RX4, "search", "(III)I"⟩
abbrev cX4_start : ByteArray := prog_1_method_12_code
def yX4_start : MethodName := ⟨RX4, "start", "(IIIIZ)I"⟩
abbrev cX4_state : ByteArray := prog_1_method_13_code
def yX4_state : MethodName := ⟨RX4, "state", "(I)C"⟩
abbrev cX4_stateByJournal : ByteArray := prog_1_method_14_code
def yX4_stateByJournal : MethodName := ⟨RX4, "stateByJournal", "(I)C"⟩
abbrev cX4_toDo : ByteArray := prog_1_method_15_code
def yX4_toDo : MethodName := ⟨RX4, "toDo", "(I)I"⟩
abbrev cX4_sessionOf : ByteArray := prog_1_method_16_code
def yX4_sessionOf : MethodName := ⟨RX4, "sessionOf", "(I)I"⟩
abbrev cX4_front : ByteArray := prog_1_method_17_code
def yX4_front : MethodName := ⟨RX4, "front", "(I)I"⟩
abbrev cX4_toFront : ByteArray := prog_1_method_18_code
def yX4_toFront : MethodName := ⟨RX4, "toFront", "(I)Z"⟩
abbrev cX4_toBack : ByteArray := prog_1_method_19_code
def yX4_toBack : MethodName := ⟨RX4, "toBack", "(I)I"⟩
abbrev cX4_count : ByteArray := prog_1_method_20_code
def yX4_count : MethodName := ⟨RX4, "count", "(IC)I"⟩
abbrev cX4_holder : ByteArray := prog_1_method_21_code
def yX4_holder : MethodName := ⟨RX4, "holder", "(I)I"⟩
abbrev cX4_holderByJobs : ByteArray := prog_1_method_22_code
def yX4_holderByJobs : MethodName := ⟨RX4, "holderByJobs", "(I)I"⟩
abbrev cX4_holds : ByteArray := prog_1_method_23_code
def yX4_holds : MethodName := ⟨RX4, "holds", "(I)Z"⟩
abbrev cX4_waiting : ByteArray := prog_1_method_24_code
def yX4_waiting : MethodName := ⟨RX4, "waiting", "()I"⟩
abbrev cX4_waitingAt : ByteArray := prog_1_method_25_code
def yX4_waitingAt : MethodName := ⟨RX4, "waitingAt", "(I)I"⟩
abbrev cX4_blockers : ByteArray := prog_1_method_26_code
def yX4_blockers : MethodName := ⟨RX4, "blockers", "(I)I"⟩
abbrev cX4_stop : ByteArray := prog_1_method_27_code
def yX4_stop : MethodName := ⟨RX4, "stop", "(I)I"⟩
abbrev cX4_goOn : ByteArray := prog_1_method_28_code
def yX4_goOn : MethodName := ⟨RX4, "goOn", "(I)I"⟩
abbrev cX4_end : ByteArray := prog_1_method_29_code
def yX4_end : MethodName := ⟨RX4, "end", "(I)I"⟩
abbrev cX4_signal : ByteArray := prog_1_method_30_code
def yX4_signal : MethodName := ⟨RX4, "signal", "(IC)I"⟩
abbrev cX4_tick : ByteArray := prog_1_method_31_code
def yX4_tick : MethodName := ⟨RX4, "tick", "(I)I"⟩
abbrev cX4_entries : ByteArray := prog_1_method_32_code
def yX4_entries : MethodName := ⟨RX4, "entries", "()I"⟩
abbrev cX4_entryJob : ByteArray := prog_1_method_33_code
def yX4_entryJob : MethodName := ⟨RX4, "entryJob", "(I)I"⟩
abbrev cX4_entryState : ByteArray := prog_1_method_34_code
def yX4_entryState : MethodName := ⟨RX4, "entryState", "(I)C"⟩
abbrev cX4_worked : ByteArray := prog_1_method_35_code
def yX4_worked : MethodName := ⟨RX4, "worked", "()J"⟩
abbrev cX4_doneShare : ByteArray := prog_1_method_36_code
def yX4_doneShare : MethodName := ⟨RX4, "doneShare", "()F"⟩
abbrev cX4_sessionNumbered : ByteArray := prog_1_method_37_code
def yX4_sessionNumbered : MethodName := ⟨RX4, "sessionNumbered", "(I)LShellhouse$Session;"⟩
abbrev cX4_jobNumbered : ByteArray := prog_1_method_38_code
def yX4_jobNumbered : MethodName := ⟨RX4, "jobNumbered", "(I)LShellhouse$Job;"⟩
abbrev cX4_jobInFrontOf : ByteArray := prog_1_method_39_code
def yX4_jobInFrontOf : MethodName := ⟨RX4, "jobInFrontOf", "(LShellhouse$Session;)LShellhouse$Job;"⟩
abbrev cX4_commandOf : ByteArray := prog_1_method_40_code
def yX4_commandOf : MethodName := ⟨RX4, "commandOf", "(LShellhouse$History;I)I"⟩
abbrev cX4_refuseNoLock : ByteArray := prog_1_method_41_code
def yX4_refuseNoLock : MethodName := ⟨RX4, "refuseNoLock", "(I)V"⟩
abbrev cX4_refuseNoEntry : ByteArray := prog_1_method_42_code
def yX4_refuseNoEntry : MethodName := ⟨RX4, "refuseNoEntry", "(I)V"⟩
abbrev cX4_isCommand : ByteArray := prog_1_method_43_code
def yX4_isCommand : MethodName := ⟨RX4, "isCommand", "(I)Z"⟩
abbrev cX4_isWork : ByteArray := prog_1_method_44_code
def yX4_isWork : MethodName := ⟨RX4, "isWork", "(I)Z"⟩
abbrev cX4_areLocks : ByteArray := prog_1_method_45_code
def yX4_areLocks : MethodName := ⟨RX4, "areLocks", "(I)Z"⟩
abbrev cX4_isState : ByteArray := prog_1_method_46_code
def yX4_isState : MethodName := ⟨RX4, "isState", "(C)Z"⟩
abbrev cX4_canBeStopped : ByteArray := prog_1_method_47_code
def yX4_canBeStopped : MethodName := ⟨RX4, "canBeStopped", "(LShellhouse$Job;)Z"⟩
abbrev cX4_canGoOn : ByteArray := prog_1_method_48_code
def yX4_canGoOn : MethodName := ⟨RX4, "canGoOn", "(LShellhouse$Job;)Z"⟩
abbrev cX4_isOver : ByteArray := prog_1_method_49_code
def yX4_isOver : MethodName := ⟨RX4, "isOver", "(LShellhouse$Job;)Z"⟩
abbrev cX4_remember : ByteArray := prog_1_method_50_code
def yX4_remember : MethodName := ⟨RX4, "remember", "(LShellhouse$Session;I)V"⟩
abbrev cX4_comeInto : ByteArray := prog_1_method_51_code
def yX4_comeInto : MethodName := ⟨RX4, "comeInto", "(LShellhouse$Job;C)V"⟩
abbrev cX4_waitForLocks : ByteArray := prog_1_method_52_code
def yX4_waitForLocks : MethodName := ⟨RX4, "waitForLocks", "(LShellhouse$Job;)V"⟩
abbrev cX4_pause : ByteArray := prog_1_method_53_code
def yX4_pause : MethodName := ⟨RX4, "pause", "(LShellhouse$Job;)V"⟩
abbrev cX4_resume : ByteArray := prog_1_method_54_code
def yX4_resume : MethodName := ⟨RX4, "resume", "(LShellhouse$Job;)V"⟩
abbrev cX4_finish : ByteArray := prog_1_method_55_code
def yX4_finish : MethodName := ⟨RX4, "finish", "(LShellhouse$Job;C)V"⟩
abbrev cX4_obeys : ByteArray := prog_1_method_56_code
def yX4_obeys : MethodName := ⟨RX4, "obeys", "(LShellhouse$Job;C)Z"⟩
abbrev cX4_passOneTick : ByteArray := prog_1_method_57_code
def yX4_passOneTick : MethodName := ⟨RX4, "passOneTick", "()I"⟩
abbrev cX4_workIsDone : ByteArray := prog_1_method_58_code
def yX4_workIsDone : MethodName := ⟨RX4, "workIsDone", "(LShellhouse$Job;)Z"⟩
abbrev cX4_leaveOrder : ByteArray := prog_1_method_59_code
def yX4_leaveOrder : MethodName := ⟨RX4, "leaveOrder", "(LShellhouse$Job;)V"⟩
abbrev cX4_lookAtOrder : ByteArray := prog_1_method_60_code
def yX4_lookAtOrder : MethodName := ⟨RX4, "lookAtOrder", "()V"⟩
abbrev cX4_locksAreFreeFor : ByteArray := prog_1_method_61_code
def yX4_locksAreFreeFor : MethodName := ⟨RX4, "locksAreFreeFor", "(LShellhouse$Job;)Z"⟩
abbrev cX4_setHolder : ByteArray := prog_1_method_62_code
def yX4_setHolder : MethodName := ⟨RX4, "setHolder", "(LShellhouse$Job;I)V"⟩
def RX5 : String := "ShellhouseModel"
def TX5 : u_T := fun k => match k with
  | _ => ("", "", "", false)
def tyX5 : Nat → FieldType := fun k => match k with
  | _ => .int
abbrev wsX50 : List Cond := u_ws RX5 TX5 0
theorem nmX5 : ∀ a, a < 0 → ∀ b, b < 0 → a ≠ b → (TX5 a).2.1 ≠ (TX5 b).2.1 := by decide +kernel
theorem tyX5_ok : ∀ k, k < 0 → parseFieldDescriptor (TX5 k).2.2.1 = some (tyX5 k) := by decide +kernel
def RJx145de : String := "java/io/Serializable"
def TJx145de : u_T := fun k => match k with
  | _ => ("", "", "", false)
def tyJx145de : Nat → FieldType := fun k => match k with
  | _ => .int
abbrev wsJx145de0 : List Cond := u_ws RJx145de TJx145de 0
theorem nmJx145de : ∀ a, a < 0 → ∀ b, b < 0 → a ≠ b → (TJx145de a).2.1 ≠ (TJx145de b).2.1 := by decide +kernel
theorem tyJx145de_ok : ∀ k, k < 0 → parseFieldDescriptor (TJx145de k).2.2.1 = some (tyJx145de k) := by decide +kernel
def RJx8e188 : String := "java/lang/Cloneable"
def TJx8e188 : u_T := fun k => match k with
  | _ => ("", "", "", false)
def tyJx8e188 : Nat → FieldType := fun k => match k with
  | _ => .int
abbrev wsJx8e1880 : List Cond := u_ws RJx8e188 TJx8e188 0
theorem nmJx8e188 : ∀ a, a < 0 → ∀ b, b < 0 → a ≠ b → (TJx8e188 a).2.1 ≠ (TJx8e188 b).2.1 := by decide +kernel
theorem tyJx8e188_ok : ∀ k, k < 0 → parseFieldDescriptor (TJx8e188 k).2.2.1 = some (tyJx8e188 k) := by decide +kernel
def RJxab1ab : String := "java/lang/Iterable"
def TJxab1ab : u_T := fun k => match k with
  | _ => ("", "", "", false)
def tyJxab1ab : Nat → FieldType := fun k => match k with
  | _ => .int
abbrev wsJxab1ab0 : List Cond := u_ws RJxab1ab TJxab1ab 0
theorem nmJxab1ab : ∀ a, a < 0 → ∀ b, b < 0 → a ≠ b → (TJxab1ab a).2.1 ≠ (TJxab1ab b).2.1 := by decide +kernel
theorem tyJxab1ab_ok : ∀ k, k < 0 → parseFieldDescriptor (TJxab1ab k).2.2.1 = some (tyJxab1ab k) := by decide +kernel
def RJ9 : String := "java/lang/Math"
def TJ9 : u_T := fun k => match k with
  | _ => ("", "", "", false)
def tyJ9 : Nat → FieldType := fun k => match k with
  | _ => .int
abbrev wsJ90 : List Cond := u_ws RJ9 TJ9 0
theorem nmJ9 : ∀ a, a < 0 → ∀ b, b < 0 → a ≠ b → (TJ9 a).2.1 ≠ (TJ9 b).2.1 := by decide +kernel
theorem tyJ9_ok : ∀ k, k < 0 → parseFieldDescriptor (TJ9 k).2.2.1 = some (tyJ9 k) := by decide +kernel
abbrev cJ9_max_7cf53 : ByteArray := prog_15_method_65_code
def yJ9_max_7cf53 : MethodName := ⟨RJ9, "max", "(II)I"⟩
abbrev cJ9_min_7cf53 : ByteArray := prog_15_method_69_code
def yJ9_min_7cf53 : MethodName := ⟨RJ9, "min", "(II)I"⟩
def RJ0 : String := "java/lang/String"
def TJ0 : u_T := fun k => match k with
  | _ => ("", "", "", false)
def tyJ0 : Nat → FieldType := fun k => match k with
  | _ => .int
abbrev wsJ00 : List Cond := u_ws RJ0 TJ0 0
theorem nmJ0 : ∀ a, a < 0 → ∀ b, b < 0 → a ≠ b → (TJ0 a).2.1 ≠ (TJ0 b).2.1 := by decide +kernel
theorem tyJ0_ok : ∀ k, k < 0 → parseFieldDescriptor (TJ0 k).2.2.1 = some (tyJ0 k) := by decide +kernel
def RJ10 : String := "java/lang/System"
def TJ10 : u_T := fun k => match k with
  | _ => ("", "", "", false)
def tyJ10 : Nat → FieldType := fun k => match k with
  | _ => .int
abbrev wsJ100 : List Cond := u_ws RJ10 TJ10 0
theorem nmJ10 : ∀ a, a < 0 → ∀ b, b < 0 → a ≠ b → (TJ10 a).2.1 ≠ (TJ10 b).2.1 := by decide +kernel
theorem tyJ10_ok : ∀ k, k < 0 → parseFieldDescriptor (TJ10 k).2.2.1 = some (tyJ10 k) := by decide +kernel
def RJxa1e45 : String := "java/util/AbstractCollection"
def TJxa1e45 : u_T := fun k => match k with
  | _ => ("", "", "", false)
def tyJxa1e45 : Nat → FieldType := fun k => match k with
  | _ => .int
abbrev wsJxa1e450 : List Cond := u_ws RJxa1e45 TJxa1e45 0
theorem nmJxa1e45 : ∀ a, a < 0 → ∀ b, b < 0 → a ≠ b → (TJxa1e45 a).2.1 ≠ (TJxa1e45 b).2.1 := by decide +kernel
theorem tyJxa1e45_ok : ∀ k, k < 0 → parseFieldDescriptor (TJxa1e45 k).2.2.1 = some (tyJxa1e45 k) := by decide +kernel
abbrev cJxa1e45_init_da8c8 : ByteArray := prog_21_method_1_code
def yJxa1e45_init_da8c8 : MethodName := ⟨RJxa1e45, "<init>", "()V"⟩
def RJxc12de : String := "java/util/AbstractList"
def TJxc12de : u_T := fun k => match k with
  | _ => ("", "", "", false)
def tyJxc12de : Nat → FieldType := fun k => match k with
  | _ => .int
abbrev wsJxc12de0 : List Cond := u_ws RJxc12de TJxc12de 0
theorem nmJxc12de : ∀ a, a < 0 → ∀ b, b < 0 → a ≠ b → (TJxc12de a).2.1 ≠ (TJxc12de b).2.1 := by decide +kernel
theorem tyJxc12de_ok : ∀ k, k < 0 → parseFieldDescriptor (TJxc12de k).2.2.1 = some (tyJxc12de k) := by decide +kernel
abbrev cJxc12de_init_da8c8 : ByteArray := prog_22_method_1_code
def yJxc12de_init_da8c8 : MethodName := ⟨RJxc12de, "<init>", "()V"⟩
def RJx4a65c : String := "java/util/ArrayList"
def TJx4a65c : u_T := fun k => match k with
  | 0 => ("java/util/AbstractList", "modCount", "I", false)
  | 1 => ("java/util/ArrayList", "elementData", "[Ljava/lang/Object;", false)
  | _ => ("java/util/ArrayList", "size", "I", false)
def tyJx4a65c : Nat → FieldType := fun k => match k with
  | 0 => .int
  | 1 => .array (.object "java/lang/Object")
  | _ => .int
abbrev wsJx4a65c0 : List Cond := u_ws RJx4a65c TJx4a65c 3
theorem nmJx4a65c : ∀ a, a < 3 → ∀ b, b < 3 → a ≠ b → (TJx4a65c a).2.1 ≠ (TJx4a65c b).2.1 := by decide +kernel
theorem tyJx4a65c_ok : ∀ k, k < 3 → parseFieldDescriptor (TJx4a65c k).2.2.1 = some (tyJx4a65c k) := by decide +kernel
abbrev cJx4a65c_init_da8c8 : ByteArray := prog_23_method_2_code
def yJx4a65c_init_da8c8 : MethodName := ⟨RJx4a65c, "<init>", "()V"⟩
abbrev cJx4a65c_grow_92f84 : ByteArray := prog_23_method_6_code
def yJx4a65c_grow_92f84 : MethodName := ⟨RJx4a65c, "grow", "(I)[Ljava/lang/Object;"⟩
abbrev cJx4a65c_grow_d5877 : ByteArray := prog_23_method_7_code
def yJx4a65c_grow_d5877 : MethodName := ⟨RJx4a65c, "grow", "()[Ljava/lang/Object;"⟩
abbrev cJx4a65c_size_8abf5 : ByteArray := prog_23_method_8_code
def yJx4a65c_size_8abf5 : MethodName := ⟨RJx4a65c, "size", "()I"⟩
abbrev cJx4a65c_elementData_915e3 : ByteArray := prog_23_method_18_code
def yJx4a65c_elementData_915e3 : MethodName := ⟨RJx4a65c, "elementData", "(I)Ljava/lang/Object;"⟩
abbrev cJx4a65c_get_915e3 : ByteArray := prog_23_method_20_code
def yJx4a65c_get_915e3 : MethodName := ⟨RJx4a65c, "get", "(I)Ljava/lang/Object;"⟩
abbrev cJx4a65c_add_72be8 : ByteArray := prog_23_method_24_code
def yJx4a65c_add_72be8 : MethodName := ⟨RJx4a65c, "add", "(Ljava/lang/Object;[Ljava/lang/Object;I)V"⟩
abbrev cJx4a65c_add_9ea2d : ByteArray := prog_23_method_25_code
def yJx4a65c_add_9ea2d : MethodName := ⟨RJx4a65c, "add", "(Ljava/lang/Object;)Z"⟩
abbrev cJx4a65c_remove_915e3 : ByteArray := prog_23_method_29_code
def yJx4a65c_remove_915e3 : MethodName := ⟨RJx4a65c, "remove", "(I)Ljava/lang/Object;"⟩
abbrev cJx4a65c_fastRemove_b59b0 : ByteArray := prog_23_method_39_code
def yJx4a65c_fastRemove_b59b0 : MethodName := ⟨RJx4a65c, "fastRemove", "([Ljava/lang/Object;I)V"⟩
def RJ7 : String := "java/util/Arrays"
def TJ7 : u_T := fun k => match k with
  | _ => ("", "", "", false)
def tyJ7 : Nat → FieldType := fun k => match k with
  | _ => .int
abbrev wsJ70 : List Cond := u_ws RJ7 TJ7 0
theorem nmJ7 : ∀ a, a < 0 → ∀ b, b < 0 → a ≠ b → (TJ7 a).2.1 ≠ (TJ7 b).2.1 := by decide +kernel
theorem tyJ7_ok : ∀ k, k < 0 → parseFieldDescriptor (TJ7 k).2.2.1 = some (tyJ7 k) := by decide +kernel
abbrev cJ7_fill_53178 : ByteArray := prog_24_method_103_code
def yJ7_fill_53178 : MethodName := ⟨RJ7, "fill", "([II)V"⟩
abbrev cJ7_copyOf_1904c : ByteArray := prog_24_method_119_code
def yJ7_copyOf_1904c : MethodName := ⟨RJ7, "copyOf", "([Ljava/lang/Object;I)[Ljava/lang/Object;"⟩
abbrev cJ7_copyOf_6403c : ByteArray := prog_24_method_120_code
def yJ7_copyOf_6403c : MethodName := ⟨RJ7, "copyOf", "([Ljava/lang/Object;ILjava/lang/Class;)[Ljava/lang/Object;"⟩
abbrev cJ7_copyOf_59c91 : ByteArray := prog_24_method_123_code
def yJ7_copyOf_59c91 : MethodName := ⟨RJ7, "copyOf", "([II)[I"⟩
def RJx5ef63 : String := "java/util/Collection"
def TJx5ef63 : u_T := fun k => match k with
  | _ => ("", "", "", false)
def tyJx5ef63 : Nat → FieldType := fun k => match k with
  | _ => .int
abbrev wsJx5ef630 : List Cond := u_ws RJx5ef63 TJx5ef63 0
theorem nmJx5ef63 : ∀ a, a < 0 → ∀ b, b < 0 → a ≠ b → (TJx5ef63 a).2.1 ≠ (TJx5ef63 b).2.1 := by decide +kernel
theorem tyJx5ef63_ok : ∀ k, k < 0 → parseFieldDescriptor (TJx5ef63 k).2.2.1 = some (tyJx5ef63 k) := by decide +kernel
def RJxbd725 : String := "java/util/List"
def TJxbd725 : u_T := fun k => match k with
  | _ => ("", "", "", false)
def tyJxbd725 : Nat → FieldType := fun k => match k with
  | _ => .int
abbrev wsJxbd7250 : List Cond := u_ws RJxbd725 TJxbd725 0
theorem nmJxbd725 : ∀ a, a < 0 → ∀ b, b < 0 → a ≠ b → (TJxbd725 a).2.1 ≠ (TJxbd725 b).2.1 := by decide +kernel
theorem tyJxbd725_ok : ∀ k, k < 0 → parseFieldDescriptor (TJxbd725 k).2.2.1 = some (tyJxbd725 k) := by decide +kernel
def RJ15 : String := "java/util/Objects"
def TJ15 : u_T := fun k => match k with
  | _ => ("", "", "", false)
def tyJ15 : Nat → FieldType := fun k => match k with
  | _ => .int
abbrev wsJ150 : List Cond := u_ws RJ15 TJ15 0
theorem nmJ15 : ∀ a, a < 0 → ∀ b, b < 0 → a ≠ b → (TJ15 a).2.1 ≠ (TJ15 b).2.1 := by decide +kernel
theorem tyJ15_ok : ∀ k, k < 0 → parseFieldDescriptor (TJ15 k).2.2.1 = some (tyJ15 k) := by decide +kernel
abbrev cJ15_checkIndex_7cf53 : ByteArray := prog_28_method_17_code
def yJ15_checkIndex_7cf53 : MethodName := ⟨RJ15, "checkIndex", "(II)I"⟩
def RJxf0a74 : String := "java/util/RandomAccess"
def TJxf0a74 : u_T := fun k => match k with
  | _ => ("", "", "", false)
def tyJxf0a74 : Nat → FieldType := fun k => match k with
  | _ => .int
abbrev wsJxf0a740 : List Cond := u_ws RJxf0a74 TJxf0a74 0
theorem nmJxf0a74 : ∀ a, a < 0 → ∀ b, b < 0 → a ≠ b → (TJxf0a74 a).2.1 ≠ (TJxf0a74 b).2.1 := by decide +kernel
theorem tyJxf0a74_ok : ∀ k, k < 0 → parseFieldDescriptor (TJxf0a74 k).2.2.1 = some (tyJxf0a74 k) := by decide +kernel
def RJxa66e6 : String := "java/util/SequencedCollection"
def TJxa66e6 : u_T := fun k => match k with
  | _ => ("", "", "", false)
def tyJxa66e6 : Nat → FieldType := fun k => match k with
  | _ => .int
abbrev wsJxa66e60 : List Cond := u_ws RJxa66e6 TJxa66e6 0
theorem nmJxa66e6 : ∀ a, a < 0 → ∀ b, b < 0 → a ≠ b → (TJxa66e6 a).2.1 ≠ (TJxa66e6 b).2.1 := by decide +kernel
theorem tyJxa66e6_ok : ∀ k, k < 0 → parseFieldDescriptor (TJxa66e6 k).2.2.1 = some (tyJxa66e6 k) := by decide +kernel
def RJ8 : String := "jdk/internal/util/ArraysSupport"
def TJ8 : u_T := fun k => match k with
  | _ => ("", "", "", false)
def tyJ8 : Nat → FieldType := fun k => match k with
  | _ => .int
abbrev wsJ80 : List Cond := u_ws RJ8 TJ8 0
theorem nmJ8 : ∀ a, a < 0 → ∀ b, b < 0 → a ≠ b → (TJ8 a).2.1 ≠ (TJ8 b).2.1 := by decide +kernel
theorem tyJ8_ok : ∀ k, k < 0 → parseFieldDescriptor (TJ8 k).2.2.1 = some (tyJ8 k) := by decide +kernel
abbrev cJ8_newLength_cabcc : ByteArray := prog_31_method_27_code
def yJ8_newLength_cabcc : MethodName := ⟨RJ8, "newLength", "(III)I"⟩
abbrev cJ8_hugeLength_7cf53 : ByteArray := prog_31_method_28_code
def yJ8_hugeLength_7cf53 : MethodName := ⟨RJ8, "hugeLength", "(II)I"⟩
def RJ3 : String := "jdk/internal/util/Preconditions"
def TJ3 : u_T := fun k => match k with
  | _ => ("", "", "", false)
def tyJ3 : Nat → FieldType := fun k => match k with
  | _ => .int
abbrev wsJ30 : List Cond := u_ws RJ3 TJ3 0
theorem nmJ3 : ∀ a, a < 0 → ∀ b, b < 0 → a ≠ b → (TJ3 a).2.1 ≠ (TJ3 b).2.1 := by decide +kernel
theorem tyJ3_ok : ∀ k, k < 0 → parseFieldDescriptor (TJ3 k).2.2.1 = some (tyJ3 k) := by decide +kernel
abbrev cJ3_checkIndex_8e157 : ByteArray := prog_32_method_11_code
def yJ3_checkIndex_8e157 : MethodName := ⟨RJ3, "checkIndex", "(IILjava/util/function/BiFunction;)I"⟩
def RL : String := "ShellhouseLaw"
abbrev cL_cell : ByteArray := method_2_code
def yL_cell : MethodName := ⟨RL, "cell", "([II)I"⟩
abbrev cL_pick : ByteArray := method_3_code
def yL_pick : MethodName := ⟨RL, "pick", "([III)I"⟩
abbrev cL_open : ByteArray := method_4_code
def yL_open : MethodName := ⟨RL, "open", "(LShellhouse;Z)I"⟩
abbrev cL_drop : ByteArray := method_5_code
def yL_drop : MethodName := ⟨RL, "drop", "(LShellhouse;I)I"⟩
abbrev cL_takeUp : ByteArray := method_6_code
def yL_takeUp : MethodName := ⟨RL, "takeUp", "(LShellhouse;I)I"⟩
abbrev cL_isAttached : ByteArray := method_7_code
def yL_isAttached : MethodName := ⟨RL, "isAttached", "(LShellhouse;I)I"⟩
abbrev cL_kept : ByteArray := method_8_code
def yL_kept : MethodName := ⟨RL, "kept", "(LShellhouse;I)I"⟩
abbrev cL_commandAt : ByteArray := method_9_code
def yL_commandAt : MethodName := ⟨RL, "commandAt", "(LShellhouse;II)I"⟩
abbrev cL_commonAt : ByteArray := method_10_code
def yL_commonAt : MethodName := ⟨RL, "commonAt", "(LShellhouse;I)I"⟩
abbrev cL_search : ByteArray := method_11_code
def yL_search : MethodName := ⟨RL, "search", "(LShellhouse;III)I"⟩
abbrev cL_start : ByteArray := method_12_code
def yL_start : MethodName := ⟨RL, "start", "(LShellhouse;IIIIZ)I"⟩
abbrev cL_state : ByteArray := method_13_code
def yL_state : MethodName := ⟨RL, "state", "(LShellhouse;I)I"⟩
abbrev cL_stateByJournal : ByteArray := method_14_code
def yL_stateByJournal : MethodName := ⟨RL, "stateByJournal", "(LShellhouse;I)I"⟩
abbrev cL_toDo : ByteArray := method_15_code
def yL_toDo : MethodName := ⟨RL, "toDo", "(LShellhouse;I)I"⟩
abbrev cL_sessionOf : ByteArray := method_16_code
def yL_sessionOf : MethodName := ⟨RL, "sessionOf", "(LShellhouse;I)I"⟩
abbrev cL_front : ByteArray := method_17_code
def yL_front : MethodName := ⟨RL, "front", "(LShellhouse;I)I"⟩
abbrev cL_toFront : ByteArray := method_18_code
def yL_toFront : MethodName := ⟨RL, "toFront", "(LShellhouse;I)I"⟩
abbrev cL_toBack : ByteArray := method_19_code
def yL_toBack : MethodName := ⟨RL, "toBack", "(LShellhouse;I)I"⟩
abbrev cL_count : ByteArray := method_20_code
def yL_count : MethodName := ⟨RL, "count", "(LShellhouse;IC)I"⟩
abbrev cL_holder : ByteArray := method_21_code
def yL_holder : MethodName := ⟨RL, "holder", "(LShellhouse;I)I"⟩
abbrev cL_holderByJobs : ByteArray := method_22_code
def yL_holderByJobs : MethodName := ⟨RL, "holderByJobs", "(LShellhouse;I)I"⟩
abbrev cL_holds : ByteArray := method_23_code
def yL_holds : MethodName := ⟨RL, "holds", "(LShellhouse;I)I"⟩
abbrev cL_waitingAt : ByteArray := method_24_code
def yL_waitingAt : MethodName := ⟨RL, "waitingAt", "(LShellhouse;I)I"⟩
abbrev cL_blockers : ByteArray := method_25_code
def yL_blockers : MethodName := ⟨RL, "blockers", "(LShellhouse;I)I"⟩
abbrev cL_stop : ByteArray := method_26_code
def yL_stop : MethodName := ⟨RL, "stop", "(LShellhouse;I)I"⟩
abbrev cL_goOn : ByteArray := method_27_code
def yL_goOn : MethodName := ⟨RL, "goOn", "(LShellhouse;I)I"⟩
abbrev cL_end : ByteArray := method_28_code
def yL_end : MethodName := ⟨RL, "end", "(LShellhouse;I)I"⟩
abbrev cL_signal : ByteArray := method_29_code
def yL_signal : MethodName := ⟨RL, "signal", "(LShellhouse;IC)I"⟩
abbrev cL_tick : ByteArray := method_30_code
def yL_tick : MethodName := ⟨RL, "tick", "(LShellhouse;I)I"⟩
abbrev cL_entryJob : ByteArray := method_31_code
def yL_entryJob : MethodName := ⟨RL, "entryJob", "(LShellhouse;I)I"⟩
abbrev cL_entryState : ByteArray := method_32_code
def yL_entryState : MethodName := ⟨RL, "entryState", "(LShellhouse;I)I"⟩
abbrev cL_doneShare : ByteArray := method_33_code
def yL_doneShare : MethodName := ⟨RL, "doneShare", "(LShellhouse;)F"⟩
abbrev cL_law : ByteArray := code
def yL_law : MethodName := ⟨RL, "law", "([I)Z"⟩
abbrev cL_ofSession : ByteArray := method_35_code
def yL_ofSession : MethodName := ⟨RL, "ofSession", "([III)I"⟩
abbrev cL_done : ByteArray := method_36_code
def yL_done : MethodName := ⟨RL, "done", "(LShellhouse;I)I"⟩
abbrev cL_sum : ByteArray := method_37_code
def yL_sum : MethodName := ⟨RL, "sum", "(LShellhouse;I)J"⟩
abbrev cL_areJobs : ByteArray := method_38_code
def yL_areJobs : MethodName := ⟨RL, "areJobs", "(LShellhouse;I[I[I)Z"⟩
abbrev cL_areFronts : ByteArray := method_39_code
def yL_areFronts : MethodName := ⟨RL, "areFronts", "(LShellhouse;II[I)Z"⟩
abbrev cL_isJournal : ByteArray := method_40_code
def yL_isJournal : MethodName := ⟨RL, "isJournal", "(LShellhouse;I)Z"⟩
abbrev vwCl : List vw_C := [(RJx4a65c, TJx4a65c, 3), (RX0, TX0, 2), (RX1, TX1, 7), (RX2, TX2, 3), (RX3, TX3, 6), (RX4, TX4, 7)]
end
section
/-! a machine of our own over an abstract heap: what a step asks and where it goes, as a function; Ev: the least predicate closed under it -/
abbrev AC : Type := (Nat × vp_A) ⊕ (Nat × List Value)
abbrev AH : Type := Nat → Option AC
abbrev MD : Type := MethodName × ByteArray × Nat × Option FieldType × List (Nat × Nat × Nat × Nat) × Nat × List (Nat × Nat) × Bool × List Nat
abbrev mY (M : MD) : MethodName := M.1
abbrev mB (M : MD) : ByteArray := M.2.1
abbrev mL (M : MD) : Nat := M.2.2.1
abbrev mR (M : MD) : Option FieldType := M.2.2.2.1
abbrev mH (M : MD) : List (Nat × Nat × Nat × Nat) := M.2.2.2.2.1
abbrev mO (M : MD) : Nat := M.2.2.2.2.2.1
abbrev mT (M : MD) : List (Nat × Nat) := M.2.2.2.2.2.2.1
abbrev mI (M : MD) : Bool := M.2.2.2.2.2.2.2.1
/-- where the method keeps its longs (two places each) -/
abbrev mJ (M : MD) : List Nat := M.2.2.2.2.2.2.2.2
abbrev Out : Type := Option Value ⊕ Nat
/-- read-only cells; the address of ArrayList's empty array; of the mirror of Object[] -/
abbrev EN : Type := AH × Nat × Nat
def hset (h : AH) (a : Nat) (x : AC) : AH := fun q => if q = a then some x else h q
def rd (E : EN) (h : AH) (a : Nat) : Option AC := match h a with
  | some x => some x
  | none => E.1 a
def rdI (E : EN) (h : AH) (a k : Nat) : Option (Nat × (Nat → Int32)) := match rd E h a with
  | some (.inl (k', N, .inl f)) => if k' = k then some (N, f) else none
  | _ => none
def rdJ (E : EN) (h : AH) (a : Nat) : Option (Nat × (Nat → Int64)) := match rd E h a with
  | some (.inl (2, N, .inr (.inl f))) => some (N, f)
  | _ => none
def rdD (E : EN) (h : AH) (a : Nat) : Option (Nat × (Nat → UInt64)) := match rd E h a with
  | some (.inl (3, N, .inr (.inr (.inr (.inl f))))) => some (N, f)
  | _ => none
def rdA (h : AH) (a : Nat) : Option (Nat × (Nat → Option Nat)) := match h a with
  | some (.inl (4, N, .inr (.inr (.inr (.inr f))))) => some (N, f)
  | _ => none
def rwI (h : AH) (a k : Nat) : Option (Nat × (Nat → Int32)) := match h a with
  | some (.inl (k', N, .inl f)) => if k' = k then some (N, f) else none
  | _ => none
def rwJ (h : AH) (a : Nat) : Option (Nat × (Nat → Int64)) := match h a with
  | some (.inl (2, N, .inr (.inl f))) => some (N, f)
  | _ => none
def rwD (h : AH) (a : Nat) : Option (Nat × (Nat → UInt64)) := match h a with
  | some (.inl (3, N, .inr (.inr (.inr (.inl f))))) => some (N, f)
  | _ => none
def rdN (E : EN) (h : AH) (a : Nat) : Option Nat := match rd E h a with
  | some (.inl (_, A)) => some A.1
  | _ => none
def ob (h : AH) (a ci : Nat) : Option (List Value) := match h a with
  | some (.inr (cj, fs)) => if cj = ci then some fs else none
  | _ => none
def isO (h : AH) (a : Nat) : Bool := match h a with
  | some (.inr _) => true
  | _ => false
def isA (v : Value) : Bool := match v with
  | .ref _ => true
  | .null => true
  | _ => false
def isI (v : Value) : Bool := match v with
  | .int _ => true
  | _ => false
def isF (v : Value) : Bool := match v with
  | .float _ => true
  | _ => false
def isL (v : Value) : Bool := match v with
  | .long _ => true
  | _ => false
def is1 (v : Value) : Bool := match v with
  | .int _ => true
  | .float _ => true
  | .ref _ => true
  | .null => true
  | _ => false
def ok01 (v : Value) : Bool := match v with
  | .int x => x == 0 || x == 1
  | _ => false
def ok16 (v : Value) : Bool := match v with
  | .int x => decide (0 ≤ x.toInt) && decide (x.toInt < 65536)
  | _ => false
def okF (t : FieldType) (v : Value) : Bool := match t with
  | .int => isI v
  | .boolean => ok01 v
  | .char => ok16 v
  | .long => isL v
  | .object _ => isA v
  | .array _ => isA v
  | _ => false
def okR (t : Option FieldType) (v : Value) : Bool := match t with
  | some .int => isI v
  | some .boolean => ok01 v
  | some .char => ok16 v
  | _ => false
def okS (t : Option FieldType) : Nat := match t with
  | none => 0
  | some .long => 1
  | some .float => 2
  | some (.object _) => 3
  | some (.array _) => 3
  | _ => 4
def tyC : Nat → Nat → FieldType
  | 0 => tyJx4a65c
  | 1 => tyX0
  | 2 => tyX1
  | 3 => tyX2
  | 4 => tyX3
  | _ => tyX4
def TC : Nat → u_T
  | 0 => TJx4a65c
  | 1 => TX0
  | 2 => TX1
  | 3 => TX2
  | 4 => TX3
  | _ => TX4
def nC : Nat → Nat
  | 0 => 3
  | 1 => 2
  | 2 => 7
  | 3 => 3
  | 4 => 6
  | _ => 7
def dfl (ci : Nat) : List Value := (List.range (nC ci)).map (fun k => defaultValue (tyC ci k))
def jmp (pc : Nat) (off : Int) : Option Nat := match (pc : Int) + off with
  | .ofNat t => some t
  | .negSucc _ => none
def look {α : Type} (l : List (Nat × α)) (k : Nat) : Option α := match l with
  | [] => none
  | x :: r => match Nat.beq x.1 k with
    | true => some x.2
    | false => look r k
/-- pool entries of each class, by program -/
abbrev TAB : Type := (Nat → Nat → Option (Nat × Nat)) × (Nat → Nat → Option Nat) × (Nat → Nat → Option Nat) × (Nat → Nat → Option (Nat × Nat × MD))
abbrev CF : Type := Nat × List Value × List Value × AH
abbrev RES : Type := CF ⊕ ((Nat × (Nat → CF)) ⊕ ((MD × List Value × List Value) ⊕ Out))
abbrev nx (pc : Nat) (ls st : List Value) (h : AH) : Option RES := some (.inl (pc, ls, st, h))
def ift {α : Type} (c : Prop) [Decidable c] (x : Option α) : Option α := if c then x else none
def brI (c : Jvm.ClassFile.Cond) (x y : Int32) (A B : Option RES) : Option RES := match c with
  | .eq => if x = y then A else B
  | .ne => if x = y then B else A
  | .lt => if x < y then A else B
  | .ge => if x < y then B else A
  | .gt => if y < x then A else B
  | .le => if y < x then B else A
def brA (c : ACond) (x y : Value) (A B : Option RES) : Option RES := match c with
  | .eq => if x = y then A else B
  | .ne => if x = y then B else A
def cpOK (h : AH) (o : Option Nat) : Bool := match o with
  | none => true
  | some y => isO h y
def inB (i : Int32) (N : Nat) : Bool := decide (¬ (i < 0 ∨ N ≤ i.toNatClampNeg))
/-- k is a long's first place; its second; one of both -/
def jl (l : List Nat) (k : Nat) : Bool := match l with
  | [] => false
  | x :: r => match Nat.beq x k with
    | true => true
    | false => jl r k
def jp (l : List Nat) (k : Nat) : Bool := match l with
  | [] => false
  | x :: r => match Nat.beq (x + 1) k with
    | true => true
    | false => jp r k
def sto (l : List Nat) (ls : List Value) (k : Nat) (v : Value) (f : List Value → Option RES) : Option RES := match jl l k with
  | true => none
  | false => match jp l k with
    | true => none
    | false => (ls[k]?).bind fun _ => f (ls.set k v)
def sto2 (l : List Nat) (ls : List Value) (k : Nat) (v : Value) (f : List Value → Option RES) : Option RES := match jl l k with
  | false => none
  | true => match jp l k with
    | true => none
    | false => (ls[k + 1]?).bind fun _ => f ((ls.set k v).set (k + 1) (.retAddr 0))
def zer (t : ArrayType) : Option (Nat × (Nat → vp_A)) := match t with
  | .int => some (0, fun N => (N, .inl (fun _ => 0)))
  | .char => some (5, fun N => (N, .inl (fun _ => 0)))
  | _ => none
def inv (E : EN) (d pc : Nat) (ls st : List Value) (h : AH) (q : Nat × Nat × MD) : Option RES := match q.1 with
  | 0 => match st.drop q.2.1 with
    | .ref b :: r => (ob h b (mO q.2.2)).bind fun _ => ift ((st.take q.2.1).length = q.2.1 ∧ r.length ≤ 4) (some (.inr (.inr (.inl (q.2.2, .ref b :: (st.take q.2.1).reverse, r)))))
    | _ => none
  | 1 => match st.drop q.2.1 with
    | .ref b :: r => ift ((st.take q.2.1).length = q.2.1 ∧ r.length ≤ 4) (some (.inr (.inr (.inl (q.2.2, .ref b :: (st.take q.2.1).reverse, r)))))
    | _ => none
  | 2 => ift ((st.take q.2.1).length = q.2.1 ∧ (st.drop q.2.1).length ≤ 4) (some (.inr (.inr (.inl (q.2.2, (st.take q.2.1).reverse, st.drop q.2.1)))))
  | 3 => match st with
    | .ref _ :: r => ift (r.length ≤ 4 ∧ 1 ≤ d) (nx (pc + 3) ls r h)
    | _ => none
  | 4 => match st with
    | .int y :: .int x :: r => ift (r.length ≤ 4 ∧ 1 ≤ d) (nx (pc + 3) ls (.int (if y < x then y else x) :: r) h)
    | _ => none
  | 5 => match st with
    | .int y :: .int x :: r => ift (r.length ≤ 4 ∧ 1 ≤ d) (nx (pc + 3) ls (.int (if x < y then y else x) :: r) h)
    | _ => none
  | 6 => match st with
    | .int n :: .int dp :: .ref b :: .int sp :: .ref a :: r => (rwI h a 0).bind fun f => (rwI h b 0).bind fun g =>
        ift ((¬ sp < 0 ∧ ¬ dp < 0 ∧ ¬ n < 0 ∧ sp.toNatClampNeg + n.toNatClampNeg ≤ f.1 ∧ dp.toNatClampNeg + n.toNatClampNeg ≤ g.1) ∧ r.length ≤ 4 ∧ 2 ≤ d) (nx (pc + 3) ls r (hset h b (.inl (0, g.1, .inl (va_cpy f.2 g.2 sp.toNatClampNeg dp.toNatClampNeg n.toNatClampNeg)))))
    | _ => none
  | 7 => match st with
    | .int n :: .int dp :: .ref b :: .int sp :: .ref a :: r => (rdA h a).bind fun f => (rdA h b).bind fun g =>
        ift ((¬ sp < 0 ∧ ¬ dp < 0 ∧ ¬ n < 0 ∧ sp.toNatClampNeg + n.toNatClampNeg ≤ f.1 ∧ dp.toNatClampNeg + n.toNatClampNeg ≤ g.1) ∧ (∀ i, i < n.toNatClampNeg → cpOK h (f.2 (sp.toNatClampNeg + i)) = true) ∧ r.length ≤ 4 ∧ 2 ≤ d) (nx (pc + 3) ls r (hset h b (.inl (4, g.1, .inr (.inr (.inr (.inr (va_cpy f.2 g.2 sp.toNatClampNeg dp.toNatClampNeg n.toNatClampNeg))))))))
    | _ => none
  | 8 => match st with
    | .ref a :: r => (rdA h a).bind fun _ => ift (r.length ≤ 4 ∧ 1 ≤ d) (nx (pc + 3) ls (.ref E.2.2 :: r) h)
    | _ => none
  | _ => none
def stp (TT : TAB) (E : EN) (d : Nat) (M : MD) (pc : Nat) (ls st : List Value) (h : AH) : Instr → Option RES
  | .aload_n k => (ls[(k : Nat)]?).bind fun v => ift (isA v = true) (nx (pc + 1) ls (v :: st) h)
  | .aload k => (ls[k]?).bind fun v => ift (isA v = true) (nx (pc + 2) ls (v :: st) h)
  | .iload_n k => (ls[(k : Nat)]?).bind fun v => ift (isI v = true) (nx (pc + 1) ls (v :: st) h)
  | .iload k => (ls[k]?).bind fun v => ift (isI v = true) (nx (pc + 2) ls (v :: st) h)
  | .lload_n k => (ls[(k : Nat)]?).bind fun v => ift (isL v = true) (nx (pc + 1) ls (v :: st) h)
  | .lload k => (ls[k]?).bind fun v => ift (isL v = true) (nx (pc + 2) ls (v :: st) h)
  | .lstore_n k => match st with
    | .long x :: r => sto2 (mJ M) ls k (.long x) fun l => nx (pc + 1) l r h
    | _ => none
  | .lstore k => match st with
    | .long x :: r => sto2 (mJ M) ls k (.long x) fun l => nx (pc + 2) l r h
    | _ => none
  | .fload k => (ls[k]?).bind fun v => ift (isF v = true) (nx (pc + 2) ls (v :: st) h)
  | .istore_n k => match st with
    | .int x :: r => sto (mJ M) ls k (.int x) fun l => nx (pc + 1) l r h
    | _ => none
  | .istore k => match st with
    | .int x :: r => sto (mJ M) ls k (.int x) fun l => nx (pc + 2) l r h
    | _ => none
  | .fstore k => match st with
    | .float x :: r => sto (mJ M) ls k (.float x) fun l => nx (pc + 2) l r h
    | _ => none
  | .astore_n k => match st with
    | v :: r => ift (isA v = true) (sto (mJ M) ls k v fun l => nx (pc + 1) l r h)
    | _ => none
  | .astore k => match st with
    | v :: r => ift (isA v = true) (sto (mJ M) ls k v fun l => nx (pc + 2) l r h)
    | _ => none
  | .iconst i => nx (pc + 1) ls (.int (Int32.ofInt i) :: st) h
  | .bipush i => nx (pc + 2) ls (.int (Int8.ofInt i).toInt32 :: st) h
  | .sipush i => nx (pc + 3) ls (.int (Int16.ofInt i).toInt32 :: st) h
  | .lconst k => nx (pc + 1) ls (.long (Int64.ofNat (k : Nat)) :: st) h
  | .fconst k => match (k : Nat) with
    | 0 => nx (pc + 1) ls (.float FP.fconst0 :: st) h
    | _ => none
  | .aconst_null => nx (pc + 1) ls (.null :: st) h
  | .iadd => match st with
    | .int y :: .int x :: r => nx (pc + 1) ls (.int (x + y) :: r) h
    | _ => none
  | .isub => match st with
    | .int y :: .int x :: r => nx (pc + 1) ls (.int (x - y) :: r) h
    | _ => none
  | .imul => match st with
    | .int y :: .int x :: r => nx (pc + 1) ls (.int (x * y) :: r) h
    | _ => none
  | .iand => match st with
    | .int y :: .int x :: r => nx (pc + 1) ls (.int (x &&& y) :: r) h
    | _ => none
  | .ior => match st with
    | .int y :: .int x :: r => nx (pc + 1) ls (.int (x ||| y) :: r) h
    | _ => none
  | .ishl => match st with
    | .int y :: .int x :: r => nx (pc + 1) ls (.int (x <<< (y &&& 31)) :: r) h
    | _ => none
  | .ishr => match st with
    | .int y :: .int x :: r => nx (pc + 1) ls (.int (x >>> (y &&& 31)) :: r) h
    | _ => none
  | .irem => match st with
    | .int y :: .int x :: r => ift (¬ y = 0) (nx (pc + 1) ls (.int (x - x / y * y) :: r) h)
    | _ => none
  | .iushr => match st with
    | .int y :: .int x :: r => nx (pc + 1) ls (.int (x.toUInt32 >>> (y.toUInt32 &&& Int32.toUInt32 31)).toInt32 :: r) h
    | _ => none
  | .lmul => match st with
    | .long y :: .long x :: r => nx (pc + 1) ls (.long (x * y) :: r) h
    | _ => none
  | .ladd => match st with
    | .long y :: .long x :: r => nx (pc + 1) ls (.long (x + y) :: r) h
    | _ => none
  | .i2l => match st with
    | .int x :: r => nx (pc + 1) ls (.long x.toInt64 :: r) h
    | _ => none
  | .i2c => match st with
    | .int x :: r => nx (pc + 1) ls (.int (x.toUInt32 % 65536).toInt32 :: r) h
    | _ => none
  | .i2f => match st with
    | .int x :: r => nx (pc + 1) ls (.float (FP.i2f x) :: r) h
    | _ => none
  | .f2d => match st with
    | .float x :: r => ift (FP.f2d x &&& 0x7fffffffffffffff ≤ 0x7ff0000000000000) (nx (pc + 1) ls (.double (FP.f2d x) :: r) h)
    | _ => none
  | .fdiv => match st with
    | .float y :: .float x :: r => ift (FP.fdiv x y &&& 0x7fffffff ≤ 0x7f800000) (nx (pc + 1) ls (.float (FP.fdiv x y) :: r) h)
    | _ => none
  | .lcmp => match st with
    | .long y :: .long x :: r => nx (pc + 1) ls (.int (lg_cmp x y) :: r) h
    | _ => none
  | .fcmp o => match st with
    | .float y :: .float x :: r => nx (pc + 1) ls (.int (Op.cmpValue (FP.fcmp x y) o) :: r) h
    | _ => none
  | .dcmp o => match st with
    | .double y :: .double x :: r => nx (pc + 1) ls (.int (Op.cmpValue (FP.dcmp x y) o) :: r) h
    | _ => none
  | .ifCond c off => match st with
    | .int x :: r => (jmp pc off).bind fun t => brI c x 0 (nx t ls r h) (nx (pc + 3) ls r h)
    | _ => none
  | .if_icmp c off => match st with
    | .int y :: .int x :: r => (jmp pc off).bind fun t => brI c x y (nx t ls r h) (nx (pc + 3) ls r h)
    | _ => none
  | .if_acmp c off => match st with
    | w :: v :: r => ift (isA v = true ∧ isA w = true) ((jmp pc off).bind fun t => brA c v w (nx t ls r h) (nx (pc + 3) ls r h))
    | _ => none
  | .ifnull off => match st with
    | v :: r => ift (isA v = true) ((jmp pc off).bind fun t => brA .eq v .null (nx t ls r h) (nx (pc + 3) ls r h))
    | _ => none
  | .ifnonnull off => match st with
    | v :: r => ift (isA v = true) ((jmp pc off).bind fun t => brA .ne v .null (nx t ls r h) (nx (pc + 3) ls r h))
    | _ => none
  | .goto off => (jmp pc off).bind fun t => nx t ls st h
  | .tableswitch df lo hi offs => match st with
    | .int x :: r => (if x.toInt < lo ∨ hi < x.toInt then jmp pc df else (offs[(x.toInt - lo).toNat]?).bind fun o => jmp pc o).bind fun t => nx t ls r h
    | _ => none
  | .iinc k i => match ls[k]? with
    | some (.int x) => sto (mJ M) ls k (.int (x + Int32.ofInt i)) fun l => nx (pc + 3) l st h
    | _ => none
  | .dup => match st with
    | v :: r => ift (is1 v = true) (nx (pc + 1) ls (v :: v :: r) h)
    | _ => none
  | .dup_x1 => match st with
    | v :: w :: r => ift (is1 v = true ∧ is1 w = true) (nx (pc + 1) ls (v :: w :: v :: r) h)
    | _ => none
  | .dup2 => match st with
    | v :: w :: r => ift (is1 v = true ∧ is1 w = true) (nx (pc + 1) ls (v :: w :: v :: w :: r) h)
    | _ => none
  | .pop => match st with
    | v :: r => ift (is1 v = true) (nx (pc + 1) ls r h)
    | _ => none
  | .getfield i => match st with
    | .ref a :: r => (TT.1 (mO M) i).bind fun q => (ob h a q.1).bind fun fs => (fs[q.2]?).bind fun v => nx (pc + 3) ls (v :: r) h
    | _ => none
  | .putfield i => match st with
    | v :: .ref a :: r => (TT.1 (mO M) i).bind fun q => (ob h a q.1).bind fun fs => ift ((q.2 < fs.length ∧ okF (tyC q.1 q.2) v = true) ∧ ((TC q.1 q.2).2.2.2 = false ∨ (mI M = true ∧ mO M = q.1))) (nx (pc + 3) ls r (hset h a (.inr (q.1, fs.set q.2 v))))
    | _ => none
  | .getstatic i => ift (mO M = 0 ∧ i = 39) (nx (pc + 3) ls (.ref E.2.1 :: st) h)
  | .ldc i => match mO M, i with
    | 11, 200 => nx (pc + 2) ls (.int 2147483639 :: st) h
    | 8, 110 => nx (pc + 2) ls (.ref E.2.2 :: st) h
    | 7, 7 => nx (pc + 2) ls (.int 40503 :: st) h
    | 7, 125 => nx (pc + 2) ls (.float 3264610304 :: st) h
    | _, _ => none
  | .ldc2_w i => match mO M, i with
    | 7, 213 => nx (pc + 3) ls (.long 31 :: st) h
    | 7, 219 => nx (pc + 3) ls (.long 7 :: st) h
    | 7, 221 => nx (pc + 3) ls (.long 101 :: st) h
    | 7, 226 => nx (pc + 3) ls (.long 11 :: st) h
    | 7, 228 => nx (pc + 3) ls (.long 13 :: st) h
    | 7, 230 => nx (pc + 3) ls (.long 17 :: st) h
    | _, _ => none
  | .iaload => match st with
    | .int i :: .ref a :: r => (rdI E h a 0).bind fun q => ift (inB i q.1 = true) (nx (pc + 1) ls (.int (q.2 i.toNatClampNeg) :: r) h)
    | _ => none
  | .baload => match st with
    | .int i :: .ref a :: r => (rdI E h a 1).bind fun q => ift (inB i q.1 = true) (nx (pc + 1) ls (.int (q.2 i.toNatClampNeg) :: r) h)
    | _ => none
  | .caload => match st with
    | .int i :: .ref a :: r => (rdI E h a 5).bind fun q => ift (inB i q.1 = true) (nx (pc + 1) ls (.int (q.2 i.toNatClampNeg) :: r) h)
    | _ => none
  | .laload => match st with
    | .int i :: .ref a :: r => (rdJ E h a).bind fun q => ift (inB i q.1 = true) (nx (pc + 1) ls (.long (q.2 i.toNatClampNeg) :: r) h)
    | _ => none
  | .daload => match st with
    | .int i :: .ref a :: r => (rdD E h a).bind fun q => ift (inB i q.1 = true) (nx (pc + 1) ls (.double (q.2 i.toNatClampNeg) :: r) h)
    | _ => none
  | .aaload => match st with
    | .int i :: .ref a :: r => (rdA h a).bind fun q => ift (inB i q.1 = true) (nx (pc + 1) ls (va_rf (q.2 i.toNatClampNeg) :: r) h)
    | _ => none
  | .iastore => match st with
    | .int x :: .int i :: .ref a :: r => (rwI h a 0).bind fun q => ift (inB i q.1 = true) (nx (pc + 1) ls r (hset h a (.inl (0, q.1, .inl (upd q.2 i.toNatClampNeg x)))))
    | _ => none
  | .bastore => match st with
    | .int x :: .int i :: .ref a :: r => (rwI h a 1).bind fun q => ift (inB i q.1 = true ∧ ok01 (.int x) = true) (nx (pc + 1) ls r (hset h a (.inl (1, q.1, .inl (upd q.2 i.toNatClampNeg x)))))
    | _ => none
  | .castore => match st with
    | .int x :: .int i :: .ref a :: r => (rwI h a 5).bind fun q => ift (inB i q.1 = true ∧ ok16 (.int x) = true) (nx (pc + 1) ls r (hset h a (.inl (5, q.1, .inl (upd q.2 i.toNatClampNeg x)))))
    | _ => none
  | .lastore => match st with
    | .long x :: .int i :: .ref a :: r => (rwJ h a).bind fun q => ift (inB i q.1 = true) (nx (pc + 1) ls r (hset h a (.inl (2, q.1, .inr (.inl (vp_updL q.2 i.toNatClampNeg x))))))
    | _ => none
  | .dastore => match st with
    | .double x :: .int i :: .ref a :: r => (rwD h a).bind fun q => ift (inB i q.1 = true) (nx (pc + 1) ls r (hset h a (.inl (3, q.1, .inr (.inr (.inr (.inl (vf_upd q.2 i.toNatClampNeg x))))))))
    | _ => none
  | .aastore => match st with
    | .ref v :: .int i :: .ref a :: r => (rdA h a).bind fun q => ift (inB i q.1 = true ∧ isO h v = true) (nx (pc + 1) ls r (hset h a (.inl (4, q.1, .inr (.inr (.inr (.inr (va_up q.2 i.toNatClampNeg (some v)))))))))
    | .null :: .int i :: .ref a :: r => (rdA h a).bind fun q => ift (inB i q.1 = true) (nx (pc + 1) ls r (hset h a (.inl (4, q.1, .inr (.inr (.inr (.inr (va_up q.2 i.toNatClampNeg none))))))))
    | _ => none
  | .arraylength => match st with
    | .ref a :: r => (rdN E h a).bind fun N => nx (pc + 1) ls (.int (Int32.ofNat N) :: r) h
    | _ => none
  | .newarray t => match st with
    | .int i :: r => (zer t).bind fun z => ift (¬ i < 0 ∧ i.toNatClampNeg ≤ 1000000) (some (.inr (.inl (i.toNatClampNeg, fun q => (pc + 2, ls, .ref q :: r, hset h q (.inl (z.1, z.2 i.toNatClampNeg)))))))
    | _ => none
  | .anewarray ix => match st with
    | .int i :: r => ift ((¬ i < 0 ∧ i.toNatClampNeg ≤ 1000000) ∧ ((mO M = 0 ∧ ix = 7) ∨ (mO M = 8 ∧ ix = 2))) (some (.inr (.inl (i.toNatClampNeg, fun q => (pc + 3, ls, .ref q :: r, hset h q (.inl (4, i.toNatClampNeg, .inr (.inr (.inr (.inr (fun _ => none)))))))))))
    | _ => none
  | .new i => match TT.2.1 (mO M) i with
    | some ci => some (.inr (.inl (nC ci, fun q => (pc + 3, ls, .ref q :: st, hset h q (.inr (ci, dfl ci))))))
    | none => (look (mT M) pc).bind fun x => ift (6 ≤ d ∧ st.length ≤ 4) (some (.inr (.inr (.inr (.inr x)))))
  | .checkcast i => match st with
    | .ref a :: r => (TT.2.2.1 (mO M) i).bind fun ci => (ob h a ci).bind fun _ => nx (pc + 3) ls (.ref a :: r) h
    | _ => none
  | .invokevirtual i => (TT.2.2.2 (mO M) i).bind fun q => ift (q.1 = 0 ∨ q.1 = 8) (inv E d pc ls st h q)
  | .invokespecial i => (TT.2.2.2 (mO M) i).bind fun q => ift (q.1 = 1 ∨ q.1 = 3) (inv E d pc ls st h q)
  | .invokestatic i => (TT.2.2.2 (mO M) i).bind fun q => ift (q.1 = 2 ∨ (4 ≤ q.1 ∧ q.1 ≤ 7)) (inv E d pc ls st h q)
  | .ireturn => match st with
    | [.int x] => ift (okR (mR M) (.int x) = true) (some (.inr (.inr (.inr (.inl (some (.int x)))))))
    | _ => none
  | .lreturn => match st with
    | [.long x] => ift (okS (mR M) = 1) (some (.inr (.inr (.inr (.inl (some (.long x)))))))
    | _ => none
  | .freturn => match st with
    | [.float x] => ift (okS (mR M) = 2) (some (.inr (.inr (.inr (.inl (some (.float x)))))))
    | _ => none
  | .areturn => match st with
    | [v] => ift (isA v = true ∧ okS (mR M) = 3) (some (.inr (.inr (.inr (.inl (some v))))))
    | _ => none
  | .return_ => match st with
    | [] => ift (okS (mR M) = 0) (some (.inr (.inr (.inr (.inl none)))))
    | _ => none
  | _ => none
end
section
def ilen (i : Instr) : Nat := match i with
  | .aload _ => 2
  | .iload _ => 2
  | .fload _ => 2
  | .lload _ => 2
  | .lstore _ => 2
  | .ldc2_w _ => 3
  | .istore _ => 2
  | .fstore _ => 2
  | .astore _ => 2
  | .bipush _ => 2
  | .sipush _ => 3
  | .ifCond _ _ => 3
  | .if_icmp _ _ => 3
  | .if_acmp _ _ => 3
  | .ifnull _ => 3
  | .ifnonnull _ => 3
  | .goto _ => 3
  | .iinc _ _ => 3
  | .getfield _ => 3
  | .putfield _ => 3
  | .getstatic _ => 3
  | .ldc _ => 2
  | .newarray _ => 2
  | .anewarray _ => 3
  | .new _ => 3
  | .checkcast _ => 3
  | .invokevirtual _ => 3
  | .invokespecial _ => 3
  | .invokestatic _ => 3
  | _ => 1
def lenOK (i : Instr) (len : Nat) : Bool := match i with
  | .tableswitch _ _ _ _ => true
  | i => Nat.beq (ilen i) len
abbrev PT : Type := Nat → List Value → List Value → AH → Nat → Nat → Prop
abbrev CT : Type := MD → List Value → AH → Nat → Nat → (Out → AH → Prop) → Prop
/-- the handler of M at pc that takes the exception X -/
def hdl (M : MD) (pc X : Nat) : Option Nat := ((mH M).find? (fun x => decide (x.1 ≤ pc) && decide (pc < x.2.1) && Nat.beq x.2.2.2 X)).map (fun x => x.2.2.1)
def Aft (P : PT) (Q : Out → AH → Prop) (M : MD) (ini : Bool) (pc : Nat) (ls st : List Value) (o : Out) (h : AH) (c n : Nat) : Prop := match o with
  | .inl v => P (pc + 3) ls (v.toList ++ st) h c n
  | .inr X => ini = false ∧ match hdl M pc X with
    | some t => ∀ q, P t ls [.ref q] h c n
    | none => Q (.inr X) h
def STr (E : EN) (CR : CT) (M : MD) (Q : Out → AH → Prop) (P : PT) (pc : Nat) (ls : List Value) (h : AH) (c n : Nat) (r : Option RES) : Prop := match r with
  | none => False
  | some (.inl x) => P x.1 x.2.1 x.2.2.1 x.2.2.2 c n
  | some (.inr (.inl x)) => 1 ≤ c ∧ x.1 ≤ n ∧ ∀ q, h q = none → E.1 q = none → P (x.2 q).1 (x.2 q).2.1 (x.2 q).2.2.1 (x.2 q).2.2.2 (c - 1) (n - x.1)
  | some (.inr (.inr (.inl x))) => ∃ c' n', c' ≤ c ∧ n' ≤ n ∧ CR x.1 x.2.1 h c' n' (fun o h' => Aft P Q M (mI x.1) pc ls x.2.2 o h' (c - c') (n - n'))
  | some (.inr (.inr (.inr (.inl v)))) => Q (.inl v) h
  | some (.inr (.inr (.inr (.inr X)))) => 1 ≤ c ∧ 6 ≤ n ∧ Q (.inr X) h
def ST (TT : TAB) (E : EN) (d : Nat) (CR : CT) (M : MD) (Q : Out → AH → Prop) (P : PT) (pc : Nat) (ls st : List Value) (h : AH) (c n : Nat) : Prop := match decode (mB M) pc with
  | .ok x => lenOK x.1 x.2 = true ∧ STr E CR M Q P pc ls h c n (stp TT E d M pc ls st h x.1)
  | .error _ => False
def LF (TT : TAB) (E : EN) (d : Nat) (CR : CT) (M : MD) (Q : Out → AH → Prop) (pc : Nat) (ls st : List Value) (h : AH) (c n : Nat) : Prop :=
  ∀ P : PT, (∀ pc ls st h c n, ST TT E d CR M Q P pc ls st h c n → P pc ls st h c n) → P pc ls st h c n
def ent (M : MD) (as : List Value) : List Value := as ++ List.replicate (mL M - as.length) (.retAddr 0)
def argOK (M : MD) (as : List Value) : Bool := decide (as.length ≤ mL M) && as.all is1
def EvR (TT : TAB) (E : EN) : Nat → MD → (Out → AH → Prop) → PT
  | 0 => fun M Q pc ls st h c n => LF TT E 0 (fun _ _ _ _ _ _ => False) M Q pc ls st h c n
  | d + 1 => fun M Q pc ls st h c n => LF TT E (d + 1) (fun M' as h c n K => argOK M' as = true ∧ EvR TT E d M' K 0 (ent M' as) [] h c n) M Q pc ls st h c n
def CRd (TT : TAB) (E : EN) (d : Nat) : CT := match d with
  | 0 => fun _ _ _ _ _ _ => False
  | d + 1 => fun M' as h c n K => argOK M' as = true ∧ EvR TT E d M' K 0 (ent M' as) [] h c n
theorem EvR_eq (TT : TAB) (E : EN) (d : Nat) (M : MD) (Q : Out → AH → Prop) (pc : Nat) (ls st : List Value) (h : AH) (c n : Nat) : EvR TT E d M Q pc ls st h c n = LF TT E d (CRd TT E d) M Q pc ls st h c n := by
  cases d <;> rfl
def CM (CR : CT) : Prop := ∀ M as h c n (K K' : Out → AH → Prop), (∀ o h, K o h → K' o h) → CR M as h c n K → CR M as h c n K'
theorem Aft_mono {P P' : PT} {Q Q' : Out → AH → Prop} (hp : ∀ pc ls st h c n, P pc ls st h c n → P' pc ls st h c n) (hq : ∀ o h, Q o h → Q' o h) {M : MD} {ini : Bool} {pc : Nat} {ls st : List Value} {o : Out} {h : AH} {c n : Nat} (H : Aft P Q M ini pc ls st o h c n) : Aft P' Q' M ini pc ls st o h c n := by
  unfold Aft at H ⊢
  cases o with
  | inl v => exact hp _ _ _ _ _ _ H
  | inr X =>
    dsimp only at H ⊢
    refine ⟨H.1, ?_⟩
    have H := H.2
    cases hh : hdl M pc X with
    | some t => rw [hh] at H; exact fun q => hp _ _ _ _ _ _ (H q)
    | none => rw [hh] at H; exact hq _ _ H
theorem STr_mono {E : EN} {CR : CT} (hc : CM CR) {M : MD} {Q Q' : Out → AH → Prop} {P P' : PT} (hp : ∀ pc ls st h c n, P pc ls st h c n → P' pc ls st h c n) (hq : ∀ o h, Q o h → Q' o h) {pc : Nat} {ls : List Value} {h : AH} {c n : Nat} {r : Option RES} (H : STr E CR M Q P pc ls h c n r) : STr E CR M Q' P' pc ls h c n r := by
  unfold STr at H ⊢
  match r with
  | none => exact H
  | some (.inl x) => exact hp _ _ _ _ _ _ H
  | some (.inr (.inl x)) => exact ⟨H.1, H.2.1, fun q h1 h2 => hp _ _ _ _ _ _ (H.2.2 q h1 h2)⟩
  | some (.inr (.inr (.inl x))) =>
    obtain ⟨c', n', h1, h2, h3⟩ := H
    exact ⟨c', n', h1, h2, hc _ _ _ _ _ _ _ (fun o h' => Aft_mono hp hq) h3⟩
  | some (.inr (.inr (.inr (.inl v)))) => exact hq _ _ H
  | some (.inr (.inr (.inr (.inr X)))) => exact ⟨H.1, H.2.1, hq _ _ H.2.2⟩
theorem ST_mono {TT : TAB} {E : EN} {d : Nat} {CR : CT} (hc : CM CR) {M : MD} {Q Q' : Out → AH → Prop} {P P' : PT} (hp : ∀ pc ls st h c n, P pc ls st h c n → P' pc ls st h c n) (hq : ∀ o h, Q o h → Q' o h) {pc : Nat} {ls st : List Value} {h : AH} {c n : Nat} (H : ST TT E d CR M Q P pc ls st h c n) : ST TT E d CR M Q' P' pc ls st h c n := by
  unfold ST at H ⊢
  cases hd : decode (mB M) pc with
  | ok x => rw [hd] at H; exact ⟨H.1, STr_mono hc hp hq H.2⟩
  | error z => rw [hd] at H; exact H
theorem LF_iff {TT : TAB} {E : EN} {d : Nat} {CR : CT} (hc : CM CR) {M : MD} {Q : Out → AH → Prop} {pc : Nat} {ls st : List Value} {h : AH} {c n : Nat} : LF TT E d CR M Q pc ls st h c n ↔ ST TT E d CR M Q (LF TT E d CR M Q) pc ls st h c n := by
  have fold : ∀ pc ls st h c n, ST TT E d CR M Q (LF TT E d CR M Q) pc ls st h c n → LF TT E d CR M Q pc ls st h c n := fun pc ls st h c n H P hP => hP _ _ _ _ _ _ (ST_mono hc (fun pc ls st h c n H => H P hP) (fun _ _ q => q) H)
  exact ⟨fun H => H (ST TT E d CR M Q (LF TT E d CR M Q)) (fun pc ls st h c n H => ST_mono hc fold (fun _ _ q => q) H), fold _ _ _ _ _ _⟩
theorem LF_mono {TT : TAB} {E : EN} {d : Nat} {CR : CT} (hc : CM CR) {M : MD} {Q Q' : Out → AH → Prop} (hq : ∀ o h, Q o h → Q' o h) {pc : Nat} {ls st : List Value} {h : AH} {c n : Nat} (H : LF TT E d CR M Q pc ls st h c n) : LF TT E d CR M Q' pc ls st h c n :=
  fun P hP => H P (fun pc ls st h c n H => hP _ _ _ _ _ _ (ST_mono hc (fun _ _ _ _ _ _ q => q) hq H))
theorem CRd_mono (TT : TAB) (E : EN) : ∀ d, CM (CRd TT E d)
  | 0 => fun _ _ _ _ _ _ _ _ H => H
  | d + 1 => fun M as h c n K K' hk H => by
    have H : argOK M as = true ∧ EvR TT E d M K 0 (ent M as) [] h c n := H
    refine (⟨H.1, ?_⟩ : argOK M as = true ∧ EvR TT E d M K' 0 (ent M as) [] h c n)
    have H := H.2
    rw [EvR_eq] at H ⊢
    exact LF_mono (CRd_mono TT E d) hk H
theorem Ev_iff {TT : TAB} {E : EN} {d : Nat} {M : MD} {Q : Out → AH → Prop} {pc : Nat} {ls st : List Value} {h : AH} {c n : Nat} : EvR TT E d M Q pc ls st h c n ↔ ST TT E d (CRd TT E d) M Q (EvR TT E d M Q) pc ls st h c n := by
  have e : EvR TT E d M Q = LF TT E d (CRd TT E d) M Q := by
    funext pc ls st h c n
    exact EvR_eq _ _ _ _ _ _ _ _ _ _ _
  rw [e]
  exact LF_iff (CRd_mono TT E d)
theorem Ev_mono {TT : TAB} {E : EN} {d : Nat} {M : MD} {Q Q' : Out → AH → Prop} (hq : ∀ o h, Q o h → Q' o h) {pc : Nat} {ls st : List Value} {h : AH} {c n : Nat} (H : EvR TT E d M Q pc ls st h c n) : EvR TT E d M Q' pc ls st h c n := by
  rw [EvR_eq] at H ⊢
  exact LF_mono (CRd_mono TT E d) hq H
theorem Ev_at {TT : TAB} {E : EN} {d : Nat} {M : MD} {Q : Out → AH → Prop} {pc : Nat} {ls st : List Value} {h : AH} {c n : Nat} {cc : ByteArray} {i : Instr} {len : Nat} (hM : mB M = cc) (hd : decode cc pc = .ok (i, len)) (hl : lenOK i len = true) : EvR TT E d M Q pc ls st h c n ↔ STr E (CRd TT E d) M Q (EvR TT E d M Q) pc ls h c n (stp TT E d M pc ls st h i) := by
  rw [Ev_iff]
  unfold ST
  rw [hM, hd]
  exact ⟨fun H => H.2, fun H => ⟨hl, H⟩⟩
section ROWS
variable {TT : TAB} {E : EN} {d : Nat} {M : MD} {Q : Out → AH → Prop} {pc : Nat} {ls st : List Value} {h : AH} {c n : Nat} {cc : ByteArray} {i : Instr} {len : Nat}
/-- straight on -/
theorem r_nx (hM : mB M = cc) (hd : decode cc pc = .ok (i, len)) (hl : lenOK i len = true) {x : CF} (hs : stp TT E d M pc ls st h i = some (.inl x)) : EvR TT E d M Q pc ls st h c n ↔ EvR TT E d M Q x.1 x.2.1 x.2.2.1 x.2.2.2 c n := by
  rw [Ev_at hM hd hl, hs]; exact Iff.rfl
theorem r_if (hM : mB M = cc) (hd : decode cc pc = .ok (i, len)) (hl : lenOK i len = true) {x : CF} {b : Prop} [Decidable b] (hs : stp TT E d M pc ls st h i = ift b (some (.inl x))) : EvR TT E d M Q pc ls st h c n ↔ b ∧ EvR TT E d M Q x.1 x.2.1 x.2.2.1 x.2.2.2 c n := by
  rw [Ev_at hM hd hl, hs]
  unfold ift
  by_cases hb : b
  · rw [if_pos hb]; exact ⟨fun H => ⟨hb, H⟩, fun H => H.2⟩
  · rw [if_neg hb]; exact ⟨fun H => H.elim, fun H => absurd H.1 hb⟩
theorem r_br (hM : mB M = cc) (hd : decode cc pc = .ok (i, len)) (hl : lenOK i len = true) {x y : CF} {b : Prop} [Decidable b] (hs : stp TT E d M pc ls st h i = if b then some (.inl x) else some (.inl y)) : EvR TT E d M Q pc ls st h c n ↔ if b then EvR TT E d M Q x.1 x.2.1 x.2.2.1 x.2.2.2 c n else EvR TT E d M Q y.1 y.2.1 y.2.2.1 y.2.2.2 c n := by
  rw [Ev_at hM hd hl, hs]
  by_cases hb : b
  · rw [if_pos hb, if_pos hb]; exact Iff.rfl
  · rw [if_neg hb, if_neg hb]; exact Iff.rfl
theorem r_ifbr (hM : mB M = cc) (hd : decode cc pc = .ok (i, len)) (hl : lenOK i len = true) {x y : CF} {a b : Prop} [Decidable a] [Decidable b] (hs : stp TT E d M pc ls st h i = ift a (if b then some (.inl x) else some (.inl y))) : EvR TT E d M Q pc ls st h c n ↔ a ∧ if b then EvR TT E d M Q x.1 x.2.1 x.2.2.1 x.2.2.2 c n else EvR TT E d M Q y.1 y.2.1 y.2.2.1 y.2.2.2 c n := by
  rw [Ev_at hM hd hl, hs]
  unfold ift
  by_cases ha : a
  · rw [if_pos ha]
    by_cases hb : b
    · rw [if_pos hb, if_pos hb]; exact ⟨fun H => ⟨ha, H⟩, fun H => H.2⟩
    · rw [if_neg hb, if_neg hb]; exact ⟨fun H => ⟨ha, H⟩, fun H => H.2⟩
  · rw [if_neg ha]; exact ⟨fun H => H.elim, fun H => absurd H.1 ha⟩
/-- a read -/
theorem r_bd (hM : mB M = cc) (hd : decode cc pc = .ok (i, len)) (hl : lenOK i len = true) {α : Type} {o : Option α} {x : α → CF} (hs : stp TT E d M pc ls st h i = o.bind fun z => some (.inl (x z))) : EvR TT E d M Q pc ls st h c n ↔ ∃ z, o = some z ∧ EvR TT E d M Q (x z).1 (x z).2.1 (x z).2.2.1 (x z).2.2.2 c n := by
  rw [Ev_at hM hd hl, hs]
  cases o with
  | none => exact ⟨fun H => H.elim, fun ⟨z, hz, _⟩ => nomatch hz⟩
  | some z => exact ⟨fun H => ⟨z, rfl, H⟩, fun ⟨z', hz, H⟩ => by cases hz; exact H⟩
/-- a read with a test -/
theorem r_bi (hM : mB M = cc) (hd : decode cc pc = .ok (i, len)) (hl : lenOK i len = true) {α : Type} {o : Option α} {b : α → Prop} [∀ z, Decidable (b z)] {x : α → CF} (hs : stp TT E d M pc ls st h i = o.bind fun z => ift (b z) (some (.inl (x z)))) : EvR TT E d M Q pc ls st h c n ↔ ∃ z, o = some z ∧ b z ∧ EvR TT E d M Q (x z).1 (x z).2.1 (x z).2.2.1 (x z).2.2.2 c n := by
  rw [Ev_at hM hd hl, hs]
  cases o with
  | none => exact ⟨fun H => H.elim, fun ⟨z, hz, _⟩ => nomatch hz⟩
  | some z =>
    show STr E _ M Q _ pc ls h c n (ift (b z) _) ↔ _
    unfold ift
    by_cases hb : b z
    · rw [if_pos hb]; exact ⟨fun H => ⟨z, rfl, hb, H⟩, fun ⟨z', hz, _, H⟩ => by cases hz; exact H⟩
    · rw [if_neg hb]; exact ⟨fun H => H.elim, fun ⟨z', hz, h2, _⟩ => by cases hz; exact absurd h2 hb⟩
/-- two reads -/
theorem r_bb (hM : mB M = cc) (hd : decode cc pc = .ok (i, len)) (hl : lenOK i len = true) {α β : Type} {o : Option α} {o2 : α → Option β} {x : α → β → CF} (hs : stp TT E d M pc ls st h i = o.bind fun z => (o2 z).bind fun w => some (.inl (x z w))) : EvR TT E d M Q pc ls st h c n ↔ ∃ z, o = some z ∧ ∃ w, o2 z = some w ∧ EvR TT E d M Q (x z w).1 (x z w).2.1 (x z w).2.2.1 (x z w).2.2.2 c n := by
  rw [Ev_at hM hd hl, hs]
  cases o with
  | none => exact ⟨fun H => H.elim, fun ⟨z, hz, _⟩ => nomatch hz⟩
  | some z =>
    show STr E _ M Q _ pc ls h c n ((o2 z).bind _) ↔ _
    cases h2 : o2 z with
    | none => exact ⟨fun H => H.elim, fun ⟨z', hz, w, hw, _⟩ => by cases hz; rw [h2] at hw; cases hw⟩
    | some w => exact ⟨fun H => ⟨z, rfl, w, h2, H⟩, fun ⟨z', hz, w', hw, H⟩ => by cases hz; rw [h2] at hw; cases hw; exact H⟩
/-- two reads and a test -/
theorem r_bbi (hM : mB M = cc) (hd : decode cc pc = .ok (i, len)) (hl : lenOK i len = true) {α β : Type} {o : Option α} {o2 : α → Option β} {b : α → β → Prop} [∀ z w, Decidable (b z w)] {x : α → β → CF} (hs : stp TT E d M pc ls st h i = o.bind fun z => (o2 z).bind fun w => ift (b z w) (some (.inl (x z w)))) : EvR TT E d M Q pc ls st h c n ↔ ∃ z, o = some z ∧ ∃ w, o2 z = some w ∧ b z w ∧ EvR TT E d M Q (x z w).1 (x z w).2.1 (x z w).2.2.1 (x z w).2.2.2 c n := by
  rw [Ev_at hM hd hl, hs]
  cases o with
  | none => exact ⟨fun H => H.elim, fun ⟨z, hz, _⟩ => nomatch hz⟩
  | some z =>
    show STr E _ M Q _ pc ls h c n ((o2 z).bind _) ↔ _
    cases h2 : o2 z with
    | none => exact ⟨fun H => H.elim, fun ⟨z', hz, w, hw, _⟩ => by cases hz; rw [h2] at hw; cases hw⟩
    | some w =>
      show STr E _ M Q _ pc ls h c n (ift (b z w) _) ↔ _
      unfold ift
      by_cases hb : b z w
      · rw [if_pos hb]; exact ⟨fun H => ⟨z, rfl, w, h2, hb, H⟩, fun ⟨z', hz, w', hw, _, H⟩ => by cases hz; rw [h2] at hw; cases hw; exact H⟩
      · rw [if_neg hb]; exact ⟨fun H => H.elim, fun ⟨z', hz, w', hw, hb2, _⟩ => by cases hz; rw [h2] at hw; cases hw; exact absurd hb2 hb⟩
/-- something new -/
theorem r_new (hM : mB M = cc) (hd : decode cc pc = .ok (i, len)) (hl : lenOK i len = true) {k : Nat} {x : Nat → CF} (hs : stp TT E d M pc ls st h i = some (.inr (.inl (k, x)))) : EvR TT E d M Q pc ls st h c n ↔ 1 ≤ c ∧ k ≤ n ∧ ∀ q, h q = none → E.1 q = none → EvR TT E d M Q (x q).1 (x q).2.1 (x q).2.2.1 (x q).2.2.2 (c - 1) (n - k) := by
  rw [Ev_at hM hd hl, hs]; exact Iff.rfl
theorem r_newi (hM : mB M = cc) (hd : decode cc pc = .ok (i, len)) (hl : lenOK i len = true) {k : Nat} {b : Prop} [Decidable b] {x : Nat → CF} (hs : stp TT E d M pc ls st h i = ift b (some (.inr (.inl (k, x))))) : EvR TT E d M Q pc ls st h c n ↔ b ∧ 1 ≤ c ∧ k ≤ n ∧ ∀ q, h q = none → E.1 q = none → EvR TT E d M Q (x q).1 (x q).2.1 (x q).2.2.1 (x q).2.2.2 (c - 1) (n - k) := by
  rw [Ev_at hM hd hl, hs]
  unfold ift
  by_cases hb : b
  · rw [if_pos hb]; exact ⟨fun H => ⟨hb, H⟩, fun H => H.2⟩
  · rw [if_neg hb]; exact ⟨fun H => H.elim, fun H => absurd H.1 hb⟩
theorem r_ret (hM : mB M = cc) (hd : decode cc pc = .ok (i, len)) (hl : lenOK i len = true) {v : Option Value} {b : Prop} [Decidable b] (hs : stp TT E d M pc ls st h i = ift b (some (.inr (.inr (.inr (.inl v)))))) : EvR TT E d M Q pc ls st h c n ↔ b ∧ Q (.inl v) h := by
  rw [Ev_at hM hd hl, hs]
  unfold ift
  by_cases hb : b
  · rw [if_pos hb]; exact ⟨fun H => ⟨hb, H⟩, fun H => H.2⟩
  · rw [if_neg hb]; exact ⟨fun H => H.elim, fun H => absurd H.1 hb⟩
theorem r_thr (hM : mB M = cc) (hd : decode cc pc = .ok (i, len)) (hl : lenOK i len = true) {X : Nat} {b : Prop} [Decidable b] (hs : stp TT E d M pc ls st h i = ift b (some (.inr (.inr (.inr (.inr X)))))) : EvR TT E d M Q pc ls st h c n ↔ b ∧ 1 ≤ c ∧ 6 ≤ n ∧ Q (.inr X) h := by
  rw [Ev_at hM hd hl, hs]
  unfold ift
  by_cases hb : b
  · rw [if_pos hb]; exact ⟨fun H => ⟨hb, H⟩, fun H => H.2⟩
  · rw [if_neg hb]; exact ⟨fun H => H.elim, fun H => absurd H.1 hb⟩
/-- what a call owes: some room for it, its contract, and what comes behind -/
def Inv (TT : TAB) (E : EN) (d : Nat) (M M' : MD) (Q : Out → AH → Prop) (pc : Nat) (ls st as : List Value) (h : AH) (c n : Nat) : Prop := ∃ c' n', c' ≤ c ∧ n' ≤ n ∧ CRd TT E d M' as h c' n' (fun o h' => Aft (EvR TT E d M Q) Q M (mI M') pc ls st o h' (c - c') (n - n'))
theorem r_call (hM : mB M = cc) (hd : decode cc pc = .ok (i, len)) (hl : lenOK i len = true) {M' : MD} {as r : List Value} {b : Prop} [Decidable b] (hs : stp TT E d M pc ls st h i = ift b (some (.inr (.inr (.inl (M', as, r)))))) : EvR TT E d M Q pc ls st h c n ↔ b ∧ Inv TT E d M M' Q pc ls r as h c n := by
  rw [Ev_at hM hd hl, hs]
  unfold ift
  by_cases hb : b
  · rw [if_pos hb]; exact ⟨fun H => ⟨hb, H⟩, fun H => H.2⟩
  · rw [if_neg hb]; exact ⟨fun H => H.elim, fun H => absurd H.1 hb⟩
theorem r_callb (hM : mB M = cc) (hd : decode cc pc = .ok (i, len)) (hl : lenOK i len = true) {α : Type} {o : Option α} {M' : MD} {as r : List Value} {b : Prop} [Decidable b] (hs : stp TT E d M pc ls st h i = o.bind fun _ => ift b (some (.inr (.inr (.inl (M', as, r)))))) : EvR TT E d M Q pc ls st h c n ↔ (∃ z, o = some z) ∧ b ∧ Inv TT E d M M' Q pc ls r as h c n := by
  rw [Ev_at hM hd hl, hs]
  cases o with
  | none => exact ⟨fun H => H.elim, fun ⟨⟨z, hz⟩, _⟩ => nomatch hz⟩
  | some z =>
    show STr E _ M Q _ pc ls h c n (ift b _) ↔ _
    unfold ift
    by_cases hb : b
    · rw [if_pos hb]; exact ⟨fun H => ⟨⟨z, rfl⟩, hb, H⟩, fun H => H.2.2⟩
    · rw [if_neg hb]; exact ⟨fun H => H.elim, fun H => absurd H.2.1 hb⟩
theorem r_put (hM : mB M = cc) (hd : decode cc pc = .ok (i, len)) (hl : lenOK i len = true) {α : Type} {o : Option α} {b : α → Prop} {f : Prop} [∀ z, Decidable (b z)] [Decidable f] {x : α → CF} (hs : stp TT E d M pc ls st h i = o.bind fun z => ift (b z ∧ f) (some (.inl (x z)))) (hf : f) : EvR TT E d M Q pc ls st h c n ↔ ∃ z, o = some z ∧ b z ∧ EvR TT E d M Q (x z).1 (x z).2.1 (x z).2.2.1 (x z).2.2.2 c n := by
  rw [r_bi (b := fun z => b z ∧ f) hM hd hl hs]
  exact ⟨fun ⟨z, h1, h2, h3⟩ => ⟨z, h1, h2.1, h3⟩, fun ⟨z, h1, h2, h3⟩ => ⟨z, h1, ⟨h2, hf⟩, h3⟩⟩
theorem r_callv (hM : mB M = cc) (hd : decode cc pc = .ok (i, len)) (hl : lenOK i len = true) {α : Type} {o : Option α} {M' : MD} {as r : List Value} {p b : Prop} [Decidable p] [Decidable b] (hs : stp TT E d M pc ls st h i = o.bind fun _ => ift (p ∧ b) (some (.inr (.inr (.inl (M', as, r)))))) (hp : p) : EvR TT E d M Q pc ls st h c n ↔ (∃ z, o = some z) ∧ b ∧ Inv TT E d M M' Q pc ls r as h c n := by
  rw [r_callb hM hd hl hs]
  exact ⟨fun H => ⟨H.1, H.2.1.2, H.2.2⟩, fun H => ⟨H.1, ⟨hp, H.2.1⟩, H.2.2⟩⟩
theorem r_callp (hM : mB M = cc) (hd : decode cc pc = .ok (i, len)) (hl : lenOK i len = true) {M' : MD} {as r : List Value} {p b : Prop} [Decidable p] [Decidable b] (hs : stp TT E d M pc ls st h i = ift (p ∧ b) (some (.inr (.inr (.inl (M', as, r)))))) (hp : p) : EvR TT E d M Q pc ls st h c n ↔ b ∧ Inv TT E d M M' Q pc ls r as h c n := by
  rw [r_call hM hd hl hs]
  exact ⟨fun H => ⟨H.1.2, H.2⟩, fun H => ⟨⟨hp, H.1⟩, H.2⟩⟩
theorem r_retp (hM : mB M = cc) (hd : decode cc pc = .ok (i, len)) (hl : lenOK i len = true) {v : Option Value} {b : Prop} [Decidable b] (hs : stp TT E d M pc ls st h i = ift b (some (.inr (.inr (.inr (.inl v)))))) (hb : b) : EvR TT E d M Q pc ls st h c n ↔ Q (.inl v) h := by
  rw [r_ret hM hd hl hs]
  exact ⟨fun H => H.2, fun H => ⟨hb, H⟩⟩
theorem r_ret2 (hM : mB M = cc) (hd : decode cc pc = .ok (i, len)) (hl : lenOK i len = true) {v : Option Value} {a b : Prop} [Decidable a] [Decidable b] (hs : stp TT E d M pc ls st h i = ift (a ∧ b) (some (.inr (.inr (.inr (.inl v)))))) (hb : b) : EvR TT E d M Q pc ls st h c n ↔ a ∧ Q (.inl v) h := by
  rw [r_ret hM hd hl hs]
  exact ⟨fun H => ⟨H.1.1, H.2⟩, fun H => ⟨⟨H.1, hb⟩, H.2⟩⟩
end ROWS
end
section
/-! methods, by program -/
def mX0_init : MD := (yX0_init, cX0_init, 2, none, [], 1, [], true, [])
def mX0_append : MD := (yX0_append, cX0_append, 2, none, [], 1, [], false, [])
def mX0_forget : MD := (yX0_forget, cX0_forget, 3, none, [], 1, [], false, [])
def mX0_takeOut : MD := (yX0_takeOut, cX0_takeOut, 3, none, [], 1, [], false, [])
def mX0_lastBetween : MD := (yX0_lastBetween, cX0_lastBetween, 4, (some (.int)), [], 1, [], false, [])
def mX1_init : MD := (yX1_init, cX1_init, 5, none, [], 2, [], true, [])
def mX1_needs : MD := (yX1_needs, cX1_needs, 2, (some (.boolean)), [], 2, [], false, [])
def mX2_init : MD := (yX2_init, cX2_init, 1, none, [], 3, [], true, [])
def mX2_write : MD := (yX2_write, cX2_write, 4, none, [], 3, [], false, [])
def mX2_conditionAt : MD := (yX2_conditionAt, cX2_conditionAt, 2, (some (.char)), [], 3, [], false, [])
def mX2_lastStateOf : MD := (yX2_lastStateOf, cX2_lastStateOf, 3, (some (.char)), [], 3, [], false, [])
def mX3_init : MD := (yX3_init, cX3_init, 3, none, [], 4, [], true, [])
def mX4_init : MD := (yX4_init, cX4_init, 1, none, [], 5, [], true, [])
def mX4_open : MD := (yX4_open, cX4_open, 3, (some (.int)), [], 5, [(13, 1)], false, [])
def mX4_drop : MD := (yX4_drop, cX4_drop, 4, (some (.int)), [], 5, [(13, 1)], false, [])
def mX4_takeUp : MD := (yX4_takeUp, cX4_takeUp, 4, (some (.int)), [], 5, [(13, 1)], false, [])
def mX4_isAttached : MD := (yX4_isAttached, cX4_isAttached, 2, (some (.boolean)), [], 5, [], false, [])
def mX4_kept : MD := (yX4_kept, cX4_kept, 2, (some (.int)), [], 5, [], false, [])
def mX4_commandAt : MD := (yX4_commandAt, cX4_commandAt, 3, (some (.int)), [], 5, [], false, [])
def mX4_common : MD := (yX4_common, cX4_common, 1, (some (.int)), [], 5, [], false, [])
def mX4_commonAt : MD := (yX4_commonAt, cX4_commonAt, 2, (some (.int)), [], 5, [], false, [])
def mX4_search : MD := (yX4_search, cX4_search, 6, (some (.int)), [], 5, [(22, 4), (75, 3)], false, [])
def mX4_start : MD := (yX4_start, cX4_start, 9, (some (.int)), [], 5, [(29, 4), (52, 5), (78, 1)], false, [])
def mX4_state : MD := (yX4_state, cX4_state, 2, (some (.char)), [], 5, [], false, [])
def mX4_stateByJournal : MD := (yX4_stateByJournal, cX4_stateByJournal, 2, (some (.char)), [], 5, [], false, [])
def mX4_toDo : MD := (yX4_toDo, cX4_toDo, 2, (some (.int)), [], 5, [], false, [])
def mX4_sessionOf : MD := (yX4_sessionOf, cX4_sessionOf, 2, (some (.int)), [], 5, [], false, [])
def mX4_front : MD := (yX4_front, cX4_front, 2, (some (.int)), [], 5, [], false, [])
def mX4_toFront : MD := (yX4_toFront, cX4_toFront, 5, (some (.boolean)), [], 5, [(26, 5), (43, 1)], false, [])
def mX4_toBack : MD := (yX4_toBack, cX4_toBack, 4, (some (.int)), [], 5, [], false, [])
def mX4_count : MD := (yX4_count, cX4_count, 7, (some (.int)), [], 5, [(13, 4)], false, [])
def mX4_holder : MD := (yX4_holder, cX4_holder, 2, (some (.int)), [], 5, [], false, [])
def mX4_holderByJobs : MD := (yX4_holderByJobs, cX4_holderByJobs, 4, (some (.int)), [], 5, [], false, [])
def mX4_holds : MD := (yX4_holds, cX4_holds, 2, (some (.boolean)), [], 5, [], false, [])
def mX4_waiting : MD := (yX4_waiting, cX4_waiting, 1, (some (.int)), [], 5, [], false, [])
def mX4_waitingAt : MD := (yX4_waitingAt, cX4_waitingAt, 2, (some (.int)), [], 5, [(15, 3)], false, [])
def mX4_blockers : MD := (yX4_blockers, cX4_blockers, 6, (some (.int)), [], 5, [(15, 1)], false, [])
def mX4_stop : MD := (yX4_stop, cX4_stop, 3, (some (.int)), [], 5, [(13, 1)], false, [])
def mX4_goOn : MD := (yX4_goOn, cX4_goOn, 3, (some (.int)), [], 5, [(13, 1)], false, [])
def mX4_end : MD := (yX4_end, cX4_end, 3, (some (.int)), [], 5, [(13, 1)], false, [])
def mX4_signal : MD := (yX4_signal, cX4_signal, 7, (some (.int)), [], 5, [(24, 4)], false, [])
def mX4_tick : MD := (yX4_tick, cX4_tick, 4, (some (.int)), [], 5, [(11, 4)], false, [])
def mX4_entries : MD := (yX4_entries, cX4_entries, 1, (some (.int)), [], 5, [], false, [])
def mX4_entryJob : MD := (yX4_entryJob, cX4_entryJob, 2, (some (.int)), [], 5, [], false, [])
def mX4_entryState : MD := (yX4_entryState, cX4_entryState, 2, (some (.char)), [], 5, [], false, [])
def mX4_worked : MD := (yX4_worked, cX4_worked, 1, (some (.long)), [], 5, [], false, [])
def mX4_doneShare : MD := (yX4_doneShare, cX4_doneShare, 4, (some (.float)), [], 5, [(12, 3)], false, [])
def mX4_sessionNumbered : MD := (yX4_sessionNumbered, cX4_sessionNumbered, 2, (some (.object "Shellhouse$Session")), [], 5, [(15, 2)], false, [])
def mX4_jobNumbered : MD := (yX4_jobNumbered, cX4_jobNumbered, 2, (some (.object "Shellhouse$Job")), [], 5, [(15, 2)], false, [])
def mX4_jobInFrontOf : MD := (yX4_jobInFrontOf, cX4_jobInFrontOf, 2, (some (.object "Shellhouse$Job")), [], 5, [(9, 3)], false, [])
def mX4_commandOf : MD := (yX4_commandOf, cX4_commandOf, 2, (some (.int)), [], 5, [(12, 3)], false, [])
def mX4_refuseNoLock : MD := (yX4_refuseNoLock, cX4_refuseNoLock, 1, none, [], 5, [(10, 4)], false, [])
def mX4_refuseNoEntry : MD := (yX4_refuseNoEntry, cX4_refuseNoEntry, 2, none, [], 5, [(15, 3)], false, [])
def mX4_isCommand : MD := (yX4_isCommand, cX4_isCommand, 1, (some (.boolean)), [], 5, [], false, [])
def mX4_isWork : MD := (yX4_isWork, cX4_isWork, 1, (some (.boolean)), [], 5, [], false, [])
def mX4_areLocks : MD := (yX4_areLocks, cX4_areLocks, 1, (some (.boolean)), [], 5, [], false, [])
def mX4_isState : MD := (yX4_isState, cX4_isState, 1, (some (.boolean)), [], 5, [], false, [])
def mX4_canBeStopped : MD := (yX4_canBeStopped, cX4_canBeStopped, 1, (some (.boolean)), [], 5, [], false, [])
def mX4_canGoOn : MD := (yX4_canGoOn, cX4_canGoOn, 1, (some (.boolean)), [], 5, [], false, [])
def mX4_isOver : MD := (yX4_isOver, cX4_isOver, 1, (some (.boolean)), [], 5, [], false, [])
def mX4_remember : MD := (yX4_remember, cX4_remember, 3, none, [], 5, [], false, [])
def mX4_comeInto : MD := (yX4_comeInto, cX4_comeInto, 3, none, [], 5, [], false, [])
def mX4_waitForLocks : MD := (yX4_waitForLocks, cX4_waitForLocks, 2, none, [], 5, [], false, [])
def mX4_pause : MD := (yX4_pause, cX4_pause, 2, none, [], 5, [], false, [])
def mX4_resume : MD := (yX4_resume, cX4_resume, 2, none, [], 5, [], false, [])
def mX4_finish : MD := (yX4_finish, cX4_finish, 3, none, [], 5, [], false, [])
def mX4_obeys : MD := (yX4_obeys, cX4_obeys, 3, (some (.boolean)), [], 5, [], false, [])
def mX4_passOneTick : MD := (yX4_passOneTick, cX4_passOneTick, 4, (some (.int)), [], 5, [], false, [])
def mX4_workIsDone : MD := (yX4_workIsDone, cX4_workIsDone, 2, (some (.boolean)), [], 5, [], false, [])
def mX4_leaveOrder : MD := (yX4_leaveOrder, cX4_leaveOrder, 3, none, [], 5, [], false, [])
def mX4_lookAtOrder : MD := (yX4_lookAtOrder, cX4_lookAtOrder, 4, none, [], 5, [], false, [])
def mX4_locksAreFreeFor : MD := (yX4_locksAreFreeFor, cX4_locksAreFreeFor, 3, (some (.boolean)), [], 5, [], false, [])
def mX4_setHolder : MD := (yX4_setHolder, cX4_setHolder, 4, none, [], 5, [], false, [])
def mJxa1e45_init_da8c8 : MD := (yJxa1e45_init_da8c8, cJxa1e45_init_da8c8, 1, none, [], 13, [], true, [])
def mJxc12de_init_da8c8 : MD := (yJxc12de_init_da8c8, cJxc12de_init_da8c8, 1, none, [], 12, [], true, [])
def mJx4a65c_init_da8c8 : MD := (yJx4a65c_init_da8c8, cJx4a65c_init_da8c8, 1, none, [], 0, [], true, [])
def mJx4a65c_grow_92f84 : MD := (yJx4a65c_grow_92f84, cJx4a65c_grow_92f84, 4, (some (.array (.object "java/lang/Object"))), [], 0, [], false, [])
def mJx4a65c_grow_d5877 : MD := (yJx4a65c_grow_d5877, cJx4a65c_grow_d5877, 1, (some (.array (.object "java/lang/Object"))), [], 0, [], false, [])
def mJx4a65c_size_8abf5 : MD := (yJx4a65c_size_8abf5, cJx4a65c_size_8abf5, 1, (some (.int)), [], 0, [], false, [])
def mJx4a65c_elementData_915e3 : MD := (yJx4a65c_elementData_915e3, cJx4a65c_elementData_915e3, 2, (some (.object "java/lang/Object")), [], 0, [], false, [])
def mJx4a65c_get_915e3 : MD := (yJx4a65c_get_915e3, cJx4a65c_get_915e3, 2, (some (.object "java/lang/Object")), [], 0, [], false, [])
def mJx4a65c_add_72be8 : MD := (yJx4a65c_add_72be8, cJx4a65c_add_72be8, 4, none, [], 0, [], false, [])
def mJx4a65c_add_9ea2d : MD := (yJx4a65c_add_9ea2d, cJx4a65c_add_9ea2d, 2, (some (.boolean)), [], 0, [], false, [])
def mJx4a65c_remove_915e3 : MD := (yJx4a65c_remove_915e3, cJx4a65c_remove_915e3, 4, (some (.object "java/lang/Object")), [], 0, [], false, [])
def mJx4a65c_fastRemove_b59b0 : MD := (yJx4a65c_fastRemove_b59b0, cJx4a65c_fastRemove_b59b0, 4, none, [], 0, [], false, [])
def mJ7_fill_53178 : MD := (yJ7_fill_53178, cJ7_fill_53178, 4, none, [], 8, [], false, [])
def mJ7_copyOf_1904c : MD := (yJ7_copyOf_1904c, cJ7_copyOf_1904c, 2, (some (.array (.object "java/lang/Object"))), [], 8, [], false, [])
def mJ7_copyOf_6403c : MD := (yJ7_copyOf_6403c, cJ7_copyOf_6403c, 4, (some (.array (.object "java/lang/Object"))), [], 8, [], false, [])
def mJ7_copyOf_59c91 : MD := (yJ7_copyOf_59c91, cJ7_copyOf_59c91, 3, (some (.array .int)), [], 14, [], false, [])
def mJ15_checkIndex_7cf53 : MD := (yJ15_checkIndex_7cf53, cJ15_checkIndex_7cf53, 2, (some (.int)), [], 9, [], false, [])
def mJ8_newLength_cabcc : MD := (yJ8_newLength_cabcc, cJ8_newLength_cabcc, 4, (some (.int)), [], 11, [], false, [])
def mJ8_hugeLength_7cf53 : MD := (yJ8_hugeLength_7cf53, cJ8_hugeLength_7cf53, 3, (some (.int)), [], 11, [], false, [])
def mJ3_checkIndex_8e157 : MD := (yJ3_checkIndex_8e157, cJ3_checkIndex_8e157, 3, (some (.int)), [], 10, [], false, [])
def mL_cell : MD := (yL_cell, cL_cell, 2, (some (.int)), [], 7, [], false, [])
def mL_pick : MD := (yL_pick, cL_pick, 3, (some (.int)), [], 7, [], false, [])
def mL_open : MD := (yL_open, cL_open, 3, (some (.int)), [(0, 5, 6, 1)], 7, [], false, [])
def mL_drop : MD := (yL_drop, cL_drop, 3, (some (.int)), [(0, 5, 6, 2), (0, 5, 10, 1)], 7, [], false, [])
def mL_takeUp : MD := (yL_takeUp, cL_takeUp, 3, (some (.int)), [(0, 5, 6, 2), (0, 5, 10, 1)], 7, [], false, [])
def mL_isAttached : MD := (yL_isAttached, cL_isAttached, 3, (some (.int)), [(0, 13, 14, 2)], 7, [], false, [])
def mL_kept : MD := (yL_kept, cL_kept, 3, (some (.int)), [(0, 5, 6, 2)], 7, [], false, [])
def mL_commandAt : MD := (yL_commandAt, cL_commandAt, 4, (some (.int)), [(0, 6, 7, 2), (0, 6, 11, 3)], 7, [], false, [])
def mL_commonAt : MD := (yL_commonAt, cL_commonAt, 3, (some (.int)), [(0, 5, 6, 3)], 7, [], false, [])
def mL_search : MD := (yL_search, cL_search, 5, (some (.int)), [(0, 7, 8, 2), (0, 7, 13, 4), (0, 7, 18, 3)], 7, [], false, [])
def mL_start : MD := (yL_start, cL_start, 7, (some (.int)), [(0, 11, 12, 2), (0, 11, 17, 4), (0, 11, 22, 5), (0, 11, 27, 1)], 7, [], false, [])
def mL_state : MD := (yL_state, cL_state, 3, (some (.int)), [(0, 5, 6, 2)], 7, [], false, [])
def mL_stateByJournal : MD := (yL_stateByJournal, cL_stateByJournal, 3, (some (.int)), [(0, 5, 6, 2)], 7, [], false, [])
def mL_toDo : MD := (yL_toDo, cL_toDo, 3, (some (.int)), [(0, 5, 6, 2)], 7, [], false, [])
def mL_sessionOf : MD := (yL_sessionOf, cL_sessionOf, 3, (some (.int)), [(0, 5, 6, 2)], 7, [], false, [])
def mL_front : MD := (yL_front, cL_front, 3, (some (.int)), [(0, 5, 6, 2), (0, 5, 10, 3)], 7, [], false, [])
def mL_toFront : MD := (yL_toFront, cL_toFront, 3, (some (.int)), [(0, 13, 14, 2), (0, 13, 18, 5), (0, 13, 22, 1)], 7, [], false, [])
def mL_toBack : MD := (yL_toBack, cL_toBack, 3, (some (.int)), [(0, 5, 6, 2), (0, 5, 10, 3)], 7, [], false, [])
def mL_count : MD := (yL_count, cL_count, 4, (some (.int)), [(0, 6, 7, 2), (0, 6, 11, 4)], 7, [], false, [])
def mL_holder : MD := (yL_holder, cL_holder, 3, (some (.int)), [(0, 5, 6, 4)], 7, [], false, [])
def mL_holderByJobs : MD := (yL_holderByJobs, cL_holderByJobs, 3, (some (.int)), [(0, 5, 6, 4)], 7, [], false, [])
def mL_holds : MD := (yL_holds, cL_holds, 3, (some (.int)), [(0, 13, 14, 2)], 7, [], false, [])
def mL_waitingAt : MD := (yL_waitingAt, cL_waitingAt, 3, (some (.int)), [(0, 5, 6, 3)], 7, [], false, [])
def mL_blockers : MD := (yL_blockers, cL_blockers, 3, (some (.int)), [(0, 5, 6, 2), (0, 5, 10, 1)], 7, [], false, [])
def mL_stop : MD := (yL_stop, cL_stop, 3, (some (.int)), [(0, 5, 6, 2), (0, 5, 10, 1)], 7, [], false, [])
def mL_goOn : MD := (yL_goOn, cL_goOn, 3, (some (.int)), [(0, 5, 6, 2), (0, 5, 10, 1)], 7, [], false, [])
def mL_end : MD := (yL_end, cL_end, 3, (some (.int)), [(0, 5, 6, 2), (0, 5, 10, 1)], 7, [], false, [])
def mL_signal : MD := (yL_signal, cL_signal, 4, (some (.int)), [(0, 6, 7, 2), (0, 6, 11, 4)], 7, [], false, [])
def mL_tick : MD := (yL_tick, cL_tick, 3, (some (.int)), [(0, 5, 6, 4)], 7, [], false, [])
def mL_entryJob : MD := (yL_entryJob, cL_entryJob, 3, (some (.int)), [(0, 5, 6, 3)], 7, [], false, [])
def mL_entryState : MD := (yL_entryState, cL_entryState, 3, (some (.int)), [(0, 5, 6, 3)], 7, [], false, [])
def mL_doneShare : MD := (yL_doneShare, cL_doneShare, 2, (some (.float)), [(0, 4, 5, 3)], 7, [], false, [])
def mL_law : MD := (yL_law, cL_law, 20, (some (.boolean)), [], 7, [], false, [10])
def mL_ofSession : MD := (yL_ofSession, cL_ofSession, 5, (some (.int)), [], 7, [], false, [])
def mL_done : MD := (yL_done, cL_done, 4, (some (.int)), [], 7, [], false, [])
def mL_sum : MD := (yL_sum, cL_sum, 5, (some (.long)), [], 7, [], false, [2])
def mL_areJobs : MD := (yL_areJobs, cL_areJobs, 13, (some (.boolean)), [], 7, [], false, [7])
def mL_areFronts : MD := (yL_areFronts, cL_areFronts, 8, (some (.boolean)), [], 7, [], false, [])
def mL_isJournal : MD := (yL_isJournal, cL_isJournal, 8, (some (.boolean)), [], 7, [], false, [])
def mZ : MD := (⟨"", "", ""⟩, ⟨#[]⟩, 0, none, [], 99, [], false, [])
def fdT0 : List (Nat × (Nat × Nat)) := [(9, (0, 1)), (48, (0, 2)), (63, (0, 0))]
def fdT1 : List (Nat × (Nat × Nat)) := [(9, (1, 0)), (15, (1, 1))]
def fdT2 : List (Nat × (Nat × Nat)) := [(9, (2, 0)), (15, (2, 1)), (19, (2, 2)), (22, (2, 3)), (25, (2, 4)), (29, (2, 5)), (33, (2, 6))]
def fdT3 : List (Nat × (Nat × Nat)) := [(11, (3, 0)), (15, (3, 1)), (18, (3, 2))]
def fdT4 : List (Nat × (Nat × Nat)) := [(9, (4, 0)), (15, (4, 2)), (24, (4, 1)), (28, (4, 3)), (31, (4, 4)), (35, (4, 5))]
def fdT5 : List (Nat × (Nat × Nat)) := [(10, (5, 0)), (16, (5, 1)), (19, (5, 2)), (22, (5, 3)), (37, (5, 4)), (44, (5, 5)), (48, (5, 6)), (76, (4, 2)), (80, (4, 3)), (85, (4, 4)), (97, (4, 5)), (100, (2, 0)), (114, (4, 1)), (117, (1, 1)), (168, (2, 4)), (176, (2, 3)), (179, (2, 1)), (183, (4, 0)), (208, (2, 5)), (218, (2, 2)), (240, (3, 2)), (244, (3, 0)), (263, (1, 0)), (293, (2, 6))]
def fdT12 : List (Nat × (Nat × Nat)) := [(7, (0, 0))]
def fdT : Nat → Nat → Option ((Nat × Nat))
  | 0 => look fdT0
  | 1 => look fdT1
  | 2 => look fdT2
  | 3 => look fdT3
  | 4 => look fdT4
  | 5 => look fdT5
  | 12 => look fdT12
  | _ => fun _ => none
def nwT4 : List (Nat × Nat) := [(19, 1)]
def nwT5 : List (Nat × Nat) := [(7, 0), (32, 1), (41, 3), (63, 4), (101, 2)]
def nwT7 : List (Nat × Nat) := [(15, 5)]
def nwT : Nat → Nat → Option (Nat)
  | 4 => look nwT4
  | 5 => look nwT5
  | 7 => look nwT7
  | _ => fun _ => none
def clT0 : List (Nat × (Nat × Nat × MD)) := [(1, (1, 0, mJxc12de_init_da8c8)), (66, (2, 2, mJ7_copyOf_1904c)), (69, (0, 1, mJx4a65c_grow_92f84)), (73, (2, 3, mJ8_newLength_cabcc)), (79, (5, 2, mZ)), (112, (7, 5, mZ)), (118, (2, 2, mJ15_checkIndex_7cf53)), (123, (0, 1, mJx4a65c_elementData_915e3)), (129, (0, 0, mJx4a65c_grow_d5877)), (131, (0, 3, mJx4a65c_add_72be8)), (144, (0, 2, mJx4a65c_fastRemove_b59b0))]
def clT1 : List (Nat × (Nat × Nat × MD)) := [(3, (3, 0, mZ)), (19, (0, 1, mX0_takeOut))]
def clT2 : List (Nat × (Nat × Nat × MD)) := [(3, (3, 0, mZ))]
def clT3 : List (Nat × (Nat × Nat × MD)) := [(3, (3, 0, mZ)), (22, (4, 2, mZ)), (28, (2, 2, mJ7_copyOf_59c91)), (34, (0, 1, mX2_conditionAt))]
def clT4 : List (Nat × (Nat × Nat × MD)) := [(3, (3, 0, mZ)), (21, (1, 1, mX0_init))]
def clT5 : List (Nat × (Nat × Nat × MD)) := [(1, (3, 0, mZ)), (9, (1, 0, mJx4a65c_init_da8c8)), (26, (2, 2, mJ7_fill_53178)), (34, (1, 1, mX0_init)), (43, (1, 0, mX2_init)), (52, (0, 0, mJx4a65c_size_8abf5)), (65, (1, 2, mX3_init)), (68, (0, 1, mJx4a65c_add_9ea2d)), (72, (0, 1, mX4_sessionNumbered)), (89, (2, 1, mX4_canBeStopped)), (93, (0, 1, mX4_pause)), (108, (2, 1, mX4_canGoOn)), (111, (0, 1, mX4_resume)), (119, (2, 2, mX4_commandOf)), (128, (0, 2, mX0_lastBetween)), (137, (2, 1, mX4_isCommand)), (141, (2, 1, mX4_isWork)), (144, (2, 1, mX4_areLocks)), (154, (1, 4, mX1_init)), (157, (0, 2, mX4_remember)), (161, (0, 1, mX4_waitForLocks)), (164, (0, 1, mX4_jobNumbered)), (172, (0, 1, mX2_lastStateOf)), (184, (2, 1, mX4_jobInFrontOf)), (190, (2, 1, mX4_isOver)), (195, (2, 1, mX4_isState)), (201, (0, 1, mJx4a65c_get_915e3)), (205, (2, 1, mX4_refuseNoLock)), (211, (0, 1, mX1_needs)), (225, (0, 2, mX4_finish)), (231, (0, 2, mX4_obeys)), (237, (0, 0, mX4_passOneTick)), (241, (0, 1, mX4_refuseNoEntry)), (247, (0, 1, mX2_conditionAt)), (270, (0, 1, mX0_append)), (273, (0, 1, mX0_forget)), (276, (0, 2, mX2_write)), (280, (0, 2, mX4_comeInto)), (283, (0, 0, mX4_lookAtOrder)), (286, (0, 1, mX4_leaveOrder)), (289, (0, 2, mX4_setHolder)), (296, (0, 1, mX4_workIsDone)), (299, (0, 1, mJx4a65c_remove_915e3)), (302, (0, 1, mX4_locksAreFreeFor))]
def clT7 : List (Nat × (Nat × Nat × MD)) := [(8, (2, 2, mL_cell)), (14, (0, 1, mX4_open)), (22, (0, 1, mX4_drop)), (28, (0, 1, mX4_takeUp)), (31, (0, 1, mX4_isAttached)), (35, (0, 1, mX4_kept)), (38, (0, 2, mX4_commandAt)), (44, (0, 1, mX4_commonAt)), (47, (0, 3, mX4_search)), (53, (0, 5, mX4_start)), (59, (0, 1, mX4_state)), (63, (0, 1, mX4_stateByJournal)), (66, (0, 1, mX4_toDo)), (69, (0, 1, mX4_sessionOf)), (72, (0, 1, mX4_front)), (75, (0, 1, mX4_toFront)), (78, (0, 1, mX4_toBack)), (81, (0, 2, mX4_count)), (85, (0, 1, mX4_holder)), (88, (0, 1, mX4_holderByJobs)), (91, (0, 1, mX4_holds)), (94, (0, 1, mX4_waitingAt)), (97, (0, 1, mX4_blockers)), (100, (0, 1, mX4_stop)), (103, (0, 1, mX4_goOn)), (106, (0, 1, mX4_end)), (109, (0, 2, mX4_signal)), (112, (0, 1, mX4_tick)), (115, (0, 1, mX4_entryJob)), (118, (0, 1, mX4_entryState)), (121, (0, 0, mX4_doneShare)), (126, (1, 0, mX4_init)), (127, (2, 2, mL_open)), (130, (2, 2, mL_sum)), (134, (2, 3, mL_pick)), (138, (2, 2, mL_front)), (141, (2, 2, mL_drop)), (143, (2, 2, mL_isAttached)), (145, (2, 2, mL_state)), (147, (2, 2, mL_takeUp)), (149, (2, 2, mL_kept)), (151, (2, 6, mL_start)), (154, (2, 2, mL_sessionOf)), (156, (2, 3, mL_commandAt)), (159, (4, 2, mZ)), (164, (2, 4, mL_search)), (167, (2, 2, mL_toFront)), (169, (2, 2, mL_toBack)), (171, (2, 2, mL_holds)), (173, (2, 2, mL_stop)), (175, (0, 0, mX4_waiting)), (179, (2, 2, mL_goOn)), (181, (2, 2, mL_waitingAt)), (183, (2, 2, mL_end)), (185, (2, 3, mL_signal)), (188, (2, 3, mL_count)), (190, (2, 3, mL_ofSession)), (193, (2, 2, mL_done)), (196, (2, 2, mL_tick)), (198, (2, 4, mL_areJobs)), (202, (2, 4, mL_areFronts)), (206, (2, 2, mL_isJournal)), (210, (0, 0, mX4_entries)), (215, (0, 0, mX4_worked)), (223, (0, 0, mX4_common)), (232, (2, 2, mL_holder)), (234, (2, 2, mL_toDo)), (236, (2, 2, mL_stateByJournal)), (238, (2, 2, mL_holderByJobs)), (240, (2, 2, mL_blockers)), (242, (2, 1, mL_doneShare)), (245, (2, 2, mL_commonAt)), (247, (2, 2, mL_entryJob)), (249, (2, 2, mL_entryState))]
def clT8 : List (Nat × (Nat × Nat × MD)) := [(86, (8, 0, mZ)), (150, (7, 5, mZ)), (300, (2, 3, mJ7_copyOf_6403c)), (304, (4, 2, mZ))]
def clT9 : List (Nat × (Nat × Nat × MD)) := [(105, (2, 3, mJ3_checkIndex_8e157))]
def clT11 : List (Nat × (Nat × Nat × MD)) := [(194, (5, 2, mZ)), (201, (2, 2, mJ8_hugeLength_7cf53))]
def clT12 : List (Nat × (Nat × Nat × MD)) := [(1, (1, 0, mJxa1e45_init_da8c8))]
def clT13 : List (Nat × (Nat × Nat × MD)) := [(1, (3, 0, mZ))]
def clT14 : List (Nat × (Nat × Nat × MD)) := [(86, (8, 0, mZ)), (150, (6, 5, mZ)), (300, (2, 3, mJ7_copyOf_6403c)), (304, (4, 2, mZ))]
def clT : Nat → Nat → Option ((Nat × Nat × MD))
  | 0 => look clT0
  | 1 => look clT1
  | 2 => look clT2
  | 3 => look clT3
  | 4 => look clT4
  | 5 => look clT5
  | 7 => look clT7
  | 8 => look clT8
  | 9 => look clT9
  | 11 => look clT11
  | 12 => look clT12
  | 13 => look clT13
  | 14 => look clT14
  | _ => fun _ => none
def TTv : TAB := (fdT, nwT, nwT, clT)
abbrev Ev (E : EN) (d : Nat) (M : MD) (Q : Out → AH → Prop) : PT := EvR TTv E d M Q
theorem bX0_init : mB mX0_init = cX0_init := rfl
theorem bX0_append : mB mX0_append = cX0_append := rfl
theorem bX0_forget : mB mX0_forget = cX0_forget := rfl
theorem bX0_takeOut : mB mX0_takeOut = cX0_takeOut := rfl
theorem bX0_lastBetween : mB mX0_lastBetween = cX0_lastBetween := rfl
theorem bX1_init : mB mX1_init = cX1_init := rfl
theorem bX1_needs : mB mX1_needs = cX1_needs := rfl
theorem bX2_init : mB mX2_init = cX2_init := rfl
theorem bX2_write : mB mX2_write = cX2_write := rfl
theorem bX2_conditionAt : mB mX2_conditionAt = cX2_conditionAt := rfl
theorem bX2_lastStateOf : mB mX2_lastStateOf = cX2_lastStateOf := rfl
theorem bX3_init : mB mX3_init = cX3_init := rfl
theorem bX4_init : mB mX4_init = cX4_init := rfl
theorem bX4_open : mB mX4_open = cX4_open := rfl
theorem bX4_drop : mB mX4_drop = cX4_drop := rfl
theorem bX4_takeUp : mB mX4_takeUp = cX4_takeUp := rfl
theorem bX4_isAttached : mB mX4_isAttached = cX4_isAttached := rfl
theorem bX4_kept : mB mX4_kept = cX4_kept := rfl
theorem bX4_commandAt : mB mX4_commandAt = cX4_commandAt := rfl
theorem bX4_common : mB mX4_common = cX4_common := rfl
theorem bX4_commonAt : mB mX4_commonAt = cX4_commonAt := rfl
theorem bX4_search : mB mX4_search = cX4_search := rfl
theorem bX4_start : mB mX4_start = cX4_start := rfl
theorem bX4_state : mB mX4_state = cX4_state := rfl
theorem bX4_stateByJournal : mB mX4_stateByJournal = cX4_stateByJournal := rfl
theorem bX4_toDo : mB mX4_toDo = cX4_toDo := rfl
theorem bX4_sessionOf : mB mX4_sessionOf = cX4_sessionOf := rfl
theorem bX4_front : mB mX4_front = cX4_front := rfl
theorem bX4_toFront : mB mX4_toFront = cX4_toFront := rfl
theorem bX4_toBack : mB mX4_toBack = cX4_toBack := rfl
theorem bX4_count : mB mX4_count = cX4_count := rfl
theorem bX4_holder : mB mX4_holder = cX4_holder := rfl
theorem bX4_holderByJobs : mB mX4_holderByJobs = cX4_holderByJobs := rfl
theorem bX4_holds : mB mX4_holds = cX4_holds := rfl
theorem bX4_waiting : mB mX4_waiting = cX4_waiting := rfl
theorem bX4_waitingAt : mB mX4_waitingAt = cX4_waitingAt := rfl
theorem bX4_blockers : mB mX4_blockers = cX4_blockers := rfl
theorem bX4_stop : mB mX4_stop = cX4_stop := rfl
theorem bX4_goOn : mB mX4_goOn = cX4_goOn := rfl
theorem bX4_end : mB mX4_end = cX4_end := rfl
theorem bX4_signal : mB mX4_signal = cX4_signal := rfl
theorem bX4_tick : mB mX4_tick = cX4_tick := rfl
theorem bX4_entries : mB mX4_entries = cX4_entries := rfl
theorem bX4_entryJob : mB mX4_entryJob = cX4_entryJob := rfl
theorem bX4_entryState : mB mX4_entryState = cX4_entryState := rfl
theorem bX4_worked : mB mX4_worked = cX4_worked := rfl
theorem bX4_doneShare : mB mX4_doneShare = cX4_doneShare := rfl
theorem bX4_sessionNumbered : mB mX4_sessionNumbered = cX4_sessionNumbered := rfl
theorem bX4_jobNumbered : mB mX4_jobNumbered = cX4_jobNumbered := rfl
theorem bX4_jobInFrontOf : mB mX4_jobInFrontOf = cX4_jobInFrontOf := rfl
theorem bX4_commandOf : mB mX4_commandOf = cX4_commandOf := rfl
theorem bX4_refuseNoLock : mB mX4_refuseNoLock = cX4_refuseNoLock := rfl
theorem bX4_refuseNoEntry : mB mX4_refuseNoEntry = cX4_refuseNoEntry := rfl
theorem bX4_isCommand : mB mX4_isCommand = cX4_isCommand := rfl
theorem bX4_isWork : mB mX4_isWork = cX4_isWork := rfl
theorem bX4_areLocks : mB mX4_areLocks = cX4_areLocks := rfl
theorem bX4_isState : mB mX4_isState = cX4_isState := rfl
theorem bX4_canBeStopped : mB mX4_canBeStopped = cX4_canBeStopped := rfl
theorem bX4_canGoOn : mB mX4_canGoOn = cX4_canGoOn := rfl
theorem bX4_isOver : mB mX4_isOver = cX4_isOver := rfl
theorem bX4_remember : mB mX4_remember = cX4_remember := rfl
theorem bX4_comeInto : mB mX4_comeInto = cX4_comeInto := rfl
theorem bX4_waitForLocks : mB mX4_waitForLocks = cX4_waitForLocks := rfl
theorem bX4_pause : mB mX4_pause = cX4_pause := rfl
theorem bX4_resume : mB mX4_resume = cX4_resume := rfl
theorem bX4_finish : mB mX4_finish = cX4_finish := rfl
theorem bX4_obeys : mB mX4_obeys = cX4_obeys := rfl
theorem bX4_passOneTick : mB mX4_passOneTick = cX4_passOneTick := rfl
theorem bX4_workIsDone : mB mX4_workIsDone = cX4_workIsDone := rfl
theorem bX4_leaveOrder : mB mX4_leaveOrder = cX4_leaveOrder := rfl
theorem bX4_lookAtOrder : mB mX4_lookAtOrder = cX4_lookAtOrder := rfl
theorem bX4_locksAreFreeFor : mB mX4_locksAreFreeFor = cX4_locksAreFreeFor := rfl
theorem bX4_setHolder : mB mX4_setHolder = cX4_setHolder := rfl
theorem bJxa1e45_init_da8c8 : mB mJxa1e45_init_da8c8 = cJxa1e45_init_da8c8 := rfl
theorem bJxc12de_init_da8c8 : mB mJxc12de_init_da8c8 = cJxc12de_init_da8c8 := rfl
theorem bJx4a65c_init_da8c8 : mB mJx4a65c_init_da8c8 = cJx4a65c_init_da8c8 := rfl
theorem bJx4a65c_grow_92f84 : mB mJx4a65c_grow_92f84 = cJx4a65c_grow_92f84 := rfl
theorem bJx4a65c_grow_d5877 : mB mJx4a65c_grow_d5877 = cJx4a65c_grow_d5877 := rfl
theorem bJx4a65c_size_8abf5 : mB mJx4a65c_size_8abf5 = cJx4a65c_size_8abf5 := rfl
theorem bJx4a65c_elementData_915e3 : mB mJx4a65c_elementData_915e3 = cJx4a65c_elementData_915e3 := rfl
theorem bJx4a65c_get_915e3 : mB mJx4a65c_get_915e3 = cJx4a65c_get_915e3 := rfl
theorem bJx4a65c_add_72be8 : mB mJx4a65c_add_72be8 = cJx4a65c_add_72be8 := rfl
theorem bJx4a65c_add_9ea2d : mB mJx4a65c_add_9ea2d = cJx4a65c_add_9ea2d := rfl
theorem bJx4a65c_remove_915e3 : mB mJx4a65c_remove_915e3 = cJx4a65c_remove_915e3 := rfl
theorem bJx4a65c_fastRemove_b59b0 : mB mJx4a65c_fastRemove_b59b0 = cJx4a65c_fastRemove_b59b0 := rfl
theorem bJ7_fill_53178 : mB mJ7_fill_53178 = cJ7_fill_53178 := rfl
theorem bJ7_copyOf_1904c : mB mJ7_copyOf_1904c = cJ7_copyOf_1904c := rfl
theorem bJ7_copyOf_6403c : mB mJ7_copyOf_6403c = cJ7_copyOf_6403c := rfl
theorem bJ7_copyOf_59c91 : mB mJ7_copyOf_59c91 = cJ7_copyOf_59c91 := rfl
theorem bJ15_checkIndex_7cf53 : mB mJ15_checkIndex_7cf53 = cJ15_checkIndex_7cf53 := rfl
theorem bJ8_newLength_cabcc : mB mJ8_newLength_cabcc = cJ8_newLength_cabcc := rfl
theorem bJ8_hugeLength_7cf53 : mB mJ8_hugeLength_7cf53 = cJ8_hugeLength_7cf53 := rfl
theorem bJ3_checkIndex_8e157 : mB mJ3_checkIndex_8e157 = cJ3_checkIndex_8e157 := rfl
theorem bL_cell : mB mL_cell = cL_cell := rfl
theorem bL_pick : mB mL_pick = cL_pick := rfl
theorem bL_open : mB mL_open = cL_open := rfl
theorem bL_drop : mB mL_drop = cL_drop := rfl
theorem bL_takeUp : mB mL_takeUp = cL_takeUp := rfl
theorem bL_isAttached : mB mL_isAttached = cL_isAttached := rfl
theorem bL_kept : mB mL_kept = cL_kept := rfl
theorem bL_commandAt : mB mL_commandAt = cL_commandAt := rfl
theorem bL_commonAt : mB mL_commonAt = cL_commonAt := rfl
theorem bL_search : mB mL_search = cL_search := rfl
theorem bL_start : mB mL_start = cL_start := rfl
theorem bL_state : mB mL_state = cL_state := rfl
theorem bL_stateByJournal : mB mL_stateByJournal = cL_stateByJournal := rfl
theorem bL_toDo : mB mL_toDo = cL_toDo := rfl
theorem bL_sessionOf : mB mL_sessionOf = cL_sessionOf := rfl
theorem bL_front : mB mL_front = cL_front := rfl
theorem bL_toFront : mB mL_toFront = cL_toFront := rfl
theorem bL_toBack : mB mL_toBack = cL_toBack := rfl
theorem bL_count : mB mL_count = cL_count := rfl
theorem bL_holder : mB mL_holder = cL_holder := rfl
theorem bL_holderByJobs : mB mL_holderByJobs = cL_holderByJobs := rfl
theorem bL_holds : mB mL_holds = cL_holds := rfl
theorem bL_waitingAt : mB mL_waitingAt = cL_waitingAt := rfl
theorem bL_blockers : mB mL_blockers = cL_blockers := rfl
theorem bL_stop : mB mL_stop = cL_stop := rfl
theorem bL_goOn : mB mL_goOn = cL_goOn := rfl
theorem bL_end : mB mL_end = cL_end := rfl
theorem bL_signal : mB mL_signal = cL_signal := rfl
theorem bL_tick : mB mL_tick = cL_tick := rfl
theorem bL_entryJob : mB mL_entryJob = cL_entryJob := rfl
theorem bL_entryState : mB mL_entryState = cL_entryState := rfl
theorem bL_doneShare : mB mL_doneShare = cL_doneShare := rfl
theorem bL_law : mB mL_law = cL_law := rfl
theorem bL_ofSession : mB mL_ofSession = cL_ofSession := rfl
theorem bL_done : mB mL_done = cL_done := rfl
theorem bL_sum : mB mL_sum = cL_sum := rfl
theorem bL_areJobs : mB mL_areJobs = cL_areJobs := rfl
theorem bL_areFronts : mB mL_areFronts = cL_areFronts := rfl
theorem bL_isJournal : mB mL_isJournal = cL_isJournal := rfl
end
section
def lw_G : List Cond := lw_tbl.filter goodWord
theorem lw_in (i : Nat) {w : Cond} (h : lw_tbl[i]? = some w) (hg : goodWord w = true) : w ∈ lw_G := List.mem_filter.mpr ⟨List.mem_of_getElem? h, hg⟩
def oN : Nat → String
  | 0 => RJx4a65c
  | 1 => RX0
  | 2 => RX1
  | 3 => RX2
  | 4 => RX3
  | 5 => RX4
  | 7 => RL
  | 8 => RJ7
  | 9 => RJ15
  | 10 => RJ3
  | 11 => RJ8
  | 12 => RJxc12de
  | 13 => RJxa1e45
  | 14 => RJ7
  | _ => ""
def exN : Nat → String
  | 1 => "java/lang/IllegalStateException"
  | 2 => "java/lang/IndexOutOfBoundsException"
  | 3 => "java/util/NoSuchElementException"
  | 4 => "java/lang/IllegalArgumentException"
  | 5 => "java/lang/UnsupportedOperationException"
  | _ => ""
def exI : Nat → Nat
  | 1 => 20
  | 2 => 26
  | 3 => 42
  | 4 => 51
  | 5 => 57
  | _ => 0
theorem look_mem {α : Type} {l : List (Nat × α)} {k : Nat} {x : α} (h : look l k = some x) : (k, x) ∈ l := by
  induction l with
  | nil => cases h
  | cons a r ih =>
    unfold look at h
    split at h
    · next e => cases h; rw [← Nat.eq_of_beq_eq_true e]; exact List.mem_cons_self
    · exact List.mem_cons_of_mem _ (ih h)
def strL : List (Nat × String) := [(58, "there are 4 sessions"), (83, "the session is dropped"), (106, "the session is attached"), (125, "there is no such range of commands"), (134, "no command of the range is kept"), (147, "a number is out of range"), (152, "there are 30 jobs"), (188, "it is in front already, or its session is dropped"), (193, "the job is done or ended"), (199, "there is no such state"), (214, "no job waits at this rank"), (216, "the job does not wait"), (221, "the job neither runs nor waits"), (223, "the job is not stopped"), (229, "there is no such signal"), (235, "the ticks are not between 1 and 60"), (250, "there are no jobs"), (254, "there is no such session"), (257, "there is no such job"), (259, "no job is in front"), (261, "there is no such command"), (266, "there is no such lock"), (268, "there is no such entry")]
def thrL : List (Nat × Nat) := [(60, 1), (127, 4), (136, 3), (151, 5), (256, 2)]
def kT : Nat → FieldType
  | 0 => .int
  | 1 => .boolean
  | 2 => .long
  | 3 => .double
  | 5 => .char
  | _ => .object "java/lang/Object"
def rawH (hh : List (Nat × Nat × Nat × Nat)) : List (Nat × Nat × Nat × Nat) := hh.map fun x => (x.1, x.2.1, x.2.2.1, exI x.2.2.2)
def cdW (M : MD) : Cond := match mH M with
  | [] => .code (mY M) (mB M) (mL M) (mR M)
  | x :: r => .codeWith (mY M) (mB M) (mL M) (mR M) (rawH (x :: r))
/-- a throw's place: its pool entries, and what the machine reads there -/
def exP : List String := ["java/lang/RuntimeException", "java/lang/Exception"]
def okT (M : MD) (pc X ik is ic : Nat) (tx : String) (wide : Bool) : Prop := decode (mB M) pc = .ok (.new ik, 3) ∧ decode (mB M) (pc + 3) = .ok (.dup, 1) ∧
  (if wide = true then decode (mB M) (pc + 4) = .ok (.ldc_w is, 3) ∧ decode (mB M) (pc + 7) = .ok (.invokespecial ic, 3) ∧ decode (mB M) (pc + 10) = .ok (.athrow, 1) else decode (mB M) (pc + 4) = .ok (.ldc is, 2) ∧ decode (mB M) (pc + 6) = .ok (.invokespecial ic, 3) ∧ decode (mB M) (pc + 9) = .ok (.athrow, 1)) ∧
  Cond.classLink RX4 ik (exN X) ∈ lw_G ∧ Cond.initialized (exN X) ∈ lw_G ∧ (is, tx) ∈ strL ∧ (ic, X) ∈ thrL
def okM (M : MD) : Prop := cdW M ∈ lw_G ∧ Cond.initialized (mY M).cls ∈ lw_G ∧ plainName (mY M).cls = true ∧ ((mY M).cls ≠ "java/lang/invoke/MethodHandle" ∧ (mY M).cls ≠ "java/lang/invoke/VarHandle") ∧ mL M ≤ 17 ∧ (mI M = true → (mY M).name = "<init>" ∧ mR M = none ∧ mH M = []) ∧ (mY M).cls = oN (mO M) ∧
  (∀ x ∈ mH M, (0 < x.2.2.2 ∧ x.2.2.2 < 6) ∧ mO M = 7) ∧
  (∀ pc X, look (mT M) pc = some X → mO M = 5 ∧ mH M = [] ∧ (0 < X ∧ X < 6) ∧ ∃ ik is ic tx wide, okT M pc X ik is ic tx wide)
theorem in_Shellhouse : Cond.initialized "Shellhouse" ∈ lw_G := lw_in 23 (by decide +kernel) (by decide +kernel)
theorem in_Shellhouse_History : Cond.initialized "Shellhouse$History" ∈ lw_G := lw_in 28 (by decide +kernel) (by decide +kernel)
theorem in_Shellhouse_Job : Cond.initialized "Shellhouse$Job" ∈ lw_G := lw_in 44 (by decide +kernel) (by decide +kernel)
theorem in_Shellhouse_Journal : Cond.initialized "Shellhouse$Journal" ∈ lw_G := lw_in 29 (by decide +kernel) (by decide +kernel)
theorem in_Shellhouse_Session : Cond.initialized "Shellhouse$Session" ∈ lw_G := lw_in 34 (by decide +kernel) (by decide +kernel)
theorem in_ShellhouseLaw : Cond.initialized "ShellhouseLaw" ∈ lw_G := lw_in 22 (by decide +kernel) (by decide +kernel)
theorem in_java_util_AbstractCollection : Cond.initialized "java/util/AbstractCollection" ∈ lw_G := lw_in 24 (by decide +kernel) (by decide +kernel)
theorem in_java_util_AbstractList : Cond.initialized "java/util/AbstractList" ∈ lw_G := lw_in 25 (by decide +kernel) (by decide +kernel)
theorem in_java_util_ArrayList : Cond.initialized "java/util/ArrayList" ∈ lw_G := lw_in 26 (by decide +kernel) (by decide +kernel)
theorem in_java_util_Arrays : Cond.initialized "java/util/Arrays" ∈ lw_G := lw_in 27 (by decide +kernel) (by decide +kernel)
theorem in_java_util_Objects : Cond.initialized "java/util/Objects" ∈ lw_G := lw_in 39 (by decide +kernel) (by decide +kernel)
theorem in_jdk_internal_util_ArraysSupport : Cond.initialized "jdk/internal/util/ArraysSupport" ∈ lw_G := lw_in 35 (by decide +kernel) (by decide +kernel)
theorem in_jdk_internal_util_Preconditions : Cond.initialized "jdk/internal/util/Preconditions" ∈ lw_G := lw_in 40 (by decide +kernel) (by decide +kernel)
theorem inx_1 : Cond.initialized (exN 1) ∈ lw_G := lw_in 33 (by decide +kernel) (by decide +kernel)
theorem inx_2 : Cond.initialized (exN 2) ∈ lw_G := lw_in 38 (by decide +kernel) (by decide +kernel)
theorem inx_3 : Cond.initialized (exN 3) ∈ lw_G := lw_in 41 (by decide +kernel) (by decide +kernel)
theorem inx_4 : Cond.initialized (exN 4) ∈ lw_G := lw_in 42 (by decide +kernel) (by decide +kernel)
theorem inx_5 : Cond.initialized (exN 5) ∈ lw_G := lw_in 43 (by decide +kernel) (by decide +kernel)
theorem ok_X0_init : okM mX0_init := ⟨lw_in 86 (by decide +kernel) (by decide +kernel), in_Shellhouse_History, by decide +kernel, by decide +kernel, by decide, by decide, rfl, by decide, fun pc X h => nomatch h⟩
theorem ok_X0_append : okM mX0_append := ⟨lw_in 585 (by decide +kernel) (by decide +kernel), in_Shellhouse_History, by decide +kernel, by decide +kernel, by decide, by decide, rfl, by decide, fun pc X h => nomatch h⟩
theorem ok_X0_forget : okM mX0_forget := ⟨lw_in 593 (by decide +kernel) (by decide +kernel), in_Shellhouse_History, by decide +kernel, by decide +kernel, by decide, by decide, rfl, by decide, fun pc X h => nomatch h⟩
theorem ok_X0_takeOut : okM mX0_takeOut := ⟨lw_in 589 (by decide +kernel) (by decide +kernel), in_Shellhouse_History, by decide +kernel, by decide +kernel, by decide, by decide, rfl, by decide, fun pc X h => nomatch h⟩
theorem ok_X0_lastBetween : okM mX0_lastBetween := ⟨lw_in 508 (by decide +kernel) (by decide +kernel), in_Shellhouse_History, by decide +kernel, by decide +kernel, by decide, by decide, rfl, by decide, fun pc X h => nomatch h⟩
theorem ok_X1_init : okM mX1_init := ⟨lw_in 547 (by decide +kernel) (by decide +kernel), in_Shellhouse_Job, by decide +kernel, by decide +kernel, by decide, by decide, rfl, by decide, fun pc X h => nomatch h⟩
theorem ok_X1_needs : okM mX1_needs := ⟨lw_in 416 (by decide +kernel) (by decide +kernel), in_Shellhouse_Job, by decide +kernel, by decide +kernel, by decide, by decide, rfl, by decide, fun pc X h => nomatch h⟩
theorem ok_X2_init : okM mX2_init := ⟨lw_in 102 (by decide +kernel) (by decide +kernel), in_Shellhouse_Journal, by decide +kernel, by decide +kernel, by decide, by decide, rfl, by decide, fun pc X h => nomatch h⟩
theorem ok_X2_write : okM mX2_write := ⟨lw_in 392 (by decide +kernel) (by decide +kernel), in_Shellhouse_Journal, by decide +kernel, by decide +kernel, by decide, by decide, rfl, by decide, fun pc X h => nomatch h⟩
theorem ok_X2_conditionAt : okM mX2_conditionAt := ⟨lw_in 786 (by decide +kernel) (by decide +kernel), in_Shellhouse_Journal, by decide +kernel, by decide +kernel, by decide, by decide, rfl, by decide, fun pc X h => nomatch h⟩
theorem ok_X2_lastStateOf : okM mX2_lastStateOf := ⟨lw_in 782 (by decide +kernel) (by decide +kernel), in_Shellhouse_Journal, by decide +kernel, by decide +kernel, by decide, by decide, rfl, by decide, fun pc X h => nomatch h⟩
theorem ok_X3_init : okM mX3_init := ⟨lw_in 235 (by decide +kernel) (by decide +kernel), in_Shellhouse_Session, by decide +kernel, by decide +kernel, by decide, by decide, rfl, by decide, fun pc X h => nomatch h⟩
theorem ok_X4_init : okM mX4_init := ⟨lw_in 49 (by decide +kernel) (by decide +kernel), in_Shellhouse, by decide +kernel, by decide +kernel, by decide, by decide, rfl, by decide, fun pc X h => nomatch h⟩
theorem okt_X4_open_13 : okT mX4_open 13 1 56 58 60 "there are 4 sessions" false := ⟨by decide +kernel, by decide +kernel, by decide +kernel, lw_in 161 (by decide +kernel) (by decide +kernel), inx_1, by decide +kernel, by decide +kernel⟩
theorem ok_X4_open : okM mX4_open := ⟨lw_in 160 (by decide +kernel) (by decide +kernel), in_Shellhouse, by decide +kernel, by decide +kernel, by decide, by decide, rfl, by decide, fun pc X h => ⟨rfl, rfl, by
  have h := look_mem h
  simp only [mT, mX4_open, List.mem_cons, List.not_mem_nil, or_false, Prod.mk.injEq] at h
  obtain ⟨rfl, rfl⟩ := h
  exact ⟨by decide, _, _, _, _, _, okt_X4_open_13⟩⟩⟩
theorem okt_X4_drop_13 : okT mX4_drop 13 1 56 83 60 "the session is dropped" false := ⟨by decide +kernel, by decide +kernel, by decide +kernel, lw_in 161 (by decide +kernel) (by decide +kernel), inx_1, by decide +kernel, by decide +kernel⟩
theorem ok_X4_drop : okM mX4_drop := ⟨lw_in 329 (by decide +kernel) (by decide +kernel), in_Shellhouse, by decide +kernel, by decide +kernel, by decide, by decide, rfl, by decide, fun pc X h => ⟨rfl, rfl, by
  have h := look_mem h
  simp only [mT, mX4_drop, List.mem_cons, List.not_mem_nil, or_false, Prod.mk.injEq] at h
  obtain ⟨rfl, rfl⟩ := h
  exact ⟨by decide, _, _, _, _, _, okt_X4_drop_13⟩⟩⟩
theorem okt_X4_takeUp_13 : okT mX4_takeUp 13 1 56 106 60 "the session is attached" false := ⟨by decide +kernel, by decide +kernel, by decide +kernel, lw_in 161 (by decide +kernel) (by decide +kernel), inx_1, by decide +kernel, by decide +kernel⟩
theorem ok_X4_takeUp : okM mX4_takeUp := ⟨lw_in 427 (by decide +kernel) (by decide +kernel), in_Shellhouse, by decide +kernel, by decide +kernel, by decide, by decide, rfl, by decide, fun pc X h => ⟨rfl, rfl, by
  have h := look_mem h
  simp only [mT, mX4_takeUp, List.mem_cons, List.not_mem_nil, or_false, Prod.mk.injEq] at h
  obtain ⟨rfl, rfl⟩ := h
  exact ⟨by decide, _, _, _, _, _, okt_X4_takeUp_13⟩⟩⟩
theorem ok_X4_isAttached : okM mX4_isAttached := ⟨lw_in 446 (by decide +kernel) (by decide +kernel), in_Shellhouse, by decide +kernel, by decide +kernel, by decide, by decide, rfl, by decide, fun pc X h => nomatch h⟩
theorem ok_X4_kept : okM mX4_kept := ⟨lw_in 453 (by decide +kernel) (by decide +kernel), in_Shellhouse, by decide +kernel, by decide +kernel, by decide, by decide, rfl, by decide, fun pc X h => nomatch h⟩
theorem ok_X4_commandAt : okM mX4_commandAt := ⟨lw_in 461 (by decide +kernel) (by decide +kernel), in_Shellhouse, by decide +kernel, by decide +kernel, by decide, by decide, rfl, by decide, fun pc X h => nomatch h⟩
theorem ok_X4_common : okM mX4_common := ⟨lw_in 747 (by decide +kernel) (by decide +kernel), in_Shellhouse, by decide +kernel, by decide +kernel, by decide, by decide, rfl, by decide, fun pc X h => nomatch h⟩
theorem ok_X4_commonAt : okM mX4_commonAt := ⟨lw_in 820 (by decide +kernel) (by decide +kernel), in_Shellhouse, by decide +kernel, by decide +kernel, by decide, by decide, rfl, by decide, fun pc X h => nomatch h⟩
theorem okt_X4_search_22 : okT mX4_search 22 4 123 125 127 "there is no such range of commands" false := ⟨by decide +kernel, by decide +kernel, by decide +kernel, lw_in 489 (by decide +kernel) (by decide +kernel), inx_4, by decide +kernel, by decide +kernel⟩
theorem okt_X4_search_75 : okT mX4_search 75 3 132 134 136 "no command of the range is kept" false := ⟨by decide +kernel, by decide +kernel, by decide +kernel, lw_in 465 (by decide +kernel) (by decide +kernel), inx_3, by decide +kernel, by decide +kernel⟩
theorem ok_X4_search : okM mX4_search := ⟨lw_in 488 (by decide +kernel) (by decide +kernel), in_Shellhouse, by decide +kernel, by decide +kernel, by decide, by decide, rfl, by decide, fun pc X h => ⟨rfl, rfl, by
  have h := look_mem h
  simp only [mT, mX4_search, List.mem_cons, List.not_mem_nil, or_false, Prod.mk.injEq] at h
  rcases h with ⟨rfl, rfl⟩ | ⟨rfl, rfl⟩
  · exact ⟨by decide, _, _, _, _, _, okt_X4_search_22⟩
  · exact ⟨by decide, _, _, _, _, _, okt_X4_search_75⟩⟩⟩
theorem okt_X4_start_29 : okT mX4_start 29 4 123 147 127 "a number is out of range" false := ⟨by decide +kernel, by decide +kernel, by decide +kernel, lw_in 489 (by decide +kernel) (by decide +kernel), inx_4, by decide +kernel, by decide +kernel⟩
theorem okt_X4_start_52 : okT mX4_start 52 5 149 83 151 "the session is dropped" false := ⟨by decide +kernel, by decide +kernel, by decide +kernel, lw_in 528 (by decide +kernel) (by decide +kernel), inx_5, by decide +kernel, by decide +kernel⟩
theorem okt_X4_start_78 : okT mX4_start 78 1 56 152 60 "there are 30 jobs" false := ⟨by decide +kernel, by decide +kernel, by decide +kernel, lw_in 161 (by decide +kernel) (by decide +kernel), inx_1, by decide +kernel, by decide +kernel⟩
theorem ok_X4_start : okM mX4_start := ⟨lw_in 517 (by decide +kernel) (by decide +kernel), in_Shellhouse, by decide +kernel, by decide +kernel, by decide, by decide, rfl, by decide, fun pc X h => ⟨rfl, rfl, by
  have h := look_mem h
  simp only [mT, mX4_start, List.mem_cons, List.not_mem_nil, or_false, Prod.mk.injEq] at h
  rcases h with ⟨rfl, rfl⟩ | ⟨rfl, rfl⟩ | ⟨rfl, rfl⟩
  · exact ⟨by decide, _, _, _, _, _, okt_X4_start_29⟩
  · exact ⟨by decide, _, _, _, _, _, okt_X4_start_52⟩
  · exact ⟨by decide, _, _, _, _, _, okt_X4_start_78⟩⟩⟩
theorem ok_X4_state : okM mX4_state := ⟨lw_in 600 (by decide +kernel) (by decide +kernel), in_Shellhouse, by decide +kernel, by decide +kernel, by decide, by decide, rfl, by decide, fun pc X h => nomatch h⟩
theorem ok_X4_stateByJournal : okM mX4_stateByJournal := ⟨lw_in 778 (by decide +kernel) (by decide +kernel), in_Shellhouse, by decide +kernel, by decide +kernel, by decide, by decide, rfl, by decide, fun pc X h => nomatch h⟩
theorem ok_X4_toDo : okM mX4_toDo := ⟨lw_in 771 (by decide +kernel) (by decide +kernel), in_Shellhouse, by decide +kernel, by decide +kernel, by decide, by decide, rfl, by decide, fun pc X h => nomatch h⟩
theorem ok_X4_sessionOf : okM mX4_sessionOf := ⟨lw_in 612 (by decide +kernel) (by decide +kernel), in_Shellhouse, by decide +kernel, by decide +kernel, by decide, by decide, rfl, by decide, fun pc X h => nomatch h⟩
theorem ok_X4_front : okM mX4_front := ⟨lw_in 619 (by decide +kernel) (by decide +kernel), in_Shellhouse, by decide +kernel, by decide +kernel, by decide, by decide, rfl, by decide, fun pc X h => nomatch h⟩
theorem okt_X4_toFront_26 : okT mX4_toFront 26 5 149 188 151 "it is in front already, or its session is dropped" false := ⟨by decide +kernel, by decide +kernel, by decide +kernel, lw_in 528 (by decide +kernel) (by decide +kernel), inx_5, by decide +kernel, by decide +kernel⟩
theorem okt_X4_toFront_43 : okT mX4_toFront 43 1 56 193 60 "the job is done or ended" false := ⟨by decide +kernel, by decide +kernel, by decide +kernel, lw_in 161 (by decide +kernel) (by decide +kernel), inx_1, by decide +kernel, by decide +kernel⟩
theorem ok_X4_toFront : okM mX4_toFront := ⟨lw_in 630 (by decide +kernel) (by decide +kernel), in_Shellhouse, by decide +kernel, by decide +kernel, by decide, by decide, rfl, by decide, fun pc X h => ⟨rfl, rfl, by
  have h := look_mem h
  simp only [mT, mX4_toFront, List.mem_cons, List.not_mem_nil, or_false, Prod.mk.injEq] at h
  rcases h with ⟨rfl, rfl⟩ | ⟨rfl, rfl⟩
  · exact ⟨by decide, _, _, _, _, _, okt_X4_toFront_26⟩
  · exact ⟨by decide, _, _, _, _, _, okt_X4_toFront_43⟩⟩⟩
theorem ok_X4_toBack : okM mX4_toBack := ⟨lw_in 642 (by decide +kernel) (by decide +kernel), in_Shellhouse, by decide +kernel, by decide +kernel, by decide, by decide, rfl, by decide, fun pc X h => nomatch h⟩
theorem okt_X4_count_13 : okT mX4_count 13 4 123 199 127 "there is no such state" false := ⟨by decide +kernel, by decide +kernel, by decide +kernel, lw_in 489 (by decide +kernel) (by decide +kernel), inx_4, by decide +kernel, by decide +kernel⟩
theorem ok_X4_count : okM mX4_count := ⟨lw_in 649 (by decide +kernel) (by decide +kernel), in_Shellhouse, by decide +kernel, by decide +kernel, by decide, by decide, rfl, by decide, fun pc X h => ⟨rfl, rfl, by
  have h := look_mem h
  simp only [mT, mX4_count, List.mem_cons, List.not_mem_nil, or_false, Prod.mk.injEq] at h
  obtain ⟨rfl, rfl⟩ := h
  exact ⟨by decide, _, _, _, _, _, okt_X4_count_13⟩⟩⟩
theorem ok_X4_holder : okM mX4_holder := ⟨lw_in 757 (by decide +kernel) (by decide +kernel), in_Shellhouse, by decide +kernel, by decide +kernel, by decide, by decide, rfl, by decide, fun pc X h => nomatch h⟩
theorem ok_X4_holderByJobs : okM mX4_holderByJobs := ⟨lw_in 793 (by decide +kernel) (by decide +kernel), in_Shellhouse, by decide +kernel, by decide +kernel, by decide, by decide, rfl, by decide, fun pc X h => nomatch h⟩
theorem ok_X4_holds : okM mX4_holds := ⟨lw_in 660 (by decide +kernel) (by decide +kernel), in_Shellhouse, by decide +kernel, by decide +kernel, by decide, by decide, rfl, by decide, fun pc X h => nomatch h⟩
theorem ok_X4_waiting : okM mX4_waiting := ⟨lw_in 141 (by decide +kernel) (by decide +kernel), in_Shellhouse, by decide +kernel, by decide +kernel, by decide, by decide, rfl, by decide, fun pc X h => nomatch h⟩
theorem okt_X4_waitingAt_15 : okT mX4_waitingAt 15 3 132 214 136 "no job waits at this rank" false := ⟨by decide +kernel, by decide +kernel, by decide +kernel, lw_in 465 (by decide +kernel) (by decide +kernel), inx_3, by decide +kernel, by decide +kernel⟩
theorem ok_X4_waitingAt : okM mX4_waitingAt := ⟨lw_in 667 (by decide +kernel) (by decide +kernel), in_Shellhouse, by decide +kernel, by decide +kernel, by decide, by decide, rfl, by decide, fun pc X h => ⟨rfl, rfl, by
  have h := look_mem h
  simp only [mT, mX4_waitingAt, List.mem_cons, List.not_mem_nil, or_false, Prod.mk.injEq] at h
  obtain ⟨rfl, rfl⟩ := h
  exact ⟨by decide, _, _, _, _, _, okt_X4_waitingAt_15⟩⟩⟩
theorem okt_X4_blockers_15 : okT mX4_blockers 15 1 56 216 60 "the job does not wait" false := ⟨by decide +kernel, by decide +kernel, by decide +kernel, lw_in 161 (by decide +kernel) (by decide +kernel), inx_1, by decide +kernel, by decide +kernel⟩
theorem ok_X4_blockers : okM mX4_blockers := ⟨lw_in 800 (by decide +kernel) (by decide +kernel), in_Shellhouse, by decide +kernel, by decide +kernel, by decide, by decide, rfl, by decide, fun pc X h => ⟨rfl, rfl, by
  have h := look_mem h
  simp only [mT, mX4_blockers, List.mem_cons, List.not_mem_nil, or_false, Prod.mk.injEq] at h
  obtain ⟨rfl, rfl⟩ := h
  exact ⟨by decide, _, _, _, _, _, okt_X4_blockers_15⟩⟩⟩
theorem okt_X4_stop_13 : okT mX4_stop 13 1 56 221 60 "the job neither runs nor waits" false := ⟨by decide +kernel, by decide +kernel, by decide +kernel, lw_in 161 (by decide +kernel) (by decide +kernel), inx_1, by decide +kernel, by decide +kernel⟩
theorem ok_X4_stop : okM mX4_stop := ⟨lw_in 675 (by decide +kernel) (by decide +kernel), in_Shellhouse, by decide +kernel, by decide +kernel, by decide, by decide, rfl, by decide, fun pc X h => ⟨rfl, rfl, by
  have h := look_mem h
  simp only [mT, mX4_stop, List.mem_cons, List.not_mem_nil, or_false, Prod.mk.injEq] at h
  obtain ⟨rfl, rfl⟩ := h
  exact ⟨by decide, _, _, _, _, _, okt_X4_stop_13⟩⟩⟩
theorem okt_X4_goOn_13 : okT mX4_goOn 13 1 56 223 60 "the job is not stopped" false := ⟨by decide +kernel, by decide +kernel, by decide +kernel, lw_in 161 (by decide +kernel) (by decide +kernel), inx_1, by decide +kernel, by decide +kernel⟩
theorem ok_X4_goOn : okM mX4_goOn := ⟨lw_in 683 (by decide +kernel) (by decide +kernel), in_Shellhouse, by decide +kernel, by decide +kernel, by decide, by decide, rfl, by decide, fun pc X h => ⟨rfl, rfl, by
  have h := look_mem h
  simp only [mT, mX4_goOn, List.mem_cons, List.not_mem_nil, or_false, Prod.mk.injEq] at h
  obtain ⟨rfl, rfl⟩ := h
  exact ⟨by decide, _, _, _, _, _, okt_X4_goOn_13⟩⟩⟩
theorem okt_X4_end_13 : okT mX4_end 13 1 56 193 60 "the job is done or ended" false := ⟨by decide +kernel, by decide +kernel, by decide +kernel, lw_in 161 (by decide +kernel) (by decide +kernel), inx_1, by decide +kernel, by decide +kernel⟩
theorem ok_X4_end : okM mX4_end := ⟨lw_in 691 (by decide +kernel) (by decide +kernel), in_Shellhouse, by decide +kernel, by decide +kernel, by decide, by decide, rfl, by decide, fun pc X h => ⟨rfl, rfl, by
  have h := look_mem h
  simp only [mT, mX4_end, List.mem_cons, List.not_mem_nil, or_false, Prod.mk.injEq] at h
  obtain ⟨rfl, rfl⟩ := h
  exact ⟨by decide, _, _, _, _, _, okt_X4_end_13⟩⟩⟩
theorem okt_X4_signal_24 : okT mX4_signal 24 4 123 229 127 "there is no such signal" false := ⟨by decide +kernel, by decide +kernel, by decide +kernel, lw_in 489 (by decide +kernel) (by decide +kernel), inx_4, by decide +kernel, by decide +kernel⟩
theorem ok_X4_signal : okM mX4_signal := ⟨lw_in 702 (by decide +kernel) (by decide +kernel), in_Shellhouse, by decide +kernel, by decide +kernel, by decide, by decide, rfl, by decide, fun pc X h => ⟨rfl, rfl, by
  have h := look_mem h
  simp only [mT, mX4_signal, List.mem_cons, List.not_mem_nil, or_false, Prod.mk.injEq] at h
  obtain ⟨rfl, rfl⟩ := h
  exact ⟨by decide, _, _, _, _, _, okt_X4_signal_24⟩⟩⟩
theorem okt_X4_tick_11 : okT mX4_tick 11 4 123 235 127 "the ticks are not between 1 and 60" false := ⟨by decide +kernel, by decide +kernel, by decide +kernel, lw_in 489 (by decide +kernel) (by decide +kernel), inx_4, by decide +kernel, by decide +kernel⟩
theorem ok_X4_tick : okM mX4_tick := ⟨lw_in 714 (by decide +kernel) (by decide +kernel), in_Shellhouse, by decide +kernel, by decide +kernel, by decide, by decide, rfl, by decide, fun pc X h => ⟨rfl, rfl, by
  have h := look_mem h
  simp only [mT, mX4_tick, List.mem_cons, List.not_mem_nil, or_false, Prod.mk.injEq] at h
  obtain ⟨rfl, rfl⟩ := h
  exact ⟨by decide, _, _, _, _, _, okt_X4_tick_11⟩⟩⟩
theorem ok_X4_entries : okM mX4_entries := ⟨lw_in 736 (by decide +kernel) (by decide +kernel), in_Shellhouse, by decide +kernel, by decide +kernel, by decide, by decide, rfl, by decide, fun pc X h => nomatch h⟩
theorem ok_X4_entryJob : okM mX4_entryJob := ⟨lw_in 830 (by decide +kernel) (by decide +kernel), in_Shellhouse, by decide +kernel, by decide +kernel, by decide, by decide, rfl, by decide, fun pc X h => nomatch h⟩
theorem ok_X4_entryState : okM mX4_entryState := ⟨lw_in 842 (by decide +kernel) (by decide +kernel), in_Shellhouse, by decide +kernel, by decide +kernel, by decide, by decide, rfl, by decide, fun pc X h => nomatch h⟩
theorem ok_X4_worked : okM mX4_worked := ⟨lw_in 741 (by decide +kernel) (by decide +kernel), in_Shellhouse, by decide +kernel, by decide +kernel, by decide, by decide, rfl, by decide, fun pc X h => nomatch h⟩
theorem okt_X4_doneShare_12 : okT mX4_doneShare 12 3 132 250 136 "there are no jobs" false := ⟨by decide +kernel, by decide +kernel, by decide +kernel, lw_in 465 (by decide +kernel) (by decide +kernel), inx_3, by decide +kernel, by decide +kernel⟩
theorem ok_X4_doneShare : okM mX4_doneShare := ⟨lw_in 808 (by decide +kernel) (by decide +kernel), in_Shellhouse, by decide +kernel, by decide +kernel, by decide, by decide, rfl, by decide, fun pc X h => ⟨rfl, rfl, by
  have h := look_mem h
  simp only [mT, mX4_doneShare, List.mem_cons, List.not_mem_nil, or_false, Prod.mk.injEq] at h
  obtain ⟨rfl, rfl⟩ := h
  exact ⟨by decide, _, _, _, _, _, okt_X4_doneShare_12⟩⟩⟩
theorem okt_X4_sessionNumbered_15 : okT mX4_sessionNumbered 15 2 252 254 256 "there is no such session" false := ⟨by decide +kernel, by decide +kernel, by decide +kernel, lw_in 334 (by decide +kernel) (by decide +kernel), inx_2, by decide +kernel, by decide +kernel⟩
theorem ok_X4_sessionNumbered : okM mX4_sessionNumbered := ⟨lw_in 333 (by decide +kernel) (by decide +kernel), in_Shellhouse, by decide +kernel, by decide +kernel, by decide, by decide, rfl, by decide, fun pc X h => ⟨rfl, rfl, by
  have h := look_mem h
  simp only [mT, mX4_sessionNumbered, List.mem_cons, List.not_mem_nil, or_false, Prod.mk.injEq] at h
  obtain ⟨rfl, rfl⟩ := h
  exact ⟨by decide, _, _, _, _, _, okt_X4_sessionNumbered_15⟩⟩⟩
theorem okt_X4_jobNumbered_15 : okT mX4_jobNumbered 15 2 252 257 256 "there is no such job" true := ⟨by decide +kernel, by decide +kernel, by decide +kernel, lw_in 334 (by decide +kernel) (by decide +kernel), inx_2, by decide +kernel, by decide +kernel⟩
theorem ok_X4_jobNumbered : okM mX4_jobNumbered := ⟨lw_in 604 (by decide +kernel) (by decide +kernel), in_Shellhouse, by decide +kernel, by decide +kernel, by decide, by decide, rfl, by decide, fun pc X h => ⟨rfl, rfl, by
  have h := look_mem h
  simp only [mT, mX4_jobNumbered, List.mem_cons, List.not_mem_nil, or_false, Prod.mk.injEq] at h
  obtain ⟨rfl, rfl⟩ := h
  exact ⟨by decide, _, _, _, _, _, okt_X4_jobNumbered_15⟩⟩⟩
theorem okt_X4_jobInFrontOf_9 : okT mX4_jobInFrontOf 9 3 132 259 136 "no job is in front" true := ⟨by decide +kernel, by decide +kernel, by decide +kernel, lw_in 465 (by decide +kernel) (by decide +kernel), inx_3, by decide +kernel, by decide +kernel⟩
theorem ok_X4_jobInFrontOf : okM mX4_jobInFrontOf := ⟨lw_in 622 (by decide +kernel) (by decide +kernel), in_Shellhouse, by decide +kernel, by decide +kernel, by decide, by decide, rfl, by decide, fun pc X h => ⟨rfl, rfl, by
  have h := look_mem h
  simp only [mT, mX4_jobInFrontOf, List.mem_cons, List.not_mem_nil, or_false, Prod.mk.injEq] at h
  obtain ⟨rfl, rfl⟩ := h
  exact ⟨by decide, _, _, _, _, _, okt_X4_jobInFrontOf_9⟩⟩⟩
theorem okt_X4_commandOf_12 : okT mX4_commandOf 12 3 132 261 136 "there is no such command" true := ⟨by decide +kernel, by decide +kernel, by decide +kernel, lw_in 465 (by decide +kernel) (by decide +kernel), inx_3, by decide +kernel, by decide +kernel⟩
theorem ok_X4_commandOf : okM mX4_commandOf := ⟨lw_in 464 (by decide +kernel) (by decide +kernel), in_Shellhouse, by decide +kernel, by decide +kernel, by decide, by decide, rfl, by decide, fun pc X h => ⟨rfl, rfl, by
  have h := look_mem h
  simp only [mT, mX4_commandOf, List.mem_cons, List.not_mem_nil, or_false, Prod.mk.injEq] at h
  obtain ⟨rfl, rfl⟩ := h
  exact ⟨by decide, _, _, _, _, _, okt_X4_commandOf_12⟩⟩⟩
theorem okt_X4_refuseNoLock_10 : okT mX4_refuseNoLock 10 4 123 266 127 "there is no such lock" true := ⟨by decide +kernel, by decide +kernel, by decide +kernel, lw_in 489 (by decide +kernel) (by decide +kernel), inx_4, by decide +kernel, by decide +kernel⟩
theorem ok_X4_refuseNoLock : okM mX4_refuseNoLock := ⟨lw_in 760 (by decide +kernel) (by decide +kernel), in_Shellhouse, by decide +kernel, by decide +kernel, by decide, by decide, rfl, by decide, fun pc X h => ⟨rfl, rfl, by
  have h := look_mem h
  simp only [mT, mX4_refuseNoLock, List.mem_cons, List.not_mem_nil, or_false, Prod.mk.injEq] at h
  obtain ⟨rfl, rfl⟩ := h
  exact ⟨by decide, _, _, _, _, _, okt_X4_refuseNoLock_10⟩⟩⟩
theorem okt_X4_refuseNoEntry_15 : okT mX4_refuseNoEntry 15 3 132 268 136 "there is no such entry" true := ⟨by decide +kernel, by decide +kernel, by decide +kernel, lw_in 465 (by decide +kernel) (by decide +kernel), inx_3, by decide +kernel, by decide +kernel⟩
theorem ok_X4_refuseNoEntry : okM mX4_refuseNoEntry := ⟨lw_in 834 (by decide +kernel) (by decide +kernel), in_Shellhouse, by decide +kernel, by decide +kernel, by decide, by decide, rfl, by decide, fun pc X h => ⟨rfl, rfl, by
  have h := look_mem h
  simp only [mT, mX4_refuseNoEntry, List.mem_cons, List.not_mem_nil, or_false, Prod.mk.injEq] at h
  obtain ⟨rfl, rfl⟩ := h
  exact ⟨by decide, _, _, _, _, _, okt_X4_refuseNoEntry_15⟩⟩⟩
theorem ok_X4_isCommand : okM mX4_isCommand := ⟨lw_in 520 (by decide +kernel) (by decide +kernel), in_Shellhouse, by decide +kernel, by decide +kernel, by decide, by decide, rfl, by decide, fun pc X h => nomatch h⟩
theorem ok_X4_isWork : okM mX4_isWork := ⟨lw_in 523 (by decide +kernel) (by decide +kernel), in_Shellhouse, by decide +kernel, by decide +kernel, by decide, by decide, rfl, by decide, fun pc X h => nomatch h⟩
theorem ok_X4_areLocks : okM mX4_areLocks := ⟨lw_in 526 (by decide +kernel) (by decide +kernel), in_Shellhouse, by decide +kernel, by decide +kernel, by decide, by decide, rfl, by decide, fun pc X h => nomatch h⟩
theorem ok_X4_isState : okM mX4_isState := ⟨lw_in 652 (by decide +kernel) (by decide +kernel), in_Shellhouse, by decide +kernel, by decide +kernel, by decide, by decide, rfl, by decide, fun pc X h => nomatch h⟩
theorem ok_X4_canBeStopped : okM mX4_canBeStopped := ⟨lw_in 367 (by decide +kernel) (by decide +kernel), in_Shellhouse, by decide +kernel, by decide +kernel, by decide, by decide, rfl, by decide, fun pc X h => nomatch h⟩
theorem ok_X4_canGoOn : okM mX4_canGoOn := ⟨lw_in 431 (by decide +kernel) (by decide +kernel), in_Shellhouse, by decide +kernel, by decide +kernel, by decide, by decide, rfl, by decide, fun pc X h => nomatch h⟩
theorem ok_X4_isOver : okM mX4_isOver := ⟨lw_in 634 (by decide +kernel) (by decide +kernel), in_Shellhouse, by decide +kernel, by decide +kernel, by decide, by decide, rfl, by decide, fun pc X h => nomatch h⟩
theorem ok_X4_remember : okM mX4_remember := ⟨lw_in 581 (by decide +kernel) (by decide +kernel), in_Shellhouse, by decide +kernel, by decide +kernel, by decide, by decide, rfl, by decide, fun pc X h => nomatch h⟩
theorem ok_X4_comeInto : okM mX4_comeInto := ⟨lw_in 388 (by decide +kernel) (by decide +kernel), in_Shellhouse, by decide +kernel, by decide +kernel, by decide, by decide, rfl, by decide, fun pc X h => nomatch h⟩
theorem ok_X4_waitForLocks : okM mX4_waitForLocks := ⟨lw_in 439 (by decide +kernel) (by decide +kernel), in_Shellhouse, by decide +kernel, by decide +kernel, by decide, by decide, rfl, by decide, fun pc X h => nomatch h⟩
theorem ok_X4_pause : okM mX4_pause := ⟨lw_in 371 (by decide +kernel) (by decide +kernel), in_Shellhouse, by decide +kernel, by decide +kernel, by decide, by decide, rfl, by decide, fun pc X h => nomatch h⟩
theorem ok_X4_resume : okM mX4_resume := ⟨lw_in 435 (by decide +kernel) (by decide +kernel), in_Shellhouse, by decide +kernel, by decide +kernel, by decide, by decide, rfl, by decide, fun pc X h => nomatch h⟩
theorem ok_X4_finish : okM mX4_finish := ⟨lw_in 695 (by decide +kernel) (by decide +kernel), in_Shellhouse, by decide +kernel, by decide +kernel, by decide, by decide, rfl, by decide, fun pc X h => nomatch h⟩
theorem ok_X4_obeys : okM mX4_obeys := ⟨lw_in 707 (by decide +kernel) (by decide +kernel), in_Shellhouse, by decide +kernel, by decide +kernel, by decide, by decide, rfl, by decide, fun pc X h => nomatch h⟩
theorem ok_X4_passOneTick : okM mX4_passOneTick := ⟨lw_in 719 (by decide +kernel) (by decide +kernel), in_Shellhouse, by decide +kernel, by decide +kernel, by decide, by decide, rfl, by decide, fun pc X h => nomatch h⟩
theorem ok_X4_workIsDone : okM mX4_workIsDone := ⟨lw_in 723 (by decide +kernel) (by decide +kernel), in_Shellhouse, by decide +kernel, by decide +kernel, by decide, by decide, rfl, by decide, fun pc X h => nomatch h⟩
theorem ok_X4_leaveOrder : okM mX4_leaveOrder := ⟨lw_in 375 (by decide +kernel) (by decide +kernel), in_Shellhouse, by decide +kernel, by decide +kernel, by decide, by decide, rfl, by decide, fun pc X h => nomatch h⟩
theorem ok_X4_lookAtOrder : okM mX4_lookAtOrder := ⟨lw_in 407 (by decide +kernel) (by decide +kernel), in_Shellhouse, by decide +kernel, by decide +kernel, by decide, by decide, rfl, by decide, fun pc X h => nomatch h⟩
theorem ok_X4_locksAreFreeFor : okM mX4_locksAreFreeFor := ⟨lw_in 412 (by decide +kernel) (by decide +kernel), in_Shellhouse, by decide +kernel, by decide +kernel, by decide, by decide, rfl, by decide, fun pc X h => nomatch h⟩
theorem ok_X4_setHolder : okM mX4_setHolder := ⟨lw_in 420 (by decide +kernel) (by decide +kernel), in_Shellhouse, by decide +kernel, by decide +kernel, by decide, by decide, rfl, by decide, fun pc X h => nomatch h⟩
theorem ok_Jxa1e45_init_da8c8 : okM mJxa1e45_init_da8c8 := ⟨lw_in 63 (by decide +kernel) (by decide +kernel), in_java_util_AbstractCollection, by decide +kernel, by decide +kernel, by decide, by decide, rfl, by decide, fun pc X h => nomatch h⟩
theorem ok_Jxc12de_init_da8c8 : okM mJxc12de_init_da8c8 := ⟨lw_in 60 (by decide +kernel) (by decide +kernel), in_java_util_AbstractList, by decide +kernel, by decide +kernel, by decide, by decide, rfl, by decide, fun pc X h => nomatch h⟩
theorem ok_Jx4a65c_init_da8c8 : okM mJx4a65c_init_da8c8 := ⟨lw_in 57 (by decide +kernel) (by decide +kernel), in_java_util_ArrayList, by decide +kernel, by decide +kernel, by decide, by decide, rfl, by decide, fun pc X h => nomatch h⟩
theorem ok_Jx4a65c_grow_92f84 : okM mJx4a65c_grow_92f84 := ⟨lw_in 279 (by decide +kernel) (by decide +kernel), in_java_util_ArrayList, by decide +kernel, by decide +kernel, by decide, by decide, rfl, by decide, fun pc X h => nomatch h⟩
theorem ok_Jx4a65c_grow_d5877 : okM mJx4a65c_grow_d5877 := ⟨lw_in 275 (by decide +kernel) (by decide +kernel), in_java_util_ArrayList, by decide +kernel, by decide +kernel, by decide, by decide, rfl, by decide, fun pc X h => nomatch h⟩
theorem ok_Jx4a65c_size_8abf5 : okM mJx4a65c_size_8abf5 := ⟨lw_in 145 (by decide +kernel) (by decide +kernel), in_java_util_ArrayList, by decide +kernel, by decide +kernel, by decide, by decide, rfl, by decide, fun pc X h => nomatch h⟩
theorem ok_Jx4a65c_elementData_915e3 : okM mJx4a65c_elementData_915e3 := ⟨lw_in 363 (by decide +kernel) (by decide +kernel), in_java_util_ArrayList, by decide +kernel, by decide +kernel, by decide, by decide, rfl, by decide, fun pc X h => nomatch h⟩
theorem ok_Jx4a65c_get_915e3 : okM mJx4a65c_get_915e3 := ⟨lw_in 353 (by decide +kernel) (by decide +kernel), in_java_util_ArrayList, by decide +kernel, by decide +kernel, by decide, by decide, rfl, by decide, fun pc X h => nomatch h⟩
theorem ok_Jx4a65c_add_72be8 : okM mJx4a65c_add_72be8 := ⟨lw_in 271 (by decide +kernel) (by decide +kernel), in_java_util_ArrayList, by decide +kernel, by decide +kernel, by decide, by decide, rfl, by decide, fun pc X h => nomatch h⟩
theorem ok_Jx4a65c_add_9ea2d : okM mJx4a65c_add_9ea2d := ⟨lw_in 267 (by decide +kernel) (by decide +kernel), in_java_util_ArrayList, by decide +kernel, by decide +kernel, by decide, by decide, rfl, by decide, fun pc X h => nomatch h⟩
theorem ok_Jx4a65c_remove_915e3 : okM mJx4a65c_remove_915e3 := ⟨lw_in 379 (by decide +kernel) (by decide +kernel), in_java_util_ArrayList, by decide +kernel, by decide +kernel, by decide, by decide, rfl, by decide, fun pc X h => nomatch h⟩
theorem ok_Jx4a65c_fastRemove_b59b0 : okM mJx4a65c_fastRemove_b59b0 := ⟨lw_in 383 (by decide +kernel) (by decide +kernel), in_java_util_ArrayList, by decide +kernel, by decide +kernel, by decide, by decide, rfl, by decide, fun pc X h => nomatch h⟩
theorem ok_J7_fill_53178 : okM mJ7_fill_53178 := ⟨lw_in 81 (by decide +kernel) (by decide +kernel), in_java_util_Arrays, by decide +kernel, by decide +kernel, by decide, by decide, rfl, by decide, fun pc X h => nomatch h⟩
theorem ok_J7_copyOf_1904c : okM mJ7_copyOf_1904c := ⟨lw_in 292 (by decide +kernel) (by decide +kernel), in_java_util_Arrays, by decide +kernel, by decide +kernel, by decide, by decide, rfl, by decide, fun pc X h => nomatch h⟩
theorem ok_J7_copyOf_6403c : okM mJ7_copyOf_6403c := ⟨lw_in 310 (by decide +kernel) (by decide +kernel), in_java_util_Arrays, by decide +kernel, by decide +kernel, by decide, by decide, rfl, by decide, fun pc X h => nomatch h⟩
theorem ok_J7_copyOf_59c91 : okM mJ7_copyOf_59c91 := ⟨lw_in 396 (by decide +kernel) (by decide +kernel), in_java_util_Arrays, by decide +kernel, by decide +kernel, by decide, by decide, rfl, by decide, fun pc X h => nomatch h⟩
theorem ok_J15_checkIndex_7cf53 : okM mJ15_checkIndex_7cf53 := ⟨lw_in 356 (by decide +kernel) (by decide +kernel), in_java_util_Objects, by decide +kernel, by decide +kernel, by decide, by decide, rfl, by decide, fun pc X h => nomatch h⟩
theorem ok_J8_newLength_cabcc : okM mJ8_newLength_cabcc := ⟨lw_in 282 (by decide +kernel) (by decide +kernel), in_jdk_internal_util_ArraysSupport, by decide +kernel, by decide +kernel, by decide, by decide, rfl, by decide, fun pc X h => nomatch h⟩
theorem ok_J8_hugeLength_7cf53 : okM mJ8_hugeLength_7cf53 := ⟨lw_in 289 (by decide +kernel) (by decide +kernel), in_jdk_internal_util_ArraysSupport, by decide +kernel, by decide +kernel, by decide, by decide, rfl, by decide, fun pc X h => nomatch h⟩
theorem ok_J3_checkIndex_8e157 : okM mJ3_checkIndex_8e157 := ⟨lw_in 359 (by decide +kernel) (by decide +kernel), in_jdk_internal_util_Preconditions, by decide +kernel, by decide +kernel, by decide, by decide, rfl, by decide, fun pc X h => nomatch h⟩
theorem ok_L_cell : okM mL_cell := ⟨lw_in 151 (by decide +kernel) (by decide +kernel), in_ShellhouseLaw, by decide +kernel, by decide +kernel, by decide, by decide, rfl, by decide, fun pc X h => nomatch h⟩
theorem ok_L_pick : okM mL_pick := ⟨lw_in 148 (by decide +kernel) (by decide +kernel), in_ShellhouseLaw, by decide +kernel, by decide +kernel, by decide, by decide, rfl, by decide, fun pc X h => nomatch h⟩
theorem ok_L_open : okM mL_open := ⟨lw_in 155 (by decide +kernel) (by decide +kernel), in_ShellhouseLaw, by decide +kernel, by decide +kernel, by decide, by decide, rfl, by decide, fun pc X h => nomatch h⟩
theorem ok_L_drop : okM mL_drop := ⟨lw_in 324 (by decide +kernel) (by decide +kernel), in_ShellhouseLaw, by decide +kernel, by decide +kernel, by decide, by decide, rfl, by decide, fun pc X h => nomatch h⟩
theorem ok_L_takeUp : okM mL_takeUp := ⟨lw_in 423 (by decide +kernel) (by decide +kernel), in_ShellhouseLaw, by decide +kernel, by decide +kernel, by decide, by decide, rfl, by decide, fun pc X h => nomatch h⟩
theorem ok_L_isAttached : okM mL_isAttached := ⟨lw_in 442 (by decide +kernel) (by decide +kernel), in_ShellhouseLaw, by decide +kernel, by decide +kernel, by decide, by decide, rfl, by decide, fun pc X h => nomatch h⟩
theorem ok_L_kept : okM mL_kept := ⟨lw_in 449 (by decide +kernel) (by decide +kernel), in_ShellhouseLaw, by decide +kernel, by decide +kernel, by decide, by decide, rfl, by decide, fun pc X h => nomatch h⟩
theorem ok_L_commandAt : okM mL_commandAt := ⟨lw_in 456 (by decide +kernel) (by decide +kernel), in_ShellhouseLaw, by decide +kernel, by decide +kernel, by decide, by decide, rfl, by decide, fun pc X h => nomatch h⟩
theorem ok_L_commonAt : okM mL_commonAt := ⟨lw_in 816 (by decide +kernel) (by decide +kernel), in_ShellhouseLaw, by decide +kernel, by decide +kernel, by decide, by decide, rfl, by decide, fun pc X h => nomatch h⟩
theorem ok_L_search : okM mL_search := ⟨lw_in 483 (by decide +kernel) (by decide +kernel), in_ShellhouseLaw, by decide +kernel, by decide +kernel, by decide, by decide, rfl, by decide, fun pc X h => nomatch h⟩
theorem ok_L_start : okM mL_start := ⟨lw_in 512 (by decide +kernel) (by decide +kernel), in_ShellhouseLaw, by decide +kernel, by decide +kernel, by decide, by decide, rfl, by decide, fun pc X h => nomatch h⟩
theorem ok_L_state : okM mL_state := ⟨lw_in 596 (by decide +kernel) (by decide +kernel), in_ShellhouseLaw, by decide +kernel, by decide +kernel, by decide, by decide, rfl, by decide, fun pc X h => nomatch h⟩
theorem ok_L_stateByJournal : okM mL_stateByJournal := ⟨lw_in 774 (by decide +kernel) (by decide +kernel), in_ShellhouseLaw, by decide +kernel, by decide +kernel, by decide, by decide, rfl, by decide, fun pc X h => nomatch h⟩
theorem ok_L_toDo : okM mL_toDo := ⟨lw_in 767 (by decide +kernel) (by decide +kernel), in_ShellhouseLaw, by decide +kernel, by decide +kernel, by decide, by decide, rfl, by decide, fun pc X h => nomatch h⟩
theorem ok_L_sessionOf : okM mL_sessionOf := ⟨lw_in 608 (by decide +kernel) (by decide +kernel), in_ShellhouseLaw, by decide +kernel, by decide +kernel, by decide, by decide, rfl, by decide, fun pc X h => nomatch h⟩
theorem ok_L_front : okM mL_front := ⟨lw_in 615 (by decide +kernel) (by decide +kernel), in_ShellhouseLaw, by decide +kernel, by decide +kernel, by decide, by decide, rfl, by decide, fun pc X h => nomatch h⟩
theorem ok_L_toFront : okM mL_toFront := ⟨lw_in 626 (by decide +kernel) (by decide +kernel), in_ShellhouseLaw, by decide +kernel, by decide +kernel, by decide, by decide, rfl, by decide, fun pc X h => nomatch h⟩
theorem ok_L_toBack : okM mL_toBack := ⟨lw_in 638 (by decide +kernel) (by decide +kernel), in_ShellhouseLaw, by decide +kernel, by decide +kernel, by decide, by decide, rfl, by decide, fun pc X h => nomatch h⟩
theorem ok_L_count : okM mL_count := ⟨lw_in 645 (by decide +kernel) (by decide +kernel), in_ShellhouseLaw, by decide +kernel, by decide +kernel, by decide, by decide, rfl, by decide, fun pc X h => nomatch h⟩
theorem ok_L_holder : okM mL_holder := ⟨lw_in 753 (by decide +kernel) (by decide +kernel), in_ShellhouseLaw, by decide +kernel, by decide +kernel, by decide, by decide, rfl, by decide, fun pc X h => nomatch h⟩
theorem ok_L_holderByJobs : okM mL_holderByJobs := ⟨lw_in 789 (by decide +kernel) (by decide +kernel), in_ShellhouseLaw, by decide +kernel, by decide +kernel, by decide, by decide, rfl, by decide, fun pc X h => nomatch h⟩
theorem ok_L_holds : okM mL_holds := ⟨lw_in 656 (by decide +kernel) (by decide +kernel), in_ShellhouseLaw, by decide +kernel, by decide +kernel, by decide, by decide, rfl, by decide, fun pc X h => nomatch h⟩
theorem ok_L_waitingAt : okM mL_waitingAt := ⟨lw_in 663 (by decide +kernel) (by decide +kernel), in_ShellhouseLaw, by decide +kernel, by decide +kernel, by decide, by decide, rfl, by decide, fun pc X h => nomatch h⟩
theorem ok_L_blockers : okM mL_blockers := ⟨lw_in 796 (by decide +kernel) (by decide +kernel), in_ShellhouseLaw, by decide +kernel, by decide +kernel, by decide, by decide, rfl, by decide, fun pc X h => nomatch h⟩
theorem ok_L_stop : okM mL_stop := ⟨lw_in 671 (by decide +kernel) (by decide +kernel), in_ShellhouseLaw, by decide +kernel, by decide +kernel, by decide, by decide, rfl, by decide, fun pc X h => nomatch h⟩
theorem ok_L_goOn : okM mL_goOn := ⟨lw_in 679 (by decide +kernel) (by decide +kernel), in_ShellhouseLaw, by decide +kernel, by decide +kernel, by decide, by decide, rfl, by decide, fun pc X h => nomatch h⟩
theorem ok_L_end : okM mL_end := ⟨lw_in 687 (by decide +kernel) (by decide +kernel), in_ShellhouseLaw, by decide +kernel, by decide +kernel, by decide, by decide, rfl, by decide, fun pc X h => nomatch h⟩
theorem ok_L_signal : okM mL_signal := ⟨lw_in 698 (by decide +kernel) (by decide +kernel), in_ShellhouseLaw, by decide +kernel, by decide +kernel, by decide, by decide, rfl, by decide, fun pc X h => nomatch h⟩
theorem ok_L_tick : okM mL_tick := ⟨lw_in 710 (by decide +kernel) (by decide +kernel), in_ShellhouseLaw, by decide +kernel, by decide +kernel, by decide, by decide, rfl, by decide, fun pc X h => nomatch h⟩
theorem ok_L_entryJob : okM mL_entryJob := ⟨lw_in 826 (by decide +kernel) (by decide +kernel), in_ShellhouseLaw, by decide +kernel, by decide +kernel, by decide, by decide, rfl, by decide, fun pc X h => nomatch h⟩
theorem ok_L_entryState : okM mL_entryState := ⟨lw_in 838 (by decide +kernel) (by decide +kernel), in_ShellhouseLaw, by decide +kernel, by decide +kernel, by decide, by decide, rfl, by decide, fun pc X h => nomatch h⟩
theorem ok_L_doneShare : okM mL_doneShare := ⟨lw_in 804 (by decide +kernel) (by decide +kernel), in_ShellhouseLaw, by decide +kernel, by decide +kernel, by decide, by decide, rfl, by decide, fun pc X h => nomatch h⟩
theorem ok_L_ofSession : okM mL_ofSession := ⟨lw_in 726 (by decide +kernel) (by decide +kernel), in_ShellhouseLaw, by decide +kernel, by decide +kernel, by decide, by decide, rfl, by decide, fun pc X h => nomatch h⟩
theorem ok_L_done : okM mL_done := ⟨lw_in 729 (by decide +kernel) (by decide +kernel), in_ShellhouseLaw, by decide +kernel, by decide +kernel, by decide, by decide, rfl, by decide, fun pc X h => nomatch h⟩
theorem ok_L_sum : okM mL_sum := ⟨lw_in 732 (by decide +kernel) (by decide +kernel), in_ShellhouseLaw, by decide +kernel, by decide +kernel, by decide, by decide, rfl, by decide, fun pc X h => nomatch h⟩
theorem ok_L_areJobs : okM mL_areJobs := ⟨lw_in 764 (by decide +kernel) (by decide +kernel), in_ShellhouseLaw, by decide +kernel, by decide +kernel, by decide, by decide, rfl, by decide, fun pc X h => nomatch h⟩
theorem ok_L_areFronts : okM mL_areFronts := ⟨lw_in 813 (by decide +kernel) (by decide +kernel), in_ShellhouseLaw, by decide +kernel, by decide +kernel, by decide, by decide, rfl, by decide, fun pc X h => nomatch h⟩
theorem ok_L_isJournal : okM mL_isJournal := ⟨lw_in 823 (by decide +kernel) (by decide +kernel), in_ShellhouseLaw, by decide +kernel, by decide +kernel, by decide, by decide, rfl, by decide, fun pc X h => nomatch h⟩
def okI (M : MD) (na : Nat) : Prop := okM M ∧ mH M = [] ∧ Cond.instanceMethod (mY M) ∈ lw_G ∧ (parseMethodDescriptor (mY M).desc).map (fun d => d.parameters.length) = some na
def okV (M : MD) (na : Nat) : Prop := okI M na ∧ Cond.selects (oN (mO M)) (mY M) (mY M) ∈ lw_G ∧ mO M < 6
def okSt (M : MD) (na : Nat) : Prop := okM M ∧ Cond.static (mY M) ∈ lw_G ∧ (parseMethodDescriptor (mY M).desc).map (fun d => d.parameters.length) = some na
def okC (o i : Nat) (q : Nat × Nat × MD) : Prop := match q.1 with
  | 0 => Cond.methodLink (oN o) i (mY q.2.2) ∈ lw_G ∧ okV q.2.2 q.2.1
  | 1 => Cond.methodLink (oN o) i (mY q.2.2) ∈ lw_G ∧ okI q.2.2 q.2.1 ∧ mI q.2.2 = true
  | 2 => Cond.methodLink (oN o) i (mY q.2.2) ∈ lw_G ∧ okSt q.2.2 q.2.1
  | 3 => Cond.methodLink (oN o) i objectInit ∈ lw_G
  | 4 => Cond.methodLink (oN o) i Lib.Math.min.name ∈ lw_G
  | 5 => Cond.methodLink (oN o) i Lib.Math.max.name ∈ lw_G
  | 6 => Cond.methodLink (oN o) i arraycopyName ∈ lw_G
  | 7 => Cond.methodLink (oN o) i arraycopyName ∈ lw_G
  | 8 => Cond.methodLink (oN o) i ⟨"java/lang/Object", "getClass", "()Ljava/lang/Class;"⟩ ∈ lw_G
  | _ => False
theorem oi_X4_init : okI mX4_init 0 := ⟨ok_X4_init, rfl, lw_in 48 (by decide +kernel) (by decide +kernel), by decide +kernel⟩
theorem oi_Jx4a65c_init_da8c8 : okI mJx4a65c_init_da8c8 0 := ⟨ok_Jx4a65c_init_da8c8, rfl, lw_in 56 (by decide +kernel) (by decide +kernel), by decide +kernel⟩
theorem oi_Jxc12de_init_da8c8 : okI mJxc12de_init_da8c8 0 := ⟨ok_Jxc12de_init_da8c8, rfl, lw_in 59 (by decide +kernel) (by decide +kernel), by decide +kernel⟩
theorem oi_Jxa1e45_init_da8c8 : okI mJxa1e45_init_da8c8 0 := ⟨ok_Jxa1e45_init_da8c8, rfl, lw_in 62 (by decide +kernel) (by decide +kernel), by decide +kernel⟩
theorem os_J7_fill_53178 : okSt mJ7_fill_53178 2 := ⟨ok_J7_fill_53178, lw_in 80 (by decide +kernel) (by decide +kernel), by decide +kernel⟩
theorem oi_X0_init : okI mX0_init 1 := ⟨ok_X0_init, rfl, lw_in 85 (by decide +kernel) (by decide +kernel), by decide +kernel⟩
theorem oi_X2_init : okI mX2_init 0 := ⟨ok_X2_init, rfl, lw_in 101 (by decide +kernel) (by decide +kernel), by decide +kernel⟩
theorem oi_X4_waiting : okI mX4_waiting 0 := ⟨ok_X4_waiting, rfl, lw_in 139 (by decide +kernel) (by decide +kernel), by decide +kernel⟩
theorem ov_X4_waiting : okV mX4_waiting 0 := ⟨oi_X4_waiting, lw_in 140 (by decide +kernel) (by decide +kernel), by decide⟩
theorem oi_Jx4a65c_size_8abf5 : okI mJx4a65c_size_8abf5 0 := ⟨ok_Jx4a65c_size_8abf5, rfl, lw_in 143 (by decide +kernel) (by decide +kernel), by decide +kernel⟩
theorem ov_Jx4a65c_size_8abf5 : okV mJx4a65c_size_8abf5 0 := ⟨oi_Jx4a65c_size_8abf5, lw_in 144 (by decide +kernel) (by decide +kernel), by decide⟩
theorem os_L_pick : okSt mL_pick 3 := ⟨ok_L_pick, lw_in 147 (by decide +kernel) (by decide +kernel), by decide +kernel⟩
theorem os_L_cell : okSt mL_cell 2 := ⟨ok_L_cell, lw_in 150 (by decide +kernel) (by decide +kernel), by decide +kernel⟩
theorem os_L_open : okSt mL_open 2 := ⟨ok_L_open, lw_in 154 (by decide +kernel) (by decide +kernel), by decide +kernel⟩
theorem oi_X4_open : okI mX4_open 1 := ⟨ok_X4_open, rfl, lw_in 158 (by decide +kernel) (by decide +kernel), by decide +kernel⟩
theorem ov_X4_open : okV mX4_open 1 := ⟨oi_X4_open, lw_in 159 (by decide +kernel) (by decide +kernel), by decide⟩
theorem oi_X3_init : okI mX3_init 2 := ⟨ok_X3_init, rfl, lw_in 234 (by decide +kernel) (by decide +kernel), by decide +kernel⟩
theorem oi_Jx4a65c_add_9ea2d : okI mJx4a65c_add_9ea2d 1 := ⟨ok_Jx4a65c_add_9ea2d, rfl, lw_in 265 (by decide +kernel) (by decide +kernel), by decide +kernel⟩
theorem ov_Jx4a65c_add_9ea2d : okV mJx4a65c_add_9ea2d 1 := ⟨oi_Jx4a65c_add_9ea2d, lw_in 266 (by decide +kernel) (by decide +kernel), by decide⟩
theorem oi_Jx4a65c_add_72be8 : okI mJx4a65c_add_72be8 3 := ⟨ok_Jx4a65c_add_72be8, rfl, lw_in 270 (by decide +kernel) (by decide +kernel), by decide +kernel⟩
theorem ov_Jx4a65c_add_72be8 : okV mJx4a65c_add_72be8 3 := ⟨oi_Jx4a65c_add_72be8, lw_in 1 (by decide +kernel) (by decide +kernel), by decide⟩
theorem oi_Jx4a65c_grow_d5877 : okI mJx4a65c_grow_d5877 0 := ⟨ok_Jx4a65c_grow_d5877, rfl, lw_in 274 (by decide +kernel) (by decide +kernel), by decide +kernel⟩
theorem ov_Jx4a65c_grow_d5877 : okV mJx4a65c_grow_d5877 0 := ⟨oi_Jx4a65c_grow_d5877, lw_in 2 (by decide +kernel) (by decide +kernel), by decide⟩
theorem oi_Jx4a65c_grow_92f84 : okI mJx4a65c_grow_92f84 1 := ⟨ok_Jx4a65c_grow_92f84, rfl, lw_in 278 (by decide +kernel) (by decide +kernel), by decide +kernel⟩
theorem ov_Jx4a65c_grow_92f84 : okV mJx4a65c_grow_92f84 1 := ⟨oi_Jx4a65c_grow_92f84, lw_in 3 (by decide +kernel) (by decide +kernel), by decide⟩
theorem os_J8_newLength_cabcc : okSt mJ8_newLength_cabcc 3 := ⟨ok_J8_newLength_cabcc, lw_in 281 (by decide +kernel) (by decide +kernel), by decide +kernel⟩
theorem os_J8_hugeLength_7cf53 : okSt mJ8_hugeLength_7cf53 2 := ⟨ok_J8_hugeLength_7cf53, lw_in 288 (by decide +kernel) (by decide +kernel), by decide +kernel⟩
theorem os_J7_copyOf_1904c : okSt mJ7_copyOf_1904c 2 := ⟨ok_J7_copyOf_1904c, lw_in 291 (by decide +kernel) (by decide +kernel), by decide +kernel⟩
theorem os_J7_copyOf_6403c : okSt mJ7_copyOf_6403c 3 := ⟨ok_J7_copyOf_6403c, lw_in 309 (by decide +kernel) (by decide +kernel), by decide +kernel⟩
theorem os_L_drop : okSt mL_drop 2 := ⟨ok_L_drop, lw_in 323 (by decide +kernel) (by decide +kernel), by decide +kernel⟩
theorem oi_X4_drop : okI mX4_drop 1 := ⟨ok_X4_drop, rfl, lw_in 327 (by decide +kernel) (by decide +kernel), by decide +kernel⟩
theorem ov_X4_drop : okV mX4_drop 1 := ⟨oi_X4_drop, lw_in 328 (by decide +kernel) (by decide +kernel), by decide⟩
theorem oi_X4_sessionNumbered : okI mX4_sessionNumbered 1 := ⟨ok_X4_sessionNumbered, rfl, lw_in 332 (by decide +kernel) (by decide +kernel), by decide +kernel⟩
theorem ov_X4_sessionNumbered : okV mX4_sessionNumbered 1 := ⟨oi_X4_sessionNumbered, lw_in 4 (by decide +kernel) (by decide +kernel), by decide⟩
theorem oi_Jx4a65c_get_915e3 : okI mJx4a65c_get_915e3 1 := ⟨ok_Jx4a65c_get_915e3, rfl, lw_in 351 (by decide +kernel) (by decide +kernel), by decide +kernel⟩
theorem ov_Jx4a65c_get_915e3 : okV mJx4a65c_get_915e3 1 := ⟨oi_Jx4a65c_get_915e3, lw_in 352 (by decide +kernel) (by decide +kernel), by decide⟩
theorem os_J15_checkIndex_7cf53 : okSt mJ15_checkIndex_7cf53 2 := ⟨ok_J15_checkIndex_7cf53, lw_in 355 (by decide +kernel) (by decide +kernel), by decide +kernel⟩
theorem os_J3_checkIndex_8e157 : okSt mJ3_checkIndex_8e157 3 := ⟨ok_J3_checkIndex_8e157, lw_in 358 (by decide +kernel) (by decide +kernel), by decide +kernel⟩
theorem oi_Jx4a65c_elementData_915e3 : okI mJx4a65c_elementData_915e3 1 := ⟨ok_Jx4a65c_elementData_915e3, rfl, lw_in 361 (by decide +kernel) (by decide +kernel), by decide +kernel⟩
theorem ov_Jx4a65c_elementData_915e3 : okV mJx4a65c_elementData_915e3 1 := ⟨oi_Jx4a65c_elementData_915e3, lw_in 362 (by decide +kernel) (by decide +kernel), by decide⟩
theorem os_X4_canBeStopped : okSt mX4_canBeStopped 1 := ⟨ok_X4_canBeStopped, lw_in 366 (by decide +kernel) (by decide +kernel), by decide +kernel⟩
theorem oi_X4_pause : okI mX4_pause 1 := ⟨ok_X4_pause, rfl, lw_in 370 (by decide +kernel) (by decide +kernel), by decide +kernel⟩
theorem ov_X4_pause : okV mX4_pause 1 := ⟨oi_X4_pause, lw_in 5 (by decide +kernel) (by decide +kernel), by decide⟩
theorem oi_X4_leaveOrder : okI mX4_leaveOrder 1 := ⟨ok_X4_leaveOrder, rfl, lw_in 374 (by decide +kernel) (by decide +kernel), by decide +kernel⟩
theorem ov_X4_leaveOrder : okV mX4_leaveOrder 1 := ⟨oi_X4_leaveOrder, lw_in 6 (by decide +kernel) (by decide +kernel), by decide⟩
theorem oi_Jx4a65c_remove_915e3 : okI mJx4a65c_remove_915e3 1 := ⟨ok_Jx4a65c_remove_915e3, rfl, lw_in 377 (by decide +kernel) (by decide +kernel), by decide +kernel⟩
theorem ov_Jx4a65c_remove_915e3 : okV mJx4a65c_remove_915e3 1 := ⟨oi_Jx4a65c_remove_915e3, lw_in 378 (by decide +kernel) (by decide +kernel), by decide⟩
theorem oi_Jx4a65c_fastRemove_b59b0 : okI mJx4a65c_fastRemove_b59b0 2 := ⟨ok_Jx4a65c_fastRemove_b59b0, rfl, lw_in 382 (by decide +kernel) (by decide +kernel), by decide +kernel⟩
theorem ov_Jx4a65c_fastRemove_b59b0 : okV mJx4a65c_fastRemove_b59b0 2 := ⟨oi_Jx4a65c_fastRemove_b59b0, lw_in 7 (by decide +kernel) (by decide +kernel), by decide⟩
theorem oi_X4_comeInto : okI mX4_comeInto 2 := ⟨ok_X4_comeInto, rfl, lw_in 387 (by decide +kernel) (by decide +kernel), by decide +kernel⟩
theorem ov_X4_comeInto : okV mX4_comeInto 2 := ⟨oi_X4_comeInto, lw_in 8 (by decide +kernel) (by decide +kernel), by decide⟩
theorem oi_X2_write : okI mX2_write 2 := ⟨ok_X2_write, rfl, lw_in 390 (by decide +kernel) (by decide +kernel), by decide +kernel⟩
theorem ov_X2_write : okV mX2_write 2 := ⟨oi_X2_write, lw_in 391 (by decide +kernel) (by decide +kernel), by decide⟩
theorem os_J7_copyOf_59c91 : okSt mJ7_copyOf_59c91 2 := ⟨ok_J7_copyOf_59c91, lw_in 395 (by decide +kernel) (by decide +kernel), by decide +kernel⟩
theorem oi_X4_lookAtOrder : okI mX4_lookAtOrder 0 := ⟨ok_X4_lookAtOrder, rfl, lw_in 406 (by decide +kernel) (by decide +kernel), by decide +kernel⟩
theorem ov_X4_lookAtOrder : okV mX4_lookAtOrder 0 := ⟨oi_X4_lookAtOrder, lw_in 9 (by decide +kernel) (by decide +kernel), by decide⟩
theorem oi_X4_locksAreFreeFor : okI mX4_locksAreFreeFor 1 := ⟨ok_X4_locksAreFreeFor, rfl, lw_in 411 (by decide +kernel) (by decide +kernel), by decide +kernel⟩
theorem ov_X4_locksAreFreeFor : okV mX4_locksAreFreeFor 1 := ⟨oi_X4_locksAreFreeFor, lw_in 10 (by decide +kernel) (by decide +kernel), by decide⟩
theorem oi_X1_needs : okI mX1_needs 1 := ⟨ok_X1_needs, rfl, lw_in 414 (by decide +kernel) (by decide +kernel), by decide +kernel⟩
theorem ov_X1_needs : okV mX1_needs 1 := ⟨oi_X1_needs, lw_in 415 (by decide +kernel) (by decide +kernel), by decide⟩
theorem oi_X4_setHolder : okI mX4_setHolder 2 := ⟨ok_X4_setHolder, rfl, lw_in 419 (by decide +kernel) (by decide +kernel), by decide +kernel⟩
theorem ov_X4_setHolder : okV mX4_setHolder 2 := ⟨oi_X4_setHolder, lw_in 11 (by decide +kernel) (by decide +kernel), by decide⟩
theorem os_L_takeUp : okSt mL_takeUp 2 := ⟨ok_L_takeUp, lw_in 422 (by decide +kernel) (by decide +kernel), by decide +kernel⟩
theorem oi_X4_takeUp : okI mX4_takeUp 1 := ⟨ok_X4_takeUp, rfl, lw_in 425 (by decide +kernel) (by decide +kernel), by decide +kernel⟩
theorem ov_X4_takeUp : okV mX4_takeUp 1 := ⟨oi_X4_takeUp, lw_in 426 (by decide +kernel) (by decide +kernel), by decide⟩
theorem os_X4_canGoOn : okSt mX4_canGoOn 1 := ⟨ok_X4_canGoOn, lw_in 430 (by decide +kernel) (by decide +kernel), by decide +kernel⟩
theorem oi_X4_resume : okI mX4_resume 1 := ⟨ok_X4_resume, rfl, lw_in 434 (by decide +kernel) (by decide +kernel), by decide +kernel⟩
theorem ov_X4_resume : okV mX4_resume 1 := ⟨oi_X4_resume, lw_in 12 (by decide +kernel) (by decide +kernel), by decide⟩
theorem oi_X4_waitForLocks : okI mX4_waitForLocks 1 := ⟨ok_X4_waitForLocks, rfl, lw_in 438 (by decide +kernel) (by decide +kernel), by decide +kernel⟩
theorem ov_X4_waitForLocks : okV mX4_waitForLocks 1 := ⟨oi_X4_waitForLocks, lw_in 13 (by decide +kernel) (by decide +kernel), by decide⟩
theorem os_L_isAttached : okSt mL_isAttached 2 := ⟨ok_L_isAttached, lw_in 441 (by decide +kernel) (by decide +kernel), by decide +kernel⟩
theorem oi_X4_isAttached : okI mX4_isAttached 1 := ⟨ok_X4_isAttached, rfl, lw_in 444 (by decide +kernel) (by decide +kernel), by decide +kernel⟩
theorem ov_X4_isAttached : okV mX4_isAttached 1 := ⟨oi_X4_isAttached, lw_in 445 (by decide +kernel) (by decide +kernel), by decide⟩
theorem os_L_kept : okSt mL_kept 2 := ⟨ok_L_kept, lw_in 448 (by decide +kernel) (by decide +kernel), by decide +kernel⟩
theorem oi_X4_kept : okI mX4_kept 1 := ⟨ok_X4_kept, rfl, lw_in 451 (by decide +kernel) (by decide +kernel), by decide +kernel⟩
theorem ov_X4_kept : okV mX4_kept 1 := ⟨oi_X4_kept, lw_in 452 (by decide +kernel) (by decide +kernel), by decide⟩
theorem os_L_commandAt : okSt mL_commandAt 3 := ⟨ok_L_commandAt, lw_in 455 (by decide +kernel) (by decide +kernel), by decide +kernel⟩
theorem oi_X4_commandAt : okI mX4_commandAt 2 := ⟨ok_X4_commandAt, rfl, lw_in 459 (by decide +kernel) (by decide +kernel), by decide +kernel⟩
theorem ov_X4_commandAt : okV mX4_commandAt 2 := ⟨oi_X4_commandAt, lw_in 460 (by decide +kernel) (by decide +kernel), by decide⟩
theorem os_X4_commandOf : okSt mX4_commandOf 2 := ⟨ok_X4_commandOf, lw_in 463 (by decide +kernel) (by decide +kernel), by decide +kernel⟩
theorem os_L_search : okSt mL_search 4 := ⟨ok_L_search, lw_in 482 (by decide +kernel) (by decide +kernel), by decide +kernel⟩
theorem oi_X4_search : okI mX4_search 3 := ⟨ok_X4_search, rfl, lw_in 486 (by decide +kernel) (by decide +kernel), by decide +kernel⟩
theorem ov_X4_search : okV mX4_search 3 := ⟨oi_X4_search, lw_in 487 (by decide +kernel) (by decide +kernel), by decide⟩
theorem oi_X0_lastBetween : okI mX0_lastBetween 2 := ⟨ok_X0_lastBetween, rfl, lw_in 506 (by decide +kernel) (by decide +kernel), by decide +kernel⟩
theorem ov_X0_lastBetween : okV mX0_lastBetween 2 := ⟨oi_X0_lastBetween, lw_in 507 (by decide +kernel) (by decide +kernel), by decide⟩
theorem os_L_start : okSt mL_start 6 := ⟨ok_L_start, lw_in 511 (by decide +kernel) (by decide +kernel), by decide +kernel⟩
theorem oi_X4_start : okI mX4_start 5 := ⟨ok_X4_start, rfl, lw_in 515 (by decide +kernel) (by decide +kernel), by decide +kernel⟩
theorem ov_X4_start : okV mX4_start 5 := ⟨oi_X4_start, lw_in 516 (by decide +kernel) (by decide +kernel), by decide⟩
theorem os_X4_isCommand : okSt mX4_isCommand 1 := ⟨ok_X4_isCommand, lw_in 519 (by decide +kernel) (by decide +kernel), by decide +kernel⟩
theorem os_X4_isWork : okSt mX4_isWork 1 := ⟨ok_X4_isWork, lw_in 522 (by decide +kernel) (by decide +kernel), by decide +kernel⟩
theorem os_X4_areLocks : okSt mX4_areLocks 1 := ⟨ok_X4_areLocks, lw_in 525 (by decide +kernel) (by decide +kernel), by decide +kernel⟩
theorem oi_X1_init : okI mX1_init 4 := ⟨ok_X1_init, rfl, lw_in 546 (by decide +kernel) (by decide +kernel), by decide +kernel⟩
theorem oi_X4_remember : okI mX4_remember 2 := ⟨ok_X4_remember, rfl, lw_in 580 (by decide +kernel) (by decide +kernel), by decide +kernel⟩
theorem ov_X4_remember : okV mX4_remember 2 := ⟨oi_X4_remember, lw_in 14 (by decide +kernel) (by decide +kernel), by decide⟩
theorem oi_X0_append : okI mX0_append 1 := ⟨ok_X0_append, rfl, lw_in 583 (by decide +kernel) (by decide +kernel), by decide +kernel⟩
theorem ov_X0_append : okV mX0_append 1 := ⟨oi_X0_append, lw_in 584 (by decide +kernel) (by decide +kernel), by decide⟩
theorem oi_X0_takeOut : okI mX0_takeOut 1 := ⟨ok_X0_takeOut, rfl, lw_in 588 (by decide +kernel) (by decide +kernel), by decide +kernel⟩
theorem ov_X0_takeOut : okV mX0_takeOut 1 := ⟨oi_X0_takeOut, lw_in 15 (by decide +kernel) (by decide +kernel), by decide⟩
theorem oi_X0_forget : okI mX0_forget 1 := ⟨ok_X0_forget, rfl, lw_in 591 (by decide +kernel) (by decide +kernel), by decide +kernel⟩
theorem ov_X0_forget : okV mX0_forget 1 := ⟨oi_X0_forget, lw_in 592 (by decide +kernel) (by decide +kernel), by decide⟩
theorem os_L_state : okSt mL_state 2 := ⟨ok_L_state, lw_in 595 (by decide +kernel) (by decide +kernel), by decide +kernel⟩
theorem oi_X4_state : okI mX4_state 1 := ⟨ok_X4_state, rfl, lw_in 598 (by decide +kernel) (by decide +kernel), by decide +kernel⟩
theorem ov_X4_state : okV mX4_state 1 := ⟨oi_X4_state, lw_in 599 (by decide +kernel) (by decide +kernel), by decide⟩
theorem oi_X4_jobNumbered : okI mX4_jobNumbered 1 := ⟨ok_X4_jobNumbered, rfl, lw_in 603 (by decide +kernel) (by decide +kernel), by decide +kernel⟩
theorem ov_X4_jobNumbered : okV mX4_jobNumbered 1 := ⟨oi_X4_jobNumbered, lw_in 16 (by decide +kernel) (by decide +kernel), by decide⟩
theorem os_L_sessionOf : okSt mL_sessionOf 2 := ⟨ok_L_sessionOf, lw_in 607 (by decide +kernel) (by decide +kernel), by decide +kernel⟩
theorem oi_X4_sessionOf : okI mX4_sessionOf 1 := ⟨ok_X4_sessionOf, rfl, lw_in 610 (by decide +kernel) (by decide +kernel), by decide +kernel⟩
theorem ov_X4_sessionOf : okV mX4_sessionOf 1 := ⟨oi_X4_sessionOf, lw_in 611 (by decide +kernel) (by decide +kernel), by decide⟩
theorem os_L_front : okSt mL_front 2 := ⟨ok_L_front, lw_in 614 (by decide +kernel) (by decide +kernel), by decide +kernel⟩
theorem oi_X4_front : okI mX4_front 1 := ⟨ok_X4_front, rfl, lw_in 617 (by decide +kernel) (by decide +kernel), by decide +kernel⟩
theorem ov_X4_front : okV mX4_front 1 := ⟨oi_X4_front, lw_in 618 (by decide +kernel) (by decide +kernel), by decide⟩
theorem os_X4_jobInFrontOf : okSt mX4_jobInFrontOf 1 := ⟨ok_X4_jobInFrontOf, lw_in 621 (by decide +kernel) (by decide +kernel), by decide +kernel⟩
theorem os_L_toFront : okSt mL_toFront 2 := ⟨ok_L_toFront, lw_in 625 (by decide +kernel) (by decide +kernel), by decide +kernel⟩
theorem oi_X4_toFront : okI mX4_toFront 1 := ⟨ok_X4_toFront, rfl, lw_in 628 (by decide +kernel) (by decide +kernel), by decide +kernel⟩
theorem ov_X4_toFront : okV mX4_toFront 1 := ⟨oi_X4_toFront, lw_in 629 (by decide +kernel) (by decide +kernel), by decide⟩
theorem os_X4_isOver : okSt mX4_isOver 1 := ⟨ok_X4_isOver, lw_in 633 (by decide +kernel) (by decide +kernel), by decide +kernel⟩
theorem os_L_toBack : okSt mL_toBack 2 := ⟨ok_L_toBack, lw_in 637 (by decide +kernel) (by decide +kernel), by decide +kernel⟩
theorem oi_X4_toBack : okI mX4_toBack 1 := ⟨ok_X4_toBack, rfl, lw_in 640 (by decide +kernel) (by decide +kernel), by decide +kernel⟩
theorem ov_X4_toBack : okV mX4_toBack 1 := ⟨oi_X4_toBack, lw_in 641 (by decide +kernel) (by decide +kernel), by decide⟩
theorem os_L_count : okSt mL_count 3 := ⟨ok_L_count, lw_in 644 (by decide +kernel) (by decide +kernel), by decide +kernel⟩
theorem oi_X4_count : okI mX4_count 2 := ⟨ok_X4_count, rfl, lw_in 647 (by decide +kernel) (by decide +kernel), by decide +kernel⟩
theorem ov_X4_count : okV mX4_count 2 := ⟨oi_X4_count, lw_in 648 (by decide +kernel) (by decide +kernel), by decide⟩
theorem os_X4_isState : okSt mX4_isState 1 := ⟨ok_X4_isState, lw_in 651 (by decide +kernel) (by decide +kernel), by decide +kernel⟩
theorem os_L_holds : okSt mL_holds 2 := ⟨ok_L_holds, lw_in 655 (by decide +kernel) (by decide +kernel), by decide +kernel⟩
theorem oi_X4_holds : okI mX4_holds 1 := ⟨ok_X4_holds, rfl, lw_in 658 (by decide +kernel) (by decide +kernel), by decide +kernel⟩
theorem ov_X4_holds : okV mX4_holds 1 := ⟨oi_X4_holds, lw_in 659 (by decide +kernel) (by decide +kernel), by decide⟩
theorem os_L_waitingAt : okSt mL_waitingAt 2 := ⟨ok_L_waitingAt, lw_in 662 (by decide +kernel) (by decide +kernel), by decide +kernel⟩
theorem oi_X4_waitingAt : okI mX4_waitingAt 1 := ⟨ok_X4_waitingAt, rfl, lw_in 665 (by decide +kernel) (by decide +kernel), by decide +kernel⟩
theorem ov_X4_waitingAt : okV mX4_waitingAt 1 := ⟨oi_X4_waitingAt, lw_in 666 (by decide +kernel) (by decide +kernel), by decide⟩
theorem os_L_stop : okSt mL_stop 2 := ⟨ok_L_stop, lw_in 670 (by decide +kernel) (by decide +kernel), by decide +kernel⟩
theorem oi_X4_stop : okI mX4_stop 1 := ⟨ok_X4_stop, rfl, lw_in 673 (by decide +kernel) (by decide +kernel), by decide +kernel⟩
theorem ov_X4_stop : okV mX4_stop 1 := ⟨oi_X4_stop, lw_in 674 (by decide +kernel) (by decide +kernel), by decide⟩
theorem os_L_goOn : okSt mL_goOn 2 := ⟨ok_L_goOn, lw_in 678 (by decide +kernel) (by decide +kernel), by decide +kernel⟩
theorem oi_X4_goOn : okI mX4_goOn 1 := ⟨ok_X4_goOn, rfl, lw_in 681 (by decide +kernel) (by decide +kernel), by decide +kernel⟩
theorem ov_X4_goOn : okV mX4_goOn 1 := ⟨oi_X4_goOn, lw_in 682 (by decide +kernel) (by decide +kernel), by decide⟩
theorem os_L_end : okSt mL_end 2 := ⟨ok_L_end, lw_in 686 (by decide +kernel) (by decide +kernel), by decide +kernel⟩
theorem oi_X4_end : okI mX4_end 1 := ⟨ok_X4_end, rfl, lw_in 689 (by decide +kernel) (by decide +kernel), by decide +kernel⟩
theorem ov_X4_end : okV mX4_end 1 := ⟨oi_X4_end, lw_in 690 (by decide +kernel) (by decide +kernel), by decide⟩
theorem oi_X4_finish : okI mX4_finish 2 := ⟨ok_X4_finish, rfl, lw_in 694 (by decide +kernel) (by decide +kernel), by decide +kernel⟩
theorem ov_X4_finish : okV mX4_finish 2 := ⟨oi_X4_finish, lw_in 17 (by decide +kernel) (by decide +kernel), by decide⟩
theorem os_L_signal : okSt mL_signal 3 := ⟨ok_L_signal, lw_in 697 (by decide +kernel) (by decide +kernel), by decide +kernel⟩
theorem oi_X4_signal : okI mX4_signal 2 := ⟨ok_X4_signal, rfl, lw_in 700 (by decide +kernel) (by decide +kernel), by decide +kernel⟩
theorem ov_X4_signal : okV mX4_signal 2 := ⟨oi_X4_signal, lw_in 701 (by decide +kernel) (by decide +kernel), by decide⟩
theorem oi_X4_obeys : okI mX4_obeys 2 := ⟨ok_X4_obeys, rfl, lw_in 706 (by decide +kernel) (by decide +kernel), by decide +kernel⟩
theorem ov_X4_obeys : okV mX4_obeys 2 := ⟨oi_X4_obeys, lw_in 18 (by decide +kernel) (by decide +kernel), by decide⟩
theorem os_L_tick : okSt mL_tick 2 := ⟨ok_L_tick, lw_in 709 (by decide +kernel) (by decide +kernel), by decide +kernel⟩
theorem oi_X4_tick : okI mX4_tick 1 := ⟨ok_X4_tick, rfl, lw_in 712 (by decide +kernel) (by decide +kernel), by decide +kernel⟩
theorem ov_X4_tick : okV mX4_tick 1 := ⟨oi_X4_tick, lw_in 713 (by decide +kernel) (by decide +kernel), by decide⟩
theorem oi_X4_passOneTick : okI mX4_passOneTick 0 := ⟨ok_X4_passOneTick, rfl, lw_in 718 (by decide +kernel) (by decide +kernel), by decide +kernel⟩
theorem ov_X4_passOneTick : okV mX4_passOneTick 0 := ⟨oi_X4_passOneTick, lw_in 19 (by decide +kernel) (by decide +kernel), by decide⟩
theorem oi_X4_workIsDone : okI mX4_workIsDone 1 := ⟨ok_X4_workIsDone, rfl, lw_in 722 (by decide +kernel) (by decide +kernel), by decide +kernel⟩
theorem ov_X4_workIsDone : okV mX4_workIsDone 1 := ⟨oi_X4_workIsDone, lw_in 20 (by decide +kernel) (by decide +kernel), by decide⟩
theorem os_L_ofSession : okSt mL_ofSession 3 := ⟨ok_L_ofSession, lw_in 725 (by decide +kernel) (by decide +kernel), by decide +kernel⟩
theorem os_L_done : okSt mL_done 2 := ⟨ok_L_done, lw_in 728 (by decide +kernel) (by decide +kernel), by decide +kernel⟩
theorem os_L_sum : okSt mL_sum 2 := ⟨ok_L_sum, lw_in 731 (by decide +kernel) (by decide +kernel), by decide +kernel⟩
theorem oi_X4_entries : okI mX4_entries 0 := ⟨ok_X4_entries, rfl, lw_in 734 (by decide +kernel) (by decide +kernel), by decide +kernel⟩
theorem ov_X4_entries : okV mX4_entries 0 := ⟨oi_X4_entries, lw_in 735 (by decide +kernel) (by decide +kernel), by decide⟩
theorem oi_X4_worked : okI mX4_worked 0 := ⟨ok_X4_worked, rfl, lw_in 739 (by decide +kernel) (by decide +kernel), by decide +kernel⟩
theorem ov_X4_worked : okV mX4_worked 0 := ⟨oi_X4_worked, lw_in 740 (by decide +kernel) (by decide +kernel), by decide⟩
theorem oi_X4_common : okI mX4_common 0 := ⟨ok_X4_common, rfl, lw_in 745 (by decide +kernel) (by decide +kernel), by decide +kernel⟩
theorem ov_X4_common : okV mX4_common 0 := ⟨oi_X4_common, lw_in 746 (by decide +kernel) (by decide +kernel), by decide⟩
theorem os_L_holder : okSt mL_holder 2 := ⟨ok_L_holder, lw_in 752 (by decide +kernel) (by decide +kernel), by decide +kernel⟩
theorem oi_X4_holder : okI mX4_holder 1 := ⟨ok_X4_holder, rfl, lw_in 755 (by decide +kernel) (by decide +kernel), by decide +kernel⟩
theorem ov_X4_holder : okV mX4_holder 1 := ⟨oi_X4_holder, lw_in 756 (by decide +kernel) (by decide +kernel), by decide⟩
theorem os_X4_refuseNoLock : okSt mX4_refuseNoLock 1 := ⟨ok_X4_refuseNoLock, lw_in 759 (by decide +kernel) (by decide +kernel), by decide +kernel⟩
theorem os_L_areJobs : okSt mL_areJobs 4 := ⟨ok_L_areJobs, lw_in 763 (by decide +kernel) (by decide +kernel), by decide +kernel⟩
theorem os_L_toDo : okSt mL_toDo 2 := ⟨ok_L_toDo, lw_in 766 (by decide +kernel) (by decide +kernel), by decide +kernel⟩
theorem oi_X4_toDo : okI mX4_toDo 1 := ⟨ok_X4_toDo, rfl, lw_in 769 (by decide +kernel) (by decide +kernel), by decide +kernel⟩
theorem ov_X4_toDo : okV mX4_toDo 1 := ⟨oi_X4_toDo, lw_in 770 (by decide +kernel) (by decide +kernel), by decide⟩
theorem os_L_stateByJournal : okSt mL_stateByJournal 2 := ⟨ok_L_stateByJournal, lw_in 773 (by decide +kernel) (by decide +kernel), by decide +kernel⟩
theorem oi_X4_stateByJournal : okI mX4_stateByJournal 1 := ⟨ok_X4_stateByJournal, rfl, lw_in 776 (by decide +kernel) (by decide +kernel), by decide +kernel⟩
theorem ov_X4_stateByJournal : okV mX4_stateByJournal 1 := ⟨oi_X4_stateByJournal, lw_in 777 (by decide +kernel) (by decide +kernel), by decide⟩
theorem oi_X2_lastStateOf : okI mX2_lastStateOf 1 := ⟨ok_X2_lastStateOf, rfl, lw_in 780 (by decide +kernel) (by decide +kernel), by decide +kernel⟩
theorem ov_X2_lastStateOf : okV mX2_lastStateOf 1 := ⟨oi_X2_lastStateOf, lw_in 781 (by decide +kernel) (by decide +kernel), by decide⟩
theorem oi_X2_conditionAt : okI mX2_conditionAt 1 := ⟨ok_X2_conditionAt, rfl, lw_in 784 (by decide +kernel) (by decide +kernel), by decide +kernel⟩
theorem ov_X2_conditionAt : okV mX2_conditionAt 1 := ⟨oi_X2_conditionAt, lw_in 785 (by decide +kernel) (by decide +kernel), by decide⟩
theorem os_L_holderByJobs : okSt mL_holderByJobs 2 := ⟨ok_L_holderByJobs, lw_in 788 (by decide +kernel) (by decide +kernel), by decide +kernel⟩
theorem oi_X4_holderByJobs : okI mX4_holderByJobs 1 := ⟨ok_X4_holderByJobs, rfl, lw_in 791 (by decide +kernel) (by decide +kernel), by decide +kernel⟩
theorem ov_X4_holderByJobs : okV mX4_holderByJobs 1 := ⟨oi_X4_holderByJobs, lw_in 792 (by decide +kernel) (by decide +kernel), by decide⟩
theorem os_L_blockers : okSt mL_blockers 2 := ⟨ok_L_blockers, lw_in 795 (by decide +kernel) (by decide +kernel), by decide +kernel⟩
theorem oi_X4_blockers : okI mX4_blockers 1 := ⟨ok_X4_blockers, rfl, lw_in 798 (by decide +kernel) (by decide +kernel), by decide +kernel⟩
theorem ov_X4_blockers : okV mX4_blockers 1 := ⟨oi_X4_blockers, lw_in 799 (by decide +kernel) (by decide +kernel), by decide⟩
theorem os_L_doneShare : okSt mL_doneShare 1 := ⟨ok_L_doneShare, lw_in 803 (by decide +kernel) (by decide +kernel), by decide +kernel⟩
theorem oi_X4_doneShare : okI mX4_doneShare 0 := ⟨ok_X4_doneShare, rfl, lw_in 806 (by decide +kernel) (by decide +kernel), by decide +kernel⟩
theorem ov_X4_doneShare : okV mX4_doneShare 0 := ⟨oi_X4_doneShare, lw_in 807 (by decide +kernel) (by decide +kernel), by decide⟩
theorem os_L_areFronts : okSt mL_areFronts 4 := ⟨ok_L_areFronts, lw_in 812 (by decide +kernel) (by decide +kernel), by decide +kernel⟩
theorem os_L_commonAt : okSt mL_commonAt 2 := ⟨ok_L_commonAt, lw_in 815 (by decide +kernel) (by decide +kernel), by decide +kernel⟩
theorem oi_X4_commonAt : okI mX4_commonAt 1 := ⟨ok_X4_commonAt, rfl, lw_in 818 (by decide +kernel) (by decide +kernel), by decide +kernel⟩
theorem ov_X4_commonAt : okV mX4_commonAt 1 := ⟨oi_X4_commonAt, lw_in 819 (by decide +kernel) (by decide +kernel), by decide⟩
theorem os_L_isJournal : okSt mL_isJournal 2 := ⟨ok_L_isJournal, lw_in 822 (by decide +kernel) (by decide +kernel), by decide +kernel⟩
theorem os_L_entryJob : okSt mL_entryJob 2 := ⟨ok_L_entryJob, lw_in 825 (by decide +kernel) (by decide +kernel), by decide +kernel⟩
theorem oi_X4_entryJob : okI mX4_entryJob 1 := ⟨ok_X4_entryJob, rfl, lw_in 828 (by decide +kernel) (by decide +kernel), by decide +kernel⟩
theorem ov_X4_entryJob : okV mX4_entryJob 1 := ⟨oi_X4_entryJob, lw_in 829 (by decide +kernel) (by decide +kernel), by decide⟩
theorem oi_X4_refuseNoEntry : okI mX4_refuseNoEntry 1 := ⟨ok_X4_refuseNoEntry, rfl, lw_in 833 (by decide +kernel) (by decide +kernel), by decide +kernel⟩
theorem ov_X4_refuseNoEntry : okV mX4_refuseNoEntry 1 := ⟨oi_X4_refuseNoEntry, lw_in 21 (by decide +kernel) (by decide +kernel), by decide⟩
theorem os_L_entryState : okSt mL_entryState 2 := ⟨ok_L_entryState, lw_in 837 (by decide +kernel) (by decide +kernel), by decide +kernel⟩
theorem oi_X4_entryState : okI mX4_entryState 1 := ⟨ok_X4_entryState, rfl, lw_in 840 (by decide +kernel) (by decide +kernel), by decide +kernel⟩
theorem ov_X4_entryState : okV mX4_entryState 1 := ⟨oi_X4_entryState, lw_in 841 (by decide +kernel) (by decide +kernel), by decide⟩
theorem oc0_0 : okC 0 1 (1, 0, mJxc12de_init_da8c8) := ⟨lw_in 58 (by decide +kernel) (by decide +kernel), oi_Jxc12de_init_da8c8, rfl⟩
theorem oc0_1 : okC 0 66 (2, 2, mJ7_copyOf_1904c) := ⟨lw_in 290 (by decide +kernel) (by decide +kernel), os_J7_copyOf_1904c⟩
theorem oc0_2 : okC 0 69 (0, 1, mJx4a65c_grow_92f84) := ⟨lw_in 276 (by decide +kernel) (by decide +kernel), ov_Jx4a65c_grow_92f84⟩
theorem oc0_3 : okC 0 73 (2, 3, mJ8_newLength_cabcc) := ⟨lw_in 280 (by decide +kernel) (by decide +kernel), os_J8_newLength_cabcc⟩
theorem oc0_4 : okC 0 79 (5, 2, mZ) := lw_in 320 (by decide +kernel) (by decide +kernel)
theorem oc0_5 : okC 0 112 (7, 5, mZ) := lw_in 384 (by decide +kernel) (by decide +kernel)
theorem oc0_6 : okC 0 118 (2, 2, mJ15_checkIndex_7cf53) := ⟨lw_in 354 (by decide +kernel) (by decide +kernel), os_J15_checkIndex_7cf53⟩
theorem oc0_7 : okC 0 123 (0, 1, mJx4a65c_elementData_915e3) := ⟨lw_in 360 (by decide +kernel) (by decide +kernel), ov_Jx4a65c_elementData_915e3⟩
theorem oc0_8 : okC 0 129 (0, 0, mJx4a65c_grow_d5877) := ⟨lw_in 272 (by decide +kernel) (by decide +kernel), ov_Jx4a65c_grow_d5877⟩
theorem oc0_9 : okC 0 131 (0, 3, mJx4a65c_add_72be8) := ⟨lw_in 268 (by decide +kernel) (by decide +kernel), ov_Jx4a65c_add_72be8⟩
theorem oc0_10 : okC 0 144 (0, 2, mJx4a65c_fastRemove_b59b0) := ⟨lw_in 380 (by decide +kernel) (by decide +kernel), ov_Jx4a65c_fastRemove_b59b0⟩
set_option maxRecDepth 10000 in
theorem oc0 : ∀ x ∈ clT0, okC 0 x.1 x.2 := (List.forall_mem_cons.mpr ⟨oc0_0, (List.forall_mem_cons.mpr ⟨oc0_1, (List.forall_mem_cons.mpr ⟨oc0_2, (List.forall_mem_cons.mpr ⟨oc0_3, (List.forall_mem_cons.mpr ⟨oc0_4, (List.forall_mem_cons.mpr ⟨oc0_5, (List.forall_mem_cons.mpr ⟨oc0_6, (List.forall_mem_cons.mpr ⟨oc0_7, (List.forall_mem_cons.mpr ⟨oc0_8, (List.forall_mem_cons.mpr ⟨oc0_9, (List.forall_mem_cons.mpr ⟨oc0_10, (fun _ h => nomatch h)⟩)⟩)⟩)⟩)⟩)⟩)⟩)⟩)⟩)⟩)⟩)
theorem oc1_0 : okC 1 3 (3, 0, mZ) := lw_in 87 (by decide +kernel) (by decide +kernel)
theorem oc1_1 : okC 1 19 (0, 1, mX0_takeOut) := ⟨lw_in 586 (by decide +kernel) (by decide +kernel), ov_X0_takeOut⟩
set_option maxRecDepth 10000 in
theorem oc1 : ∀ x ∈ clT1, okC 1 x.1 x.2 := (List.forall_mem_cons.mpr ⟨oc1_0, (List.forall_mem_cons.mpr ⟨oc1_1, (fun _ h => nomatch h)⟩)⟩)
theorem oc2_0 : okC 2 3 (3, 0, mZ) := lw_in 548 (by decide +kernel) (by decide +kernel)
set_option maxRecDepth 10000 in
theorem oc2 : ∀ x ∈ clT2, okC 2 x.1 x.2 := (List.forall_mem_cons.mpr ⟨oc2_0, (fun _ h => nomatch h)⟩)
theorem oc3_0 : okC 3 3 (3, 0, mZ) := lw_in 103 (by decide +kernel) (by decide +kernel)
theorem oc3_1 : okC 3 22 (4, 2, mZ) := lw_in 393 (by decide +kernel) (by decide +kernel)
theorem oc3_2 : okC 3 28 (2, 2, mJ7_copyOf_59c91) := ⟨lw_in 394 (by decide +kernel) (by decide +kernel), os_J7_copyOf_59c91⟩
theorem oc3_3 : okC 3 34 (0, 1, mX2_conditionAt) := ⟨lw_in 783 (by decide +kernel) (by decide +kernel), ov_X2_conditionAt⟩
set_option maxRecDepth 10000 in
theorem oc3 : ∀ x ∈ clT3, okC 3 x.1 x.2 := (List.forall_mem_cons.mpr ⟨oc3_0, (List.forall_mem_cons.mpr ⟨oc3_1, (List.forall_mem_cons.mpr ⟨oc3_2, (List.forall_mem_cons.mpr ⟨oc3_3, (fun _ h => nomatch h)⟩)⟩)⟩)⟩)
theorem oc4_0 : okC 4 3 (3, 0, mZ) := lw_in 236 (by decide +kernel) (by decide +kernel)
theorem oc4_1 : okC 4 21 (1, 1, mX0_init) := ⟨lw_in 238 (by decide +kernel) (by decide +kernel), oi_X0_init, rfl⟩
set_option maxRecDepth 10000 in
theorem oc4 : ∀ x ∈ clT4, okC 4 x.1 x.2 := (List.forall_mem_cons.mpr ⟨oc4_0, (List.forall_mem_cons.mpr ⟨oc4_1, (fun _ h => nomatch h)⟩)⟩)
theorem oc5_0 : okC 5 1 (3, 0, mZ) := lw_in 50 (by decide +kernel) (by decide +kernel)
theorem oc5_1 : okC 5 9 (1, 0, mJx4a65c_init_da8c8) := ⟨lw_in 55 (by decide +kernel) (by decide +kernel), oi_Jx4a65c_init_da8c8, rfl⟩
theorem oc5_2 : okC 5 26 (2, 2, mJ7_fill_53178) := ⟨lw_in 79 (by decide +kernel) (by decide +kernel), os_J7_fill_53178⟩
theorem oc5_3 : okC 5 34 (1, 1, mX0_init) := ⟨lw_in 84 (by decide +kernel) (by decide +kernel), oi_X0_init, rfl⟩
theorem oc5_4 : okC 5 43 (1, 0, mX2_init) := ⟨lw_in 100 (by decide +kernel) (by decide +kernel), oi_X2_init, rfl⟩
theorem oc5_5 : okC 5 52 (0, 0, mJx4a65c_size_8abf5) := ⟨lw_in 142 (by decide +kernel) (by decide +kernel), ov_Jx4a65c_size_8abf5⟩
theorem oc5_6 : okC 5 65 (1, 2, mX3_init) := ⟨lw_in 233 (by decide +kernel) (by decide +kernel), oi_X3_init, rfl⟩
theorem oc5_7 : okC 5 68 (0, 1, mJx4a65c_add_9ea2d) := ⟨lw_in 264 (by decide +kernel) (by decide +kernel), ov_Jx4a65c_add_9ea2d⟩
theorem oc5_8 : okC 5 72 (0, 1, mX4_sessionNumbered) := ⟨lw_in 330 (by decide +kernel) (by decide +kernel), ov_X4_sessionNumbered⟩
theorem oc5_9 : okC 5 89 (2, 1, mX4_canBeStopped) := ⟨lw_in 365 (by decide +kernel) (by decide +kernel), os_X4_canBeStopped⟩
theorem oc5_10 : okC 5 93 (0, 1, mX4_pause) := ⟨lw_in 368 (by decide +kernel) (by decide +kernel), ov_X4_pause⟩
theorem oc5_11 : okC 5 108 (2, 1, mX4_canGoOn) := ⟨lw_in 429 (by decide +kernel) (by decide +kernel), os_X4_canGoOn⟩
theorem oc5_12 : okC 5 111 (0, 1, mX4_resume) := ⟨lw_in 432 (by decide +kernel) (by decide +kernel), ov_X4_resume⟩
theorem oc5_13 : okC 5 119 (2, 2, mX4_commandOf) := ⟨lw_in 462 (by decide +kernel) (by decide +kernel), os_X4_commandOf⟩
theorem oc5_14 : okC 5 128 (0, 2, mX0_lastBetween) := ⟨lw_in 505 (by decide +kernel) (by decide +kernel), ov_X0_lastBetween⟩
theorem oc5_15 : okC 5 137 (2, 1, mX4_isCommand) := ⟨lw_in 518 (by decide +kernel) (by decide +kernel), os_X4_isCommand⟩
theorem oc5_16 : okC 5 141 (2, 1, mX4_isWork) := ⟨lw_in 521 (by decide +kernel) (by decide +kernel), os_X4_isWork⟩
theorem oc5_17 : okC 5 144 (2, 1, mX4_areLocks) := ⟨lw_in 524 (by decide +kernel) (by decide +kernel), os_X4_areLocks⟩
theorem oc5_18 : okC 5 154 (1, 4, mX1_init) := ⟨lw_in 545 (by decide +kernel) (by decide +kernel), oi_X1_init, rfl⟩
theorem oc5_19 : okC 5 157 (0, 2, mX4_remember) := ⟨lw_in 578 (by decide +kernel) (by decide +kernel), ov_X4_remember⟩
theorem oc5_20 : okC 5 161 (0, 1, mX4_waitForLocks) := ⟨lw_in 436 (by decide +kernel) (by decide +kernel), ov_X4_waitForLocks⟩
theorem oc5_21 : okC 5 164 (0, 1, mX4_jobNumbered) := ⟨lw_in 601 (by decide +kernel) (by decide +kernel), ov_X4_jobNumbered⟩
theorem oc5_22 : okC 5 172 (0, 1, mX2_lastStateOf) := ⟨lw_in 779 (by decide +kernel) (by decide +kernel), ov_X2_lastStateOf⟩
theorem oc5_23 : okC 5 184 (2, 1, mX4_jobInFrontOf) := ⟨lw_in 620 (by decide +kernel) (by decide +kernel), os_X4_jobInFrontOf⟩
theorem oc5_24 : okC 5 190 (2, 1, mX4_isOver) := ⟨lw_in 632 (by decide +kernel) (by decide +kernel), os_X4_isOver⟩
theorem oc5_25 : okC 5 195 (2, 1, mX4_isState) := ⟨lw_in 650 (by decide +kernel) (by decide +kernel), os_X4_isState⟩
theorem oc5_26 : okC 5 201 (0, 1, mJx4a65c_get_915e3) := ⟨lw_in 350 (by decide +kernel) (by decide +kernel), ov_Jx4a65c_get_915e3⟩
theorem oc5_27 : okC 5 205 (2, 1, mX4_refuseNoLock) := ⟨lw_in 758 (by decide +kernel) (by decide +kernel), os_X4_refuseNoLock⟩
theorem oc5_28 : okC 5 211 (0, 1, mX1_needs) := ⟨lw_in 413 (by decide +kernel) (by decide +kernel), ov_X1_needs⟩
theorem oc5_29 : okC 5 225 (0, 2, mX4_finish) := ⟨lw_in 692 (by decide +kernel) (by decide +kernel), ov_X4_finish⟩
theorem oc5_30 : okC 5 231 (0, 2, mX4_obeys) := ⟨lw_in 704 (by decide +kernel) (by decide +kernel), ov_X4_obeys⟩
theorem oc5_31 : okC 5 237 (0, 0, mX4_passOneTick) := ⟨lw_in 716 (by decide +kernel) (by decide +kernel), ov_X4_passOneTick⟩
theorem oc5_32 : okC 5 241 (0, 1, mX4_refuseNoEntry) := ⟨lw_in 831 (by decide +kernel) (by decide +kernel), ov_X4_refuseNoEntry⟩
theorem oc5_33 : okC 5 247 (0, 1, mX2_conditionAt) := ⟨lw_in 843 (by decide +kernel) (by decide +kernel), ov_X2_conditionAt⟩
theorem oc5_34 : okC 5 270 (0, 1, mX0_append) := ⟨lw_in 582 (by decide +kernel) (by decide +kernel), ov_X0_append⟩
theorem oc5_35 : okC 5 273 (0, 1, mX0_forget) := ⟨lw_in 590 (by decide +kernel) (by decide +kernel), ov_X0_forget⟩
theorem oc5_36 : okC 5 276 (0, 2, mX2_write) := ⟨lw_in 389 (by decide +kernel) (by decide +kernel), ov_X2_write⟩
theorem oc5_37 : okC 5 280 (0, 2, mX4_comeInto) := ⟨lw_in 385 (by decide +kernel) (by decide +kernel), ov_X4_comeInto⟩
theorem oc5_38 : okC 5 283 (0, 0, mX4_lookAtOrder) := ⟨lw_in 404 (by decide +kernel) (by decide +kernel), ov_X4_lookAtOrder⟩
theorem oc5_39 : okC 5 286 (0, 1, mX4_leaveOrder) := ⟨lw_in 372 (by decide +kernel) (by decide +kernel), ov_X4_leaveOrder⟩
theorem oc5_40 : okC 5 289 (0, 2, mX4_setHolder) := ⟨lw_in 417 (by decide +kernel) (by decide +kernel), ov_X4_setHolder⟩
theorem oc5_41 : okC 5 296 (0, 1, mX4_workIsDone) := ⟨lw_in 720 (by decide +kernel) (by decide +kernel), ov_X4_workIsDone⟩
theorem oc5_42 : okC 5 299 (0, 1, mJx4a65c_remove_915e3) := ⟨lw_in 376 (by decide +kernel) (by decide +kernel), ov_Jx4a65c_remove_915e3⟩
theorem oc5_43 : okC 5 302 (0, 1, mX4_locksAreFreeFor) := ⟨lw_in 409 (by decide +kernel) (by decide +kernel), ov_X4_locksAreFreeFor⟩
set_option maxRecDepth 10000 in
theorem oc5 : ∀ x ∈ clT5, okC 5 x.1 x.2 := (List.forall_mem_cons.mpr ⟨oc5_0, (List.forall_mem_cons.mpr ⟨oc5_1, (List.forall_mem_cons.mpr ⟨oc5_2, (List.forall_mem_cons.mpr ⟨oc5_3, (List.forall_mem_cons.mpr ⟨oc5_4, (List.forall_mem_cons.mpr ⟨oc5_5, (List.forall_mem_cons.mpr ⟨oc5_6, (List.forall_mem_cons.mpr ⟨oc5_7, (List.forall_mem_cons.mpr ⟨oc5_8, (List.forall_mem_cons.mpr ⟨oc5_9, (List.forall_mem_cons.mpr ⟨oc5_10, (List.forall_mem_cons.mpr ⟨oc5_11, (List.forall_mem_cons.mpr ⟨oc5_12, (List.forall_mem_cons.mpr ⟨oc5_13, (List.forall_mem_cons.mpr ⟨oc5_14, (List.forall_mem_cons.mpr ⟨oc5_15, (List.forall_mem_cons.mpr ⟨oc5_16, (List.forall_mem_cons.mpr ⟨oc5_17, (List.forall_mem_cons.mpr ⟨oc5_18, (List.forall_mem_cons.mpr ⟨oc5_19, (List.forall_mem_cons.mpr ⟨oc5_20, (List.forall_mem_cons.mpr ⟨oc5_21, (List.forall_mem_cons.mpr ⟨oc5_22, (List.forall_mem_cons.mpr ⟨oc5_23, (List.forall_mem_cons.mpr ⟨oc5_24, (List.forall_mem_cons.mpr ⟨oc5_25, (List.forall_mem_cons.mpr ⟨oc5_26, (List.forall_mem_cons.mpr ⟨oc5_27, (List.forall_mem_cons.mpr ⟨oc5_28, (List.forall_mem_cons.mpr ⟨oc5_29, (List.forall_mem_cons.mpr ⟨oc5_30, (List.forall_mem_cons.mpr ⟨oc5_31, (List.forall_mem_cons.mpr ⟨oc5_32, (List.forall_mem_cons.mpr ⟨oc5_33, (List.forall_mem_cons.mpr ⟨oc5_34, (List.forall_mem_cons.mpr ⟨oc5_35, (List.forall_mem_cons.mpr ⟨oc5_36, (List.forall_mem_cons.mpr ⟨oc5_37, (List.forall_mem_cons.mpr ⟨oc5_38, (List.forall_mem_cons.mpr ⟨oc5_39, (List.forall_mem_cons.mpr ⟨oc5_40, (List.forall_mem_cons.mpr ⟨oc5_41, (List.forall_mem_cons.mpr ⟨oc5_42, (List.forall_mem_cons.mpr ⟨oc5_43, (fun _ h => nomatch h)⟩)⟩)⟩)⟩)⟩)⟩)⟩)⟩)⟩)⟩)⟩)⟩)⟩)⟩)⟩)⟩)⟩)⟩)⟩)⟩)⟩)⟩)⟩)⟩)⟩)⟩)⟩)⟩)⟩)⟩)⟩)⟩)⟩)⟩)⟩)⟩)⟩)⟩)⟩)⟩)⟩)⟩)⟩)⟩)
theorem oc7_0 : okC 7 8 (2, 2, mL_cell) := ⟨lw_in 149 (by decide +kernel) (by decide +kernel), os_L_cell⟩
theorem oc7_1 : okC 7 14 (0, 1, mX4_open) := ⟨lw_in 157 (by decide +kernel) (by decide +kernel), ov_X4_open⟩
theorem oc7_2 : okC 7 22 (0, 1, mX4_drop) := ⟨lw_in 326 (by decide +kernel) (by decide +kernel), ov_X4_drop⟩
theorem oc7_3 : okC 7 28 (0, 1, mX4_takeUp) := ⟨lw_in 424 (by decide +kernel) (by decide +kernel), ov_X4_takeUp⟩
theorem oc7_4 : okC 7 31 (0, 1, mX4_isAttached) := ⟨lw_in 443 (by decide +kernel) (by decide +kernel), ov_X4_isAttached⟩
theorem oc7_5 : okC 7 35 (0, 1, mX4_kept) := ⟨lw_in 450 (by decide +kernel) (by decide +kernel), ov_X4_kept⟩
theorem oc7_6 : okC 7 38 (0, 2, mX4_commandAt) := ⟨lw_in 458 (by decide +kernel) (by decide +kernel), ov_X4_commandAt⟩
theorem oc7_7 : okC 7 44 (0, 1, mX4_commonAt) := ⟨lw_in 817 (by decide +kernel) (by decide +kernel), ov_X4_commonAt⟩
theorem oc7_8 : okC 7 47 (0, 3, mX4_search) := ⟨lw_in 485 (by decide +kernel) (by decide +kernel), ov_X4_search⟩
theorem oc7_9 : okC 7 53 (0, 5, mX4_start) := ⟨lw_in 514 (by decide +kernel) (by decide +kernel), ov_X4_start⟩
theorem oc7_10 : okC 7 59 (0, 1, mX4_state) := ⟨lw_in 597 (by decide +kernel) (by decide +kernel), ov_X4_state⟩
theorem oc7_11 : okC 7 63 (0, 1, mX4_stateByJournal) := ⟨lw_in 775 (by decide +kernel) (by decide +kernel), ov_X4_stateByJournal⟩
theorem oc7_12 : okC 7 66 (0, 1, mX4_toDo) := ⟨lw_in 768 (by decide +kernel) (by decide +kernel), ov_X4_toDo⟩
theorem oc7_13 : okC 7 69 (0, 1, mX4_sessionOf) := ⟨lw_in 609 (by decide +kernel) (by decide +kernel), ov_X4_sessionOf⟩
theorem oc7_14 : okC 7 72 (0, 1, mX4_front) := ⟨lw_in 616 (by decide +kernel) (by decide +kernel), ov_X4_front⟩
theorem oc7_15 : okC 7 75 (0, 1, mX4_toFront) := ⟨lw_in 627 (by decide +kernel) (by decide +kernel), ov_X4_toFront⟩
theorem oc7_16 : okC 7 78 (0, 1, mX4_toBack) := ⟨lw_in 639 (by decide +kernel) (by decide +kernel), ov_X4_toBack⟩
theorem oc7_17 : okC 7 81 (0, 2, mX4_count) := ⟨lw_in 646 (by decide +kernel) (by decide +kernel), ov_X4_count⟩
theorem oc7_18 : okC 7 85 (0, 1, mX4_holder) := ⟨lw_in 754 (by decide +kernel) (by decide +kernel), ov_X4_holder⟩
theorem oc7_19 : okC 7 88 (0, 1, mX4_holderByJobs) := ⟨lw_in 790 (by decide +kernel) (by decide +kernel), ov_X4_holderByJobs⟩
theorem oc7_20 : okC 7 91 (0, 1, mX4_holds) := ⟨lw_in 657 (by decide +kernel) (by decide +kernel), ov_X4_holds⟩
theorem oc7_21 : okC 7 94 (0, 1, mX4_waitingAt) := ⟨lw_in 664 (by decide +kernel) (by decide +kernel), ov_X4_waitingAt⟩
theorem oc7_22 : okC 7 97 (0, 1, mX4_blockers) := ⟨lw_in 797 (by decide +kernel) (by decide +kernel), ov_X4_blockers⟩
theorem oc7_23 : okC 7 100 (0, 1, mX4_stop) := ⟨lw_in 672 (by decide +kernel) (by decide +kernel), ov_X4_stop⟩
theorem oc7_24 : okC 7 103 (0, 1, mX4_goOn) := ⟨lw_in 680 (by decide +kernel) (by decide +kernel), ov_X4_goOn⟩
theorem oc7_25 : okC 7 106 (0, 1, mX4_end) := ⟨lw_in 688 (by decide +kernel) (by decide +kernel), ov_X4_end⟩
theorem oc7_26 : okC 7 109 (0, 2, mX4_signal) := ⟨lw_in 699 (by decide +kernel) (by decide +kernel), ov_X4_signal⟩
theorem oc7_27 : okC 7 112 (0, 1, mX4_tick) := ⟨lw_in 711 (by decide +kernel) (by decide +kernel), ov_X4_tick⟩
theorem oc7_28 : okC 7 115 (0, 1, mX4_entryJob) := ⟨lw_in 827 (by decide +kernel) (by decide +kernel), ov_X4_entryJob⟩
theorem oc7_29 : okC 7 118 (0, 1, mX4_entryState) := ⟨lw_in 839 (by decide +kernel) (by decide +kernel), ov_X4_entryState⟩
theorem oc7_30 : okC 7 121 (0, 0, mX4_doneShare) := ⟨lw_in 805 (by decide +kernel) (by decide +kernel), ov_X4_doneShare⟩
theorem oc7_31 : okC 7 126 (1, 0, mX4_init) := ⟨lw_in 47 (by decide +kernel) (by decide +kernel), oi_X4_init, rfl⟩
theorem oc7_32 : okC 7 127 (2, 2, mL_open) := ⟨lw_in 153 (by decide +kernel) (by decide +kernel), os_L_open⟩
theorem oc7_33 : okC 7 130 (2, 2, mL_sum) := ⟨lw_in 730 (by decide +kernel) (by decide +kernel), os_L_sum⟩
theorem oc7_34 : okC 7 134 (2, 3, mL_pick) := ⟨lw_in 146 (by decide +kernel) (by decide +kernel), os_L_pick⟩
theorem oc7_35 : okC 7 138 (2, 2, mL_front) := ⟨lw_in 613 (by decide +kernel) (by decide +kernel), os_L_front⟩
theorem oc7_36 : okC 7 141 (2, 2, mL_drop) := ⟨lw_in 322 (by decide +kernel) (by decide +kernel), os_L_drop⟩
theorem oc7_37 : okC 7 143 (2, 2, mL_isAttached) := ⟨lw_in 440 (by decide +kernel) (by decide +kernel), os_L_isAttached⟩
theorem oc7_38 : okC 7 145 (2, 2, mL_state) := ⟨lw_in 594 (by decide +kernel) (by decide +kernel), os_L_state⟩
theorem oc7_39 : okC 7 147 (2, 2, mL_takeUp) := ⟨lw_in 421 (by decide +kernel) (by decide +kernel), os_L_takeUp⟩
theorem oc7_40 : okC 7 149 (2, 2, mL_kept) := ⟨lw_in 447 (by decide +kernel) (by decide +kernel), os_L_kept⟩
theorem oc7_41 : okC 7 151 (2, 6, mL_start) := ⟨lw_in 510 (by decide +kernel) (by decide +kernel), os_L_start⟩
theorem oc7_42 : okC 7 154 (2, 2, mL_sessionOf) := ⟨lw_in 606 (by decide +kernel) (by decide +kernel), os_L_sessionOf⟩
theorem oc7_43 : okC 7 156 (2, 3, mL_commandAt) := ⟨lw_in 454 (by decide +kernel) (by decide +kernel), os_L_commandAt⟩
theorem oc7_44 : okC 7 159 (4, 2, mZ) := lw_in 845 (by decide +kernel) (by decide +kernel)
theorem oc7_45 : okC 7 164 (2, 4, mL_search) := ⟨lw_in 481 (by decide +kernel) (by decide +kernel), os_L_search⟩
theorem oc7_46 : okC 7 167 (2, 2, mL_toFront) := ⟨lw_in 624 (by decide +kernel) (by decide +kernel), os_L_toFront⟩
theorem oc7_47 : okC 7 169 (2, 2, mL_toBack) := ⟨lw_in 636 (by decide +kernel) (by decide +kernel), os_L_toBack⟩
theorem oc7_48 : okC 7 171 (2, 2, mL_holds) := ⟨lw_in 654 (by decide +kernel) (by decide +kernel), os_L_holds⟩
theorem oc7_49 : okC 7 173 (2, 2, mL_stop) := ⟨lw_in 669 (by decide +kernel) (by decide +kernel), os_L_stop⟩
theorem oc7_50 : okC 7 175 (0, 0, mX4_waiting) := ⟨lw_in 138 (by decide +kernel) (by decide +kernel), ov_X4_waiting⟩
theorem oc7_51 : okC 7 179 (2, 2, mL_goOn) := ⟨lw_in 677 (by decide +kernel) (by decide +kernel), os_L_goOn⟩
theorem oc7_52 : okC 7 181 (2, 2, mL_waitingAt) := ⟨lw_in 661 (by decide +kernel) (by decide +kernel), os_L_waitingAt⟩
theorem oc7_53 : okC 7 183 (2, 2, mL_end) := ⟨lw_in 685 (by decide +kernel) (by decide +kernel), os_L_end⟩
theorem oc7_54 : okC 7 185 (2, 3, mL_signal) := ⟨lw_in 696 (by decide +kernel) (by decide +kernel), os_L_signal⟩
theorem oc7_55 : okC 7 188 (2, 3, mL_count) := ⟨lw_in 643 (by decide +kernel) (by decide +kernel), os_L_count⟩
theorem oc7_56 : okC 7 190 (2, 3, mL_ofSession) := ⟨lw_in 724 (by decide +kernel) (by decide +kernel), os_L_ofSession⟩
theorem oc7_57 : okC 7 193 (2, 2, mL_done) := ⟨lw_in 727 (by decide +kernel) (by decide +kernel), os_L_done⟩
theorem oc7_58 : okC 7 196 (2, 2, mL_tick) := ⟨lw_in 708 (by decide +kernel) (by decide +kernel), os_L_tick⟩
theorem oc7_59 : okC 7 198 (2, 4, mL_areJobs) := ⟨lw_in 762 (by decide +kernel) (by decide +kernel), os_L_areJobs⟩
theorem oc7_60 : okC 7 202 (2, 4, mL_areFronts) := ⟨lw_in 811 (by decide +kernel) (by decide +kernel), os_L_areFronts⟩
theorem oc7_61 : okC 7 206 (2, 2, mL_isJournal) := ⟨lw_in 821 (by decide +kernel) (by decide +kernel), os_L_isJournal⟩
theorem oc7_62 : okC 7 210 (0, 0, mX4_entries) := ⟨lw_in 733 (by decide +kernel) (by decide +kernel), ov_X4_entries⟩
theorem oc7_63 : okC 7 215 (0, 0, mX4_worked) := ⟨lw_in 738 (by decide +kernel) (by decide +kernel), ov_X4_worked⟩
theorem oc7_64 : okC 7 223 (0, 0, mX4_common) := ⟨lw_in 744 (by decide +kernel) (by decide +kernel), ov_X4_common⟩
theorem oc7_65 : okC 7 232 (2, 2, mL_holder) := ⟨lw_in 751 (by decide +kernel) (by decide +kernel), os_L_holder⟩
theorem oc7_66 : okC 7 234 (2, 2, mL_toDo) := ⟨lw_in 765 (by decide +kernel) (by decide +kernel), os_L_toDo⟩
theorem oc7_67 : okC 7 236 (2, 2, mL_stateByJournal) := ⟨lw_in 772 (by decide +kernel) (by decide +kernel), os_L_stateByJournal⟩
theorem oc7_68 : okC 7 238 (2, 2, mL_holderByJobs) := ⟨lw_in 787 (by decide +kernel) (by decide +kernel), os_L_holderByJobs⟩
theorem oc7_69 : okC 7 240 (2, 2, mL_blockers) := ⟨lw_in 794 (by decide +kernel) (by decide +kernel), os_L_blockers⟩
theorem oc7_70 : okC 7 242 (2, 1, mL_doneShare) := ⟨lw_in 802 (by decide +kernel) (by decide +kernel), os_L_doneShare⟩
theorem oc7_71 : okC 7 245 (2, 2, mL_commonAt) := ⟨lw_in 814 (by decide +kernel) (by decide +kernel), os_L_commonAt⟩
theorem oc7_72 : okC 7 247 (2, 2, mL_entryJob) := ⟨lw_in 824 (by decide +kernel) (by decide +kernel), os_L_entryJob⟩
theorem oc7_73 : okC 7 249 (2, 2, mL_entryState) := ⟨lw_in 836 (by decide +kernel) (by decide +kernel), os_L_entryState⟩
set_option maxRecDepth 10000 in
theorem oc7 : ∀ x ∈ clT7, okC 7 x.1 x.2 := (List.forall_mem_cons.mpr ⟨oc7_0, (List.forall_mem_cons.mpr ⟨oc7_1, (List.forall_mem_cons.mpr ⟨oc7_2, (List.forall_mem_cons.mpr ⟨oc7_3, (List.forall_mem_cons.mpr ⟨oc7_4, (List.forall_mem_cons.mpr ⟨oc7_5, (List.forall_mem_cons.mpr ⟨oc7_6, (List.forall_mem_cons.mpr ⟨oc7_7, (List.forall_mem_cons.mpr ⟨oc7_8, (List.forall_mem_cons.mpr ⟨oc7_9, (List.forall_mem_cons.mpr ⟨oc7_10, (List.forall_mem_cons.mpr ⟨oc7_11, (List.forall_mem_cons.mpr ⟨oc7_12, (List.forall_mem_cons.mpr ⟨oc7_13, (List.forall_mem_cons.mpr ⟨oc7_14, (List.forall_mem_cons.mpr ⟨oc7_15, (List.forall_mem_cons.mpr ⟨oc7_16, (List.forall_mem_cons.mpr ⟨oc7_17, (List.forall_mem_cons.mpr ⟨oc7_18, (List.forall_mem_cons.mpr ⟨oc7_19, (List.forall_mem_cons.mpr ⟨oc7_20, (List.forall_mem_cons.mpr ⟨oc7_21, (List.forall_mem_cons.mpr ⟨oc7_22, (List.forall_mem_cons.mpr ⟨oc7_23, (List.forall_mem_cons.mpr ⟨oc7_24, (List.forall_mem_cons.mpr ⟨oc7_25, (List.forall_mem_cons.mpr ⟨oc7_26, (List.forall_mem_cons.mpr ⟨oc7_27, (List.forall_mem_cons.mpr ⟨oc7_28, (List.forall_mem_cons.mpr ⟨oc7_29, (List.forall_mem_cons.mpr ⟨oc7_30, (List.forall_mem_cons.mpr ⟨oc7_31, (List.forall_mem_cons.mpr ⟨oc7_32, (List.forall_mem_cons.mpr ⟨oc7_33, (List.forall_mem_cons.mpr ⟨oc7_34, (List.forall_mem_cons.mpr ⟨oc7_35, (List.forall_mem_cons.mpr ⟨oc7_36, (List.forall_mem_cons.mpr ⟨oc7_37, (List.forall_mem_cons.mpr ⟨oc7_38, (List.forall_mem_cons.mpr ⟨oc7_39, (List.forall_mem_cons.mpr ⟨oc7_40, (List.forall_mem_cons.mpr ⟨oc7_41, (List.forall_mem_cons.mpr ⟨oc7_42, (List.forall_mem_cons.mpr ⟨oc7_43, (List.forall_mem_cons.mpr ⟨oc7_44, (List.forall_mem_cons.mpr ⟨oc7_45, (List.forall_mem_cons.mpr ⟨oc7_46, (List.forall_mem_cons.mpr ⟨oc7_47, (List.forall_mem_cons.mpr ⟨oc7_48, (List.forall_mem_cons.mpr ⟨oc7_49, (List.forall_mem_cons.mpr ⟨oc7_50, (List.forall_mem_cons.mpr ⟨oc7_51, (List.forall_mem_cons.mpr ⟨oc7_52, (List.forall_mem_cons.mpr ⟨oc7_53, (List.forall_mem_cons.mpr ⟨oc7_54, (List.forall_mem_cons.mpr ⟨oc7_55, (List.forall_mem_cons.mpr ⟨oc7_56, (List.forall_mem_cons.mpr ⟨oc7_57, (List.forall_mem_cons.mpr ⟨oc7_58, (List.forall_mem_cons.mpr ⟨oc7_59, (List.forall_mem_cons.mpr ⟨oc7_60, (List.forall_mem_cons.mpr ⟨oc7_61, (List.forall_mem_cons.mpr ⟨oc7_62, (List.forall_mem_cons.mpr ⟨oc7_63, (List.forall_mem_cons.mpr ⟨oc7_64, (List.forall_mem_cons.mpr ⟨oc7_65, (List.forall_mem_cons.mpr ⟨oc7_66, (List.forall_mem_cons.mpr ⟨oc7_67, (List.forall_mem_cons.mpr ⟨oc7_68, (List.forall_mem_cons.mpr ⟨oc7_69, (List.forall_mem_cons.mpr ⟨oc7_70, (List.forall_mem_cons.mpr ⟨oc7_71, (List.forall_mem_cons.mpr ⟨oc7_72, (List.forall_mem_cons.mpr ⟨oc7_73, (fun _ h => nomatch h)⟩)⟩)⟩)⟩)⟩)⟩)⟩)⟩)⟩)⟩)⟩)⟩)⟩)⟩)⟩)⟩)⟩)⟩)⟩)⟩)⟩)⟩)⟩)⟩)⟩)⟩)⟩)⟩)⟩)⟩)⟩)⟩)⟩)⟩)⟩)⟩)⟩)⟩)⟩)⟩)⟩)⟩)⟩)⟩)⟩)⟩)⟩)⟩)⟩)⟩)⟩)⟩)⟩)⟩)⟩)⟩)⟩)⟩)⟩)⟩)⟩)⟩)⟩)⟩)⟩)⟩)⟩)⟩)⟩)⟩)⟩)⟩)⟩)⟩)
theorem oc8_0 : okC 8 86 (8, 0, mZ) := lw_in 293 (by decide +kernel) (by decide +kernel)
theorem oc8_1 : okC 8 150 (7, 5, mZ) := lw_in 317 (by decide +kernel) (by decide +kernel)
theorem oc8_2 : okC 8 300 (2, 3, mJ7_copyOf_6403c) := ⟨lw_in 308 (by decide +kernel) (by decide +kernel), os_J7_copyOf_6403c⟩
theorem oc8_3 : okC 8 304 (4, 2, mZ) := lw_in 314 (by decide +kernel) (by decide +kernel)
set_option maxRecDepth 10000 in
theorem oc8 : ∀ x ∈ clT8, okC 8 x.1 x.2 := (List.forall_mem_cons.mpr ⟨oc8_0, (List.forall_mem_cons.mpr ⟨oc8_1, (List.forall_mem_cons.mpr ⟨oc8_2, (List.forall_mem_cons.mpr ⟨oc8_3, (fun _ h => nomatch h)⟩)⟩)⟩)⟩)
theorem oc9_0 : okC 9 105 (2, 3, mJ3_checkIndex_8e157) := ⟨lw_in 357 (by decide +kernel) (by decide +kernel), os_J3_checkIndex_8e157⟩
set_option maxRecDepth 10000 in
theorem oc9 : ∀ x ∈ clT9, okC 9 x.1 x.2 := (List.forall_mem_cons.mpr ⟨oc9_0, (fun _ h => nomatch h)⟩)
theorem oc11_0 : okC 11 194 (5, 2, mZ) := lw_in 283 (by decide +kernel) (by decide +kernel)
theorem oc11_1 : okC 11 201 (2, 2, mJ8_hugeLength_7cf53) := ⟨lw_in 287 (by decide +kernel) (by decide +kernel), os_J8_hugeLength_7cf53⟩
set_option maxRecDepth 10000 in
theorem oc11 : ∀ x ∈ clT11, okC 11 x.1 x.2 := (List.forall_mem_cons.mpr ⟨oc11_0, (List.forall_mem_cons.mpr ⟨oc11_1, (fun _ h => nomatch h)⟩)⟩)
theorem oc12_0 : okC 12 1 (1, 0, mJxa1e45_init_da8c8) := ⟨lw_in 61 (by decide +kernel) (by decide +kernel), oi_Jxa1e45_init_da8c8, rfl⟩
set_option maxRecDepth 10000 in
theorem oc12 : ∀ x ∈ clT12, okC 12 x.1 x.2 := (List.forall_mem_cons.mpr ⟨oc12_0, (fun _ h => nomatch h)⟩)
theorem oc13_0 : okC 13 1 (3, 0, mZ) := lw_in 64 (by decide +kernel) (by decide +kernel)
set_option maxRecDepth 10000 in
theorem oc13 : ∀ x ∈ clT13, okC 13 x.1 x.2 := (List.forall_mem_cons.mpr ⟨oc13_0, (fun _ h => nomatch h)⟩)
theorem oc14_0 : okC 14 86 (8, 0, mZ) := lw_in 293 (by decide +kernel) (by decide +kernel)
theorem oc14_1 : okC 14 150 (6, 5, mZ) := lw_in 317 (by decide +kernel) (by decide +kernel)
theorem oc14_2 : okC 14 300 (2, 3, mJ7_copyOf_6403c) := ⟨lw_in 308 (by decide +kernel) (by decide +kernel), os_J7_copyOf_6403c⟩
theorem oc14_3 : okC 14 304 (4, 2, mZ) := lw_in 314 (by decide +kernel) (by decide +kernel)
set_option maxRecDepth 10000 in
theorem oc14 : ∀ x ∈ clT14, okC 14 x.1 x.2 := (List.forall_mem_cons.mpr ⟨oc14_0, (List.forall_mem_cons.mpr ⟨oc14_1, (List.forall_mem_cons.mpr ⟨oc14_2, (List.forall_mem_cons.mpr ⟨oc14_3, (fun _ h => nomatch h)⟩)⟩)⟩)⟩)
theorem clT_ok {o i : Nat} {q : Nat × Nat × MD} (h : clT o i = some q) : okC o i q := by
  unfold clT at h
  split at h
  · exact oc0 _ (look_mem h)
  · exact oc1 _ (look_mem h)
  · exact oc2 _ (look_mem h)
  · exact oc3 _ (look_mem h)
  · exact oc4 _ (look_mem h)
  · exact oc5 _ (look_mem h)
  · exact oc7 _ (look_mem h)
  · exact oc8 _ (look_mem h)
  · exact oc9 _ (look_mem h)
  · exact oc11 _ (look_mem h)
  · exact oc12 _ (look_mem h)
  · exact oc13 _ (look_mem h)
  · exact oc14 _ (look_mem h)
  · cases h
def okFd (o i : Nat) (q : Nat × Nat) : Prop := q.1 < 6 ∧ q.2 < nC q.1 ∧ ∃ ref, Cond.fieldLink (oN o) i ref (TC q.1 q.2).2.1 (TC q.1 q.2).2.2.1 ∈ lw_G ∧ (ref = (TC q.1 q.2).1 ∨ (Cond.sameField ref (TC q.1 q.2).1 (TC q.1 q.2).2.1 (TC q.1 q.2).2.2.1 ∈ lw_G))
theorem of0_0 : okFd 0 9 (0, 1) := ⟨by decide, by decide, "java/util/ArrayList", lw_in 67 (by decide +kernel) (by decide +kernel), Or.inl rfl⟩
theorem of0_1 : okFd 0 48 (0, 2) := ⟨by decide, by decide, "java/util/ArrayList", lw_in 68 (by decide +kernel) (by decide +kernel), Or.inl rfl⟩
theorem of0_2 : okFd 0 63 (0, 0) := ⟨by decide, by decide, "java/util/ArrayList", lw_in 70 (by decide +kernel) (by decide +kernel), Or.inr (lw_in 71 (by decide +kernel) (by decide +kernel))⟩
theorem of0 : ∀ x ∈ fdT0, okFd 0 x.1 x.2 := (List.forall_mem_cons.mpr ⟨of0_0, (List.forall_mem_cons.mpr ⟨of0_1, (List.forall_mem_cons.mpr ⟨of0_2, (fun _ h => nomatch h)⟩)⟩)⟩)
theorem of1_0 : okFd 1 9 (1, 0) := ⟨by decide, by decide, "Shellhouse$History", lw_in 88 (by decide +kernel) (by decide +kernel), Or.inl rfl⟩
theorem of1_1 : okFd 1 15 (1, 1) := ⟨by decide, by decide, "Shellhouse$History", lw_in 90 (by decide +kernel) (by decide +kernel), Or.inl rfl⟩
theorem of1 : ∀ x ∈ fdT1, okFd 1 x.1 x.2 := (List.forall_mem_cons.mpr ⟨of1_0, (List.forall_mem_cons.mpr ⟨of1_1, (fun _ h => nomatch h)⟩)⟩)
theorem of2_0 : okFd 2 9 (2, 0) := ⟨by decide, by decide, "Shellhouse$Job", lw_in 549 (by decide +kernel) (by decide +kernel), Or.inl rfl⟩
theorem of2_1 : okFd 2 15 (2, 1) := ⟨by decide, by decide, "Shellhouse$Job", lw_in 551 (by decide +kernel) (by decide +kernel), Or.inl rfl⟩
theorem of2_2 : okFd 2 19 (2, 2) := ⟨by decide, by decide, "Shellhouse$Job", lw_in 553 (by decide +kernel) (by decide +kernel), Or.inl rfl⟩
theorem of2_3 : okFd 2 22 (2, 3) := ⟨by decide, by decide, "Shellhouse$Job", lw_in 555 (by decide +kernel) (by decide +kernel), Or.inl rfl⟩
theorem of2_4 : okFd 2 25 (2, 4) := ⟨by decide, by decide, "Shellhouse$Job", lw_in 557 (by decide +kernel) (by decide +kernel), Or.inl rfl⟩
theorem of2_5 : okFd 2 29 (2, 5) := ⟨by decide, by decide, "Shellhouse$Job", lw_in 559 (by decide +kernel) (by decide +kernel), Or.inl rfl⟩
theorem of2_6 : okFd 2 33 (2, 6) := ⟨by decide, by decide, "Shellhouse$Job", lw_in 561 (by decide +kernel) (by decide +kernel), Or.inl rfl⟩
theorem of2 : ∀ x ∈ fdT2, okFd 2 x.1 x.2 := (List.forall_mem_cons.mpr ⟨of2_0, (List.forall_mem_cons.mpr ⟨of2_1, (List.forall_mem_cons.mpr ⟨of2_2, (List.forall_mem_cons.mpr ⟨of2_3, (List.forall_mem_cons.mpr ⟨of2_4, (List.forall_mem_cons.mpr ⟨of2_5, (List.forall_mem_cons.mpr ⟨of2_6, (fun _ h => nomatch h)⟩)⟩)⟩)⟩)⟩)⟩)⟩)
theorem of3_0 : okFd 3 11 (3, 0) := ⟨by decide, by decide, "Shellhouse$Journal", lw_in 104 (by decide +kernel) (by decide +kernel), Or.inl rfl⟩
theorem of3_1 : okFd 3 15 (3, 1) := ⟨by decide, by decide, "Shellhouse$Journal", lw_in 106 (by decide +kernel) (by decide +kernel), Or.inl rfl⟩
theorem of3_2 : okFd 3 18 (3, 2) := ⟨by decide, by decide, "Shellhouse$Journal", lw_in 107 (by decide +kernel) (by decide +kernel), Or.inl rfl⟩
theorem of3 : ∀ x ∈ fdT3, okFd 3 x.1 x.2 := (List.forall_mem_cons.mpr ⟨of3_0, (List.forall_mem_cons.mpr ⟨of3_1, (List.forall_mem_cons.mpr ⟨of3_2, (fun _ h => nomatch h)⟩)⟩)⟩)
theorem of4_0 : okFd 4 9 (4, 0) := ⟨by decide, by decide, "Shellhouse$Session", lw_in 239 (by decide +kernel) (by decide +kernel), Or.inl rfl⟩
theorem of4_1 : okFd 4 15 (4, 2) := ⟨by decide, by decide, "Shellhouse$Session", lw_in 243 (by decide +kernel) (by decide +kernel), Or.inl rfl⟩
theorem of4_2 : okFd 4 24 (4, 1) := ⟨by decide, by decide, "Shellhouse$Session", lw_in 241 (by decide +kernel) (by decide +kernel), Or.inl rfl⟩
theorem of4_3 : okFd 4 28 (4, 3) := ⟨by decide, by decide, "Shellhouse$Session", lw_in 245 (by decide +kernel) (by decide +kernel), Or.inl rfl⟩
theorem of4_4 : okFd 4 31 (4, 4) := ⟨by decide, by decide, "Shellhouse$Session", lw_in 247 (by decide +kernel) (by decide +kernel), Or.inl rfl⟩
theorem of4_5 : okFd 4 35 (4, 5) := ⟨by decide, by decide, "Shellhouse$Session", lw_in 249 (by decide +kernel) (by decide +kernel), Or.inl rfl⟩
theorem of4 : ∀ x ∈ fdT4, okFd 4 x.1 x.2 := (List.forall_mem_cons.mpr ⟨of4_0, (List.forall_mem_cons.mpr ⟨of4_1, (List.forall_mem_cons.mpr ⟨of4_2, (List.forall_mem_cons.mpr ⟨of4_3, (List.forall_mem_cons.mpr ⟨of4_4, (List.forall_mem_cons.mpr ⟨of4_5, (fun _ h => nomatch h)⟩)⟩)⟩)⟩)⟩)⟩)
theorem of5_0 : okFd 5 10 (5, 0) := ⟨by decide, by decide, "Shellhouse", lw_in 116 (by decide +kernel) (by decide +kernel), Or.inl rfl⟩
theorem of5_1 : okFd 5 16 (5, 1) := ⟨by decide, by decide, "Shellhouse", lw_in 117 (by decide +kernel) (by decide +kernel), Or.inl rfl⟩
theorem of5_2 : okFd 5 19 (5, 2) := ⟨by decide, by decide, "Shellhouse", lw_in 118 (by decide +kernel) (by decide +kernel), Or.inl rfl⟩
theorem of5_3 : okFd 5 22 (5, 3) := ⟨by decide, by decide, "Shellhouse", lw_in 119 (by decide +kernel) (by decide +kernel), Or.inl rfl⟩
theorem of5_4 : okFd 5 37 (5, 4) := ⟨by decide, by decide, "Shellhouse", lw_in 120 (by decide +kernel) (by decide +kernel), Or.inl rfl⟩
theorem of5_5 : okFd 5 44 (5, 5) := ⟨by decide, by decide, "Shellhouse", lw_in 121 (by decide +kernel) (by decide +kernel), Or.inl rfl⟩
theorem of5_6 : okFd 5 48 (5, 6) := ⟨by decide, by decide, "Shellhouse", lw_in 122 (by decide +kernel) (by decide +kernel), Or.inl rfl⟩
theorem of5_7 : okFd 5 76 (4, 2) := ⟨by decide, by decide, "Shellhouse$Session", lw_in 244 (by decide +kernel) (by decide +kernel), Or.inl rfl⟩
theorem of5_8 : okFd 5 80 (4, 3) := ⟨by decide, by decide, "Shellhouse$Session", lw_in 246 (by decide +kernel) (by decide +kernel), Or.inl rfl⟩
theorem of5_9 : okFd 5 85 (4, 4) := ⟨by decide, by decide, "Shellhouse$Session", lw_in 248 (by decide +kernel) (by decide +kernel), Or.inl rfl⟩
theorem of5_10 : okFd 5 97 (4, 5) := ⟨by decide, by decide, "Shellhouse$Session", lw_in 250 (by decide +kernel) (by decide +kernel), Or.inl rfl⟩
theorem of5_11 : okFd 5 100 (2, 0) := ⟨by decide, by decide, "Shellhouse$Job", lw_in 550 (by decide +kernel) (by decide +kernel), Or.inl rfl⟩
theorem of5_12 : okFd 5 114 (4, 1) := ⟨by decide, by decide, "Shellhouse$Session", lw_in 242 (by decide +kernel) (by decide +kernel), Or.inl rfl⟩
theorem of5_13 : okFd 5 117 (1, 1) := ⟨by decide, by decide, "Shellhouse$History", lw_in 91 (by decide +kernel) (by decide +kernel), Or.inl rfl⟩
theorem of5_14 : okFd 5 168 (2, 4) := ⟨by decide, by decide, "Shellhouse$Job", lw_in 558 (by decide +kernel) (by decide +kernel), Or.inl rfl⟩
theorem of5_15 : okFd 5 176 (2, 3) := ⟨by decide, by decide, "Shellhouse$Job", lw_in 556 (by decide +kernel) (by decide +kernel), Or.inl rfl⟩
theorem of5_16 : okFd 5 179 (2, 1) := ⟨by decide, by decide, "Shellhouse$Job", lw_in 552 (by decide +kernel) (by decide +kernel), Or.inl rfl⟩
theorem of5_17 : okFd 5 183 (4, 0) := ⟨by decide, by decide, "Shellhouse$Session", lw_in 240 (by decide +kernel) (by decide +kernel), Or.inl rfl⟩
theorem of5_18 : okFd 5 208 (2, 5) := ⟨by decide, by decide, "Shellhouse$Job", lw_in 560 (by decide +kernel) (by decide +kernel), Or.inl rfl⟩
theorem of5_19 : okFd 5 218 (2, 2) := ⟨by decide, by decide, "Shellhouse$Job", lw_in 554 (by decide +kernel) (by decide +kernel), Or.inl rfl⟩
theorem of5_20 : okFd 5 240 (3, 2) := ⟨by decide, by decide, "Shellhouse$Journal", lw_in 108 (by decide +kernel) (by decide +kernel), Or.inl rfl⟩
theorem of5_21 : okFd 5 244 (3, 0) := ⟨by decide, by decide, "Shellhouse$Journal", lw_in 105 (by decide +kernel) (by decide +kernel), Or.inl rfl⟩
theorem of5_22 : okFd 5 263 (1, 0) := ⟨by decide, by decide, "Shellhouse$History", lw_in 89 (by decide +kernel) (by decide +kernel), Or.inl rfl⟩
theorem of5_23 : okFd 5 293 (2, 6) := ⟨by decide, by decide, "Shellhouse$Job", lw_in 562 (by decide +kernel) (by decide +kernel), Or.inl rfl⟩
theorem of5 : ∀ x ∈ fdT5, okFd 5 x.1 x.2 := (List.forall_mem_cons.mpr ⟨of5_0, (List.forall_mem_cons.mpr ⟨of5_1, (List.forall_mem_cons.mpr ⟨of5_2, (List.forall_mem_cons.mpr ⟨of5_3, (List.forall_mem_cons.mpr ⟨of5_4, (List.forall_mem_cons.mpr ⟨of5_5, (List.forall_mem_cons.mpr ⟨of5_6, (List.forall_mem_cons.mpr ⟨of5_7, (List.forall_mem_cons.mpr ⟨of5_8, (List.forall_mem_cons.mpr ⟨of5_9, (List.forall_mem_cons.mpr ⟨of5_10, (List.forall_mem_cons.mpr ⟨of5_11, (List.forall_mem_cons.mpr ⟨of5_12, (List.forall_mem_cons.mpr ⟨of5_13, (List.forall_mem_cons.mpr ⟨of5_14, (List.forall_mem_cons.mpr ⟨of5_15, (List.forall_mem_cons.mpr ⟨of5_16, (List.forall_mem_cons.mpr ⟨of5_17, (List.forall_mem_cons.mpr ⟨of5_18, (List.forall_mem_cons.mpr ⟨of5_19, (List.forall_mem_cons.mpr ⟨of5_20, (List.forall_mem_cons.mpr ⟨of5_21, (List.forall_mem_cons.mpr ⟨of5_22, (List.forall_mem_cons.mpr ⟨of5_23, (fun _ h => nomatch h)⟩)⟩)⟩)⟩)⟩)⟩)⟩)⟩)⟩)⟩)⟩)⟩)⟩)⟩)⟩)⟩)⟩)⟩)⟩)⟩)⟩)⟩)⟩)⟩)
theorem of12_0 : okFd 12 7 (0, 0) := ⟨by decide, by decide, "java/util/AbstractList", lw_in 69 (by decide +kernel) (by decide +kernel), Or.inl rfl⟩
theorem of12 : ∀ x ∈ fdT12, okFd 12 x.1 x.2 := (List.forall_mem_cons.mpr ⟨of12_0, (fun _ h => nomatch h)⟩)
theorem fdT_ok {o i : Nat} {q : Nat × Nat} (h : fdT o i = some q) : okFd o i q := by
  unfold fdT at h
  split at h
  · exact of0 _ (look_mem h)
  · exact of1 _ (look_mem h)
  · exact of2 _ (look_mem h)
  · exact of3 _ (look_mem h)
  · exact of4 _ (look_mem h)
  · exact of5 _ (look_mem h)
  · exact of12 _ (look_mem h)
  · cases h
def okK (o i ci : Nat) : Prop := ci < 6 ∧ Cond.classLink (oN o) i (oN ci) ∈ lw_G
theorem ok4 : ∀ x ∈ nwT4, okK 4 x.1 x.2 := (List.forall_mem_cons.mpr ⟨⟨by decide, lw_in 237 (by decide +kernel) (by decide +kernel)⟩, (fun _ h => nomatch h)⟩)
theorem ok5 : ∀ x ∈ nwT5, okK 5 x.1 x.2 := (List.forall_mem_cons.mpr ⟨⟨by decide, lw_in 53 (by decide +kernel) (by decide +kernel)⟩, (List.forall_mem_cons.mpr ⟨⟨by decide, lw_in 82 (by decide +kernel) (by decide +kernel)⟩, (List.forall_mem_cons.mpr ⟨⟨by decide, lw_in 98 (by decide +kernel) (by decide +kernel)⟩, (List.forall_mem_cons.mpr ⟨⟨by decide, lw_in 231 (by decide +kernel) (by decide +kernel)⟩, (List.forall_mem_cons.mpr ⟨⟨by decide, lw_in 408 (by decide +kernel) (by decide +kernel)⟩, (fun _ h => nomatch h)⟩)⟩)⟩)⟩)⟩)
theorem ok7 : ∀ x ∈ nwT7, okK 7 x.1 x.2 := (List.forall_mem_cons.mpr ⟨⟨by decide, lw_in 45 (by decide +kernel) (by decide +kernel)⟩, (fun _ h => nomatch h)⟩)
theorem nwT_ok {o i q : Nat} (h : nwT o i = some q) : okK o i q := by
  unfold nwT at h
  split at h
  · exact ok4 _ (look_mem h)
  · exact ok5 _ (look_mem h)
  · exact ok7 _ (look_mem h)
  · cases h
theorem wi0 : Cond.instantiable (oN 0) (nC 0) ∈ lw_G := lw_in 54 (by decide +kernel) (by decide +kernel)
theorem wj0 : Cond.initialized (oN 0) ∈ lw_G := lw_in 26 (by decide +kernel) (by decide +kernel)
theorem wl0 : ∀ w ∈ u_ws (oN 0) (TC 0) (nC 0), w ∈ lw_G := by decide +kernel
theorem wi1 : Cond.instantiable (oN 1) (nC 1) ∈ lw_G := lw_in 83 (by decide +kernel) (by decide +kernel)
theorem wj1 : Cond.initialized (oN 1) ∈ lw_G := lw_in 28 (by decide +kernel) (by decide +kernel)
theorem wl1 : ∀ w ∈ u_ws (oN 1) (TC 1) (nC 1), w ∈ lw_G := by decide +kernel
theorem wi2 : Cond.instantiable (oN 2) (nC 2) ∈ lw_G := lw_in 544 (by decide +kernel) (by decide +kernel)
theorem wj2 : Cond.initialized (oN 2) ∈ lw_G := lw_in 44 (by decide +kernel) (by decide +kernel)
theorem wl2 : ∀ w ∈ u_ws (oN 2) (TC 2) (nC 2), w ∈ lw_G := by decide +kernel
theorem wi3 : Cond.instantiable (oN 3) (nC 3) ∈ lw_G := lw_in 99 (by decide +kernel) (by decide +kernel)
theorem wj3 : Cond.initialized (oN 3) ∈ lw_G := lw_in 29 (by decide +kernel) (by decide +kernel)
theorem wl3 : ∀ w ∈ u_ws (oN 3) (TC 3) (nC 3), w ∈ lw_G := by decide +kernel
theorem wi4 : Cond.instantiable (oN 4) (nC 4) ∈ lw_G := lw_in 232 (by decide +kernel) (by decide +kernel)
theorem wj4 : Cond.initialized (oN 4) ∈ lw_G := lw_in 34 (by decide +kernel) (by decide +kernel)
theorem wl4 : ∀ w ∈ u_ws (oN 4) (TC 4) (nC 4), w ∈ lw_G := by decide +kernel
theorem wi5 : Cond.instantiable (oN 5) (nC 5) ∈ lw_G := lw_in 46 (by decide +kernel) (by decide +kernel)
theorem wj5 : Cond.initialized (oN 5) ∈ lw_G := lw_in 23 (by decide +kernel) (by decide +kernel)
theorem wl5 : ∀ w ∈ u_ws (oN 5) (TC 5) (nC 5), w ∈ lw_G := by decide +kernel
end
section
theorem cl_at : ∀ {ci : Nat}, ci < 6 → vwCl[ci]? = some (oN ci, TC ci, nC ci)
  | 0, _ => rfl
  | 1, _ => rfl
  | 2, _ => rfl
  | 3, _ => rfl
  | 4, _ => rfl
  | 5, _ => rfl
  | _ + 6, h => absurd h (by omega)
theorem nm_at : ∀ {ci : Nat}, ci < 6 → ∀ a, a < nC ci → ∀ b, b < nC ci → a ≠ b → (TC ci a).2.1 ≠ (TC ci b).2.1
  | 0, _ => nmJx4a65c
  | 1, _ => nmX0
  | 2, _ => nmX1
  | 3, _ => nmX2
  | 4, _ => nmX3
  | 5, _ => nmX4
  | _ + 6, h => absurd h (by omega)
theorem ty_at : ∀ {ci : Nat}, ci < 6 → ∀ k, k < nC ci → parseFieldDescriptor (TC ci k).2.2.1 = some (tyC ci k)
  | 0, _ => tyJx4a65c_ok
  | 1, _ => tyX0_ok
  | 2, _ => tyX1_ok
  | 3, _ => tyX2_ok
  | 4, _ => tyX3_ok
  | 5, _ => tyX4_ok
  | _ + 6, h => absurd h (by omega)
theorem wl_at : ∀ {ci : Nat}, ci < 6 → ∀ w ∈ u_ws (oN ci) (TC ci) (nC ci), w ∈ lw_G
  | 0, _ => wl0
  | 1, _ => wl1
  | 2, _ => wl2
  | 3, _ => wl3
  | 4, _ => wl4
  | 5, _ => wl5
  | _ + 6, h => absurd h (by omega)
theorem wi_at : ∀ {ci : Nat}, ci < 6 → Cond.instantiable (oN ci) (nC ci) ∈ lw_G
  | 0, _ => wi0
  | 1, _ => wi1
  | 2, _ => wi2
  | 3, _ => wi3
  | 4, _ => wi4
  | 5, _ => wi5
  | _ + 6, h => absurd h (by omega)
theorem wj_at : ∀ {ci : Nat}, ci < 6 → Cond.initialized (oN ci) ∈ lw_G
  | 0, _ => wj0
  | 1, _ => wj1
  | 2, _ => wj2
  | 3, _ => wj3
  | 4, _ => wj4
  | 5, _ => wj5
  | _ + 6, h => absurd h (by omega)
/-- the machine's locals under ours -/
def Lr (l : List Nat) (lsA : Array Slot) (nL : Nat) (ls : List Value) : Prop := ∃ lv, lv_has lsA nL lv ∧ ls.length = nL ∧ ∀ (i : Nat) (v : Value), ls[i]? = some v → v ≠ .retAddr 0 → (v.category = 1 ∨ jl l i = true) ∧ (i, v) ∈ lv
theorem Lr.at {l : List Nat} {lsA : Array Slot} {nL : Nat} {ls : List Value} (h : Lr l lsA nL ls) {i : Nat} {v : Value} (hv : ls[i]? = some v) (hn : v ≠ .retAddr 0) : lsA[i]? = some (.val v) := by
  obtain ⟨lv, h1, h2, h3⟩ := h
  exact h1.2.2 (i, v) (h3 i v hv hn).2
theorem Lr.size {l : List Nat} {lsA : Array Slot} {nL : Nat} {ls : List Value} (h : Lr l lsA nL ls) : lsA.size = nL := by
  obtain ⟨lv, h1, -⟩ := h
  exact h1.1
theorem jl_jp : ∀ {l : List Nat} {j : Nat}, jl l j = true → jp l (j + 1) = true
  | [], _, h => nomatch h
  | x :: r, j, h => by
    unfold jl at h
    unfold jp
    cases h1 : Nat.beq x j with
    | true => rw [Nat.eq_of_beq_eq_true h1, Nat.beq_refl]
    | false =>
      rw [h1] at h
      have ih := jl_jp (l := r) h
      cases Nat.beq (x + 1) (j + 1) with
      | true => rfl
      | false => exact ih
theorem Lr_set {l : List Nat} {lsB : Array Slot} {nL : Nat} {ls : List Value} {lv : List (Nat × Value)} {i : Nat} {v : Value} (hjp : jp l i = false) (hl : ls.length = nL) (h3 : ∀ (i : Nat) (v : Value), ls[i]? = some v → v ≠ .retAddr 0 → (v.category = 1 ∨ jl l i = true) ∧ (i, v) ∈ lv) (hv : v.category = 1)
    (h1 : lv_has lsB nL ((i, v) :: lv.filter (fun q => !(q.1 == i) && !(q.1 + 1 == i && q.2.category == 2)))) : Lr l lsB nL (ls.set i v) := by
  refine ⟨_, h1, by rw [List.length_set]; exact hl, fun j w hw hn => ?_⟩
  by_cases hj : j = i
  · subst hj
    by_cases hlt : j < ls.length
    · rw [List.getElem?_set_self hlt] at hw
      cases hw
      exact ⟨Or.inl hv, List.mem_cons_self⟩
    · rw [List.getElem?_eq_none (by rw [List.length_set]; omega)] at hw
      cases hw
  · rw [List.getElem?_set_ne (Ne.symm hj)] at hw
    obtain ⟨g1, g2⟩ := h3 j w hw hn
    refine ⟨g1, List.mem_cons_of_mem _ (List.mem_filter.mpr ⟨g2, ?_⟩)⟩
    rcases g1 with g1 | g1
    · simp [hj, g1]
    · have h9 : ¬ j + 1 = i := by
        intro h9
        rw [← h9, jl_jp g1] at hjp
        cases hjp
      simp [hj, h9]
theorem Lr_set2 {l : List Nat} {lsB : Array Slot} {nL : Nat} {ls : List Value} {lv : List (Nat × Value)} {i : Nat} {v : Value} (hjl : jl l i = true) (hjp : jp l i = false) (hl : ls.length = nL) (h3 : ∀ (i : Nat) (v : Value), ls[i]? = some v → v ≠ .retAddr 0 → (v.category = 1 ∨ jl l i = true) ∧ (i, v) ∈ lv)
    (h1 : lv_has lsB nL ((i, v) :: lv.filter (fun q => !(q.1 == i) && (!(q.1 == i + 1) && !(q.1 + 1 == i && q.2.category == 2))))) : Lr l lsB nL ((ls.set i v).set (i + 1) (.retAddr 0)) := by
  refine ⟨_, h1, by rw [List.length_set, List.length_set]; exact hl, fun j w hw hn => ?_⟩
  by_cases hj1 : j = i + 1
  · subst hj1
    by_cases hlt : i + 1 < (ls.set i v).length
    · rw [List.getElem?_set_self hlt] at hw
      cases hw
      exact absurd rfl hn
    · rw [List.getElem?_eq_none (by rw [List.length_set]; omega)] at hw
      cases hw
  · rw [List.getElem?_set_ne (Ne.symm hj1)] at hw
    by_cases hj : j = i
    · subst hj
      by_cases hlt : j < ls.length
      · rw [List.getElem?_set_self hlt] at hw
        cases hw
        exact ⟨Or.inr hjl, List.mem_cons_self⟩
      · rw [List.getElem?_eq_none (by rw [List.length_set]; omega)] at hw
        cases hw
    · rw [List.getElem?_set_ne (Ne.symm hj)] at hw
      obtain ⟨g1, g2⟩ := h3 j w hw hn
      refine ⟨g1, List.mem_cons_of_mem _ (List.mem_filter.mpr ⟨g2, ?_⟩)⟩
      rcases g1 with g1 | g1
      · simp [hj, hj1, g1]
      · have h9 : ¬ j + 1 = i := by
          intro h9
          rw [← h9, jl_jp g1] at hjp
          cases hjp
        simp [hj, hj1, h9]
/-- a cell of ours in a world of the kit's -/
def inW (ws : va_W) (tys : List (ClassId × FieldType)) (a : Nat) (x : AC) : Prop := match x with
  | .inl y => ∃ (i j : Nat) (cA : ClassId), ws[i]? = some (a, .inl (cA, y.2)) ∧ tys[j]? = some (cA, kT y.1)
  | .inr o => ∃ i : Nat, ws[i]? = some (a, .inr o)
def Wd (G : va_G) (A : Nat → Prop) (h : AH) (U : State) (H : Heap) : Prop := ∃ (ws : va_W) (tys : List (ClassId × FieldType)), va_P G vwCl ws H ∧ va_K G vwCl tys U ∧ va_D A ws ∧ ∀ a x, h a = some x → inW ws tys a x
def lw_D : List Cond := lw_tbl.filter (fun w => match w with
  | .declares _ => true
  | .castable _ _ => true
  | _ => false)
/-- what a read-only cell is: the script, or the empty array of objects -/
def RO (a : Nat) (x : AC) (U : State) (H : Heap) : Prop := match x with
  | .inl (0, N, .inl f) => va_X a N f U H
  | .inl (4, 0, _) => ∃ cell : Cell, H[a]? = some cell ∧ U.isArrayOf cell (.object "java/lang/Object") ∧ cell.slots.size.toInt32 = 0
  | _ => False
theorem RO.lt {a : Nat} {x : AC} {U : State} {H : Heap} (h : RO a x U H) : a < H.size := by
  unfold RO at h
  split at h
  · obtain ⟨scr, h1, -⟩ := h; exact (Array.getElem?_eq_some_iff.mp h1).1
  · obtain ⟨cell, h1, -⟩ := h; exact (Array.getElem?_eq_some_iff.mp h1).1
  · exact h.elim
theorem RO.kept {a : Nat} {x : AC} {U : State} {H H1 : Heap} (h : RO a x U H) (hq : H1[a]? = H[a]?) : RO a x U H1 := by
  unfold RO at h ⊢
  split at h
  · exact va_X.kept h hq
  · obtain ⟨cell, h1, h2⟩ := h; exact ⟨cell, hq.trans h1, h2⟩
  · exact h.elim
theorem RO.moved {a : Nat} {x : AC} {u U : State} {H : Heap} (hvm : u.vm.Alike U.vm) (h : RO a x u H) : RO a x U H := by
  unfold RO at h ⊢
  split at h
  · exact va_X.moved hvm h
  · obtain ⟨cell, h1, h2, h3⟩ := h; exact ⟨cell, h1, State.isArrayOf_alike hvm h2, h3⟩
  · exact h.elim
def EvOK (G : va_G) (E : EN) (A : Nat → Prop) (U : State) (H : Heap) : Prop :=
  (∀ a x, E.1 a = some x → ¬ A a ∧ RO a x U H) ∧
  va_Z RJx4a65c "DEFAULTCAPACITY_EMPTY_ELEMENTDATA" "[Ljava/lang/Object;" (.ref E.2.1) A U H ∧
  va_Mi "[Ljava/lang/Object;" E.2.2 U ∧ vx_Zq Bundle.tN "UNASSIGNED_STACK" Bundle.steD A U H ∧ vx_Zq Bundle.tN "SUPPRESSED_SENTINEL" Bundle.listD A U H ∧
  (∀ x ∈ strL, ∃ sa, vk_R RX4 x.1 x.2 sa U) ∧ (∀ w ∈ lw_D, va_Nw w U) ∧ va_AO "java/lang/Object" U ∧
  (∀ X Y : Nat, X < 6 → Y < 6 → 0 < X → 0 < Y → X ≠ Y → va_Nc (exN X) (exN Y) U)
theorem lw_D_on {w : Cond} (h : w ∈ lw_D) : w.onTables = true := by
  have h2 := (List.mem_filter.mp h).2
  cases w <;> first | rfl | cases h2
theorem EvOK.mv {G : va_G} {E : EN} {A : Nat → Prop} {s U : State} {H : Heap} {locs : List Loc} (h : EvOK G E A s s.heap) (hS : va_S A s.heap H locs) (hU : U.heap = H) (hW : s.WarmedH U.vm) : EvOK G E A U U.heap := by
  have hq : ∀ a : Nat, a < s.heap.size → ¬ A a → H[a]? = s.heap[a]? := hS.2.1
  obtain ⟨h1, g1, g2, g3, g4, g5, g6, g7, g8⟩ := h
  have hv := hW.alike
  rw [hU]
  refine ⟨fun a x hx => ⟨(h1 a x hx).1, ((h1 a x hx).2.kept (hq a (h1 a x hx).2.lt (h1 a x hx).1)).moved hv⟩, (g1.moved hv).kept hq, g2.moved hv, (g3.moved hv).kept hq, (g4.moved hv).kept hq, fun x hx => ?_, fun w hw => ?_, g7.moved hv, fun X Y a1 a2 a3 a4 a5 => (g8 X Y a1 a2 a3 a4 a5).moved hv⟩
  · obtain ⟨sa, hs⟩ := g5 x hx
    exact ⟨sa, hs.warm hW⟩
  · have h2 := (List.mem_filter.mp hw).2
    have h0 := g6 w hw
    cases w <;> first | exact va_Nw.warmD hW h0 | exact va_Nw.warmC hW h0 | cases h2
theorem EvOK.same {G : va_G} {E : EN} {A : Nat → Prop} {u U : State} (hv : u.vm = U.vm) (hh : u.heap = U.heap) (h : EvOK G E A u u.heap) : EvOK G E A U U.heap := by
  have ha : u.vm.Alike U.vm := by rw [hv]; exact Vm.Alike.refl _
  obtain ⟨h1, g1, g2, g3, g4, g5, g6, g7, g8⟩ := h
  rw [← hh]
  refine ⟨fun a x hx => ⟨(h1 a x hx).1, (h1 a x hx).2.moved ha⟩, g1.moved ha, g2.moved ha, g3.moved ha, g4.moved ha, fun x hx => ?_, fun w hw => va_Nw.same (lw_D_on hw) hv (g6 w hw), g7.moved ha, fun X Y a1 a2 a3 a4 a5 => (g8 X Y a1 a2 a3 a4 a5).moved ha⟩
  obtain ⟨sa, hs⟩ := g5 x hx
  exact ⟨sa, hs.same hv.symm⟩
theorem Wd.same {G : va_G} {A : Nat → Prop} {h : AH} {u U : State} (hv : u.vm = U.vm) (hh : u.heap = U.heap) (H : Wd G A h u u.heap) : Wd G A h U U.heap := by
  obtain ⟨ws, tys, h1, h2, h3, h4⟩ := H
  rw [← hh]
  exact ⟨ws, tys, h1, h2.moved (by rw [hv]; exact Vm.Alike.refl _), h3, h4⟩
def PcM (G : va_G) (E : EN) (A : Nat → Prop) (as : List Value) (h : AH) : Array Value → State → Prop := va_Pc as (fun U => Wd G A h U U.heap ∧ EvOK G E A U U.heap ∧ ∀ q : Nat, U.heap.size ≤ q → A q)
def QcM (G : va_G) (A : Nat → Prop) (K : Out → AH → Prop) : Array Value → State → Outcome → State → Prop := fun _ st oc t => (∃ v h', oc = .returned v ∧ K (.inl v) h' ∧ Wd G A h' t t.heap) ∧ va_F A st t
def XcM (G : va_G) (A : Nat → Prop) (K : Out → AH → Prop) : String → State → State → Prop := fun X st t => (∃ x h', X = exN x ∧ 0 < x ∧ x < 6 ∧ K (.inr x) h' ∧ Wd G A h' t t.heap) ∧ va_F A st t
theorem PcM.blind {G : va_G} {E : EN} {A : Nat → Prop} {as : List Value} {h : AH} : FrameBlind (PcM G E A as h) := fun a U g mk H => ⟨H.1, H.2.1.same (u := U) (U := U.calling g mk a) rfl rfl, H.2.2.1.same (u := U) (U := U.calling g mk a) rfl rfl, H.2.2.2⟩
theorem vx_noThrow {l : Launch} {y : MethodName} {ws : List Cond} {rm : Room} {Pc : Array Value → State → Prop} {Qc : Array Value → State → Outcome → State → Prop} {XC : String → State → State → Prop} {mc ms : Nat} {free : Addr → Prop} (h : vx_Met l y ws rm Pc Qc XC mc ms free) (hX : ∀ X st t, ¬ XC X st t) : Met l y ws rm Pc Qc mc ms free := by
  intro p e h1 h2 h3 s m args below h4 h5 h6 h7
  obtain ⟨n, o, g1, g2, g3, g4⟩ := h p e h1 h2 h3 s m args below h4 h5 h6 h7
  refine ⟨n, o, g1, g2, g3, ?_⟩
  rcases g4 with g4 | ⟨q, -, E, ce, L, hx, -⟩
  · exact g4
  · exact absurd hx (hX _ _ _)
end
section
section SND
variable {p : Program} {l : Launch} {e : Env} {R : Room} {s : State} {m : MethodId} {args : Array Value} {below : List Frame} {meth : Method} {cd : Code} {Qw : State → Prop} {G : va_G} {E : EN} {A : Nat → Prop} {d : Nat} {M : MD} {CR : CT} {Q : Out → AH → Prop}
def Dy (G : va_G) (A : Nat → Prop) (s : State) (h : AH) (H : Heap) (locs : List Loc) : Prop := ∃ (ws : va_W) (tys : List (ClassId × FieldType)), va_P G vwCl ws H ∧ va_K G vwCl tys s ∧ va_D A ws ∧ va_S A s.heap H locs ∧ ∀ a x, h a = some x → inW ws tys a x
def PS (p : Program) (l : Launch) (e : Env) (R : Room) (s : State) (m : MethodId) (args : Array Value) (below : List Frame) (meth : Method) (cd : Code) (Qw : State → Prop) (G : va_G) (A : Nat → Prop) (M : MD) : PT := fun pc ls st h c n => ∀ (H : Heap) (locs : List Loc) (cells slots : Nat) (lsA : Array Slot), Dy G A s h H locs → Lr (mJ M) lsA (mL M) ls → cells + c ≤ R.cells → slots + n ≤ R.slots → W p l e R s m args below meth cd H locs cells slots Qw (F0 m pc lsA st)
def Cx (p : Program) (l : Launch) (R : Room) (s : State) (m : MethodId) (args : Array Value) (meth : Method) (cd : Code) (G : va_G) (E : EN) (A : Nat → Prop) (d : Nat) (M : MD) : Prop :=
  p.tables.exec = Jvm.exec ∧ cd.code = mB M ∧ cd.maxLocals = mL M ∧ s.vm.findClass (oN (mO M)) = some m.cls ∧ (∀ w ∈ lw_G, w.before args s = true) ∧ EvOK G E A s s.heap ∧ (∀ q : Nat, s.heap.size ≤ q → A q) ∧ (d ≤ R.frames ∧ 38 * d ≤ R.locals) ∧ (mI M = true → meth.name = "<init>") ∧ meth.locks = false ∧ cd.exceptionTable.toList = tableOf (rawH (mH M)) ∧
  (∀ x ∈ mH M, (0 < x.2.2.2 ∧ x.2.2.2 < 6) ∧ mO M = 7) ∧ (∀ pc X, look (mT M) pc = some X → mO M = 5 ∧ mH M = [] ∧ (0 < X ∧ X < 6) ∧ ∃ ik is ic tx wide, okT M pc X ik is ic tx wide)
theorem STr_ift {P : PT} {pc : Nat} {ls : List Value} {h : AH} {c n : Nat} {b : Prop} [Decidable b] {x : Option RES} (H : STr E CR M Q P pc ls h c n (ift b x)) : b ∧ STr E CR M Q P pc ls h c n x := by
  unfold ift at H
  by_cases hb : b
  · rw [if_pos hb] at H; exact ⟨hb, H⟩
  · rw [if_neg hb] at H; exact H.elim
theorem STr_bind {P : PT} {pc : Nat} {ls : List Value} {h : AH} {c n : Nat} {α : Type} {o : Option α} {f : α → Option RES} (H : STr E CR M Q P pc ls h c n (o.bind f)) : ∃ z, o = some z ∧ STr E CR M Q P pc ls h c n (f z) := by
  cases o with
  | none => exact H.elim
  | some z => exact ⟨z, rfl, H⟩
theorem jmp_spec {pc t : Nat} {off : Int} (h : jmp pc off = some t) : (pc : Int) + off = (t : Int) := by
  unfold jmp at h
  split at h
  · next e => cases h; exact e
  · cases h
theorem isA_rf {v : Value} (h : isA v = true) : ∃ r : Option Nat, v = va_rf r := by
  cases v with
  | ref a => exact ⟨some a, rfl⟩
  | null => exact ⟨none, rfl⟩
  | _ => cases h
theorem va_rf_eq {a b : Option Nat} : va_rf a = va_rf b ↔ a = b := by
  cases a <;> cases b <;> simp [va_rf]
theorem is1_cat {v : Value} (h : is1 v = true) : v.category = 1 := by cases v <;> first | rfl | cases h
theorem i32_nlt {x y : Int32} : ¬ x < y ↔ y ≤ x := Int32.not_lt
theorem sto_spec {P : PT} {pc : Nat} {ls : List Value} {h : AH} {c n : Nat} {l : List Nat} {k : Nat} {v : Value} {f : List Value → Option RES} (H : STr E CR M Q P pc ls h c n (sto l ls k v f)) : jp l k = false ∧ k < ls.length ∧ STr E CR M Q P pc ls h c n (f (ls.set k v)) := by
  unfold sto at H
  split at H
  · exact H.elim
  · split at H
    · exact H.elim
    · next hj =>
      obtain ⟨z, hz, H⟩ := STr_bind H
      exact ⟨hj, (List.getElem?_eq_some_iff.mp hz).1, H⟩
theorem sto2_spec {P : PT} {pc : Nat} {ls : List Value} {h : AH} {c n : Nat} {l : List Nat} {k : Nat} {v : Value} {f : List Value → Option RES} (H : STr E CR M Q P pc ls h c n (sto2 l ls k v f)) : jl l k = true ∧ jp l k = false ∧ k + 1 < ls.length ∧ STr E CR M Q P pc ls h c n (f ((ls.set k v).set (k + 1) (.retAddr 0))) := by
  unfold sto2 at H
  split at H
  · exact H.elim
  · next hl =>
    split at H
    · exact H.elim
    · next hj =>
      obtain ⟨z, hz, H⟩ := STr_bind H
      exact ⟨hl, hj, (List.getElem?_eq_some_iff.mp hz).1, H⟩
theorem sn_aload_n (C : Cx p l R s m args meth cd G E A d M) {pc : Nat} {ls st : List Value} {h : AH} {c n : Nat} {k : Fin 4} (hdg : decode (mB M) pc = .ok ((.aload_n k), 1)) (HS : STr E CR M Q (PS p l e R s m args below meth cd Qw G A M) pc ls h c n (stp TTv E d M pc ls st h (.aload_n k))) : PS p l e R s m args below meth cd Qw G A M pc ls st h c n := by
  intro H locs cells slots lsA hD hL hc hn
  obtain ⟨hx, hb, hml, hown, hts, hE, hA, hR, hini, hlk, htab, hhx, hthr⟩ := C
  simp only [stp] at HS
  obtain ⟨v, hv, HS⟩ := STr_bind HS
  obtain ⟨hb2, HS⟩ := STr_ift HS
  cases v with
  | ref x => exact lv_aload_n hx hb hdg rfl (hL.at hv (fun z => by cases z)) (HS H locs cells slots lsA hD hL hc hn)
  | null => exact lv_aload_nN hx hb hdg rfl (hL.at hv (fun z => by cases z)) (HS H locs cells slots lsA hD hL hc hn)
  | _ => cases hb2
theorem sn_aload (C : Cx p l R s m args meth cd G E A d M) {pc : Nat} {ls st : List Value} {h : AH} {c n : Nat} {k : Nat} (hdg : decode (mB M) pc = .ok ((.aload k), 2)) (HS : STr E CR M Q (PS p l e R s m args below meth cd Qw G A M) pc ls h c n (stp TTv E d M pc ls st h (.aload k))) : PS p l e R s m args below meth cd Qw G A M pc ls st h c n := by
  intro H locs cells slots lsA hD hL hc hn
  obtain ⟨hx, hb, hml, hown, hts, hE, hA, hR, hini, hlk, htab, hhx, hthr⟩ := C
  simp only [stp] at HS
  obtain ⟨v, hv, HS⟩ := STr_bind HS
  obtain ⟨hb2, HS⟩ := STr_ift HS
  cases v with
  | ref x => exact lv_aload hx hb hdg (hL.at hv (fun z => by cases z)) (HS H locs cells slots lsA hD hL hc hn)
  | null => exact lv_aloadN hx hb hdg (hL.at hv (fun z => by cases z)) (HS H locs cells slots lsA hD hL hc hn)
  | _ => cases hb2
theorem sn_iload_n (C : Cx p l R s m args meth cd G E A d M) {pc : Nat} {ls st : List Value} {h : AH} {c n : Nat} {k : Fin 4} (hdg : decode (mB M) pc = .ok ((.iload_n k), 1)) (HS : STr E CR M Q (PS p l e R s m args below meth cd Qw G A M) pc ls h c n (stp TTv E d M pc ls st h (.iload_n k))) : PS p l e R s m args below meth cd Qw G A M pc ls st h c n := by
  intro H locs cells slots lsA hD hL hc hn
  obtain ⟨hx, hb, hml, hown, hts, hE, hA, hR, hini, hlk, htab, hhx, hthr⟩ := C
  simp only [stp] at HS
  obtain ⟨v, hv, HS⟩ := STr_bind HS
  obtain ⟨hb2, HS⟩ := STr_ift HS
  cases v with
  | int x => exact lv_iload_n hx hb hdg rfl (hL.at hv (fun z => by cases z)) (HS H locs cells slots lsA hD hL hc hn)
  | _ => cases hb2
theorem sn_iload (C : Cx p l R s m args meth cd G E A d M) {pc : Nat} {ls st : List Value} {h : AH} {c n : Nat} {k : Nat} (hdg : decode (mB M) pc = .ok ((.iload k), 2)) (HS : STr E CR M Q (PS p l e R s m args below meth cd Qw G A M) pc ls h c n (stp TTv E d M pc ls st h (.iload k))) : PS p l e R s m args below meth cd Qw G A M pc ls st h c n := by
  intro H locs cells slots lsA hD hL hc hn
  obtain ⟨hx, hb, hml, hown, hts, hE, hA, hR, hini, hlk, htab, hhx, hthr⟩ := C
  simp only [stp] at HS
  obtain ⟨v, hv, HS⟩ := STr_bind HS
  obtain ⟨hb2, HS⟩ := STr_ift HS
  cases v with
  | int x => exact lv_iload hx hb hdg (hL.at hv (fun z => by cases z)) (HS H locs cells slots lsA hD hL hc hn)
  | _ => cases hb2
theorem sn_fload (C : Cx p l R s m args meth cd G E A d M) {pc : Nat} {ls st : List Value} {h : AH} {c n : Nat} {k : Nat} (hdg : decode (mB M) pc = .ok ((.fload k), 2)) (HS : STr E CR M Q (PS p l e R s m args below meth cd Qw G A M) pc ls h c n (stp TTv E d M pc ls st h (.fload k))) : PS p l e R s m args below meth cd Qw G A M pc ls st h c n := by
  intro H locs cells slots lsA hD hL hc hn
  obtain ⟨hx, hb, hml, hown, hts, hE, hA, hR, hini, hlk, htab, hhx, hthr⟩ := C
  simp only [stp] at HS
  obtain ⟨v, hv, HS⟩ := STr_bind HS
  obtain ⟨hb2, HS⟩ := STr_ift HS
  cases v with
  | float x => exact lv_fload hx hb hdg (hL.at hv (fun z => by cases z)) (HS H locs cells slots lsA hD hL hc hn)
  | _ => cases hb2
theorem sn_lload_n (C : Cx p l R s m args meth cd G E A d M) {pc : Nat} {ls st : List Value} {h : AH} {c n : Nat} {k : Fin 4} (hdg : decode (mB M) pc = .ok ((.lload_n k), 1)) (HS : STr E CR M Q (PS p l e R s m args below meth cd Qw G A M) pc ls h c n (stp TTv E d M pc ls st h (.lload_n k))) : PS p l e R s m args below meth cd Qw G A M pc ls st h c n := by
  intro H locs cells slots lsA hD hL hc hn
  obtain ⟨hx, hb, hml, hown, hts, hE, hA, hR, hini, hlk, htab, hhx, hthr⟩ := C
  simp only [stp] at HS
  obtain ⟨v, hv, HS⟩ := STr_bind HS
  obtain ⟨hb2, HS⟩ := STr_ift HS
  cases v with
  | long x => exact lv_lload_n hx hb hdg rfl (hL.at hv (fun z => by cases z)) (HS H locs cells slots lsA hD hL hc hn)
  | _ => cases hb2
theorem sn_lload (C : Cx p l R s m args meth cd G E A d M) {pc : Nat} {ls st : List Value} {h : AH} {c n : Nat} {k : Nat} (hdg : decode (mB M) pc = .ok ((.lload k), 2)) (HS : STr E CR M Q (PS p l e R s m args below meth cd Qw G A M) pc ls h c n (stp TTv E d M pc ls st h (.lload k))) : PS p l e R s m args below meth cd Qw G A M pc ls st h c n := by
  intro H locs cells slots lsA hD hL hc hn
  obtain ⟨hx, hb, hml, hown, hts, hE, hA, hR, hini, hlk, htab, hhx, hthr⟩ := C
  simp only [stp] at HS
  obtain ⟨v, hv, HS⟩ := STr_bind HS
  obtain ⟨hb2, HS⟩ := STr_ift HS
  cases v with
  | long x => exact lv_lload hx hb hdg (hL.at hv (fun z => by cases z)) (HS H locs cells slots lsA hD hL hc hn)
  | _ => cases hb2
theorem sn_istore_n (C : Cx p l R s m args meth cd G E A d M) {pc : Nat} {ls st : List Value} {h : AH} {c n : Nat} {k : Fin 4} (hdg : decode (mB M) pc = .ok ((.istore_n k), 1)) (HS : STr E CR M Q (PS p l e R s m args below meth cd Qw G A M) pc ls h c n (stp TTv E d M pc ls st h (.istore_n k))) : PS p l e R s m args below meth cd Qw G A M pc ls st h c n := by
  intro H locs cells slots lsA hD hL hc hn
  obtain ⟨hx, hb, hml, hown, hts, hE, hA, hR, hini, hlk, htab, hhx, hthr⟩ := C
  simp only [stp] at HS
  split at HS
  · obtain ⟨hjp, hk, HS⟩ := sto_spec HS
    obtain ⟨lv, h1, h2, h3⟩ := hL
    exact lv_istore_n hx hb hdg rfl h1 (by omega) rfl (fun ls' h' => HS H locs cells slots ls' hD (Lr_set hjp h2 h3 rfl h') hc hn)
  · exact False.elim HS
theorem sn_istore (C : Cx p l R s m args meth cd G E A d M) {pc : Nat} {ls st : List Value} {h : AH} {c n : Nat} {k : Nat} (hdg : decode (mB M) pc = .ok ((.istore k), 2)) (HS : STr E CR M Q (PS p l e R s m args below meth cd Qw G A M) pc ls h c n (stp TTv E d M pc ls st h (.istore k))) : PS p l e R s m args below meth cd Qw G A M pc ls st h c n := by
  intro H locs cells slots lsA hD hL hc hn
  obtain ⟨hx, hb, hml, hown, hts, hE, hA, hR, hini, hlk, htab, hhx, hthr⟩ := C
  simp only [stp] at HS
  split at HS
  · obtain ⟨hjp, hk, HS⟩ := sto_spec HS
    obtain ⟨lv, h1, h2, h3⟩ := hL
    exact lv_istore hx hb hdg h1 (by omega) rfl (fun ls' h' => HS H locs cells slots ls' hD (Lr_set hjp h2 h3 rfl h') hc hn)
  · exact False.elim HS
theorem sn_fstore (C : Cx p l R s m args meth cd G E A d M) {pc : Nat} {ls st : List Value} {h : AH} {c n : Nat} {k : Nat} (hdg : decode (mB M) pc = .ok ((.fstore k), 2)) (HS : STr E CR M Q (PS p l e R s m args below meth cd Qw G A M) pc ls h c n (stp TTv E d M pc ls st h (.fstore k))) : PS p l e R s m args below meth cd Qw G A M pc ls st h c n := by
  intro H locs cells slots lsA hD hL hc hn
  obtain ⟨hx, hb, hml, hown, hts, hE, hA, hR, hini, hlk, htab, hhx, hthr⟩ := C
  simp only [stp] at HS
  split at HS
  · obtain ⟨hjp, hk, HS⟩ := sto_spec HS
    obtain ⟨lv, h1, h2, h3⟩ := hL
    exact lv_fstore hx hb hdg h1 (by omega) rfl (fun ls' h' => HS H locs cells slots ls' hD (Lr_set hjp h2 h3 rfl h') hc hn)
  · exact False.elim HS
theorem sn_lstore_n (C : Cx p l R s m args meth cd G E A d M) {pc : Nat} {ls st : List Value} {h : AH} {c n : Nat} {k : Fin 4} (hdg : decode (mB M) pc = .ok ((.lstore_n k), 1)) (HS : STr E CR M Q (PS p l e R s m args below meth cd Qw G A M) pc ls h c n (stp TTv E d M pc ls st h (.lstore_n k))) : PS p l e R s m args below meth cd Qw G A M pc ls st h c n := by
  intro H locs cells slots lsA hD hL hc hn
  obtain ⟨hx, hb, hml, hown, hts, hE, hA, hR, hini, hlk, htab, hhx, hthr⟩ := C
  simp only [stp] at HS
  split at HS
  · obtain ⟨hjl, hjp, hk, HS⟩ := sto2_spec HS
    obtain ⟨lv, h1, h2, h3⟩ := hL
    exact lv_lstore_n hx hb hdg rfl h1 (by omega) rfl (fun ls' h' => HS H locs cells slots ls' hD (Lr_set2 hjl hjp h2 h3 h') hc hn)
  · exact False.elim HS
theorem sn_lstore (C : Cx p l R s m args meth cd G E A d M) {pc : Nat} {ls st : List Value} {h : AH} {c n : Nat} {k : Nat} (hdg : decode (mB M) pc = .ok ((.lstore k), 2)) (HS : STr E CR M Q (PS p l e R s m args below meth cd Qw G A M) pc ls h c n (stp TTv E d M pc ls st h (.lstore k))) : PS p l e R s m args below meth cd Qw G A M pc ls st h c n := by
  intro H locs cells slots lsA hD hL hc hn
  obtain ⟨hx, hb, hml, hown, hts, hE, hA, hR, hini, hlk, htab, hhx, hthr⟩ := C
  simp only [stp] at HS
  split at HS
  · obtain ⟨hjl, hjp, hk, HS⟩ := sto2_spec HS
    obtain ⟨lv, h1, h2, h3⟩ := hL
    exact lv_lstore hx hb hdg h1 (by omega) rfl (fun ls' h' => HS H locs cells slots ls' hD (Lr_set2 hjl hjp h2 h3 h') hc hn)
  · exact False.elim HS
theorem sn_astore_n (C : Cx p l R s m args meth cd G E A d M) {pc : Nat} {ls st : List Value} {h : AH} {c n : Nat} {k : Fin 4} (hdg : decode (mB M) pc = .ok ((.astore_n k), 1)) (HS : STr E CR M Q (PS p l e R s m args below meth cd Qw G A M) pc ls h c n (stp TTv E d M pc ls st h (.astore_n k))) : PS p l e R s m args below meth cd Qw G A M pc ls st h c n := by
  intro H locs cells slots lsA hD hL hc hn
  obtain ⟨hx, hb, hml, hown, hts, hE, hA, hR, hini, hlk, htab, hhx, hthr⟩ := C
  simp only [stp] at HS
  split at HS
  · next v r =>
    obtain ⟨hb2, HS⟩ := STr_ift HS
    obtain ⟨hjp, hk, HS⟩ := sto_spec HS
    obtain ⟨lv, h1, h2, h3⟩ := hL
    cases v with
    | ref x => exact lv_astore_n hx hb hdg rfl h1 (by omega) rfl (fun ls' h' => HS H locs cells slots ls' hD (Lr_set hjp h2 h3 rfl h') hc hn)
    | null => exact lv_astore_nN hx hb hdg rfl h1 (by omega) rfl (fun ls' h' => HS H locs cells slots ls' hD (Lr_set hjp h2 h3 rfl h') hc hn)
    | _ => cases hb2
  · exact False.elim HS
theorem sn_astore (C : Cx p l R s m args meth cd G E A d M) {pc : Nat} {ls st : List Value} {h : AH} {c n : Nat} {k : Nat} (hdg : decode (mB M) pc = .ok ((.astore k), 2)) (HS : STr E CR M Q (PS p l e R s m args below meth cd Qw G A M) pc ls h c n (stp TTv E d M pc ls st h (.astore k))) : PS p l e R s m args below meth cd Qw G A M pc ls st h c n := by
  intro H locs cells slots lsA hD hL hc hn
  obtain ⟨hx, hb, hml, hown, hts, hE, hA, hR, hini, hlk, htab, hhx, hthr⟩ := C
  simp only [stp] at HS
  split at HS
  · next v r =>
    obtain ⟨hb2, HS⟩ := STr_ift HS
    obtain ⟨hjp, hk, HS⟩ := sto_spec HS
    obtain ⟨lv, h1, h2, h3⟩ := hL
    cases v with
    | ref x => exact lv_astore hx hb hdg h1 (by omega) rfl (fun ls' h' => HS H locs cells slots ls' hD (Lr_set hjp h2 h3 rfl h') hc hn)
    | null => exact lv_astoreN hx hb hdg h1 (by omega) rfl (fun ls' h' => HS H locs cells slots ls' hD (Lr_set hjp h2 h3 rfl h') hc hn)
    | _ => cases hb2
  · exact False.elim HS
theorem sn_iconst (C : Cx p l R s m args meth cd G E A d M) {pc : Nat} {ls st : List Value} {h : AH} {c n : Nat} {i : Int} (hdg : decode (mB M) pc = .ok ((.iconst i), 1)) (HS : STr E CR M Q (PS p l e R s m args below meth cd Qw G A M) pc ls h c n (stp TTv E d M pc ls st h (.iconst i))) : PS p l e R s m args below meth cd Qw G A M pc ls st h c n := by
  intro H locs cells slots lsA hD hL hc hn
  obtain ⟨hx, hb, hml, hown, hts, hE, hA, hR, hini, hlk, htab, hhx, hthr⟩ := C
  simp only [stp] at HS
  exact lv_iconst hx hb hdg rfl (HS H locs cells slots lsA hD hL hc hn)
theorem sn_bipush (C : Cx p l R s m args meth cd G E A d M) {pc : Nat} {ls st : List Value} {h : AH} {c n : Nat} {i : Int} (hdg : decode (mB M) pc = .ok ((.bipush i), 2)) (HS : STr E CR M Q (PS p l e R s m args below meth cd Qw G A M) pc ls h c n (stp TTv E d M pc ls st h (.bipush i))) : PS p l e R s m args below meth cd Qw G A M pc ls st h c n := by
  intro H locs cells slots lsA hD hL hc hn
  obtain ⟨hx, hb, hml, hown, hts, hE, hA, hR, hini, hlk, htab, hhx, hthr⟩ := C
  simp only [stp] at HS
  exact lv_bipush hx hb hdg rfl (HS H locs cells slots lsA hD hL hc hn)
theorem sn_sipush (C : Cx p l R s m args meth cd G E A d M) {pc : Nat} {ls st : List Value} {h : AH} {c n : Nat} {i : Int} (hdg : decode (mB M) pc = .ok ((.sipush i), 3)) (HS : STr E CR M Q (PS p l e R s m args below meth cd Qw G A M) pc ls h c n (stp TTv E d M pc ls st h (.sipush i))) : PS p l e R s m args below meth cd Qw G A M pc ls st h c n := by
  intro H locs cells slots lsA hD hL hc hn
  obtain ⟨hx, hb, hml, hown, hts, hE, hA, hR, hini, hlk, htab, hhx, hthr⟩ := C
  simp only [stp] at HS
  exact lv_sipush hx hb hdg rfl (HS H locs cells slots lsA hD hL hc hn)
theorem sn_lconst (C : Cx p l R s m args meth cd G E A d M) {pc : Nat} {ls st : List Value} {h : AH} {c n : Nat} {k : Fin 2} (hdg : decode (mB M) pc = .ok ((.lconst k), 1)) (HS : STr E CR M Q (PS p l e R s m args below meth cd Qw G A M) pc ls h c n (stp TTv E d M pc ls st h (.lconst k))) : PS p l e R s m args below meth cd Qw G A M pc ls st h c n := by
  intro H locs cells slots lsA hD hL hc hn
  obtain ⟨hx, hb, hml, hown, hts, hE, hA, hR, hini, hlk, htab, hhx, hthr⟩ := C
  simp only [stp] at HS
  exact lv_lconst hx hb hdg rfl (HS H locs cells slots lsA hD hL hc hn)
theorem sn_fconst (C : Cx p l R s m args meth cd G E A d M) {pc : Nat} {ls st : List Value} {h : AH} {c n : Nat} {k : Fin 3} (hdg : decode (mB M) pc = .ok ((.fconst k), 1)) (HS : STr E CR M Q (PS p l e R s m args below meth cd Qw G A M) pc ls h c n (stp TTv E d M pc ls st h (.fconst k))) : PS p l e R s m args below meth cd Qw G A M pc ls st h c n := by
  intro H locs cells slots lsA hD hL hc hn
  obtain ⟨hx, hb, hml, hown, hts, hE, hA, hR, hini, hlk, htab, hhx, hthr⟩ := C
  simp only [stp] at HS
  split at HS
  · next hk =>
    have e : k = 0 := Fin.ext hk
    subst e
    exact lv_fconst0 hx hb hdg (HS H locs cells slots lsA hD hL hc hn)
  · exact False.elim HS
theorem sn_aconst_null (C : Cx p l R s m args meth cd G E A d M) {pc : Nat} {ls st : List Value} {h : AH} {c n : Nat} (hdg : decode (mB M) pc = .ok (.aconst_null, 1)) (HS : STr E CR M Q (PS p l e R s m args below meth cd Qw G A M) pc ls h c n (stp TTv E d M pc ls st h .aconst_null)) : PS p l e R s m args below meth cd Qw G A M pc ls st h c n := by
  intro H locs cells slots lsA hD hL hc hn
  obtain ⟨hx, hb, hml, hown, hts, hE, hA, hR, hini, hlk, htab, hhx, hthr⟩ := C
  simp only [stp] at HS
  exact lv_null hx hb hdg (HS H locs cells slots lsA hD hL hc hn)
theorem sn_iadd (C : Cx p l R s m args meth cd G E A d M) {pc : Nat} {ls st : List Value} {h : AH} {c n : Nat} (hdg : decode (mB M) pc = .ok (.iadd, 1)) (HS : STr E CR M Q (PS p l e R s m args below meth cd Qw G A M) pc ls h c n (stp TTv E d M pc ls st h .iadd)) : PS p l e R s m args below meth cd Qw G A M pc ls st h c n := by
  intro H locs cells slots lsA hD hL hc hn
  obtain ⟨hx, hb, hml, hown, hts, hE, hA, hR, hini, hlk, htab, hhx, hthr⟩ := C
  simp only [stp] at HS
  split at HS
  · exact lv_iadd hx hb hdg (HS H locs cells slots lsA hD hL hc hn)
  · exact False.elim HS
theorem sn_isub (C : Cx p l R s m args meth cd G E A d M) {pc : Nat} {ls st : List Value} {h : AH} {c n : Nat} (hdg : decode (mB M) pc = .ok (.isub, 1)) (HS : STr E CR M Q (PS p l e R s m args below meth cd Qw G A M) pc ls h c n (stp TTv E d M pc ls st h .isub)) : PS p l e R s m args below meth cd Qw G A M pc ls st h c n := by
  intro H locs cells slots lsA hD hL hc hn
  obtain ⟨hx, hb, hml, hown, hts, hE, hA, hR, hini, hlk, htab, hhx, hthr⟩ := C
  simp only [stp] at HS
  split at HS
  · exact lv_isub hx hb hdg (HS H locs cells slots lsA hD hL hc hn)
  · exact False.elim HS
theorem sn_imul (C : Cx p l R s m args meth cd G E A d M) {pc : Nat} {ls st : List Value} {h : AH} {c n : Nat} (hdg : decode (mB M) pc = .ok (.imul, 1)) (HS : STr E CR M Q (PS p l e R s m args below meth cd Qw G A M) pc ls h c n (stp TTv E d M pc ls st h .imul)) : PS p l e R s m args below meth cd Qw G A M pc ls st h c n := by
  intro H locs cells slots lsA hD hL hc hn
  obtain ⟨hx, hb, hml, hown, hts, hE, hA, hR, hini, hlk, htab, hhx, hthr⟩ := C
  simp only [stp] at HS
  split at HS
  · exact lv_imul hx hb hdg (HS H locs cells slots lsA hD hL hc hn)
  · exact False.elim HS
theorem sn_iand (C : Cx p l R s m args meth cd G E A d M) {pc : Nat} {ls st : List Value} {h : AH} {c n : Nat} (hdg : decode (mB M) pc = .ok (.iand, 1)) (HS : STr E CR M Q (PS p l e R s m args below meth cd Qw G A M) pc ls h c n (stp TTv E d M pc ls st h .iand)) : PS p l e R s m args below meth cd Qw G A M pc ls st h c n := by
  intro H locs cells slots lsA hD hL hc hn
  obtain ⟨hx, hb, hml, hown, hts, hE, hA, hR, hini, hlk, htab, hhx, hthr⟩ := C
  simp only [stp] at HS
  split at HS
  · exact lv_iand hx hb hdg (HS H locs cells slots lsA hD hL hc hn)
  · exact False.elim HS
theorem sn_ior (C : Cx p l R s m args meth cd G E A d M) {pc : Nat} {ls st : List Value} {h : AH} {c n : Nat} (hdg : decode (mB M) pc = .ok (.ior, 1)) (HS : STr E CR M Q (PS p l e R s m args below meth cd Qw G A M) pc ls h c n (stp TTv E d M pc ls st h .ior)) : PS p l e R s m args below meth cd Qw G A M pc ls st h c n := by
  intro H locs cells slots lsA hD hL hc hn
  obtain ⟨hx, hb, hml, hown, hts, hE, hA, hR, hini, hlk, htab, hhx, hthr⟩ := C
  simp only [stp] at HS
  split at HS
  · exact lv_ior hx hb hdg (HS H locs cells slots lsA hD hL hc hn)
  · exact False.elim HS
theorem sn_ishl (C : Cx p l R s m args meth cd G E A d M) {pc : Nat} {ls st : List Value} {h : AH} {c n : Nat} (hdg : decode (mB M) pc = .ok (.ishl, 1)) (HS : STr E CR M Q (PS p l e R s m args below meth cd Qw G A M) pc ls h c n (stp TTv E d M pc ls st h .ishl)) : PS p l e R s m args below meth cd Qw G A M pc ls st h c n := by
  intro H locs cells slots lsA hD hL hc hn
  obtain ⟨hx, hb, hml, hown, hts, hE, hA, hR, hini, hlk, htab, hhx, hthr⟩ := C
  simp only [stp] at HS
  split at HS
  · exact lv_ishl hx hb hdg (HS H locs cells slots lsA hD hL hc hn)
  · exact False.elim HS
theorem sn_ishr (C : Cx p l R s m args meth cd G E A d M) {pc : Nat} {ls st : List Value} {h : AH} {c n : Nat} (hdg : decode (mB M) pc = .ok (.ishr, 1)) (HS : STr E CR M Q (PS p l e R s m args below meth cd Qw G A M) pc ls h c n (stp TTv E d M pc ls st h .ishr)) : PS p l e R s m args below meth cd Qw G A M pc ls st h c n := by
  intro H locs cells slots lsA hD hL hc hn
  obtain ⟨hx, hb, hml, hown, hts, hE, hA, hR, hini, hlk, htab, hhx, hthr⟩ := C
  simp only [stp] at HS
  split at HS
  · exact lv_ishr hx hb hdg (HS H locs cells slots lsA hD hL hc hn)
  · exact False.elim HS
theorem sn_ladd (C : Cx p l R s m args meth cd G E A d M) {pc : Nat} {ls st : List Value} {h : AH} {c n : Nat} (hdg : decode (mB M) pc = .ok (.ladd, 1)) (HS : STr E CR M Q (PS p l e R s m args below meth cd Qw G A M) pc ls h c n (stp TTv E d M pc ls st h .ladd)) : PS p l e R s m args below meth cd Qw G A M pc ls st h c n := by
  intro H locs cells slots lsA hD hL hc hn
  obtain ⟨hx, hb, hml, hown, hts, hE, hA, hR, hini, hlk, htab, hhx, hthr⟩ := C
  simp only [stp] at HS
  split at HS
  · exact lv_ladd hx hb hdg (HS H locs cells slots lsA hD hL hc hn)
  · exact False.elim HS
theorem sn_lcmp (C : Cx p l R s m args meth cd G E A d M) {pc : Nat} {ls st : List Value} {h : AH} {c n : Nat} (hdg : decode (mB M) pc = .ok (.lcmp, 1)) (HS : STr E CR M Q (PS p l e R s m args below meth cd Qw G A M) pc ls h c n (stp TTv E d M pc ls st h .lcmp)) : PS p l e R s m args below meth cd Qw G A M pc ls st h c n := by
  intro H locs cells slots lsA hD hL hc hn
  obtain ⟨hx, hb, hml, hown, hts, hE, hA, hR, hini, hlk, htab, hhx, hthr⟩ := C
  simp only [stp] at HS
  split at HS
  · exact W.lcmp hx hb hdg (HS H locs cells slots lsA hD hL hc hn)
  · exact False.elim HS
theorem sn_irem (C : Cx p l R s m args meth cd G E A d M) {pc : Nat} {ls st : List Value} {h : AH} {c n : Nat} (hdg : decode (mB M) pc = .ok (.irem, 1)) (HS : STr E CR M Q (PS p l e R s m args below meth cd Qw G A M) pc ls h c n (stp TTv E d M pc ls st h .irem)) : PS p l e R s m args below meth cd Qw G A M pc ls st h c n := by
  intro H locs cells slots lsA hD hL hc hn
  obtain ⟨hx, hb, hml, hown, hts, hE, hA, hR, hini, hlk, htab, hhx, hthr⟩ := C
  simp only [stp] at HS
  split at HS
  · obtain ⟨hb2, HS⟩ := STr_ift HS
    exact lv_irem hx hb hdg hb2 (HS H locs cells slots lsA hD hL hc hn)
  · exact False.elim HS
theorem sn_iushr (C : Cx p l R s m args meth cd G E A d M) {pc : Nat} {ls st : List Value} {h : AH} {c n : Nat} (hdg : decode (mB M) pc = .ok (.iushr, 1)) (HS : STr E CR M Q (PS p l e R s m args below meth cd Qw G A M) pc ls h c n (stp TTv E d M pc ls st h .iushr)) : PS p l e R s m args below meth cd Qw G A M pc ls st h c n := by
  intro H locs cells slots lsA hD hL hc hn
  obtain ⟨hx, hb, hml, hown, hts, hE, hA, hR, hini, hlk, htab, hhx, hthr⟩ := C
  simp only [stp] at HS
  split at HS
  · exact lv_iushr hx hb hdg rfl (HS H locs cells slots lsA hD hL hc hn)
  · exact False.elim HS
theorem sn_lmul (C : Cx p l R s m args meth cd G E A d M) {pc : Nat} {ls st : List Value} {h : AH} {c n : Nat} (hdg : decode (mB M) pc = .ok (.lmul, 1)) (HS : STr E CR M Q (PS p l e R s m args below meth cd Qw G A M) pc ls h c n (stp TTv E d M pc ls st h .lmul)) : PS p l e R s m args below meth cd Qw G A M pc ls st h c n := by
  intro H locs cells slots lsA hD hL hc hn
  obtain ⟨hx, hb, hml, hown, hts, hE, hA, hR, hini, hlk, htab, hhx, hthr⟩ := C
  simp only [stp] at HS
  split at HS
  · exact lv_lmul hx hb hdg (HS H locs cells slots lsA hD hL hc hn)
  · exact False.elim HS
theorem sn_i2l (C : Cx p l R s m args meth cd G E A d M) {pc : Nat} {ls st : List Value} {h : AH} {c n : Nat} (hdg : decode (mB M) pc = .ok (.i2l, 1)) (HS : STr E CR M Q (PS p l e R s m args below meth cd Qw G A M) pc ls h c n (stp TTv E d M pc ls st h .i2l)) : PS p l e R s m args below meth cd Qw G A M pc ls st h c n := by
  intro H locs cells slots lsA hD hL hc hn
  obtain ⟨hx, hb, hml, hown, hts, hE, hA, hR, hini, hlk, htab, hhx, hthr⟩ := C
  simp only [stp] at HS
  split at HS
  · exact lv_i2l hx hb hdg rfl (HS H locs cells slots lsA hD hL hc hn)
  · exact False.elim HS
theorem sn_i2c (C : Cx p l R s m args meth cd G E A d M) {pc : Nat} {ls st : List Value} {h : AH} {c n : Nat} (hdg : decode (mB M) pc = .ok (.i2c, 1)) (HS : STr E CR M Q (PS p l e R s m args below meth cd Qw G A M) pc ls h c n (stp TTv E d M pc ls st h .i2c)) : PS p l e R s m args below meth cd Qw G A M pc ls st h c n := by
  intro H locs cells slots lsA hD hL hc hn
  obtain ⟨hx, hb, hml, hown, hts, hE, hA, hR, hini, hlk, htab, hhx, hthr⟩ := C
  simp only [stp] at HS
  split at HS
  · exact lv_i2c hx hb hdg rfl (HS H locs cells slots lsA hD hL hc hn)
  · exact False.elim HS
theorem sn_i2f (C : Cx p l R s m args meth cd G E A d M) {pc : Nat} {ls st : List Value} {h : AH} {c n : Nat} (hdg : decode (mB M) pc = .ok (.i2f, 1)) (HS : STr E CR M Q (PS p l e R s m args below meth cd Qw G A M) pc ls h c n (stp TTv E d M pc ls st h .i2f)) : PS p l e R s m args below meth cd Qw G A M pc ls st h c n := by
  intro H locs cells slots lsA hD hL hc hn
  obtain ⟨hx, hb, hml, hown, hts, hE, hA, hR, hini, hlk, htab, hhx, hthr⟩ := C
  simp only [stp] at HS
  split at HS
  · exact lv_i2f hx hb hdg (HS H locs cells slots lsA hD hL hc hn)
  · exact False.elim HS
theorem sn_f2d (C : Cx p l R s m args meth cd G E A d M) {pc : Nat} {ls st : List Value} {h : AH} {c n : Nat} (hdg : decode (mB M) pc = .ok (.f2d, 1)) (HS : STr E CR M Q (PS p l e R s m args below meth cd Qw G A M) pc ls h c n (stp TTv E d M pc ls st h .f2d)) : PS p l e R s m args below meth cd Qw G A M pc ls st h c n := by
  intro H locs cells slots lsA hD hL hc hn
  obtain ⟨hx, hb, hml, hown, hts, hE, hA, hR, hini, hlk, htab, hhx, hthr⟩ := C
  simp only [stp] at HS
  split at HS
  · obtain ⟨hb2, HS⟩ := STr_ift HS
    exact lv_f2d hx hb hdg hb2 (HS H locs cells slots lsA hD hL hc hn)
  · exact False.elim HS
theorem sn_fdiv (C : Cx p l R s m args meth cd G E A d M) {pc : Nat} {ls st : List Value} {h : AH} {c n : Nat} (hdg : decode (mB M) pc = .ok (.fdiv, 1)) (HS : STr E CR M Q (PS p l e R s m args below meth cd Qw G A M) pc ls h c n (stp TTv E d M pc ls st h .fdiv)) : PS p l e R s m args below meth cd Qw G A M pc ls st h c n := by
  intro H locs cells slots lsA hD hL hc hn
  obtain ⟨hx, hb, hml, hown, hts, hE, hA, hR, hini, hlk, htab, hhx, hthr⟩ := C
  simp only [stp] at HS
  split at HS
  · obtain ⟨hb2, HS⟩ := STr_ift HS
    exact lv_fdiv hx hb hdg hb2 (HS H locs cells slots lsA hD hL hc hn)
  · exact False.elim HS
theorem sn_fcmp (C : Cx p l R s m args meth cd G E A d M) {pc : Nat} {ls st : List Value} {h : AH} {c n : Nat} {o : CmpOp} (hdg : decode (mB M) pc = .ok ((.fcmp o), 1)) (HS : STr E CR M Q (PS p l e R s m args below meth cd Qw G A M) pc ls h c n (stp TTv E d M pc ls st h (.fcmp o))) : PS p l e R s m args below meth cd Qw G A M pc ls st h c n := by
  intro H locs cells slots lsA hD hL hc hn
  obtain ⟨hx, hb, hml, hown, hts, hE, hA, hR, hini, hlk, htab, hhx, hthr⟩ := C
  simp only [stp] at HS
  split at HS
  · exact lv_fcmp hx hb hdg (HS H locs cells slots lsA hD hL hc hn)
  · exact False.elim HS
theorem sn_dcmp (C : Cx p l R s m args meth cd G E A d M) {pc : Nat} {ls st : List Value} {h : AH} {c n : Nat} {o : CmpOp} (hdg : decode (mB M) pc = .ok ((.dcmp o), 1)) (HS : STr E CR M Q (PS p l e R s m args below meth cd Qw G A M) pc ls h c n (stp TTv E d M pc ls st h (.dcmp o))) : PS p l e R s m args below meth cd Qw G A M pc ls st h c n := by
  intro H locs cells slots lsA hD hL hc hn
  obtain ⟨hx, hb, hml, hown, hts, hE, hA, hR, hini, hlk, htab, hhx, hthr⟩ := C
  simp only [stp] at HS
  split at HS
  · exact lv_dcmp hx hb hdg (HS H locs cells slots lsA hD hL hc hn)
  · exact False.elim HS
theorem sn_ifCond (C : Cx p l R s m args meth cd G E A d M) {pc : Nat} {ls st : List Value} {h : AH} {c n : Nat} {cc : Jvm.ClassFile.Cond} {off : Int} (hdg : decode (mB M) pc = .ok ((.ifCond cc off), 3)) (HS : STr E CR M Q (PS p l e R s m args below meth cd Qw G A M) pc ls h c n (stp TTv E d M pc ls st h (.ifCond cc off))) : PS p l e R s m args below meth cd Qw G A M pc ls st h c n := by
  intro H locs cells slots lsA hD hL hc hn
  obtain ⟨hx, hb, hml, hown, hts, hE, hA, hR, hini, hlk, htab, hhx, hthr⟩ := C
  simp only [stp] at HS
  split at HS
  · next x r =>
    obtain ⟨t, ht, HS⟩ := STr_bind HS
    cases cc with
    | eq => exact lv_if_eq hx hb hdg (jmp_spec ht) (fun z => by dsimp only [brI] at HS; rw [if_pos z] at HS; exact HS H locs cells slots lsA hD hL hc hn) (fun z => by dsimp only [brI] at HS; rw [if_neg z] at HS; exact HS H locs cells slots lsA hD hL hc hn)
    | ne => exact lv_if_ne hx hb hdg (jmp_spec ht) (fun z => by dsimp only [brI] at HS; rw [if_neg z] at HS; exact HS H locs cells slots lsA hD hL hc hn) (fun z => by dsimp only [brI] at HS; rw [if_pos z] at HS; exact HS H locs cells slots lsA hD hL hc hn)
    | lt => exact lv_if_lt hx hb hdg (jmp_spec ht) (fun z => by dsimp only [brI] at HS; rw [if_pos z] at HS; exact HS H locs cells slots lsA hD hL hc hn) (fun z => by dsimp only [brI] at HS; rw [if_neg z] at HS; exact HS H locs cells slots lsA hD hL hc hn)
    | ge => exact lv_if_ge hx hb hdg (jmp_spec ht) (fun z => by dsimp only [brI] at HS; rw [if_neg (i32_nlt.mpr z)] at HS; exact HS H locs cells slots lsA hD hL hc hn) (fun z => by dsimp only [brI] at HS; rw [if_pos (by rcases Classical.em (x < 0) with q | q; exact q; exact absurd (i32_nlt.mp q) z)] at HS; exact HS H locs cells slots lsA hD hL hc hn)
    | gt => exact lv_if_gt hx hb hdg (jmp_spec ht) (fun z => by dsimp only [brI] at HS; rw [if_pos z] at HS; exact HS H locs cells slots lsA hD hL hc hn) (fun z => by dsimp only [brI] at HS; rw [if_neg z] at HS; exact HS H locs cells slots lsA hD hL hc hn)
    | le => exact lv_if_le hx hb hdg (jmp_spec ht) (fun z => by dsimp only [brI] at HS; rw [if_neg (i32_nlt.mpr z)] at HS; exact HS H locs cells slots lsA hD hL hc hn) (fun z => by dsimp only [brI] at HS; rw [if_pos (by rcases Classical.em (0 < x) with q | q; exact q; exact absurd (i32_nlt.mp q) z)] at HS; exact HS H locs cells slots lsA hD hL hc hn)
  · exact False.elim HS
theorem sn_if_icmp (C : Cx p l R s m args meth cd G E A d M) {pc : Nat} {ls st : List Value} {h : AH} {c n : Nat} {cc : Jvm.ClassFile.Cond} {off : Int} (hdg : decode (mB M) pc = .ok ((.if_icmp cc off), 3)) (HS : STr E CR M Q (PS p l e R s m args below meth cd Qw G A M) pc ls h c n (stp TTv E d M pc ls st h (.if_icmp cc off))) : PS p l e R s m args below meth cd Qw G A M pc ls st h c n := by
  intro H locs cells slots lsA hD hL hc hn
  obtain ⟨hx, hb, hml, hown, hts, hE, hA, hR, hini, hlk, htab, hhx, hthr⟩ := C
  simp only [stp] at HS
  split at HS
  · next y x r =>
    obtain ⟨t, ht, HS⟩ := STr_bind HS
    cases cc with
    | eq => exact lv_icmp_eq hx hb hdg (jmp_spec ht) (fun z => by dsimp only [brI] at HS; rw [if_pos z] at HS; exact HS H locs cells slots lsA hD hL hc hn) (fun z => by dsimp only [brI] at HS; rw [if_neg z] at HS; exact HS H locs cells slots lsA hD hL hc hn)
    | ne => exact lv_icmp_ne hx hb hdg (jmp_spec ht) (fun z => by dsimp only [brI] at HS; rw [if_neg z] at HS; exact HS H locs cells slots lsA hD hL hc hn) (fun z => by dsimp only [brI] at HS; rw [if_pos z] at HS; exact HS H locs cells slots lsA hD hL hc hn)
    | lt => exact lv_icmp_lt hx hb hdg (jmp_spec ht) (fun z => by dsimp only [brI] at HS; rw [if_pos z] at HS; exact HS H locs cells slots lsA hD hL hc hn) (fun z => by dsimp only [brI] at HS; rw [if_neg z] at HS; exact HS H locs cells slots lsA hD hL hc hn)
    | ge => exact lv_icmp_ge hx hb hdg (jmp_spec ht) (fun z => by dsimp only [brI] at HS; rw [if_neg (i32_nlt.mpr z)] at HS; exact HS H locs cells slots lsA hD hL hc hn) (fun z => by dsimp only [brI] at HS; rw [if_pos (by rcases Classical.em (x < y) with q | q; exact q; exact absurd (i32_nlt.mp q) z)] at HS; exact HS H locs cells slots lsA hD hL hc hn)
    | gt => exact lv_icmp_gt hx hb hdg (jmp_spec ht) (fun z => by dsimp only [brI] at HS; rw [if_pos z] at HS; exact HS H locs cells slots lsA hD hL hc hn) (fun z => by dsimp only [brI] at HS; rw [if_neg z] at HS; exact HS H locs cells slots lsA hD hL hc hn)
    | le => exact lv_icmp_le hx hb hdg (jmp_spec ht) (fun z => by dsimp only [brI] at HS; rw [if_neg (i32_nlt.mpr z)] at HS; exact HS H locs cells slots lsA hD hL hc hn) (fun z => by dsimp only [brI] at HS; rw [if_pos (by rcases Classical.em (y < x) with q | q; exact q; exact absurd (i32_nlt.mp q) z)] at HS; exact HS H locs cells slots lsA hD hL hc hn)
  · exact False.elim HS
theorem sn_if_acmp (C : Cx p l R s m args meth cd G E A d M) {pc : Nat} {ls st : List Value} {h : AH} {c n : Nat} {cc : ACond} {off : Int} (hdg : decode (mB M) pc = .ok ((.if_acmp cc off), 3)) (HS : STr E CR M Q (PS p l e R s m args below meth cd Qw G A M) pc ls h c n (stp TTv E d M pc ls st h (.if_acmp cc off))) : PS p l e R s m args below meth cd Qw G A M pc ls st h c n := by
  intro H locs cells slots lsA hD hL hc hn
  obtain ⟨hx, hb, hml, hown, hts, hE, hA, hR, hini, hlk, htab, hhx, hthr⟩ := C
  simp only [stp] at HS
  split at HS
  · next w v r =>
    obtain ⟨⟨h1, h2⟩, HS⟩ := STr_ift HS
    obtain ⟨t, ht, HS⟩ := STr_bind HS
    obtain ⟨rv, rfl⟩ := isA_rf h1
    obtain ⟨rw_, rfl⟩ := isA_rf h2
    cases cc with
    | eq => exact lv_acmp_eq hx hb hdg (jmp_spec ht) (fun z => by dsimp only [brA] at HS; rw [if_pos (va_rf_eq.mpr z)] at HS; exact HS H locs cells slots lsA hD hL hc hn) (fun z => by dsimp only [brA] at HS; rw [if_neg (fun q => z (va_rf_eq.mp q))] at HS; exact HS H locs cells slots lsA hD hL hc hn)
    | ne => exact lv_acmp_ne hx hb hdg (jmp_spec ht) (fun z => by dsimp only [brA] at HS; rw [if_neg (fun q => z (va_rf_eq.mp q))] at HS; exact HS H locs cells slots lsA hD hL hc hn) (fun z => by dsimp only [brA] at HS; rw [if_pos (va_rf_eq.mpr z)] at HS; exact HS H locs cells slots lsA hD hL hc hn)
  · exact False.elim HS
theorem sn_ifnull (C : Cx p l R s m args meth cd G E A d M) {pc : Nat} {ls st : List Value} {h : AH} {c n : Nat} {off : Int} (hdg : decode (mB M) pc = .ok ((.ifnull off), 3)) (HS : STr E CR M Q (PS p l e R s m args below meth cd Qw G A M) pc ls h c n (stp TTv E d M pc ls st h (.ifnull off))) : PS p l e R s m args below meth cd Qw G A M pc ls st h c n := by
  intro H locs cells slots lsA hD hL hc hn
  obtain ⟨hx, hb, hml, hown, hts, hE, hA, hR, hini, hlk, htab, hhx, hthr⟩ := C
  simp only [stp] at HS
  split at HS
  · next v r =>
    obtain ⟨h1, HS⟩ := STr_ift HS
    obtain ⟨t, ht, HS⟩ := STr_bind HS
    dsimp only [brA] at HS
    cases v with
    | ref a => rw [if_neg (fun z => by cases z)] at HS; exact lv_ifnull hx hb hdg (HS H locs cells slots lsA hD hL hc hn)
    | null => rw [if_pos rfl] at HS; exact lv_ifnullN hx hb hdg (jmp_spec ht) (HS H locs cells slots lsA hD hL hc hn)
    | _ => cases h1
  · exact False.elim HS
theorem sn_ifnonnull (C : Cx p l R s m args meth cd G E A d M) {pc : Nat} {ls st : List Value} {h : AH} {c n : Nat} {off : Int} (hdg : decode (mB M) pc = .ok ((.ifnonnull off), 3)) (HS : STr E CR M Q (PS p l e R s m args below meth cd Qw G A M) pc ls h c n (stp TTv E d M pc ls st h (.ifnonnull off))) : PS p l e R s m args below meth cd Qw G A M pc ls st h c n := by
  intro H locs cells slots lsA hD hL hc hn
  obtain ⟨hx, hb, hml, hown, hts, hE, hA, hR, hini, hlk, htab, hhx, hthr⟩ := C
  simp only [stp] at HS
  split at HS
  · next v r =>
    obtain ⟨h1, HS⟩ := STr_ift HS
    obtain ⟨t, ht, HS⟩ := STr_bind HS
    dsimp only [brA] at HS
    cases v with
    | ref a => rw [if_neg (fun z => by cases z)] at HS; exact lv_ifnonnull hx hb hdg (jmp_spec ht) (HS H locs cells slots lsA hD hL hc hn)
    | null => rw [if_pos rfl] at HS; exact lv_ifnonnullN hx hb hdg (HS H locs cells slots lsA hD hL hc hn)
    | _ => cases h1
  · exact False.elim HS
theorem sn_goto (C : Cx p l R s m args meth cd G E A d M) {pc : Nat} {ls st : List Value} {h : AH} {c n : Nat} {off : Int} (hdg : decode (mB M) pc = .ok ((.goto off), 3)) (HS : STr E CR M Q (PS p l e R s m args below meth cd Qw G A M) pc ls h c n (stp TTv E d M pc ls st h (.goto off))) : PS p l e R s m args below meth cd Qw G A M pc ls st h c n := by
  intro H locs cells slots lsA hD hL hc hn
  obtain ⟨hx, hb, hml, hown, hts, hE, hA, hR, hini, hlk, htab, hhx, hthr⟩ := C
  simp only [stp] at HS
  obtain ⟨t, ht, HS⟩ := STr_bind HS
  exact lv_goto hx hb hdg (jmp_spec ht) (HS H locs cells slots lsA hD hL hc hn)
theorem sn_tableswitch (C : Cx p l R s m args meth cd G E A d M) {pc : Nat} {ls st : List Value} {h : AH} {c n : Nat} {df lo hi : Int} {offs : Array Int} {len : Nat} (hdg : decode (mB M) pc = .ok ((.tableswitch df lo hi offs), len)) (HS : STr E CR M Q (PS p l e R s m args below meth cd Qw G A M) pc ls h c n (stp TTv E d M pc ls st h (.tableswitch df lo hi offs))) : PS p l e R s m args below meth cd Qw G A M pc ls st h c n := by
  intro H locs cells slots lsA hD hL hc hn
  obtain ⟨hx, hb, hml, hown, hts, hE, hA, hR, hini, hlk, htab, hhx, hthr⟩ := C
  simp only [stp] at HS
  split at HS
  · next x r =>
    obtain ⟨t, ht, HS⟩ := STr_bind HS
    by_cases hz : x.toInt < lo ∨ hi < x.toInt
    · rw [if_pos hz] at ht
      exact lv_tableOut hx hb hdg hz (jmp_spec ht) (HS H locs cells slots lsA hD hL hc hn)
    · rw [if_neg hz] at ht
      cases ho : offs[(x.toInt - lo).toNat]? with
      | none => rw [ho] at ht; cases ht
      | some o =>
        rw [ho] at ht
        exact lv_tableIn hx hb hdg (fun z => hz (Or.inl z)) (fun z => hz (Or.inr z)) ho (jmp_spec ht) (HS H locs cells slots lsA hD hL hc hn)
  · exact False.elim HS
theorem sn_iinc (C : Cx p l R s m args meth cd G E A d M) {pc : Nat} {ls st : List Value} {h : AH} {c n : Nat} {k : Nat} {i : Int} (hdg : decode (mB M) pc = .ok ((.iinc k i), 3)) (HS : STr E CR M Q (PS p l e R s m args below meth cd Qw G A M) pc ls h c n (stp TTv E d M pc ls st h (.iinc k i))) : PS p l e R s m args below meth cd Qw G A M pc ls st h c n := by
  intro H locs cells slots lsA hD hL hc hn
  obtain ⟨hx, hb, hml, hown, hts, hE, hA, hR, hini, hlk, htab, hhx, hthr⟩ := C
  simp only [stp] at HS
  split at HS
  · next x hk0 =>
    obtain ⟨hjp, hk, HS⟩ := sto_spec HS
    obtain ⟨lv, h1, h2, h3⟩ := hL
    obtain ⟨j, hj⟩ := List.getElem?_of_mem (h3 k (.int x) hk0 (fun z => by cases z)).2
    exact lv_iinc hx hb hdg h1 (k := j) hj rfl (by omega) rfl (fun ls' h' => HS H locs cells slots ls' hD (Lr_set hjp h2 h3 rfl h') hc hn)
  · exact False.elim HS
theorem sn_dup (C : Cx p l R s m args meth cd G E A d M) {pc : Nat} {ls st : List Value} {h : AH} {c n : Nat} (hdg : decode (mB M) pc = .ok (.dup, 1)) (HS : STr E CR M Q (PS p l e R s m args below meth cd Qw G A M) pc ls h c n (stp TTv E d M pc ls st h .dup)) : PS p l e R s m args below meth cd Qw G A M pc ls st h c n := by
  intro H locs cells slots lsA hD hL hc hn
  obtain ⟨hx, hb, hml, hown, hts, hE, hA, hR, hini, hlk, htab, hhx, hthr⟩ := C
  simp only [stp] at HS
  split at HS
  · obtain ⟨hb2, HS⟩ := STr_ift HS
    exact lv_dup hx hb hdg (is1_cat hb2) (HS H locs cells slots lsA hD hL hc hn)
  · exact False.elim HS
theorem sn_dup_x1 (C : Cx p l R s m args meth cd G E A d M) {pc : Nat} {ls st : List Value} {h : AH} {c n : Nat} (hdg : decode (mB M) pc = .ok (.dup_x1, 1)) (HS : STr E CR M Q (PS p l e R s m args below meth cd Qw G A M) pc ls h c n (stp TTv E d M pc ls st h .dup_x1)) : PS p l e R s m args below meth cd Qw G A M pc ls st h c n := by
  intro H locs cells slots lsA hD hL hc hn
  obtain ⟨hx, hb, hml, hown, hts, hE, hA, hR, hini, hlk, htab, hhx, hthr⟩ := C
  simp only [stp] at HS
  split at HS
  · obtain ⟨hb2, HS⟩ := STr_ift HS
    exact lv_dup_x1 hx hb hdg (is1_cat hb2.1) (is1_cat hb2.2) (HS H locs cells slots lsA hD hL hc hn)
  · exact False.elim HS
theorem sn_dup2 (C : Cx p l R s m args meth cd G E A d M) {pc : Nat} {ls st : List Value} {h : AH} {c n : Nat} (hdg : decode (mB M) pc = .ok (.dup2, 1)) (HS : STr E CR M Q (PS p l e R s m args below meth cd Qw G A M) pc ls h c n (stp TTv E d M pc ls st h .dup2)) : PS p l e R s m args below meth cd Qw G A M pc ls st h c n := by
  intro H locs cells slots lsA hD hL hc hn
  obtain ⟨hx, hb, hml, hown, hts, hE, hA, hR, hini, hlk, htab, hhx, hthr⟩ := C
  simp only [stp] at HS
  split at HS
  · obtain ⟨hb2, HS⟩ := STr_ift HS
    exact lv_dup2_11 hx hb hdg (is1_cat hb2.1) (is1_cat hb2.2) (HS H locs cells slots lsA hD hL hc hn)
  · exact False.elim HS
theorem sn_pop (C : Cx p l R s m args meth cd G E A d M) {pc : Nat} {ls st : List Value} {h : AH} {c n : Nat} (hdg : decode (mB M) pc = .ok (.pop, 1)) (HS : STr E CR M Q (PS p l e R s m args below meth cd Qw G A M) pc ls h c n (stp TTv E d M pc ls st h .pop)) : PS p l e R s m args below meth cd Qw G A M pc ls st h c n := by
  intro H locs cells slots lsA hD hL hc hn
  obtain ⟨hx, hb, hml, hown, hts, hE, hA, hR, hini, hlk, htab, hhx, hthr⟩ := C
  simp only [stp] at HS
  split at HS
  · obtain ⟨hb2, HS⟩ := STr_ift HS
    exact lv_pop hx hb hdg (is1_cat hb2) (HS H locs cells slots lsA hD hL hc hn)
  · exact False.elim HS
theorem ob_spec {h : AH} {a ci : Nat} {fs : List Value} (H : ob h a ci = some fs) : h a = some (.inr (ci, fs)) := by
  unfold ob at H
  split at H
  · next cj gs e =>
    split at H
    · next e2 => cases H; rw [e, e2]
    · cases H
  · cases H
theorem sm_of {o : Nat} {q : Nat × Nat} {ref : String} (hown : s.vm.findClass (oN o) = some m.cls) (hts : ∀ w ∈ lw_G, w.before args s = true) (hr : ref = (TC q.1 q.2).1 ∨ Cond.sameField ref (TC q.1 q.2).1 (TC q.1 q.2).2.1 (TC q.1 q.2).2.2.1 ∈ lw_G) : ∀ x, s.fieldFound? (TC q.1 q.2).1 (TC q.1 q.2).2.1 (TC q.1 q.2).2.2.1 = some x → s.fieldFound? ref (TC q.1 q.2).2.1 (TC q.1 q.2).2.2.1 = some x := by
  rcases hr with rfl | hr
  · exact fun x h => h
  · exact fun x h => u_same (hts _ hr) x h
theorem okF_spec {t : FieldType} {v : Value} (h : okF t v = true) : narrow t v = v ∧ fits t v = true := by
  have k01 : ∀ x : Int32, (x == 0 || x == 1) = true → x &&& 1 = x := by
    intro x hx
    rcases (by simpa using hx : x = 0 ∨ x = 1) with rfl | rfl <;> rfl
  cases t with
  | boolean =>
    cases v with
    | int x => exact ⟨by show Value.int (x &&& 1) = _; rw [k01 x h], h⟩
    | _ => cases h
  | char =>
    cases v with
    | int x =>
      have h2 : (decide (0 ≤ x.toInt) && decide (x.toInt < 65536)) = true := h
      simp only [Bool.and_eq_true, decide_eq_true_eq] at h2
      obtain ⟨j, hj, rfl⟩ : ∃ j : Nat, j < 65536 ∧ x = nI j := by
        obtain ⟨j, h5, h6⟩ := nI_of (x := x) (by rw [Int32.lt_iff_toInt_lt]; have : (0 : Int32).toInt = 0 := rfl; omega)
        subst h6
        rw [nI_toInt h5] at h2
        exact ⟨j, by omega, rfl⟩
      exact pk_charN hj
    | _ => cases h
  | int => cases v <;> first | exact ⟨rfl, rfl⟩ | cases h
  | long => cases v <;> first | exact ⟨rfl, rfl⟩ | cases h
  | object _ => cases v <;> first | exact ⟨rfl, rfl⟩ | cases h
  | array _ => cases v <;> first | exact ⟨rfl, rfl⟩ | cases h
  | _ => cases h
/-- behind a write -/
theorem Dy.set {h : AH} {H1 : Heap} {locs locs1 : List Loc} {ws : va_W} {tys : List (ClassId × FieldType)} {i : Nat} {a : Nat} {e0 : va_E} {y : va_E} {x : AC} (hK : va_K G vwCl tys s) (hcov : ∀ a x, h a = some x → inW ws tys a x) (hD : va_D A ws) (hi : ws[i]? = some (a, e0)) (hP1 : va_P G vwCl (ws.set i (a, y)) H1) (hD1 : va_D A (ws.set i (a, y))) (hS1 : va_S A s.heap H1 locs1) (hxy : inW (ws.set i (a, y)) tys a x) : Dy G A s (hset h a x) H1 locs1 := by
  refine ⟨_, tys, hP1, hK, hD1, hS1, fun b z hz => ?_⟩
  unfold hset at hz
  by_cases hb : b = a
  · subst hb
    rw [if_pos rfl] at hz
    cases hz
    exact hxy
  · rw [if_neg hb] at hz
    have h0 := hcov b z hz
    have key : ∀ (k : Nat) (w : va_E), ws[k]? = some (b, w) → (ws.set i (a, y))[k]? = some (b, w) := by
      intro k w hk
      rw [List.getElem?_set_ne]
      · exact hk
      · intro hik
        subst hik
        rw [hi] at hk
        cases hk
        exact hb rfl
    cases z with
    | inl z =>
      obtain ⟨k, j, cA, g1, g2⟩ := h0
      exact ⟨k, j, cA, key k _ g1, g2⟩
    | inr z =>
      obtain ⟨k, g1⟩ := h0
      exact ⟨k, key k _ g1⟩
theorem Dy.push {h : AH} {H1 : Heap} {locs1 : List Loc} {ws : va_W} {tys tys1 : List (ClassId × FieldType)} {a : Nat} {y : va_E} {x : AC} (hK : va_K G vwCl (tys ++ tys1) s) (hcov : ∀ a x, h a = some x → inW ws tys a x) (hP1 : va_P G vwCl (ws ++ [(a, y)]) H1) (hD1 : va_D A (ws ++ [(a, y)])) (hS1 : va_S A s.heap H1 locs1) (hxy : inW (ws ++ [(a, y)]) (tys ++ tys1) a x) : Dy G A s (hset h a x) H1 locs1 := by
  refine ⟨_, tys ++ tys1, hP1, hK, hD1, hS1, fun b z hz => ?_⟩
  unfold hset at hz
  by_cases hb : b = a
  · subst hb
    rw [if_pos rfl] at hz
    cases hz
    exact hxy
  · rw [if_neg hb] at hz
    have h0 := hcov b z hz
    have kl : ∀ {α : Type} {l1 l2 : List α} {k : Nat} {w : α}, l1[k]? = some w → (l1 ++ l2)[k]? = some w := by
      intro α l1 l2 k w hk
      rw [List.getElem?_append_left (List.getElem?_eq_some_iff.mp hk).1]
      exact hk
    cases z with
    | inl z =>
      obtain ⟨k, j, cA, g1, g2⟩ := h0
      exact ⟨k, j, cA, kl g1, kl g2⟩
    | inr z =>
      obtain ⟨k, g1⟩ := h0
      exact ⟨k, kl g1⟩
/-- a new cell lies apart from all that we know -/
theorem Dy.fresh {h : AH} {H1 : Heap} {ws : va_W} {tys : List (ClassId × FieldType)} {a : Nat} {y : va_E} (hcov : ∀ a x, h a = some x → inW ws tys a x) (hD1 : va_D A (ws ++ [(a, y)])) : h a = none := by
  cases hh : h a with
  | none => rfl
  | some x =>
    have h0 := hcov a x hh
    have key : ∀ (k : Nat) (w : va_E), ws[k]? = some (a, w) → False := by
      intro k w hk
      have hlt := (List.getElem?_eq_some_iff.mp hk).1
      have h1 : (ws ++ [(a, y)])[k]? = some (a, w) := by rw [List.getElem?_append_left hlt]; exact hk
      have h2 : (ws ++ [(a, y)])[ws.length]? = some (a, y) := by simp
      exact absurd (hD1.1 k ws.length _ _ h1 h2 rfl) (by omega)
    cases x with
    | inl z => obtain ⟨k, j, cA, g1, g2⟩ := h0; exact (key k _ g1).elim
    | inr z => obtain ⟨k, g1⟩ := h0; exact (key k _ g1).elim
theorem Dy.freshE {H1 : Heap} {ws : va_W} {a : Nat} {y : va_E} (hE : EvOK G E A s s.heap) (hD1 : va_D A (ws ++ [(a, y)])) : E.1 a = none := by
  have hAa : A a := hD1.2 ws.length (a, y) (by simp)
  cases hh : E.1 a with
  | none => rfl
  | some x => exact absurd hAa (hE.1 a x hh).1
/-- a read of ours, in some world of the kit's, or of a read-only cell -/
theorem rd_in {h : AH} {H : Heap} {locs : List Loc} (hE : EvOK G E A s s.heap) (hD : Dy G A s h H locs) {a : Nat} {x : AC} (hr : rd E h a = some x) : (∃ (ws : va_W) (tys : List (ClassId × FieldType)), va_P G vwCl ws H ∧ va_K G vwCl tys s ∧ inW ws tys a x) ∨ (¬ A a ∧ RO a x s s.heap) := by
  unfold rd at hr
  obtain ⟨ws, tys, hP, hK, hDD, hS, hcov⟩ := hD
  cases hh : h a with
  | some y =>
    rw [hh] at hr
    cases hr
    exact Or.inl ⟨ws, tys, hP, hK, hcov a _ hh⟩
  | none =>
    rw [hh] at hr
    exact Or.inr (hE.1 a x hr)
theorem RO_0 {a N : Nat} {f : Nat → Int32} {U : State} {H : Heap} (h : RO a (.inl (0, N, .inl f)) U H) : va_X a N f U H := h
theorem RO_1 {a N : Nat} {f : Nat → Int32} {U : State} {H : Heap} (h : RO a (.inl (1, N, .inl f)) U H) : False := h
theorem RO_len {a k : Nat} {x : vp_A} {U : State} {H : Heap} (h : RO a (.inl (k, x)) U H) : (∃ f, va_X a x.1 f U H) ∨ ∃ cell : Cell, H[a]? = some cell ∧ U.isArrayOf cell (.object "java/lang/Object") ∧ cell.slots.size.toInt32 = Int32.ofNat x.1 := by
  unfold RO at h
  split at h
  · next N f e => cases e; exact Or.inl ⟨f, h⟩
  · next y e => cases e; exact Or.inr h
  · exact h.elim
theorem inB_spec {i : Int32} {N : Nat} (h : inB i N = true) : vp_in i N := by
  unfold inB at h
  exact (of_decide_eq_true h : ¬ (i < 0 ∨ N ≤ i.toNatClampNeg))
theorem sn_getfield (C : Cx p l R s m args meth cd G E A d M) {pc : Nat} {ls st : List Value} {h : AH} {c n : Nat} {i : Nat} (hdg : decode (mB M) pc = .ok ((.getfield i), 3)) (HS : STr E CR M Q (PS p l e R s m args below meth cd Qw G A M) pc ls h c n (stp TTv E d M pc ls st h (.getfield i))) : PS p l e R s m args below meth cd Qw G A M pc ls st h c n := by
  intro H locs cells slots lsA hD hL hc hn
  obtain ⟨hx, hb, hml, hown, hts, hE, hA, hR, hini, hlk, htab, hhx, hthr⟩ := C
  simp only [stp] at HS
  split at HS
  · next a r =>
    obtain ⟨q, hq, HS⟩ := STr_bind HS
    obtain ⟨fs, hf, HS⟩ := STr_bind HS
    obtain ⟨v, hv, HS⟩ := STr_bind HS
    obtain ⟨h7, hk, ref, hl, hr⟩ := fdT_ok hq
    obtain ⟨ws, tys, hP, hK, hDD, hS, hcov⟩ := id hD
    obtain ⟨j, hj⟩ := hcov a _ (ob_spec hf)
    exact va_get hx hb hts (wl_at h7) hown hK hP j hj (cl_at h7) q.2 hk (hts _ hl) (sm_of hown hts hr) hv hdg (HS H locs cells slots lsA hD hL hc hn)
  · exact False.elim HS
theorem fin_own : ∀ {ci k : Nat}, ci < 6 → k < nC ci → (TC ci k).2.2.2 = true → (TC ci k).1 = oN ci := by
  have h : ∀ ci, ci < 6 → ∀ k, k < nC ci → (TC ci k).2.2.2 = true → (TC ci k).1 = oN ci := by decide +kernel
  exact fun {ci k} h1 h2 h3 => h ci h1 k h2 h3
theorem sn_putfield (C : Cx p l R s m args meth cd G E A d M) {pc : Nat} {ls st : List Value} {h : AH} {c n : Nat} {i : Nat} (hdg : decode (mB M) pc = .ok ((.putfield i), 3)) (HS : STr E CR M Q (PS p l e R s m args below meth cd Qw G A M) pc ls h c n (stp TTv E d M pc ls st h (.putfield i))) : PS p l e R s m args below meth cd Qw G A M pc ls st h c n := by
  intro H locs cells slots lsA hD hL hc hn
  obtain ⟨hx, hb, hml, hown, hts, hE, hA, hR, hini, hlk, htab, hhx, hthr⟩ := C
  simp only [stp] at HS
  split at HS
  · next v a r =>
    obtain ⟨q, hq, HS⟩ := STr_bind HS
    obtain ⟨fs, hf, HS⟩ := STr_bind HS
    obtain ⟨⟨⟨hlt, hok⟩, hfin⟩, HS⟩ := STr_ift HS
    obtain ⟨h7, hk, ref, hl, hr⟩ := fdT_ok hq
    obtain ⟨ws, tys, hP, hK, hDD, hS, hcov⟩ := id hD
    obtain ⟨j, hj⟩ := hcov a _ (ob_spec hf)
    obtain ⟨hn1, hf1⟩ := okF_spec hok
    have fin : ∀ (H1 : Heap) (locs1 : List Loc), va_P G vwCl (ws.set j (a, .inr (q.1, fs.set q.2 v))) H1 → va_D A (ws.set j (a, .inr (q.1, fs.set q.2 v))) → va_S A s.heap H1 locs1 → W p l e R s m args below meth cd H1 locs1 cells slots Qw (F0 m (pc + 3) lsA r) := fun H1 locs1 hP1 hD1 hS1 =>
      HS H1 locs1 cells slots lsA (Dy.set (locs := locs) hK hcov hDD hj hP1 hD1 hS1 ⟨j, List.getElem?_set_self (List.getElem?_eq_some_iff.mp hj).1⟩) hL hc hn
    rcases Bool.eq_false_or_eq_true (TC q.1 q.2).2.2.2 with hff | hff
    · rcases hfin with z | ⟨z1, z2⟩
      · rw [hff] at z; cases z
      · have hdc : (TC q.1 q.2).1 = oN (mO M) := by
          rw [z2]
          exact fin_own h7 hk hff
        exact va_putF hx hb hts (wl_at h7) (tyC q.1) (ty_at h7) (nm_at h7) hown hK hP hDD hS j hj (cl_at h7) q.2 hk (hts _ hl) (sm_of hown hts hr) hff (hini z1) hdc (ty_at h7 q.2 hk) hn1 hf1 hlt hdg fin
    · exact va_put hx hb hts (wl_at h7) (tyC q.1) (ty_at h7) (nm_at h7) hown hK hP hDD hS j hj (cl_at h7) q.2 hk (hts _ hl) (sm_of hown hts hr) hff (ty_at h7 q.2 hk) hn1 hf1 hlt hdg fin
  · exact False.elim HS
theorem wst : Cond.fieldLink (oN 0) 39 "java/util/ArrayList" "DEFAULTCAPACITY_EMPTY_ELEMENTDATA" "[Ljava/lang/Object;" ∈ lw_G := lw_in 65 (by decide +kernel) (by decide +kernel)
theorem sn_getstatic (C : Cx p l R s m args meth cd G E A d M) {pc : Nat} {ls st : List Value} {h : AH} {c n : Nat} {i : Nat} (hdg : decode (mB M) pc = .ok ((.getstatic i), 3)) (HS : STr E CR M Q (PS p l e R s m args below meth cd Qw G A M) pc ls h c n (stp TTv E d M pc ls st h (.getstatic i))) : PS p l e R s m args below meth cd Qw G A M pc ls st h c n := by
  intro H locs cells slots lsA hD hL hc hn
  obtain ⟨hx, hb, hml, hown, hts, hE, hA, hR, hini, hlk, htab, hhx, hthr⟩ := C
  simp only [stp] at HS
  obtain ⟨ho, HS2⟩ := STr_ift HS
  obtain ⟨ho, rfl⟩ := ho
  have HS := HS2
  obtain ⟨ws, tys, hP, hK, hDD, hS, hcov⟩ := id hD
  rw [ho] at hown
  exact va_gets hx hb hE.2.1 hS hown (hts _ wst) (fun x h => h) hdg (HS H locs cells slots lsA hD hL hc hn)
theorem wcn : Cond.constant (oN 11) 200 2147483639 ∈ lw_G := lw_in 286 (by decide +kernel) (by decide +kernel)
theorem wlk : Cond.classLink (oN 8) 110 "[Ljava/lang/Object;" ∈ lw_G := lw_in 311 (by decide +kernel) (by decide +kernel)
theorem wcl : Cond.constant (oN 7) 7 40503 ∈ lw_G := lw_in 152 (by decide +kernel) (by decide +kernel)
theorem wcf : Cond.constantFloat (oN 7) 125 3264610304 ∈ lw_G := lw_in 810 (by decide +kernel) (by decide +kernel)
theorem wl2_213 : Cond.constantLong (oN 7) 213 31 ∈ lw_G := lw_in 737 (by decide +kernel) (by decide +kernel)
theorem wl2_219 : Cond.constantLong (oN 7) 219 7 ∈ lw_G := lw_in 742 (by decide +kernel) (by decide +kernel)
theorem wl2_221 : Cond.constantLong (oN 7) 221 101 ∈ lw_G := lw_in 743 (by decide +kernel) (by decide +kernel)
theorem wl2_226 : Cond.constantLong (oN 7) 226 11 ∈ lw_G := lw_in 748 (by decide +kernel) (by decide +kernel)
theorem wl2_228 : Cond.constantLong (oN 7) 228 13 ∈ lw_G := lw_in 749 (by decide +kernel) (by decide +kernel)
theorem wl2_230 : Cond.constantLong (oN 7) 230 17 ∈ lw_G := lw_in 750 (by decide +kernel) (by decide +kernel)
theorem sn_ldc (C : Cx p l R s m args meth cd G E A d M) {pc : Nat} {ls st : List Value} {h : AH} {c n : Nat} {i : Nat} (hdg : decode (mB M) pc = .ok ((.ldc i), 2)) (HS : STr E CR M Q (PS p l e R s m args below meth cd Qw G A M) pc ls h c n (stp TTv E d M pc ls st h (.ldc i))) : PS p l e R s m args below meth cd Qw G A M pc ls st h c n := by
  intro H locs cells slots lsA hD hL hc hn
  obtain ⟨hx, hb, hml, hown, hts, hE, hA, hR, hini, hlk, htab, hhx, hthr⟩ := C
  simp only [stp] at HS
  split at HS
  · next ho =>
    rw [ho] at hown
    exact lv_ldc hx hb hown (hts _ wcn) hdg (HS H locs cells slots lsA hD hL hc hn)
  · next ho =>
    rw [ho] at hown
    exact va_ldcM hx hb hown (hts _ wlk) hE.2.2.1 hdg (HS H locs cells slots lsA hD hL hc hn)
  · next ho =>
    rw [ho] at hown
    exact lv_ldc hx hb hown (hts _ wcl) hdg (HS H locs cells slots lsA hD hL hc hn)
  · next ho =>
    rw [ho] at hown
    exact lv_ldcf hx hb hown (hts _ wcf) hdg (HS H locs cells slots lsA hD hL hc hn)
  · exact False.elim HS
theorem sn_ldc2_w (C : Cx p l R s m args meth cd G E A d M) {pc : Nat} {ls st : List Value} {h : AH} {c n : Nat} {i : Nat} (hdg : decode (mB M) pc = .ok ((.ldc2_w i), 3)) (HS : STr E CR M Q (PS p l e R s m args below meth cd Qw G A M) pc ls h c n (stp TTv E d M pc ls st h (.ldc2_w i))) : PS p l e R s m args below meth cd Qw G A M pc ls st h c n := by
  intro H locs cells slots lsA hD hL hc hn
  obtain ⟨hx, hb, hml, hown, hts, hE, hA, hR, hini, hlk, htab, hhx, hthr⟩ := C
  simp only [stp] at HS
  split at HS
  · next ho =>
    rw [ho] at hown
    exact lv_ldc2 hx hb hown (hts _ wl2_213) hdg (HS H locs cells slots lsA hD hL hc hn)
  · next ho =>
    rw [ho] at hown
    exact lv_ldc2 hx hb hown (hts _ wl2_219) hdg (HS H locs cells slots lsA hD hL hc hn)
  · next ho =>
    rw [ho] at hown
    exact lv_ldc2 hx hb hown (hts _ wl2_221) hdg (HS H locs cells slots lsA hD hL hc hn)
  · next ho =>
    rw [ho] at hown
    exact lv_ldc2 hx hb hown (hts _ wl2_226) hdg (HS H locs cells slots lsA hD hL hc hn)
  · next ho =>
    rw [ho] at hown
    exact lv_ldc2 hx hb hown (hts _ wl2_228) hdg (HS H locs cells slots lsA hD hL hc hn)
  · next ho =>
    rw [ho] at hown
    exact lv_ldc2 hx hb hown (hts _ wl2_230) hdg (HS H locs cells slots lsA hD hL hc hn)
  · exact False.elim HS
theorem rdI_spec {h : AH} {a k : Nat} {q : Nat × (Nat → Int32)} (H : rdI E h a k = some q) : rd E h a = some (.inl (k, q.1, .inl q.2)) := by
  unfold rdI at H
  split at H
  · next k' N f e =>
    split at H
    · next e2 => cases H; rw [e, e2]
    · cases H
  · cases H
theorem rdJ_spec {h : AH} {a : Nat} {q : Nat × (Nat → Int64)} (H : rdJ E h a = some q) : rd E h a = some (.inl (2, q.1, .inr (.inl q.2))) := by
  unfold rdJ at H
  split at H
  · next N f e => cases H; exact e
  · cases H
theorem rdD_spec {h : AH} {a : Nat} {q : Nat × (Nat → UInt64)} (H : rdD E h a = some q) : rd E h a = some (.inl (3, q.1, .inr (.inr (.inr (.inl q.2))))) := by
  unfold rdD at H
  split at H
  · next N f e => cases H; exact e
  · cases H
theorem rdA_spec {h : AH} {a : Nat} {q : Nat × (Nat → Option Nat)} (H : rdA h a = some q) : h a = some (.inl (4, q.1, .inr (.inr (.inr (.inr q.2))))) := by
  unfold rdA at H
  split at H
  · next N f e => cases H; exact e
  · cases H
theorem rwI_spec {h : AH} {a k : Nat} {q : Nat × (Nat → Int32)} (H : rwI h a k = some q) : h a = some (.inl (k, q.1, .inl q.2)) := by
  unfold rwI at H
  split at H
  · next k' N f e =>
    split at H
    · next e2 => cases H; rw [e, e2]
    · cases H
  · cases H
theorem rwJ_spec {h : AH} {a : Nat} {q : Nat × (Nat → Int64)} (H : rwJ h a = some q) : h a = some (.inl (2, q.1, .inr (.inl q.2))) := by
  unfold rwJ at H
  split at H
  · next N f e => cases H; exact e
  · cases H
theorem rwD_spec {h : AH} {a : Nat} {q : Nat × (Nat → UInt64)} (H : rwD h a = some q) : h a = some (.inl (3, q.1, .inr (.inr (.inr (.inl q.2))))) := by
  unfold rwD at H
  split at H
  · next N f e => cases H; exact e
  · cases H
theorem isO_spec {h : AH} {a : Nat} (H : isO h a = true) : ∃ o, h a = some (.inr o) := by
  unfold isO at H
  split at H
  · next o e => exact ⟨o, e⟩
  · cases H
theorem sn_iaload (C : Cx p l R s m args meth cd G E A d M) {pc : Nat} {ls st : List Value} {h : AH} {c n : Nat} (hdg : decode (mB M) pc = .ok (.iaload, 1)) (HS : STr E CR M Q (PS p l e R s m args below meth cd Qw G A M) pc ls h c n (stp TTv E d M pc ls st h .iaload)) : PS p l e R s m args below meth cd Qw G A M pc ls st h c n := by
  intro H locs cells slots lsA hD hL hc hn
  obtain ⟨hx, hb, hml, hown, hts, hE, hA, hR, hini, hlk, htab, hhx, hthr⟩ := C
  simp only [stp] at HS
  split at HS
  · next i a r =>
    obtain ⟨q, hq, HS⟩ := STr_bind HS
    obtain ⟨hi, HS⟩ := STr_ift HS
    rcases rd_in hE hD (rdI_spec hq) with ⟨ws, tys, hP, hK, j, t, cA, g1, g2⟩ | ⟨hna, hro⟩
    · exact va_iald hx hb hK hP j t g1 g2 (inB_spec hi) hdg (HS H locs cells slots lsA hD hL hc hn)
    · obtain ⟨_, _, _, _, _, hS, _⟩ := id hD
      exact va_sld hx hb (RO_0 hro) hro.lt hna hS (inB_spec hi) hdg (HS H locs cells slots lsA hD hL hc hn)
  · exact False.elim HS
theorem sn_baload (C : Cx p l R s m args meth cd G E A d M) {pc : Nat} {ls st : List Value} {h : AH} {c n : Nat} (hdg : decode (mB M) pc = .ok (.baload, 1)) (HS : STr E CR M Q (PS p l e R s m args below meth cd Qw G A M) pc ls h c n (stp TTv E d M pc ls st h .baload)) : PS p l e R s m args below meth cd Qw G A M pc ls st h c n := by
  intro H locs cells slots lsA hD hL hc hn
  obtain ⟨hx, hb, hml, hown, hts, hE, hA, hR, hini, hlk, htab, hhx, hthr⟩ := C
  simp only [stp] at HS
  split at HS
  · next i a r =>
    obtain ⟨q, hq, HS⟩ := STr_bind HS
    obtain ⟨hi, HS⟩ := STr_ift HS
    rcases rd_in hE hD (rdI_spec hq) with ⟨ws, tys, hP, hK, j, t, cA, g1, g2⟩ | ⟨hna, hro⟩
    · exact va_zald hx hb hK hP j t g1 g2 (inB_spec hi) hdg (HS H locs cells slots lsA hD hL hc hn)
    · exact (RO_1 hro).elim
  · exact False.elim HS
theorem sn_caload (C : Cx p l R s m args meth cd G E A d M) {pc : Nat} {ls st : List Value} {h : AH} {c n : Nat} (hdg : decode (mB M) pc = .ok (.caload, 1)) (HS : STr E CR M Q (PS p l e R s m args below meth cd Qw G A M) pc ls h c n (stp TTv E d M pc ls st h .caload)) : PS p l e R s m args below meth cd Qw G A M pc ls st h c n := by
  intro H locs cells slots lsA hD hL hc hn
  obtain ⟨hx, hb, hml, hown, hts, hE, hA, hR, hini, hlk, htab, hhx, hthr⟩ := C
  simp only [stp] at HS
  split at HS
  · next i a r =>
    obtain ⟨q, hq, HS⟩ := STr_bind HS
    obtain ⟨hi, HS⟩ := STr_ift HS
    rcases rd_in hE hD (rdI_spec hq) with ⟨ws, tys, hP, hK, j, t, cA, g1, g2⟩ | ⟨hna, hro⟩
    · exact va_cald hx hb hK hP j t g1 g2 (inB_spec hi) hdg (HS H locs cells slots lsA hD hL hc hn)
    · exact False.elim hro
  · exact False.elim HS
theorem sn_laload (C : Cx p l R s m args meth cd G E A d M) {pc : Nat} {ls st : List Value} {h : AH} {c n : Nat} (hdg : decode (mB M) pc = .ok (.laload, 1)) (HS : STr E CR M Q (PS p l e R s m args below meth cd Qw G A M) pc ls h c n (stp TTv E d M pc ls st h .laload)) : PS p l e R s m args below meth cd Qw G A M pc ls st h c n := by
  intro H locs cells slots lsA hD hL hc hn
  obtain ⟨hx, hb, hml, hown, hts, hE, hA, hR, hini, hlk, htab, hhx, hthr⟩ := C
  simp only [stp] at HS
  split at HS
  · next i a r =>
    obtain ⟨q, hq, HS⟩ := STr_bind HS
    obtain ⟨hi, HS⟩ := STr_ift HS
    rcases rd_in hE hD (rdJ_spec hq) with ⟨ws, tys, hP, hK, j, t, cA, g1, g2⟩ | ⟨hna, hro⟩
    · exact va_lald hx hb hK hP j t g1 g2 (inB_spec hi) hdg (HS H locs cells slots lsA hD hL hc hn)
    · exact False.elim hro
  · exact False.elim HS
theorem sn_daload (C : Cx p l R s m args meth cd G E A d M) {pc : Nat} {ls st : List Value} {h : AH} {c n : Nat} (hdg : decode (mB M) pc = .ok (.daload, 1)) (HS : STr E CR M Q (PS p l e R s m args below meth cd Qw G A M) pc ls h c n (stp TTv E d M pc ls st h .daload)) : PS p l e R s m args below meth cd Qw G A M pc ls st h c n := by
  intro H locs cells slots lsA hD hL hc hn
  obtain ⟨hx, hb, hml, hown, hts, hE, hA, hR, hini, hlk, htab, hhx, hthr⟩ := C
  simp only [stp] at HS
  split at HS
  · next i a r =>
    obtain ⟨q, hq, HS⟩ := STr_bind HS
    obtain ⟨hi, HS⟩ := STr_ift HS
    rcases rd_in hE hD (rdD_spec hq) with ⟨ws, tys, hP, hK, j, t, cA, g1, g2⟩ | ⟨hna, hro⟩
    · exact va_dald hx hb hK hP j t g1 g2 (inB_spec hi) hdg (HS H locs cells slots lsA hD hL hc hn)
    · exact False.elim hro
  · exact False.elim HS
theorem sn_aaload (C : Cx p l R s m args meth cd G E A d M) {pc : Nat} {ls st : List Value} {h : AH} {c n : Nat} (hdg : decode (mB M) pc = .ok (.aaload, 1)) (HS : STr E CR M Q (PS p l e R s m args below meth cd Qw G A M) pc ls h c n (stp TTv E d M pc ls st h .aaload)) : PS p l e R s m args below meth cd Qw G A M pc ls st h c n := by
  intro H locs cells slots lsA hD hL hc hn
  obtain ⟨hx, hb, hml, hown, hts, hE, hA, hR, hini, hlk, htab, hhx, hthr⟩ := C
  simp only [stp] at HS
  split at HS
  · next i a r =>
    obtain ⟨q, hq, HS⟩ := STr_bind HS
    obtain ⟨hi, HS⟩ := STr_ift HS
    obtain ⟨ws, tys, hP, hK, hDD, hS, hcov⟩ := id hD
    obtain ⟨j, t, cA, g1, g2⟩ := hcov a _ (rdA_spec hq)
    exact va_aldq hx hb hK hP j t g1 g2 (inB_spec hi) hdg (HS H locs cells slots lsA hD hL hc hn)
  · exact False.elim HS
theorem sn_iastore (C : Cx p l R s m args meth cd G E A d M) {pc : Nat} {ls st : List Value} {h : AH} {c n : Nat} (hdg : decode (mB M) pc = .ok (.iastore, 1)) (HS : STr E CR M Q (PS p l e R s m args below meth cd Qw G A M) pc ls h c n (stp TTv E d M pc ls st h .iastore)) : PS p l e R s m args below meth cd Qw G A M pc ls st h c n := by
  intro H locs cells slots lsA hD hL hc hn
  obtain ⟨hx, hb, hml, hown, hts, hE, hA, hR, hini, hlk, htab, hhx, hthr⟩ := C
  simp only [stp] at HS
  split at HS
  · next x i a r =>
    obtain ⟨q, hq, HS⟩ := STr_bind HS
    obtain ⟨hi, HS⟩ := STr_ift HS
    obtain ⟨ws, tys, hP, hK, hDD, hS, hcov⟩ := id hD
    obtain ⟨j, t, cA, g1, g2⟩ := hcov a _ (rwI_spec hq)
    exact va_iast hx hb hK hP hDD hS j t g1 g2 (inB_spec hi) hdg (fun H1 locs1 hP1 hD1 hS1 => HS H1 locs1 cells slots lsA (Dy.set (locs := locs) hK hcov hDD g1 hP1 hD1 hS1 ⟨j, t, cA, List.getElem?_set_self (List.getElem?_eq_some_iff.mp g1).1, g2⟩) hL hc hn)
  · exact False.elim HS
theorem sn_lastore (C : Cx p l R s m args meth cd G E A d M) {pc : Nat} {ls st : List Value} {h : AH} {c n : Nat} (hdg : decode (mB M) pc = .ok (.lastore, 1)) (HS : STr E CR M Q (PS p l e R s m args below meth cd Qw G A M) pc ls h c n (stp TTv E d M pc ls st h .lastore)) : PS p l e R s m args below meth cd Qw G A M pc ls st h c n := by
  intro H locs cells slots lsA hD hL hc hn
  obtain ⟨hx, hb, hml, hown, hts, hE, hA, hR, hini, hlk, htab, hhx, hthr⟩ := C
  simp only [stp] at HS
  split at HS
  · next x i a r =>
    obtain ⟨q, hq, HS⟩ := STr_bind HS
    obtain ⟨hi, HS⟩ := STr_ift HS
    obtain ⟨ws, tys, hP, hK, hDD, hS, hcov⟩ := id hD
    obtain ⟨j, t, cA, g1, g2⟩ := hcov a _ (rwJ_spec hq)
    exact va_last hx hb hK hP hDD hS j t g1 g2 (inB_spec hi) hdg (fun H1 locs1 hP1 hD1 hS1 => HS H1 locs1 cells slots lsA (Dy.set (locs := locs) hK hcov hDD g1 hP1 hD1 hS1 ⟨j, t, cA, List.getElem?_set_self (List.getElem?_eq_some_iff.mp g1).1, g2⟩) hL hc hn)
  · exact False.elim HS
theorem sn_dastore (C : Cx p l R s m args meth cd G E A d M) {pc : Nat} {ls st : List Value} {h : AH} {c n : Nat} (hdg : decode (mB M) pc = .ok (.dastore, 1)) (HS : STr E CR M Q (PS p l e R s m args below meth cd Qw G A M) pc ls h c n (stp TTv E d M pc ls st h .dastore)) : PS p l e R s m args below meth cd Qw G A M pc ls st h c n := by
  intro H locs cells slots lsA hD hL hc hn
  obtain ⟨hx, hb, hml, hown, hts, hE, hA, hR, hini, hlk, htab, hhx, hthr⟩ := C
  simp only [stp] at HS
  split at HS
  · next x i a r =>
    obtain ⟨q, hq, HS⟩ := STr_bind HS
    obtain ⟨hi, HS⟩ := STr_ift HS
    obtain ⟨ws, tys, hP, hK, hDD, hS, hcov⟩ := id hD
    obtain ⟨j, t, cA, g1, g2⟩ := hcov a _ (rwD_spec hq)
    exact va_dast hx hb hK hP hDD hS j t g1 g2 (inB_spec hi) hdg (fun H1 locs1 hP1 hD1 hS1 => HS H1 locs1 cells slots lsA (Dy.set (locs := locs) hK hcov hDD g1 hP1 hD1 hS1 ⟨j, t, cA, List.getElem?_set_self (List.getElem?_eq_some_iff.mp g1).1, g2⟩) hL hc hn)
  · exact False.elim HS
theorem sn_bastore (C : Cx p l R s m args meth cd G E A d M) {pc : Nat} {ls st : List Value} {h : AH} {c n : Nat} (hdg : decode (mB M) pc = .ok (.bastore, 1)) (HS : STr E CR M Q (PS p l e R s m args below meth cd Qw G A M) pc ls h c n (stp TTv E d M pc ls st h .bastore)) : PS p l e R s m args below meth cd Qw G A M pc ls st h c n := by
  intro H locs cells slots lsA hD hL hc hn
  obtain ⟨hx, hb, hml, hown, hts, hE, hA, hR, hini, hlk, htab, hhx, hthr⟩ := C
  simp only [stp] at HS
  split at HS
  · next x i a r =>
    obtain ⟨q, hq, HS⟩ := STr_bind HS
    obtain ⟨⟨hi, h01⟩, HS⟩ := STr_ift HS
    obtain ⟨ws, tys, hP, hK, hDD, hS, hcov⟩ := id hD
    obtain ⟨j, t, cA, g1, g2⟩ := hcov a _ (rwI_spec hq)
    have hz : vp_nar .boolean x = x := by
      have h2 : (x == 0 || x == 1) = true := h01
      rcases (by simpa using h2 : x = 0 ∨ x = 1) with rfl | rfl <;> rfl
    refine va_zast hx hb hK hP hDD hS j t g1 g2 (inB_spec hi) hdg (fun H1 locs1 hP1 hD1 hS1 => ?_)
    rw [hz] at hP1 hD1
    exact HS H1 locs1 cells slots lsA (Dy.set (locs := locs) hK hcov hDD g1 hP1 hD1 hS1 ⟨j, t, cA, List.getElem?_set_self (List.getElem?_eq_some_iff.mp g1).1, g2⟩) hL hc hn
  · exact False.elim HS
theorem sn_castore (C : Cx p l R s m args meth cd G E A d M) {pc : Nat} {ls st : List Value} {h : AH} {c n : Nat} (hdg : decode (mB M) pc = .ok (.castore, 1)) (HS : STr E CR M Q (PS p l e R s m args below meth cd Qw G A M) pc ls h c n (stp TTv E d M pc ls st h .castore)) : PS p l e R s m args below meth cd Qw G A M pc ls st h c n := by
  intro H locs cells slots lsA hD hL hc hn
  obtain ⟨hx, hb, hml, hown, hts, hE, hA, hR, hini, hlk, htab, hhx, hthr⟩ := C
  simp only [stp] at HS
  split at HS
  · next x i a r =>
    obtain ⟨q, hq, HS⟩ := STr_bind HS
    obtain ⟨⟨hi, h16⟩, HS⟩ := STr_ift HS
    obtain ⟨ws, tys, hP, hK, hDD, hS, hcov⟩ := id hD
    obtain ⟨j, t, cA, g1, g2⟩ := hcov a _ (rwI_spec hq)
    have hz : vp_nar .char x = x := by
      unfold vp_nar
      rw [(okF_spec (t := .char) (v := .int x) h16).1]
    refine va_cast hx hb hK hP hDD hS j t g1 g2 (inB_spec hi) hdg (fun H1 locs1 hP1 hD1 hS1 => ?_)
    rw [hz] at hP1 hD1
    exact HS H1 locs1 cells slots lsA (Dy.set (locs := locs) hK hcov hDD g1 hP1 hD1 hS1 ⟨j, t, cA, List.getElem?_set_self (List.getElem?_eq_some_iff.mp g1).1, g2⟩) hL hc hn
  · exact False.elim HS
theorem castO : ∀ {ci : Nat}, ci < 6 → Cond.castable (oN ci) "java/lang/Object" ∈ lw_D := by
  have h : ∀ ci, ci < 6 → Cond.castable (oN ci) "java/lang/Object" ∈ lw_D := by decide +kernel
  exact fun {ci} h1 => h ci h1
theorem ci_lt {H : Heap} {ws : va_W} (hP : va_P G vwCl ws H) {j a ci : Nat} {fs : List Value} (hj : ws[j]? = some (a, .inr (ci, fs))) : ci < 6 := by
  obtain ⟨r, h1, -⟩ := hP j _ hj
  exact (List.getElem?_eq_some_iff.mp h1).1
theorem sn_aastore (C : Cx p l R s m args meth cd G E A d M) {pc : Nat} {ls st : List Value} {h : AH} {c n : Nat} (hdg : decode (mB M) pc = .ok (.aastore, 1)) (HS : STr E CR M Q (PS p l e R s m args below meth cd Qw G A M) pc ls h c n (stp TTv E d M pc ls st h .aastore)) : PS p l e R s m args below meth cd Qw G A M pc ls st h c n := by
  intro H locs cells slots lsA hD hL hc hn
  obtain ⟨hx, hb, hml, hown, hts, hE, hA, hR, hini, hlk, htab, hhx, hthr⟩ := C
  simp only [stp] at HS
  split at HS
  · next v i a r =>
    obtain ⟨q, hq, HS⟩ := STr_bind HS
    obtain ⟨⟨hi, ho⟩, HS⟩ := STr_ift HS
    obtain ⟨ws, tys, hP, hK, hDD, hS, hcov⟩ := id hD
    obtain ⟨j, t, cA, g1, g2⟩ := hcov a _ (rdA_spec hq)
    obtain ⟨⟨ci, fs⟩, hv⟩ := isO_spec ho
    obtain ⟨k, hk⟩ := hcov v _ hv
    have h7 := ci_lt hP hk
    exact va_astqO hx hb hK hP hDD hS j t k ci g1 g2 (hE.2.2.2.2.2.2.1 _ (castO h7)) hk (cl_at h7) (inB_spec hi) hdg (fun H1 locs1 hP1 hD1 hS1 => HS H1 locs1 cells slots lsA (Dy.set (locs := locs) hK hcov hDD g1 hP1 hD1 hS1 ⟨j, t, cA, List.getElem?_set_self (List.getElem?_eq_some_iff.mp g1).1, g2⟩) hL hc hn)
  · next i a r =>
    obtain ⟨q, hq, HS⟩ := STr_bind HS
    obtain ⟨hi, HS⟩ := STr_ift HS
    obtain ⟨ws, tys, hP, hK, hDD, hS, hcov⟩ := id hD
    obtain ⟨j, t, cA, g1, g2⟩ := hcov a _ (rdA_spec hq)
    exact va_astqN hx hb hK hP hDD hS j t g1 g2 (inB_spec hi) hdg (fun H1 locs1 hP1 hD1 hS1 => HS H1 locs1 cells slots lsA (Dy.set (locs := locs) hK hcov hDD g1 hP1 hD1 hS1 ⟨j, t, cA, List.getElem?_set_self (List.getElem?_eq_some_iff.mp g1).1, g2⟩) hL hc hn)
  · exact False.elim HS
theorem sn_arraylength (C : Cx p l R s m args meth cd G E A d M) {pc : Nat} {ls st : List Value} {h : AH} {c n : Nat} (hdg : decode (mB M) pc = .ok (.arraylength, 1)) (HS : STr E CR M Q (PS p l e R s m args below meth cd Qw G A M) pc ls h c n (stp TTv E d M pc ls st h .arraylength)) : PS p l e R s m args below meth cd Qw G A M pc ls st h c n := by
  intro H locs cells slots lsA hD hL hc hn
  obtain ⟨hx, hb, hml, hown, hts, hE, hA, hR, hini, hlk, htab, hhx, hthr⟩ := C
  simp only [stp] at HS
  split at HS
  · next a r =>
    obtain ⟨N, hN, HS⟩ := STr_bind HS
    unfold rdN at hN
    split at hN
    · next k x e =>
      cases hN
      rcases rd_in hE hD e with ⟨ws, tys, hP, hK, j, t, cA, g1, g2⟩ | ⟨hna, hro⟩
      · exact va_alen hx hb hK hP j t g1 g2 rfl hdg (HS H locs cells slots lsA hD hL hc hn)
      · obtain ⟨_, _, _, _, _, hS, _⟩ := id hD
        rcases RO_len hro with ⟨f, hf⟩ | ⟨cell, h1, h2, h3⟩
        · exact va_slen hx hb hf hro.lt hna hS hdg (HS H locs cells slots lsA hD hL hc hn)
        · exact W.alen (n := Int32.ofNat x.1) hx hb (by rw [hS.2.1 a hro.lt hna]; exact h1) h2 h3 rfl rfl hdg (HS H locs cells slots lsA hD hL hc hn)
    · cases hN
  · exact False.elim HS
theorem wa0 : Cond.arrayClass .int ∈ lw_G := lw_in 97 (by decide +kernel) (by decide +kernel)
theorem wa5 : Cond.arrayClass .char ∈ lw_G := lw_in 844 (by decide +kernel) (by decide +kernel)

theorem sn_newarray (C : Cx p l R s m args meth cd G E A d M) {pc : Nat} {ls st : List Value} {h : AH} {c n : Nat} {t : ArrayType} (hdg : decode (mB M) pc = .ok ((.newarray t), 2)) (HS : STr E CR M Q (PS p l e R s m args below meth cd Qw G A M) pc ls h c n (stp TTv E d M pc ls st h (.newarray t))) : PS p l e R s m args below meth cd Qw G A M pc ls st h c n := by
  intro H locs cells slots lsA hD hL hc hn
  obtain ⟨hx, hb, hml, hown, hts, hE, hA, hR, hini, hlk, htab, hhx, hthr⟩ := C
  simp only [stp] at HS
  split at HS
  · next i r =>
    obtain ⟨z, hz, HS⟩ := STr_bind HS
    obtain ⟨⟨hi, hle⟩, HS⟩ := STr_ift HS
    obtain ⟨h1c, h2n, HS⟩ := HS
    dsimp only at h2n HS
    obtain ⟨ws, tys, hP, hK, hDD, hS, hcov⟩ := id hD
    have go : ∀ (ty : FieldType) (x : vp_A) (hzz : z.2 i.toNatClampNeg = x) (hty : kT z.1 = ty) (q : Nat) (cA : ClassId) (H1 : Heap), va_K G vwCl (tys ++ [(cA, ty)]) s → va_P G vwCl (ws ++ [(q, .inl (cA, x))]) H1 → va_D A (ws ++ [(q, .inl (cA, x))]) → va_S A s.heap H1 locs → W p l e R s m args below meth cd H1 locs (cells + 1) (slots + i.toNatClampNeg) Qw (F0 m (pc + 2) lsA (.ref q :: r)) := by
      intro ty x hzz hty q cA H1 hK1 hP1 hD1 hS1
      refine HS q (Dy.fresh (H1 := H1) hcov hD1) (Dy.freshE (H1 := H1) hE hD1) H1 locs (cells + 1) (slots + i.toNatClampNeg) lsA (Dy.push hK1 hcov hP1 hD1 hS1 ⟨ws.length, tys.length, cA, ?_, ?_⟩) hL (by omega) (by omega)
      · rw [hzz]; simp
      · rw [← hty]; simp
    unfold zer at hz
    cases t with
    | int => cases hz; exact va_newa (atype := .int) (ty := .int) hx hb (hts _ wa0) rfl hK hP hDD hS hA (a0 := (i.toNatClampNeg, .inl (fun _ => 0))) (fun cA => rfl) hi rfl (by show _ * 4 ≤ _; omega) (by omega) (by omega) hdg (go .int _ rfl rfl)
    | char => cases hz; exact va_newa (atype := .char) (ty := .char) hx hb (hts _ wa5) rfl hK hP hDD hS hA (a0 := (i.toNatClampNeg, .inl (fun _ => 0))) (fun cA => rfl) hi rfl (by show _ * 2 ≤ _; omega) (by omega) (by omega) hdg (go .char _ rfl rfl)
    | _ => cases hz
  · exact False.elim HS
theorem wob {M : MD} {ix : Nat} (h : (mO M = 0 ∧ ix = 7) ∨ (mO M = 8 ∧ ix = 2)) : Cond.classLink (oN (mO M)) ix "java/lang/Object" ∈ lw_G := by
  rcases h with ⟨h1, h2⟩ | ⟨h1, h2⟩
  · rw [h1, h2]; exact lw_in 321 (by decide +kernel) (by decide +kernel)
  · rw [h1, h2]; exact lw_in 313 (by decide +kernel) (by decide +kernel)
theorem sn_anewarray (C : Cx p l R s m args meth cd G E A d M) {pc : Nat} {ls st : List Value} {h : AH} {c n : Nat} {ix : Nat} (hdg : decode (mB M) pc = .ok ((.anewarray ix), 3)) (HS : STr E CR M Q (PS p l e R s m args below meth cd Qw G A M) pc ls h c n (stp TTv E d M pc ls st h (.anewarray ix))) : PS p l e R s m args below meth cd Qw G A M pc ls st h c n := by
  intro H locs cells slots lsA hD hL hc hn
  obtain ⟨hx, hb, hml, hown, hts, hE, hA, hR, hini, hlk, htab, hhx, hthr⟩ := C
  simp only [stp] at HS
  split at HS
  · next i r =>
    obtain ⟨⟨⟨hi, hle⟩, ho⟩, HS⟩ := STr_ift HS
    obtain ⟨h1c, h2n, HS⟩ := HS
    dsimp only at h2n HS
    obtain ⟨ws, tys, hP, hK, hDD, hS, hcov⟩ := id hD
    refine va_newq hx hb hown (C := "java/lang/Object") (hts _ (wob ho)) hE.2.2.2.2.2.2.2.1 hK hP hDD hS hA hi rfl (by omega) (by omega) (by omega) hdg (fun q cA H1 hK1 hP1 hD1 hS1 => ?_)
    refine HS q (Dy.fresh (H1 := H1) hcov hD1) (Dy.freshE (H1 := H1) hE hD1) H1 locs (cells + 1) (slots + i.toNatClampNeg) lsA (Dy.push hK1 hcov hP1 hD1 hS1 ⟨ws.length, tys.length, cA, by simp, by simp [kT]⟩) hL (by omega) (by omega)
  · exact False.elim HS
theorem sn_checkcast (C : Cx p l R s m args meth cd G E A d M) {pc : Nat} {ls st : List Value} {h : AH} {c n : Nat} {i : Nat} (hdg : decode (mB M) pc = .ok ((.checkcast i), 3)) (HS : STr E CR M Q (PS p l e R s m args below meth cd Qw G A M) pc ls h c n (stp TTv E d M pc ls st h (.checkcast i))) : PS p l e R s m args below meth cd Qw G A M pc ls st h c n := by
  intro H locs cells slots lsA hD hL hc hn
  obtain ⟨hx, hb, hml, hown, hts, hE, hA, hR, hini, hlk, htab, hhx, hthr⟩ := C
  simp only [stp] at HS
  split at HS
  · next a r =>
    obtain ⟨ci, hq, HS⟩ := STr_bind HS
    obtain ⟨fs, hf, HS⟩ := STr_bind HS
    obtain ⟨h7, hl⟩ := nwT_ok hq
    obtain ⟨ws, tys, hP, hK, hDD, hS, hcov⟩ := id hD
    obtain ⟨j, hj⟩ := hcov a _ (ob_spec hf)
    exact va_castS hx hb hown (hts _ hl) (hK.1 ci _ (cl_at h7)).2 (va_recv hK hP (cl_at h7) hj) hdg (HS H locs cells slots lsA hD hL hc hn)
  · exact False.elim HS
end SND
end
section
theorem wgd : Cond.declares ⟨"java/lang/Object", "getClass", "()Ljava/lang/Class;"⟩ ∈ lw_D := by decide +kernel
theorem wgs : Cond.selects "[Ljava/lang/Object;" ⟨"java/lang/Object", "getClass", "()Ljava/lang/Class;"⟩ ⟨"java/lang/Object", "getClass", "()Ljava/lang/Class;"⟩ ∈ lw_G := lw_in 861 (by decide +kernel) (by decide +kernel)
theorem wgi : Cond.instanceMethod ⟨"java/lang/Object", "getClass", "()Ljava/lang/Class;"⟩ ∈ lw_G := lw_in 294 (by decide +kernel) (by decide +kernel)
theorem wgn : Cond.native ⟨"java/lang/Object", "getClass", "()Ljava/lang/Class;"⟩ ∈ lw_G := lw_in 307 (by decide +kernel) (by decide +kernel)
theorem wobi : Cond.instanceMethod objectInit ∈ lw_G := lw_in 51 (by decide +kernel) (by decide +kernel)
theorem wobc : Cond.code objectInit ⟨#[0xb1]⟩ 1 none ∈ lw_G := lw_in 52 (by decide +kernel) (by decide +kernel)
theorem wmin0 : Cond.static Lib.Math.min.name ∈ lw_G := lw_in 315 (by decide +kernel) (by decide +kernel)
theorem wmin1 : Cond.code Lib.Math.min.name Lib.Math.min.code 2 (some .int) ∈ lw_G := lw_in 316 (by decide +kernel) (by decide +kernel)
theorem wmax0 : Cond.static Lib.Math.max.name ∈ lw_G := lw_in 284 (by decide +kernel) (by decide +kernel)
theorem wmax1 : Cond.code Lib.Math.max.name Lib.Math.max.code 2 (some .int) ∈ lw_G := lw_in 285 (by decide +kernel) (by decide +kernel)
theorem wmi : Cond.initialized "java/lang/Math" ∈ lw_G := lw_in 36 (by decide +kernel) (by decide +kernel)
theorem wsi : Cond.initialized "java/lang/System" ∈ lw_G := lw_in 37 (by decide +kernel) (by decide +kernel)
theorem wan : Cond.native arraycopyName ∈ lw_G := lw_in 319 (by decide +kernel) (by decide +kernel)
theorem was : Cond.static arraycopyName ∈ lw_G := lw_in 318 (by decide +kernel) (by decide +kernel)
theorem nfw : nativeFrameWords "java/lang/System" "arraycopy" 5 + 11 ≤ 52 := by decide +kernel
section SNC
variable {p : Program} {l : Launch} {e : Env} {R : Room} {s : State} {m : MethodId} {args : Array Value} {below : List Frame} {meth : Method} {cd : Code} {Qw : State → Prop} {G : va_G} {E : EN} {A : Nat → Prop} {d : Nat} {M : MD} {CR : CT} {Q : Out → AH → Prop}
def CRok (l : Launch) (E : EN) (CR : CT) (d : Nat) : Prop := ∀ (M' : MD) (as : List Value) (h : AH) (c' n' : Nat) (K : Out → AH → Prop), CR M' as h c' n' K → okM M' → 1 ≤ d ∧ ∀ (G : va_G) (A : Nat → Prop), vx_Met l (mY M') (cdW M' :: lw_G) ({ frames := d - 1, cells := c', slots := n', locals := 38 * (d - 1) }) (PcM G E A as h) (QcM G A K) (XcM G A K) c' n' A
theorem snd_after {pc : Nat} {lsA : Array Slot} {st0 rest : List Value} {H : Heap} {locs : List Loc} {cells slots mc ms : Nat} {a : Array Value} {K : Out → AH → Prop}
    (hr : vx_Run p l e R s m args below meth cd H locs cells slots mc ms (F0 m pc lsA st0) rest (QcM G A K a) (XcM G A K) A) (hS : va_S A s.heap H locs)
    (kret : ∀ v h' H1 locs1, K (.inl v) h' → Dy G A s h' H1 locs1 → W p l e R s m args below meth cd H1 locs1 (cells + mc) (slots + ms) Qw (F0 m (pc + 3) lsA (v.toList ++ rest)))
    (kthr : ∀ x h' H1 locs1 q ce, 0 < x → x < 6 → K (.inr x) h' → Dy G A s h' H1 locs1 → H1[q]? = some ce → ce.vm = .none → s.vm.findClass (exN x) = some ce.cls → vx_W p l e R s m args below meth cd H1 locs1 (cells + mc) (slots + ms) Qw (F0 m pc lsA rest) q) :
    W p l e R s m args below meth cd H locs cells slots Qw (F0 m pc lsA st0) := by
  intro T hT X
  rcases hr T hT X with ⟨v, st₀, t, T', L, h0, X', hL, e1, e2, ⟨⟨v', h', hv, hK, hW⟩, hF⟩, st⟩ | ⟨q, st₀, t, T', L, Ex, ce, h0, X', hL, e1, e2, ⟨⟨x, h', rfl, hx0, hx6, hK, hW⟩, hF⟩, hce, hcv, hcl, st⟩
  · cases hv
    obtain ⟨k1, k2, k3⟩ := vx_keep h0 e1 hS (fun q _ h => h) (fun q h => h) hL hF
    obtain ⟨ws, tys, g1, g2, g3, g4⟩ := hW
    have hvm : s.vm.Alike t.vm := by rw [← e2]; exact X'.warmed.alike
    obtain ⟨t2, a1, b1⟩ := kret v h' T'.heap (locs ++ L) hK ⟨ws, tys, by rw [e1]; exact g1, g2.moved hvm.symm, g3, k3, g4⟩ T' rfl X'
    exact ⟨t2, st t2 a1, b1⟩
  · obtain ⟨k1, k2, k3⟩ := vx_keep h0 e1 hS (fun q _ h => h) (fun q h => h) hL hF
    obtain ⟨ws, tys, g1, g2, g3, g4⟩ := hW
    have hvm : s.vm.Alike t.vm := by rw [← e2]; exact X'.warmed.alike
    obtain ⟨t2, a1, b1⟩ := kthr x h' T'.heap (locs ++ L) q ce hx0 hx6 hK ⟨ws, tys, by rw [e1]; exact g1, g2.moved hvm.symm, g3, k3, g4⟩ (by rw [e1]; exact hce) hcv hcl T' rfl X'
    exact ⟨t2, st.trans a1, b1⟩
theorem good_G {ws : List Cond} (h : ∀ w ∈ ws, w ∈ lw_G) : GoodIn lw_G ws := fun w hw => ⟨h w hw, good_of_word (List.mem_filter.mp (h w hw)).2⟩
theorem cat_le : ∀ (r : List Value), (r.map fun v => v.category).sum ≤ 2 * r.length
  | [] => Nat.le_refl 0
  | v :: r => by
    have h1 := cat_le r
    have h2 : v.category ≤ 2 := by cases v <;> simp [Value.category]
    simp only [List.map_cons, List.sum_cons, List.length_cons]
    omega
theorem cat_room {pc : Nat} {ls : Array Slot} {st r : List Value} (h : r.length ≤ 4) : 2 * (F0 m pc ls st).monitorRoom + (r.map fun v => v.category).sum ≤ 8 := lv_room (by have := cat_le r; omega)
/-- the ends of a walk -/
def RetI (r : Option FieldType) (i : Instr) (v : Option Value) (st : List Value) : Prop :=
  (i = .ireturn ∧ ∃ x, st = [.int x] ∧ v = some (.int x) ∧ okR r (.int x) = true) ∨ (i = .lreturn ∧ ∃ x, st = [.long x] ∧ v = some (.long x) ∧ okS r = 1) ∨ (i = .freturn ∧ ∃ x, st = [.float x] ∧ v = some (.float x) ∧ okS r = 2) ∨
  (i = .areturn ∧ ∃ x, st = [x] ∧ v = some x ∧ isA x = true ∧ okS r = 3) ∨ (i = .return_ ∧ st = [] ∧ v = none ∧ okS r = 0)
def EndR (p : Program) (l : Launch) (e : Env) (R : Room) (s : State) (m : MethodId) (args : Array Value) (below : List Frame) (meth : Method) (cd : Code) (Qw : State → Prop) (G : va_G) (A : Nat → Prop) (M : MD) (Q : Out → AH → Prop) : Prop := ∀ (i : Instr) (v : Option Value) (st : List Value) (pc : Nat) (lsA : Array Slot) (h : AH) (H : Heap) (locs : List Loc) (cells slots : Nat), decode (mB M) pc = .ok (i, 1) → RetI (mR M) i v st → Q (.inl v) h → Dy G A s h H locs → cells ≤ R.cells → slots ≤ R.slots → W p l e R s m args below meth cd H locs cells slots Qw (F0 m pc lsA st)
def EndX (p : Program) (l : Launch) (e : Env) (R : Room) (s : State) (m : MethodId) (args : Array Value) (below : List Frame) (meth : Method) (cd : Code) (Qw : State → Prop) (G : va_G) (A : Nat → Prop) (M : MD) (Q : Out → AH → Prop) : Prop := ∀ (x : Nat) (h' : AH) (H1 : Heap) (locs1 : List Loc) (cells slots : Nat) (q : Nat) (ce : Cell) (pc : Nat) (lsA : Array Slot) (rest : List Value), 0 < x → x < 6 → Q (.inr x) h' →
  (∀ z ∈ cd.exceptionTable.toList, covers z pc = false ∨ (z.catchType ≠ 0 ∧ ∃ nm : String, (Cond.classLink (oN (mO M)) z.catchType nm).before args s = true ∧ va_Nc (exN x) nm s)) → Dy G A s h' H1 locs1 → cells ≤ R.cells → slots ≤ R.slots → H1[q]? = some ce → ce.vm = .none → s.vm.findClass (exN x) = some ce.cls → vx_W p l e R s m args below meth cd H1 locs1 cells slots Qw (F0 m pc lsA rest) q
def EndT (p : Program) (l : Launch) (e : Env) (R : Room) (s : State) (m : MethodId) (args : Array Value) (below : List Frame) (meth : Method) (cd : Code) (Qw : State → Prop) (G : va_G) (A : Nat → Prop) (d : Nat) (M : MD) (Q : Out → AH → Prop) : Prop := ∀ (pc X : Nat) (h : AH) (H : Heap) (locs : List Loc) (cells slots : Nat) (lsA : Array Slot) (st : List Value), look (mT M) pc = some X → Q (.inr X) h → Dy G A s h H locs → 6 ≤ d → st.length ≤ 4 → cells + 1 ≤ R.cells → slots + 6 ≤ R.slots → lsA.size = mL M → W p l e R s m args below meth cd H locs cells slots Qw (F0 m pc lsA st)
theorem wcx : ∀ {x : Nat}, 0 < x → x < 6 → Cond.classLink (oN 7) (exI x) (exN x) ∈ lw_G ∧ exI x ≠ 0 := by
  have h : ∀ x, x < 6 → 0 < x → Cond.classLink (oN 7) (exI x) (exN x) ∈ lw_G ∧ exI x ≠ 0 := by decide +kernel
  exact fun {x} h1 h2 => h x h2 h1
theorem wcc : ∀ {x : Nat}, 0 < x → x < 6 → Cond.castable (exN x) (exN x) ∈ lw_D := by
  have h : ∀ x, x < 6 → 0 < x → Cond.castable (exN x) (exN x) ∈ lw_D := by decide +kernel
  exact fun {x} h1 h2 => h x h2 h1
theorem sn_thr (C : Cx p l R s m args meth cd G E A d M) (hEX : EndX p l e R s m args below meth cd Qw G A M Q) {x : Nat} {h' : AH} {H1 : Heap} {locs1 : List Loc} {cells slots q c n : Nat} {ce : Cell} {pc : Nat} {lsA : Array Slot} {ls rest : List Value} (hx0 : 0 < x) (hx6 : x < 6)
    (hK : match hdl M pc x with | some t => ∀ q, PS p l e R s m args below meth cd Qw G A M t ls [.ref q] h' c n | none => Q (.inr x) h') (hD : Dy G A s h' H1 locs1) (hL : Lr (mJ M) lsA (mL M) ls) (hc : cells + c ≤ R.cells) (hn : slots + n ≤ R.slots) (hce : H1[q]? = some ce) (hcv : ce.vm = .none) (hcl : s.vm.findClass (exN x) = some ce.cls) :
    vx_W p l e R s m args below meth cd H1 locs1 cells slots Qw (F0 m pc lsA rest) q := by
  obtain ⟨hx, hb, hml, hown, hts, hE, hA, hR, hini, hlk, htab, hhx, hthr⟩ := C
  have pass : ∀ a ∈ mH M, ¬ (decide (a.1 ≤ pc) && decide (pc < a.2.1) && Nat.beq a.2.2.2 x) = true → covers (⟨a.1, a.2.1, a.2.2.1, exI a.2.2.2⟩ : ExceptionTableEntry) pc = false ∨ (exI a.2.2.2 ≠ 0 ∧ ∃ nm : String, (Cond.classLink (oN (mO M)) (exI a.2.2.2) nm).before args s = true ∧ va_Nc (exN x) nm s) := by
    intro a ha hp
    obtain ⟨⟨p1, p2⟩, p3⟩ := hhx a ha
    cases hcv2 : covers (⟨a.1, a.2.1, a.2.2.1, exI a.2.2.2⟩ : ExceptionTableEntry) pc with
    | false => exact Or.inl rfl
    | true =>
      refine Or.inr ⟨(wcx p1 p2).2, exN a.2.2.2, by rw [p3]; exact hts _ (wcx p1 p2).1, hE.2.2.2.2.2.2.2.2 x a.2.2.2 hx6 p2 hx0 p1 (fun z => hp ?_)⟩
      have h1 : (decide (a.1 ≤ pc) && decide (pc < a.2.1)) = true := hcv2
      rw [h1, Bool.true_and, ← z]
      exact Nat.beq_refl x
  cases hh : hdl M pc x with
  | none =>
    rw [hh] at hK
    refine hEX x h' H1 locs1 cells slots q ce pc lsA rest hx0 hx6 hK ?_ hD (by omega) (by omega) hce hcv hcl
    rw [htab]
    intro z hz
    obtain ⟨y, hy, rfl⟩ := List.mem_map.mp hz
    obtain ⟨a, ha, rfl⟩ := List.mem_map.mp hy
    refine pass a ha (fun hp => ?_)
    unfold hdl at hh
    rw [Option.map_eq_none_iff] at hh
    exact absurd hp (List.find?_eq_none.mp hh a ha)
  | some t =>
    rw [hh] at hK
    unfold hdl at hh
    rw [Option.map_eq_some_iff] at hh
    obtain ⟨y, hy, rfl⟩ := hh
    obtain ⟨hpy, as, bs, hsp, has⟩ := List.find?_eq_some_iff_append.mp hy
    have hmem : y ∈ mH M := by rw [hsp]; simp
    obtain ⟨⟨p1, p2⟩, p3⟩ := hhx y hmem
    simp only [Bool.and_eq_true] at hpy
    have hyx : y.2.2.2 = x := Nat.eq_of_beq_eq_true hpy.2
    let f : Nat × Nat × Nat × Nat → ExceptionTableEntry := fun a => ⟨a.1, a.2.1, a.2.2.1, exI a.2.2.2⟩
    have htab2 : cd.exceptionTable.toList = as.map f ++ f y :: bs.map f := by
      rw [htab, hsp]
      simp only [tableOf, rawH, List.map_append, List.map_cons, List.map_map]
      rfl
    refine vx_catch (own := oN (mO M)) (name := exN x) hown (as.map f) (f y) (bs.map f) htab2 ?_ (by show (decide _ && decide _) = true; rw [hpy.1.1, hpy.1.2]; rfl) (by show exI y.2.2.2 ≠ 0; exact (wcx p1 p2).2) (by rw [p3]; show (Cond.classLink (oN 7) (exI y.2.2.2) (exN x)).before args s = true; rw [hyx]; exact hts _ (wcx hx0 hx6).1) (va_Nw.use (lw_D_on (wcc hx0 hx6)) (hE.2.2.2.2.2.2.1 _ (wcc hx0 hx6))) hce hcv hcl ?_
    · intro z hz
      obtain ⟨a, ha, rfl⟩ := List.mem_map.mp hz
      have hma : a ∈ mH M := by rw [hsp]; exact List.mem_append_left _ ha
      refine pass a hma ?_
      intro hp
      have h9 := has a ha
      rw [Bool.not_eq_true'] at h9
      exact absurd (hp.symm.trans h9) (by decide)
    · exact hK q H1 locs1 cells slots lsA hD hL hc hn
theorem Pre_of {as : List Value} {h : AH} {H : Heap} {locs : List Loc} (hE : EvOK G E A s s.heap) (hA : ∀ q : Nat, s.heap.size ≤ q → A q) (hD : Dy G A s h H locs) : ∀ U : State, U.heap = H → s.WarmedH U.vm → PcM G E A as h as.toArray U := by
  intro U hU hW
  obtain ⟨ws, tys, hP, hK, hDD, hS, hcov⟩ := hD
  refine ⟨rfl, ⟨ws, tys, by rw [hU]; exact hP, hK.moved hW.alike, hDD, hcov⟩, hE.mv hS hU hW, fun q hq => hA q ?_⟩
  rw [hU] at hq
  exact Nat.le_trans hS.1 hq
theorem sn_call (C : Cx p l R s m args meth cd G E A d M) (hEX : EndX p l e R s m args below meth cd Qw G A M Q) {M' : MD} {h : AH} {H : Heap} {locs : List Loc} {cells slots c n c' n' pc : Nat} {lsA : Array Slot} {ls st0 rest : List Value} {a : Array Value} (hc' : c' ≤ c) (hn' : n' ≤ n)
    (hD : Dy G A s h H locs) (hL : Lr (mJ M) lsA (mL M) ls) (hc : cells + c ≤ R.cells) (hn : slots + n ≤ R.slots)
    (hr : vx_Run p l e R s m args below meth cd H locs cells slots c' n' (F0 m pc lsA st0) rest (QcM G A (fun o h' => Aft (PS p l e R s m args below meth cd Qw G A M) Q M (mI M') pc ls rest o h' (c - c') (n - n')) a) (XcM G A (fun o h' => Aft (PS p l e R s m args below meth cd Qw G A M) Q M (mI M') pc ls rest o h' (c - c') (n - n'))) A) :
    W p l e R s m args below meth cd H locs cells slots Qw (F0 m pc lsA st0) := by
  obtain ⟨ws, tys, hP, hK, hDD, hS, hcov⟩ := id hD
  refine snd_after hr hS (fun v h' H1 locs1 hK1 hD1 => ?_) (fun x h' H1 locs1 q ce h0 h6 hK1 hD1 h1 h2 h3 => ?_)
  · exact hK1 H1 locs1 (cells + c') (slots + n') lsA hD1 hL (by omega) (by omega)
  · exact sn_thr (c := c - c') (n := n - n') C hEX h0 h6 hK1.2 hD1 hL (by omega) (by omega) h1 h2 h3
theorem sn_inv0 (C : Cx p l R s m args meth cd G E A d M) (hCR : CRok l E CR d) (hEX : EndX p l e R s m args below meth cd Qw G A M Q) {i pc : Nat} {ls st : List Value} {h : AH} {c n : Nat} (hdg : decode (mB M) pc = .ok (.invokevirtual i, 3)) (HS : STr E CR M Q (PS p l e R s m args below meth cd Qw G A M) pc ls h c n (stp TTv E d M pc ls st h (.invokevirtual i))) : PS p l e R s m args below meth cd Qw G A M pc ls st h c n := by
  intro H locs cells slots lsA hD hL hc hn
  have C0 := C
  obtain ⟨hx, hb, hml, hown, hts, hE, hA, hR, hini, hlk, htab, hhx, hthr⟩ := C
  simp only [stp] at HS
  obtain ⟨⟨kd, na, M'⟩, hq, HS⟩ := STr_bind HS
  obtain ⟨hk, HS⟩ := STr_ift HS
  have ok := clT_ok hq
  dsimp only at hk
  obtain ⟨ws, tys, hP, hK, hDD, hS, hcov⟩ := id hD
  rcases hk with rfl | rfl
  · simp only [inv] at HS
    split at HS
    · next b r hdrop =>
      obtain ⟨fs, hfs, HS⟩ := STr_bind HS
      obtain ⟨⟨htake, hr4⟩, HS⟩ := STr_ift HS
      obtain ⟨c', n', hc', hn', HS⟩ := HS
      obtain ⟨hl, ⟨hokM, hmH, hinst, hpar⟩, hsel, h7⟩ := ok
      obtain ⟨hd1, hM⟩ := hCR M' _ h c' n' _ HS hokM
      obtain ⟨j, hj⟩ := hcov b _ (ob_spec hfs)
      obtain ⟨o1, o2, o3, o4, o5, o6, o7, o8⟩ := hokM
      have o5 : mL M' ≤ 17 := o5
      have hcd : cdW M' = Cond.code (mY M') (mB M') (mL M') (mR M') := by unfold cdW; rw [hmH]
      have hG : ∀ w ∈ wsV (oN (mO M)) i (oN (mO M')) (mY M') (cdW M' :: lw_G), w ∈ lw_G := by
        intro w hw
        unfold wsV at hw
        rcases List.mem_append.mp hw with hw | hw
        · rcases (by simpa using hw : w = .methodLink (oN (mO M)) i (mY M') ∨ w = .instanceMethod (mY M') ∨ w = .selects (oN (mO M')) (mY M') (mY M') ∨ w = .initialized (oN (mO M'))) with rfl | rfl | rfl | rfl
          · exact hl
          · exact hinst
          · exact hsel
          · rw [← o7]; exact o2
        · rcases List.mem_cons.mp hw with rfl | hw
          · exact o1
          · exact hw
      have hst : st = (st.take na).reverse.reverse ++ .ref b :: r := by
        rw [List.reverse_reverse, ← hdrop, List.take_append_drop]
      exact sn_call C0 hEX hc' hn' hD hL hc hn (vx_runV (As := (st.take na).reverse) (b := b) (rest := r) ⟨hx, hb, hml, hown, hts⟩ (hM G A) (cwV na hts (good_G hG) (by rw [hcd]) rfl rfl ⟨o7, o4.1, o4.2, hpar⟩ ⟨by show d - 1 + 1 ≤ _; omega, by show 8 + (mL M' + 11) + 38 * (d - 1) ≤ _; omega⟩) ⟨PcM.blind, va_recv hK hP (cl_at h7) hj, Pre_of hE hA hD⟩ rfl (by rw [List.length_reverse]; exact htake) hL.size hst (cat_room hr4) hdg ⟨by omega, by omega⟩)
    · exact False.elim HS
  · simp only [inv] at HS
    split at HS
    · next a r _ _ =>
      obtain ⟨f, hf, HS⟩ := STr_bind HS
      obtain ⟨⟨hr4, hd1⟩, HS⟩ := STr_ift HS
      obtain ⟨j, t, cA, g1, g2⟩ := hcov a _ (rdA_spec hf)
      have hcl : s.vm.findClass "[Ljava/lang/Object;" = some cA := by
        obtain ⟨kA, comp, -, -, -, h4⟩ := (hK.2 t _ g2).2
        exact h4
      have hc2 := cat_le r
      exact va_getC hx hb (hml.trans hL.size.symm) hown (hts _ ok) (va_Nw.use rfl (hE.2.2.2.2.2.2.1 _ wgd)) (hts _ wgs) (hts _ wgi) (hts _ wgn) hE.2.2.1 ⟨_, hP j _ g1, rfl, hcl⟩ (by omega) (Nat.le_trans (Nat.add_le_add_right hc2 14) (by omega)) hdg (HS H locs cells slots lsA hD hL hc hn)
    · exact False.elim HS
theorem sn_inv1 (C : Cx p l R s m args meth cd G E A d M) (hCR : CRok l E CR d) (hEX : EndX p l e R s m args below meth cd Qw G A M Q) {i pc : Nat} {ls st : List Value} {h : AH} {c n : Nat} (hdg : decode (mB M) pc = .ok (.invokespecial i, 3)) (HS : STr E CR M Q (PS p l e R s m args below meth cd Qw G A M) pc ls h c n (stp TTv E d M pc ls st h (.invokespecial i))) : PS p l e R s m args below meth cd Qw G A M pc ls st h c n := by
  intro H locs cells slots lsA hD hL hc hn
  have C0 := C
  obtain ⟨hx, hb, hml, hown, hts, hE, hA, hR, hini, hlk, htab, hhx, hthr⟩ := C
  simp only [stp] at HS
  obtain ⟨⟨kd, na, M'⟩, hq, HS⟩ := STr_bind HS
  obtain ⟨hk, HS⟩ := STr_ift HS
  have ok := clT_ok hq
  dsimp only at hk
  obtain ⟨ws, tys, hP, hK, hDD, hS, hcov⟩ := id hD
  rcases hk with rfl | rfl
  · simp only [inv] at HS
    split at HS
    · next b r hdrop =>
      obtain ⟨⟨htake, hr4⟩, HS⟩ := STr_ift HS
      obtain ⟨c', n', hc', hn', HS⟩ := HS
      obtain ⟨hl, ⟨hokM, hmH, hinst, hpar⟩, hmi⟩ := ok
      have hmi : mI M' = true := hmi
      obtain ⟨hd1, hM⟩ := hCR M' _ h c' n' _ HS hokM
      obtain ⟨o1, o2, o3, o4, o5, o6, o7, o8⟩ := hokM
      have o5 : mL M' ≤ 17 := o5
      obtain ⟨hname, hret, -⟩ := o6 hmi
      have hcd : cdW M' = Cond.code (mY M') (mB M') (mL M') none := by unfold cdW; rw [hmH]; rw [← hret]
      have hG : ∀ w ∈ cdW M' :: lw_G, w ∈ lw_G := by
        intro w hw
        rcases List.mem_cons.mp hw with rfl | hw
        · exact o1
        · exact hw
      have hst : st = (st.take na).reverse.reverse ++ .ref b :: r := by
        rw [List.reverse_reverse, ← hdrop, List.take_append_drop]
      refine sn_call (M' := M') C0 hEX hc' hn' hD hL hc hn (fun T hT X => Or.inl (va_runI (As := (st.take na).reverse) (b := b) (rest := r) ⟨hx, hb, hml, hown, hts⟩ (vx_noThrow (hM G A) (fun X st t ⟨⟨x, h', _, _, _, hK2, _⟩, _⟩ => ?_)) (cwI na hts (good_G hG) (by rw [hcd]) rfl rfl (hts _ o2) (hts _ hl) (hts _ hinst) hname ⟨o4.1, o4.2, hpar⟩ ⟨by show d - 1 + 1 ≤ _; omega, by show 8 + (mL M' + 11) + 38 * (d - 1) ≤ _; omega⟩) ⟨PcM.blind, Pre_of hE hA hD⟩ rfl (by rw [List.length_reverse]; exact htake) hL.size hst (cat_room hr4) hdg ⟨by omega, by omega⟩ T hT X))
      have h9 : mI M' = false := hK2.1
      rw [hmi] at h9
      cases h9
    · exact False.elim HS
  · simp only [inv] at HS
    split at HS
    · next a r _ _ =>
      obtain ⟨⟨hr4, hd1⟩, HS⟩ := STr_ift HS
      have hc2 := cat_le r
      exact W.objInit hx hb hown (hts _ ok) (hts _ wobi) (hts _ wobc) rfl (hL.size.trans hml.symm) rfl hdg (by omega) (Nat.le_trans (Nat.add_le_add_right (cat_room hr4) 12) (by omega)) (HS H locs cells slots lsA hD hL hc hn)
    · exact False.elim HS
theorem sn_inv2 (C : Cx p l R s m args meth cd G E A d M) (hCR : CRok l E CR d) (hEX : EndX p l e R s m args below meth cd Qw G A M Q) {i pc : Nat} {ls st : List Value} {h : AH} {c n : Nat} (hdg : decode (mB M) pc = .ok (.invokestatic i, 3)) (HS : STr E CR M Q (PS p l e R s m args below meth cd Qw G A M) pc ls h c n (stp TTv E d M pc ls st h (.invokestatic i))) : PS p l e R s m args below meth cd Qw G A M pc ls st h c n := by
  intro H locs cells slots lsA hD hL hc hn
  have C0 := C
  obtain ⟨hx, hb, hml, hown, hts, hE, hA, hR, hini, hlk, htab, hhx, hthr⟩ := C
  simp only [stp] at HS
  obtain ⟨⟨kd, na, M'⟩, hq, HS⟩ := STr_bind HS
  obtain ⟨hk, HS⟩ := STr_ift HS
  have ok := clT_ok hq
  dsimp only at hk
  obtain ⟨ws, tys, hP, hK, hDD, hS, hcov⟩ := id hD
  have hls : cd.maxLocals = lsA.size := hml.trans hL.size.symm
  rcases (by omega : kd = 2 ∨ kd = 4 ∨ kd = 5 ∨ kd = 6 ∨ kd = 7) with rfl | rfl | rfl | rfl | rfl
  · simp only [inv] at HS
    obtain ⟨⟨htake, hr4⟩, HS⟩ := STr_ift HS
    obtain ⟨c', n', hc', hn', HS⟩ := HS
    obtain ⟨hl, hokM, hstt, hpar⟩ := ok
    obtain ⟨hd1, hM⟩ := hCR M' _ h c' n' _ HS hokM
    obtain ⟨o1, o2, o3, o4, o5, o6, o7, o8⟩ := hokM
    have o5 : mL M' ≤ 17 := o5
    have hG : ∀ w ∈ va_wsS (oN (mO M)) i (mY M') (cdW M' :: lw_G), w ∈ lw_G := by
      intro w hw
      unfold va_wsS at hw
      rcases List.mem_append.mp hw with hw | hw
      · rcases (by simpa using hw : w = .methodLink (oN (mO M)) i (mY M') ∨ w = .static (mY M') ∨ w = .initialized (mY M').cls) with rfl | rfl | rfl
        · exact hl
        · exact hstt
        · exact o2
      · rcases List.mem_cons.mp hw with rfl | hw
        · exact o1
        · exact hw
    have hst : st = (st.take na).reverse.reverse ++ st.drop na := by
      rw [List.reverse_reverse, List.take_append_drop]
    cases hmH : mH M' with
    | nil =>
      have hcd : cdW M' = Cond.code (mY M') (mB M') (mL M') (mR M') := by unfold cdW; rw [hmH]
      exact sn_call (M' := M') C0 hEX hc' hn' hD hL hc hn (vx_runS (As := (st.take na).reverse) (rest := st.drop na) ⟨hx, hb, hml, hown, hts⟩ (hM G A) (va_cwS na hts (good_G hG) (by rw [hcd]) rfl rfl ⟨o4.1, o4.2, hpar⟩ ⟨by show d - 1 + 1 ≤ _; omega, by show 8 + (mL M' + 11) + 38 * (d - 1) ≤ _; omega⟩) ⟨PcM.blind, Pre_of hE hA hD⟩ rfl (by rw [List.length_reverse]; exact htake) hL.size hst (cat_room hr4) hdg ⟨by omega, by omega⟩)
    | cons x0 r0 =>
      have hcd : cdW M' = Cond.codeWith (mY M') (mB M') (mL M') (mR M') (rawH (x0 :: r0)) := by unfold cdW; rw [hmH]
      exact sn_call (M' := M') C0 hEX hc' hn' hD hL hc hn (vx_runSX (As := (st.take na).reverse) (rest := st.drop na) ⟨hx, hb, hml, hown, hts⟩ (hM G A) (vx_cwSW na hts (good_G hG) (by rw [hcd]) rfl rfl ⟨o4.1, o4.2, hpar⟩ ⟨by show d - 1 + 1 ≤ _; omega, by show 8 + (mL M' + 11) + 38 * (d - 1) ≤ _; omega⟩) ⟨PcM.blind, Pre_of hE hA hD⟩ rfl (by rw [List.length_reverse]; exact htake) hL.size hst (cat_room hr4) hdg ⟨by omega, by omega⟩)
  · simp only [inv] at HS
    split at HS
    · next y x r _ _ =>
      obtain ⟨⟨hr4, hd1⟩, HS⟩ := STr_ift HS
      exact va_mmin hx hb hls hown (hts _ ok) (hts _ wmin0) (hts _ wmi) (hts _ wmin1) (by omega) (Nat.le_trans (Nat.add_le_add_right (cat_le r) 13) (by omega)) (by omega) (by omega) hdg (HS H locs cells slots lsA hD hL hc hn)
    · exact False.elim HS
  · simp only [inv] at HS
    split at HS
    · next y x r _ _ =>
      obtain ⟨⟨hr4, hd1⟩, HS⟩ := STr_ift HS
      exact va_mmax hx hb hls hown (hts _ ok) (hts _ wmax0) (hts _ wmi) (hts _ wmax1) (by omega) (Nat.le_trans (Nat.add_le_add_right (cat_le r) 13) (by omega)) (by omega) (by omega) hdg (HS H locs cells slots lsA hD hL hc hn)
    · exact False.elim HS
  · simp only [inv] at HS
    split at HS
    · next k dp b sp a r _ _ =>
      obtain ⟨f, hf, HS⟩ := STr_bind HS
      obtain ⟨g, hg, HS⟩ := STr_bind HS
      obtain ⟨⟨⟨h1, h2, h3, h4, h5⟩, hr4, hd1⟩, HS⟩ := STr_ift HS
      obtain ⟨j0, t0, cA0, g1, g2⟩ := hcov a _ (rwI_spec hf)
      obtain ⟨j1, t1, cA1, g3, g4⟩ := hcov b _ (rwI_spec hg)
      exact va_copyi hx hb hls hown (hts _ ok) (hts _ wan) (hts _ was) (hts _ wsi) hK hP hDD hS j0 j1 t0 t1 g1 g3 g2 g4 rfl h1 h2 h3 h4 h5 (fun _ _ => rfl) (by omega) (Nat.le_trans (Nat.add_le_add (cat_le r) nfw) (by omega)) hdg (fun H1 locs1 hP1 hD1 hS1 => HS H1 locs1 cells slots lsA (Dy.set (locs := locs) hK hcov hDD g3 hP1 hD1 hS1 ⟨j1, t1, cA1, List.getElem?_set_self (List.getElem?_eq_some_iff.mp g3).1, g4⟩) hL hc hn)
    · exact False.elim HS
  · simp only [inv] at HS
    split at HS
    · next k dp b sp a r _ _ =>
      obtain ⟨f, hf, HS⟩ := STr_bind HS
      obtain ⟨g, hg, HS⟩ := STr_bind HS
      obtain ⟨⟨⟨h1, h2, h3, h4, h5⟩, hel, hr4, hd1⟩, HS⟩ := STr_ift HS
      obtain ⟨j0, t0, cA0, g1, g2⟩ := hcov a _ (rdA_spec hf)
      obtain ⟨j1, t1, cA1, g3, g4⟩ := hcov b _ (rdA_spec hg)
      refine va_copyM hx hb hls hown (hts _ ok) (hts _ wan) (hts _ was) (hts _ wsi) hK hP hDD hS j0 j1 t0 t1 g1 g3 g2 g4 h1 h2 h3 h4 h5 (fun i hi y hy => ?_) (by omega) (Nat.le_trans (Nat.add_le_add (cat_le r) nfw) (by omega)) hdg (fun H1 locs1 hP1 hD1 hS1 => HS H1 locs1 cells slots lsA (Dy.set (locs := locs) hK hcov hDD g3 hP1 hD1 hS1 ⟨j1, t1, cA1, List.getElem?_set_self (List.getElem?_eq_some_iff.mp g3).1, g4⟩) hL hc hn)
      have h9 := hel i hi
      rw [hy] at h9
      obtain ⟨⟨ci, fs⟩, hv⟩ := isO_spec (h := h) h9
      obtain ⟨k9, hk9⟩ := hcov y _ hv
      have h7 := ci_lt hP hk9
      refine va_rAny hK hP hk9 (cl_at h7) (fun comp c0 e1 e2 => ?_)
      obtain ⟨c3, c4, hc3, hc4, hasg⟩ := Cond.castable_spec (hE.2.2.2.2.2.2.1 _ (castO h7))
      cases Option.some.inj (hc4.symm.trans e1)
      cases Option.some.inj (hc3.symm.trans e2)
      exact hasg
    · exact False.elim HS
end SNC
end
section
/-! 'throw new E("text")' where E's constructor names its parent's by another pool entry than #7 (NoSuchElementException: #13). vy_ctor and vy_throw follow the proofs of the library's Stand.ctorThrowS and of the kit's vx_throwS, with the first pass of the chain of its own; less is said of the thrown cell. -/
def vy_atoms (own : String) (ic : Nat) (X : String) (ix : Nat) (rx : ByteArray) (Y : String) (r : List String) : List Cond :=
  Bundle.throwableAtoms ++ Bundle.throwableSAtoms ++ (Bundle.passSAtoms X Y ix rx ++ Bundle.chainSAtoms Y r) ++
  [.methodLink own ic (Bundle.initS X), .instantiable X 6, .castable X X, .selects X Bundle.tFill0 Bundle.tFill0, .selects X Bundle.tFill Bundle.tFill,
   .lays X Bundle.tN "cause" "Ljava/lang/Throwable;", .lays X Bundle.tN "stackTrace" Bundle.steD, .lays X Bundle.tN "suppressedExceptions" Bundle.listD, .lays X Bundle.tN "detailMessage" "Ljava/lang/String;",
   .isRef (.static Bundle.tN "UNASSIGNED_STACK" Bundle.steD), .isRef (.static Bundle.tN "SUPPRESSED_SENTINEL" Bundle.listD),
   .fieldLink Bundle.tN 198 Bundle.tN "backtrace" "Ljava/lang/Object;", .lays Bundle.tN Bundle.tN "backtrace" "Ljava/lang/Object;", .lays X Bundle.tN "backtrace" "Ljava/lang/Object;"]
section VY
variable {p : Program} {l : Launch} {e : Env} {R : Room} {s : State} {m : MethodId} {args : Array Value} {below : List Frame} {meth : Method} {c : Code} {T0 : State} {H : Heap} {locs : List Loc} {cells slots : Nat}
set_option maxHeartbeats 2000000 in
theorem vy_ctor (X : Stand p l e R s m args below meth c T0 locs cells slots) (hexec : p.tables.exec = Jvm.exec) (htr : e.platform.stackTraces = false) {own cls Y : String} {r : List String} {ic ix : Nat} {rx : ByteArray}
    (x0 : decode rx 0 = .ok (.aload_n 0, 1)) (x1 : decode rx 1 = .ok (.aload_n 1, 1)) (x2 : decode rx 2 = .ok (.invokespecial ix, 3)) (x5 : decode rx 5 = .ok (.return_, 1))
    (hown : s.vm.findClass own = some m.cls) (hcls : Bundle.fit cls = true) (hY : Bundle.fit Y = true) (hr : ∀ n ∈ r, Bundle.fit n = true)
    (h : ∀ a ∈ vy_atoms own ic cls ix rx Y r, a.before args s = true)
    (hlocs : ∀ x ∈ locs, ∀ cell, s.heap[x.base]? = some cell → cell.vm.isStatics = false)
    {a : Addr} {cX : ClassId} {kX : Class} (hfoundX : s.vm.findClass cls = some cX) (hkX : s.vm.classes[cX]? = some kX) (hcell : T0.heap[a]? = some (freshCell cX kX)) (hnew : s.heap.size ≤ a)
    {msg : Value} (hmsg : msg.isRef = true)
    {g : JFrame} (hg : g.method = m) (hsize : g.locals.size = c.maxLocals) (hlocked : g.locked = none) (hentered : g.entered = []) {rest : List Value} (hstack : g.stack = msg :: .ref a :: .ref a :: rest)
    (hd6 : decode c.code g.pc = .ok (.invokespecial ic, 3)) (hd9 : decode c.code (g.pc + 3) = .ok (.athrow, 1)) (hout : ∀ x ∈ c.exceptionTable.toList, covers x (g.pc + 3) = false)
    (hRframes : r.length + 4 < R.frames) (hRlocals : 2 * g.monitorRoom + ((Value.ref a :: rest).map fun v => v.category).sum + (13 * (r.length + 2) + 42) ≤ R.locals) (hlocks : meth.locks = false) :
    ∃ U : State, Steps p.tables e below (T0.setTop g) U ∧ U.status = .running ∧ Ended U below (.threw a) ∧ s.WarmedH U.vm ∧ s.sameButNew ({ U with vm := s.vm } : State) locs cells slots ∧
      ∃ ce, U.heap[a]? = some ce ∧ ce.cls = cX ∧ ce.vm = .none := by
  have howns : e.platform.frameOwnsMonitors = true := by rw [X.admits.platform]
  have hfin : e.platform.finalization = false := by rw [X.admits.platform]
  have hpl : e.platform.magicAccessors = ({} : Platform).magicAccessors := by rw [X.admits.platform]
  have a' : ∀ x, x ∈ vy_atoms own ic cls ix rx Y r → x.holds args s none s [] = true := fun x hx => h x hx
  obtain ⟨T, Z0, L, -, Yt⟩ := ThrowableC.of_atoms (args := args) howns hfin hpl (fun x hx => h x (by simp [vy_atoms, hx]))
  obtain ⟨Z, M, LZ, LM, hnZ⟩ := Init0T.ofS_atoms (args := args) hpl L Yt (fun x hx => h x (by simp [vy_atoms, hx]))
  obtain ⟨P1, L1, hP1m, hs1⟩ := PassC.ofS_atoms (args := args) (s := s) hpl (X := cls) (Y := Y) (Bundle.fit_spec hcls).1 (Bundle.fit_spec hY).2 x0 x1 x2 x5 (fun x hx => h x (by simp [vy_atoms, hx]))
  obtain ⟨P2, Ps, hlen, L2, hL, hm2, hlink1, hlink⟩ := Bundle.chainS (args := args) hpl hnZ r Y hY hr (fun x hx => h x (by simp [vy_atoms, hx]))
  have hsup1 : P1.sup = P2.m := Option.some.inj (hs1.symm.trans hm2)
  have hfound : s.vm.findClass cls = some P1.m.cls := findClass_of_methodNamed hP1m
  cases Option.some.inj (hfoundX.symm.trans hfound)
  obtain ⟨c1, kX', hc1, hk, hord, -, -, hn6⟩ := Cond.instantiable_spec (a' (.instantiable cls 6) (by simp [vy_atoms]))
  cases Option.some.inj (hc1.symm.trans hfound)
  cases Option.some.inj (hkX.symm.trans hk)
  have hsel0 : selectMethod e.platform s.vm P1.m.cls T.fill0 = .method T.fill0 := by
    obtain ⟨c2, r2, m2, q1, q2, q3, q4, -⟩ := Cond.selects_spec (a' (.selects cls Bundle.tFill0 Bundle.tFill0) (by simp [vy_atoms]))
    cases Option.some.inj (q1.symm.trans hfound)
    cases Option.some.inj (q2.symm.trans (State.methodFound?_of_named Yt.fill0 (by decide)))
    cases Option.some.inj (q3.symm.trans Yt.fill0)
    rw [Launch.admits_selectMethod X.admits]; exact q4
  have hselF : selectMethod e.platform s.vm P1.m.cls T.fill = .method T.fill := by
    obtain ⟨c2, r2, m2, q1, q2, q3, q4, -⟩ := Cond.selects_spec (a' (.selects cls Bundle.tFill Bundle.tFill) (by simp [vy_atoms]))
    cases Option.some.inj (q1.symm.trans hfound)
    cases Option.some.inj (q2.symm.trans (State.methodFound?_of_named Yt.fill (by decide)))
    cases Option.some.inj (q3.symm.trans Yt.fill)
    rw [Launch.admits_selectMethod X.admits]; exact q4
  obtain ⟨cellS0, hcS0, hiss⟩ := Yt.statics
  obtain ⟨u0, hu0⟩ := Cond.staticRefV Yt.unassigned L.unassignedStatic L.statics hcS0 hiss (a' (.isRef (.static Bundle.tN "UNASSIGNED_STACK" Bundle.steD)) (by simp [vy_atoms]))
  obtain ⟨sen, hsen⟩ := Cond.staticRefV Yt.sentinel L.sentinelStatic L.statics hcS0 hiss (a' (.isRef (.static Bundle.tN "SUPPRESSED_SENTINEL" Bundle.listD)) (by simp [vy_atoms]))
  obtain ⟨ci198, i198, fB, hk198, hg198, ha198, hsB, -, hnB, htB, hffB⟩ := Cond.ownField (t := .object "java/lang/Object") Yt.found L.cls (by decide +kernel) (a' (.fieldLink Bundle.tN 198 Bundle.tN "backtrace" "Ljava/lang/Object;") (by simp [vy_atoms])) (a' (.lays Bundle.tN Bundle.tN "backtrace" "Ljava/lang/Object;") (by simp [vy_atoms])) e.platform hpl
  obtain ⟨cellS, hcS', heS, -, hkeep⟩ := X.same.2.2.2.2.2 T.aS cellS0 hcS0
  have hcellS : T0.heap[T.aS]? = some cellS := hcS'
  have hout' : ∀ i, (⟨T.aS, i⟩ : Loc) ∉ locs := fun i hmem => by
    have := hlocs _ hmem cellS0 hcS0
    rw [hiss] at this; cases this
  have hknownS : cellS.vm ≠ .unknown := by
    rw [heS]; intro hu
    rw [show cellS0.vm = .unknown from hu] at hiss
    cases hiss
  have hneS : T.aS ≠ a := Nat.ne_of_lt (Nat.lt_of_lt_of_le (Array.getElem?_eq_some_iff.mp hcS0).1 hnew)
  obtain ⟨iM, hffM⟩ := Yt.msg
  obtain ⟨tyC, dC, hdC, hdnC⟩ := Cond.laysAt hfound hk Yt.cause (a' (.lays cls Bundle.tN "cause" "Ljava/lang/Throwable;") (by simp [vy_atoms]))
  obtain ⟨tyS, dS, hdS, hdnS⟩ := Cond.laysAt hfound hk Yt.stack (a' (.lays cls Bundle.tN "stackTrace" Bundle.steD) (by simp [vy_atoms]))
  obtain ⟨tyP, dP, hdP, hdnP⟩ := Cond.laysAt hfound hk Yt.supp (a' (.lays cls Bundle.tN "suppressedExceptions" Bundle.listD) (by simp [vy_atoms]))
  obtain ⟨tyM, dM, hdM, hdnM⟩ := Cond.laysAt hfound hk hffM (a' (.lays cls Bundle.tN "detailMessage" "Ljava/lang/String;") (by simp [vy_atoms]))
  obtain ⟨tyB, dB, hdB, hdnB⟩ := Cond.laysAt hfound hk hffB (a' (.lays cls Bundle.tN "backtrace" "Ljava/lang/Object;") (by simp [vy_atoms]))
  have bC := Cond.laysApart hdB hdC hdnB hdnC (by rw [hnB, Yt.causeName]; decide)
  have bS := Cond.laysApart hdB hdS hdnB hdnS (by rw [hnB, Yt.stackName]; decide)
  have bP := Cond.laysApart hdB hdP hdnB hdnP (by rw [hnB, Yt.suppName]; decide)
  have hskip : SkipFacts T e.platform s (fun u => u) u0 ((preparedCellV T.toThrowableT (freshCell P1.m.cls kX) a u0 sen).withEntry T0.cur) :=
    ⟨{ ci198 := ci198, i198 := i198, fBack := fB }, ⟨hk198, hg198, ha198, hsB⟩, by
      have := fresh_default (c := P1.m.cls) tyB
      rw [htB] at this
      simpa [preparedCellV, Cell.setSlot, Cell.withEntry, Array.getElem?_setIfInBounds, bC, bS, bP, bC.symm, bS.symm, bP.symm, defaultValue] using this, fun _ _ => rfl⟩
  obtain ⟨tm, methC, cdC, kC, vm₁, hnC, -, -, -, -, -, -, -, hW₁, st1⟩ := Steps.initColdS (tb := p.tables) (e := e) (below := below) (s := s) (U := T0) X.here hexec X.warmed hpl hown (t := Bundle.initS cls) rfl rfl (Bundle.fit_spec hcls).2
    (a' (.methodLink own ic (Bundle.initS cls)) (by simp [vy_atoms])) (h (.instanceMethod (Bundle.initS cls)) (by simp [vy_atoms, Bundle.passSAtoms])) (bytes := rx) (maxL := 2) (h (.code (Bundle.initS cls) rx 2 none) (by simp [vy_atoms, Bundle.passSAtoms]))
    (f := g) hg (a := a) (msg := msg) (rest := .ref a :: rest) hstack hd6
  cases Option.some.inj (hnC.symm.trans hP1m)
  have X₁ := X.noted hW₁
  obtain ⟨vm₂, X₂, st2⟩ := X₁.ctorMessageOffV hexec (g := { g with stack := .ref a :: rest }) hg hsize T L Z LZ M LM (P1 :: P2 :: Ps)
    (fun P hP => by
      rcases List.mem_cons.mp hP with rfl | hP
      · exact L1
      · rcases List.mem_cons.mp hP with rfl | hP
        · exact L2
        · exact hL P hP) ⟨hsup1, hlink1, hlink⟩ (u0 := u0) (sen := sen) (self := a) hmsg (cell := freshCell P1.m.cls kX) (cellS := cellS)
    hcell (fun _ => by simp) (by simp) rfl rfl hsel0 hselF hcellS hneS hknownS (by rw [hkeep _ (hout' _)]; exact hu0) (by rw [hkeep _ (hout' _)]; exact hsen)
    (Takes.of_laid hk hord tyC (by rw [Yt.causeType]; rfl)) (Takes.of_laid hk hord tyS (by rw [Yt.stackType]; exact fits_refV_array _ u0)) (Takes.of_laid hk hord tyP (by rw [Yt.suppType]; exact fits_refV_object _ sen))
    (Takes.of_laid hk hord tyM (by rw [Yt.msgType]; exact fits_refV_object _ ⟨msg, hmsg⟩)) Yt.objLocals hskip htr [] hd6
    (by simp only [List.length_cons, hlen]; omega) (by simp only [List.length_cons, hlen]; exact hRlocals)
  obtain ⟨hwalk, hrun, hended, hWU, hsame⟩ := X₂.athrowLeaves hexec (g := { g with stack := .ref a :: rest, pc := g.pc + 3 }) hg hlocked hentered hout (a := a) (rest := rest) rfl hd9
  have hlt : a < ((T0.setVm vm₁).setVm vm₂).heap.size := (Array.getElem?_eq_some_iff.mp hcell).1
  have hU := heapAt_setCell_self (s := (T0.setVm vm₁).setVm vm₂) (plainBareV T.toThrowableT (freshCell P1.m.cls kX) a u0 sen msg) hlt
  refine ⟨_, st1 _ (fun acts => ?_), hrun, hended, hWU, hsame.weaken (fun y hy hlt' => ?_) (Nat.le_refl _) (Nat.le_refl _), _, hU, rfl, rfl⟩
  · rw [doInvoke_state]
    exact st2 _ hwalk
  · rcases List.mem_append.mp hy with h1 | h1
    · exact h1
    · exfalso
      have hb : y.base = a := by
        simp only [List.mem_cons, List.not_mem_nil, or_false] at h1
        rcases h1 with rfl | rfl | rfl | rfl | rfl <;> rfl
      rw [hb] at hlt'
      exact Nat.not_lt.mpr hnew hlt'
theorem vy_throw {cc : ByteArray} {pc : Nat} {ls : Array Slot} {rest : List Value} {mc ms : Nat} {free : Addr → Prop} {Qc : Array Value → State → Outcome → State → Prop} {XC : String → State → State → Prop} (hexec : p.tables.exec = Jvm.exec) (hb : c.code = cc) (hl : l.stackTraces = false) {own cls text Y : String} {r : List String} {ik is ic ix sa : Nat} {rx : ByteArray} {A : Nat → Prop} (wide : Bool)
    (x0 : decode rx 0 = .ok (.aload_n 0, 1)) (x1 : decode rx 1 = .ok (.aload_n 1, 1)) (x2 : decode rx 2 = .ok (.invokespecial ix, 3)) (x5 : decode rx 5 = .ok (.return_, 1))
    (hown : s.vm.findClass own = some m.cls) (hcls : Bundle.fit cls = true) (hY : Bundle.fit Y = true) (hr : ∀ n ∈ r, Bundle.fit n = true)
    (hk : (Cond.classLink own ik cls).before args s = true) (hini : (Cond.initialized cls).before args s = true) (hstr : vk_R own is text sa s) (hat : ∀ w ∈ (vy_atoms own ic cls ix rx Y r).filter vx_no, w.before args s = true)
    (hgood : ∀ w ∈ Cond.classLink own ik cls :: Cond.initialized cls :: (vy_atoms own ic cls ix rx Y r).filter vx_no, vx_ot w = true)
    (hU : vx_Zq Bundle.tN "UNASSIGNED_STACK" Bundle.steD A s s.heap) (hN : vx_Zq Bundle.tN "SUPPRESSED_SENTINEL" Bundle.listD A s s.heap) (hS : va_S A s.heap H locs) (hsize : ls.size = c.maxLocals)
    (d0 : decode cc pc = .ok (.new ik, 3)) (d3 : decode cc (pc + 3) = .ok (.dup, 1))
    (dw : if wide = true then decode cc (pc + 4) = .ok (.ldc_w is, 3) ∧ decode cc (pc + 7) = .ok (.invokespecial ic, 3) ∧ decode cc (pc + 10) = .ok (.athrow, 1) else decode cc (pc + 4) = .ok (.ldc is, 2) ∧ decode cc (pc + 6) = .ok (.invokespecial ic, 3) ∧ decode cc (pc + 9) = .ok (.athrow, 1))
    (hout : ∀ k, ∀ x ∈ c.exceptionTable.toList, covers x k = false)
    (hRframes : r.length + 4 < R.frames) (hRlocals : (rest.map fun v => v.category).sum + (13 * (r.length + 2) + 43) ≤ R.locals) (hRcells : cells + 1 ≤ R.cells) (hRslots : slots + 6 ≤ R.slots) (hlocks : meth.locks = false)
    (hx : ∀ t : State, s.vm.Alike t.vm → H.size ≤ t.heap.size → (∀ q : Nat, q < H.size → t.heap[q]? = H[q]?) → XC cls s t)
    (hf : ∀ z ∈ locs, free z.base) (hc : cells + 1 ≤ mc) (hs : slots + 6 ≤ ms) :
    W p l e R s m args below meth c H locs cells slots (vx_MQ below Qc XC args s mc ms free) (F0 m pc ls rest) := by
  intro T hT X
  have htr : e.platform.stackTraces = false := (show e.platform.stackTraces = l.stackTraces by rw [X.admits.platform]).trans hl
  have Y1 := vx_rebase X (R' := { frames := R.frames, locals := R.locals, cells := 1, slots := 6 }) (Nat.le_refl _) (Nat.le_refl _) hRcells hRslots
  obtain ⟨s', hA⟩ : ∃ z, z = (T.setVm s.vm).setFrames (.invoking m args :: below) := ⟨_, rfl⟩
  rw [← hA] at Y1
  have hvm : s'.vm = s.vm := by rw [hA]; rfl
  have hhp : s'.heap = H := by rw [hA]; exact hT
  have hW0 : s.WarmedH s'.vm := by rw [hvm]; exact State.WarmedH.refl s
  have hat' : ∀ w ∈ (vy_atoms own ic cls ix rx Y r).filter vx_no, w.before args s' = true := fun w hw => vx_ot_at hW0 hvm.symm (hgood w (List.mem_cons_of_mem _ (List.mem_cons_of_mem _ hw))) (hat w hw)
  have hk' : (Cond.classLink own ik cls).before args s' = true := vx_ot_at hW0 hvm.symm (hgood _ List.mem_cons_self) hk
  have hini' : (Cond.initialized cls).before args s' = true := vx_ot_at hW0 hvm.symm (hgood _ (List.mem_cons_of_mem _ List.mem_cons_self)) hini
  have hU' : vx_Zq Bundle.tN "UNASSIGNED_STACK" Bundle.steD A s' s'.heap := by rw [hhp]; exact vx_Zq.moved hW0.alike (hU.kept hS.2.1)
  have hN' : vx_Zq Bundle.tN "SUPPRESSED_SENTINEL" Bundle.listD A s' s'.heap := by rw [hhp]; exact vx_Zq.moved hW0.alike (hN.kept hS.2.1)
  have h : ∀ w ∈ vy_atoms own ic cls ix rx Y r, w.before args s' = true := vx_own hat' (vx_isRefq hU'.1) (vx_isRefq hN'.1) hU'.2.word hN'.2.word
  have hown' : s'.vm.findClass own = some m.cls := by rw [hvm]; exact hown
  have hins : (Cond.instantiable cls 6).before args s' = true := h _ (by simp [vy_atoms])
  obtain ⟨vm₁, cX, kX, hfX, hkX, -, -, X₁, st1⟩ := Y1.newCold hexec (own := own) (C := cls) (index := ik) (n := 6) hown' hk' hins hini'
    (g := F0 m pc ls rest) rfl (by rw [hb]; exact d0) (Nat.le_refl _) (Nat.le_refl _)
  generalize hT1 : (T.setVm vm₁).pushCell { cls := cX, slots := kX.instanceTypes.map defaultValue, vm := .none } = T1 at X₁ st1
  have hcat : (Value.ref T.heap.size).category = 1 := rfl
  have hcellA : T1.heap[T.heap.size]? = some (freshCell cX kX) := by rw [← hT1]; exact State.heap_pushCell_size _ _
  have d3' : decode c.code (pc + 3) = .ok (.dup, 1) := by rw [hb]; exact d3
  have hstr' : vk_R own is text sa s' := vk_R.warm hW0 hstr
  have go : ∀ k : Nat, decode c.code k = .ok (.invokespecial ic, 3) → decode c.code (k + 3) = .ok (.athrow, 1) → ∃ t, Steps p.tables e below (T1.setTop { method := m, pc := k, locals := ls, stack := .ref sa :: .ref T.heap.size :: .ref T.heap.size :: rest, locked := none }) t ∧ vx_MQ below Qc XC args s mc ms free t := by
    intro k e6 e9
    obtain ⟨U, hsteps, hrun, hend, hW, hsame, ce, hce, hO1, hO2⟩ := vy_ctor X₁ hexec htr (own := own) (cls := cls) (Y := Y) (r := r) (ic := ic) x0 x1 x2 x5 hown' hcls hY hr h (fun x hx => nomatch hx) hfX hkX hcellA (by rw [hhp, hT]; exact Nat.le_refl _) (msg := .ref sa) rfl
      (g := { method := m, pc := k, locals := ls, stack := .ref sa :: .ref T.heap.size :: .ref T.heap.size :: rest, locked := none }) rfl hsize rfl rfl (rest := rest) rfl
      e6 e9 (hout _) hRframes (by simp only [List.map_cons, List.sum_cons, hcat]; show 2 * 0 + _ + _ ≤ _; omega) hlocks
    obtain ⟨f1, f2⟩ := vx_frame hsame
    rw [hhp] at f1 f2
    have hWs : s.WarmedH U.vm := State.WarmedH.trans hW0 hW
    have hcl : s.vm.findClass cls = some ce.cls := by
      rw [hO1, ← hvm]
      exact hfX
    have hall : s.sameButNew ({ U with vm := s.vm } : State) locs mc ms := by
      subst hA
      obtain ⟨e1, e2⟩ := hsame
      rw [State.setFrames_setFrames] at e1
      have h2 : (T.setVm s.vm).sameButNew ({ U with vm := s.vm } : State) [] (0 + 1) (0 + 6) := ⟨e1, e2⟩
      have h3 := X.same.trans h2
      rw [List.append_nil] at h3
      exact h3.mono hc hs
    exact ⟨U, hsteps, .threw T.heap.size, hrun, hend, Or.inr ⟨T.heap.size, rfl, cls, ce, locs, hx U hWs.alike f1 (fun q hq => f2 q hq (fun z hz => nomatch hz)), hce, hO2, hcl, hWs, hall, hf⟩⟩
  cases wide with
  | false =>
    obtain ⟨d4, d6, d9⟩ := dw
    have d4' : decode c.code (pc + 4) = .ok (.ldc is, 2) := by rw [hb]; exact d4
    obtain ⟨t, st, hq⟩ := go (pc + 6) (by rw [hb]; exact d6) (by rw [hb]; exact d9)
    refine ⟨t, ?_, hq⟩
    refine st1 _ ?_
    show Steps p.tables e below (T1.setTop { method := m, pc := pc + 3, locals := ls, stack := .ref T.heap.size :: rest, locked := none }) _
    jvm_step X₁.here [X₁.here.top, hexec, d3', Value.category]
    exact X₁.ldcString hexec (own := own) (text := text) (index := is) (a := sa) hown' hstr'.1 hstr'.2
      (g := { method := m, pc := pc + 4, locals := ls, stack := .ref T.heap.size :: .ref T.heap.size :: rest, locked := none }) rfl d4' _ st
  | true =>
    obtain ⟨d4, d6, d9⟩ := dw
    have d4' : decode c.code (pc + 4) = .ok (.ldc_w is, 3) := by rw [hb]; exact d4
    obtain ⟨t, st, hq⟩ := go (pc + 7) (by rw [hb]; exact d6) (by rw [hb]; exact d9)
    refine ⟨t, ?_, hq⟩
    refine st1 _ ?_
    show Steps p.tables e below (T1.setTop { method := m, pc := pc + 3, locals := ls, stack := .ref T.heap.size :: rest, locked := none }) _
    jvm_step X₁.here [X₁.here.top, hexec, d3', Value.category]
    exact X₁.ldcStringW hexec (own := own) (text := text) (index := is) (a := sa) hown' hstr'.1 hstr'.2
      (g := { method := m, pc := pc + 4, locals := ls, stack := .ref T.heap.size :: .ref T.heap.size :: rest, locked := none }) rfl d4' _ st
end VY
end
section
theorem thr_words : ∀ x ∈ thrL, x.2 ≠ 3 → ∀ w ∈ vx_atS RX4 x.1 (exN x.2) exP, w ∈ lw_G ∨ w ∈ lw_D := by decide +kernel
abbrev vyN : List Cond := (vy_atoms RX4 136 (exN 3) 13 prog_27_method_4_code "java/lang/RuntimeException" ["java/lang/Exception"]).filter vx_no
theorem thr_words3 : ∀ w ∈ vyN, w ∈ lw_G ∨ w ∈ lw_D := by decide +kernel
theorem thr_136 : ∀ x ∈ thrL, x.2 = 3 → x.1 = 136 := by decide
theorem vy_d0 : decode prog_27_method_4_code 0 = .ok (.aload_n 0, 1) := by decide +kernel
theorem vy_d1 : decode prog_27_method_4_code 1 = .ok (.aload_n 1, 1) := by decide +kernel
theorem vy_d2 : decode prog_27_method_4_code 2 = .ok (.invokespecial 13, 3) := by decide +kernel
theorem vy_d5 : decode prog_27_method_4_code 5 = .ok (.return_, 1) := by decide +kernel
theorem ex_fit : ∀ {x : Nat}, 0 < x → x < 6 → Bundle.fit (exN x) = true := by
  have h : ∀ x, x < 6 → 0 < x → Bundle.fit (exN x) = true := by decide +kernel
  exact fun {x} h1 h2 => h x h2 h1
theorem exP_fit : ∀ n ∈ exP, Bundle.fit n = true := by decide +kernel
theorem dfl_get {ci j : Nat} (h : j < nC ci) : defaultValue (tyC ci j) = vp_V (dfl ci) j := by
  unfold dfl vp_V
  rw [List.getD_eq_getElem?_getD, List.getElem?_map, List.getElem?_range h]
  rfl
section SNE
variable {p : Program} {l : Launch} {e : Env} {R : Room} {s : State} {m : MethodId} {args : Array Value} {below : List Frame} {meth : Method} {cd : Code} {Qw : State → Prop} {G : va_G} {E : EN} {A : Nat → Prop} {d : Nat} {M : MD} {CR : CT} {Q : Out → AH → Prop}
theorem sn_new (C : Cx p l R s m args meth cd G E A d M) (hET : EndT p l e R s m args below meth cd Qw G A d M Q) {i pc : Nat} {ls st : List Value} {h : AH} {c n : Nat} (hdg : decode (mB M) pc = .ok (.new i, 3)) (HS : STr E CR M Q (PS p l e R s m args below meth cd Qw G A M) pc ls h c n (stp TTv E d M pc ls st h (.new i))) : PS p l e R s m args below meth cd Qw G A M pc ls st h c n := by
  intro H locs cells slots lsA hD hL hc hn
  obtain ⟨hx, hb, hml, hown, hts, hE, hA, hR, hini, hlk, htab, hhx, hthr⟩ := C
  simp only [stp] at HS
  split at HS
  · next ci hci =>
    obtain ⟨h1c, h2n, HS⟩ := HS
    dsimp only at h2n HS
    obtain ⟨h7, hl⟩ := nwT_ok hci
    obtain ⟨ws, tys, hP, hK, hDD, hS, hcov⟩ := id hD
    refine va_new (ci := ci) (fs := dfl ci) (C := oN ci) (T := TC ci) (N := nC ci) hx hb hts (wl_at h7) (tyC ci) (ty_at h7) hown (hts _ hl) (hts _ (wi_at h7)) (hts _ (wj_at h7)) hK hP hDD hS hA (cl_at h7) (fun j hj => dfl_get hj) (by omega) (by omega) hdg (fun q H1 hP1 hD1 hS1 => ?_)
    exact HS q (Dy.fresh (H1 := H1) hcov hD1) (Dy.freshE (H1 := H1) hE hD1) H1 locs (cells + 1) (slots + nC ci) lsA (Dy.push (tys1 := []) (by rw [List.append_nil]; exact hK) hcov hP1 hD1 hS1 ⟨ws.length, by simp⟩) hL (by omega) (by omega)
  · obtain ⟨X, hX, HS⟩ := STr_bind HS
    obtain ⟨⟨h6, hr4⟩, HS⟩ := STr_ift HS
    obtain ⟨h1c, h2n, HS⟩ := HS
    exact hET pc X h H locs cells slots lsA st hX HS hD h6 hr4 (by omega) (by omega) hL.size
theorem sn_ret (C : Cx p l R s m args meth cd G E A d M) (hER : EndR p l e R s m args below meth cd Qw G A M Q) {i : Instr} {v : Option Value} {pc : Nat} {ls st : List Value} {h : AH} {c n : Nat} (hdg : decode (mB M) pc = .ok (i, 1)) (hI : RetI (mR M) i v st) (hq : Q (.inl v) h) : PS p l e R s m args below meth cd Qw G A M pc ls st h c n := by
  intro H locs cells slots lsA hD hL hc hn
  exact hER i v st pc lsA h H locs cells slots hdg hI hq hD (by omega) (by omega)
theorem snd_step (C : Cx p l R s m args meth cd G E A d M) (hCR : CRok l E CR d) (hER : EndR p l e R s m args below meth cd Qw G A M Q) (hEX : EndX p l e R s m args below meth cd Qw G A M Q) (hET : EndT p l e R s m args below meth cd Qw G A d M Q) :
    ∀ pc ls st h c n, ST TTv E d CR M Q (PS p l e R s m args below meth cd Qw G A M) pc ls st h c n → PS p l e R s m args below meth cd Qw G A M pc ls st h c n := by
  intro pc ls st h c n H
  unfold ST at H
  cases hdg : decode (mB M) pc with
  | error z => rw [hdg] at H; exact H.elim
  | ok x =>
    rw [hdg] at H
    obtain ⟨i, len⟩ := x
    obtain ⟨hl, HS⟩ := H
    dsimp only at hl HS
    have hlen : ∀ {k : Nat}, Nat.beq k len = true → decode (mB M) pc = .ok (i, k) := fun {k} hk => by rw [Nat.eq_of_beq_eq_true hk]; exact hdg
    cases i with
    | aload_n k => exact sn_aload_n C (hlen hl) HS
    | aload k => exact sn_aload C (hlen hl) HS
    | iload_n k => exact sn_iload_n C (hlen hl) HS
    | iload k => exact sn_iload C (hlen hl) HS
    | fload k => exact sn_fload C (hlen hl) HS
    | lload_n k => exact sn_lload_n C (hlen hl) HS
    | lload k => exact sn_lload C (hlen hl) HS
    | lstore_n k => exact sn_lstore_n C (hlen hl) HS
    | lstore k => exact sn_lstore C (hlen hl) HS
    | irem => exact sn_irem C (hlen hl) HS
    | iushr => exact sn_iushr C (hlen hl) HS
    | lmul => exact sn_lmul C (hlen hl) HS
    | ldc2_w k => exact sn_ldc2_w C (hlen hl) HS
    | caload => exact sn_caload C (hlen hl) HS
    | castore => exact sn_castore C (hlen hl) HS
    | istore_n k => exact sn_istore_n C (hlen hl) HS
    | istore k => exact sn_istore C (hlen hl) HS
    | fstore k => exact sn_fstore C (hlen hl) HS
    | astore_n k => exact sn_astore_n C (hlen hl) HS
    | astore k => exact sn_astore C (hlen hl) HS
    | iconst k => exact sn_iconst C (hlen hl) HS
    | bipush k => exact sn_bipush C (hlen hl) HS
    | sipush k => exact sn_sipush C (hlen hl) HS
    | lconst k => exact sn_lconst C (hlen hl) HS
    | fconst k => exact sn_fconst C (hlen hl) HS
    | aconst_null => exact sn_aconst_null C (hlen hl) HS
    | iadd => exact sn_iadd C (hlen hl) HS
    | isub => exact sn_isub C (hlen hl) HS
    | imul => exact sn_imul C (hlen hl) HS
    | iand => exact sn_iand C (hlen hl) HS
    | ior => exact sn_ior C (hlen hl) HS
    | ishl => exact sn_ishl C (hlen hl) HS
    | ishr => exact sn_ishr C (hlen hl) HS
    | ladd => exact sn_ladd C (hlen hl) HS
    | lcmp => exact sn_lcmp C (hlen hl) HS
    | i2l => exact sn_i2l C (hlen hl) HS
    | i2c => exact sn_i2c C (hlen hl) HS
    | i2f => exact sn_i2f C (hlen hl) HS
    | f2d => exact sn_f2d C (hlen hl) HS
    | fdiv => exact sn_fdiv C (hlen hl) HS
    | fcmp o => exact sn_fcmp C (hlen hl) HS
    | dcmp o => exact sn_dcmp C (hlen hl) HS
    | ifCond a b => exact sn_ifCond C (hlen hl) HS
    | if_icmp a b => exact sn_if_icmp C (hlen hl) HS
    | if_acmp a b => exact sn_if_acmp C (hlen hl) HS
    | ifnull a => exact sn_ifnull C (hlen hl) HS
    | ifnonnull a => exact sn_ifnonnull C (hlen hl) HS
    | goto a => exact sn_goto C (hlen hl) HS
    | tableswitch a b c2 d2 => exact sn_tableswitch C hdg HS
    | iinc a b => exact sn_iinc C (hlen hl) HS
    | dup => exact sn_dup C (hlen hl) HS
    | dup_x1 => exact sn_dup_x1 C (hlen hl) HS
    | dup2 => exact sn_dup2 C (hlen hl) HS
    | pop => exact sn_pop C (hlen hl) HS
    | getfield a => exact sn_getfield C (hlen hl) HS
    | putfield a => exact sn_putfield C (hlen hl) HS
    | getstatic a => exact sn_getstatic C (hlen hl) HS
    | ldc a => exact sn_ldc C (hlen hl) HS
    | iaload => exact sn_iaload C (hlen hl) HS
    | baload => exact sn_baload C (hlen hl) HS
    | laload => exact sn_laload C (hlen hl) HS
    | daload => exact sn_daload C (hlen hl) HS
    | aaload => exact sn_aaload C (hlen hl) HS
    | iastore => exact sn_iastore C (hlen hl) HS
    | bastore => exact sn_bastore C (hlen hl) HS
    | lastore => exact sn_lastore C (hlen hl) HS
    | dastore => exact sn_dastore C (hlen hl) HS
    | aastore => exact sn_aastore C (hlen hl) HS
    | arraylength => exact sn_arraylength C (hlen hl) HS
    | newarray a => exact sn_newarray C (hlen hl) HS
    | anewarray a => exact sn_anewarray C (hlen hl) HS
    | new a => exact sn_new C hET (hlen hl) HS
    | checkcast a => exact sn_checkcast C (hlen hl) HS
    | invokevirtual a => exact sn_inv0 C hCR hEX (hlen hl) HS
    | invokespecial a => exact sn_inv1 C hCR hEX (hlen hl) HS
    | invokestatic a => exact sn_inv2 C hCR hEX (hlen hl) HS
    | ireturn =>
      simp only [stp] at HS
      split at HS
      · next x _ =>
        obtain ⟨hb, HS⟩ := STr_ift HS
        exact sn_ret C hER (hlen hl) (Or.inl ⟨rfl, _, rfl, rfl, hb⟩) HS
      · exact False.elim HS
    | lreturn =>
      simp only [stp] at HS
      split at HS
      · obtain ⟨hb, HS⟩ := STr_ift HS
        exact sn_ret C hER (hlen hl) (Or.inr (Or.inl ⟨rfl, _, rfl, rfl, hb⟩)) HS
      · exact False.elim HS
    | freturn =>
      simp only [stp] at HS
      split at HS
      · obtain ⟨hb, HS⟩ := STr_ift HS
        exact sn_ret C hER (hlen hl) (Or.inr (Or.inr (Or.inl ⟨rfl, _, rfl, rfl, hb⟩))) HS
      · exact False.elim HS
    | areturn =>
      simp only [stp] at HS
      split at HS
      · obtain ⟨hb, HS⟩ := STr_ift HS
        exact sn_ret C hER (hlen hl) (Or.inr (Or.inr (Or.inr (Or.inl ⟨rfl, _, rfl, rfl, hb⟩)))) HS
      · exact False.elim HS
    | return_ =>
      simp only [stp] at HS
      split at HS
      · obtain ⟨hb, HS⟩ := STr_ift HS
        exact sn_ret C hER (hlen hl) (Or.inr (Or.inr (Or.inr (Or.inr ⟨rfl, rfl, rfl, hb⟩)))) HS
      · exact False.elim HS
    | _ => exact False.elim HS
/-- what a method's end owes, to its caller -/
theorem endR_of (C : Cx p l R s m args meth cd G E A d M) {K : Out → AH → Prop} (hr : meth.sig.returnType = mR M) : EndR p l e R s m args below meth cd (vx_MQ below (QcM G A K) (XcM G A K) args s R.cells R.slots A) G A M K := by
  intro i v st pc lsA h H locs cells slots hdg hI hQ hD hc hn
  obtain ⟨hx, hb, hml, hown, hts, hE, hA, hR, hini, hlk, htab, hhx, hthr⟩ := C
  obtain ⟨ws, tys, hP, hK, hDD, hS, hcov⟩ := hD
  refine W.widen (k := R.cells) (n := R.slots) hc hn ?_
  refine vx_ret ?_
  have post : ∀ t : State, t.heap = H → s.WarmedH t.vm → QcM G A K args s (.returned v) t := fun t ht hW => ⟨⟨v, h, rfl, hQ, ws, tys, by rw [ht]; exact hP, hK.moved hW.alike, hDD, hcov⟩, hS.F ht⟩
  rcases hI with ⟨rfl, x, rfl, rfl, hk⟩ | ⟨rfl, x, rfl, rfl, hk⟩ | ⟨rfl, x, rfl, rfl, hk⟩ | ⟨rfl, x, rfl, rfl, ha, hk⟩ | ⟨rfl, rfl, rfl, hk⟩
  · cases hret : mR M with
    | none => rw [hret] at hk; cases hk
    | some ty =>
      rw [hret] at hk hr
      cases ty with
      | int => exact W.iret hx hb hr post hS.2.2 hdg hlk
      | boolean => exact W.zret hx hb hr (okF_spec (t := .boolean) hk).1 post hS.2.2 hdg hlk
      | char => exact W.zret hx hb hr (okF_spec (t := .char) hk).1 post hS.2.2 hdg hlk
      | _ => cases hk
  · cases hret : mR M with
    | none => rw [hret] at hk; cases hk
    | some ty =>
      rw [hret] at hk hr
      cases ty with
      | long => exact W.lret hx hb hr post hS.2.2 hdg hlk
      | _ => cases hk
  · cases hret : mR M with
    | none => rw [hret] at hk; cases hk
    | some ty =>
      rw [hret] at hk hr
      cases ty with
      | float => exact W.fret hx hb hr post hS.2.2 hdg hlk
      | _ => cases hk
  · cases hret : mR M with
    | none => rw [hret] at hk; cases hk
    | some ty =>
      rw [hret] at hk hr
      have hv : x = .null ∨ ∃ a, x = .ref a := by
        cases x with
        | ref a => exact Or.inr ⟨a, rfl⟩
        | null => exact Or.inl rfl
        | _ => cases ha
      cases ty with
      | object nm => exact W.aret hx hb hr (Or.inl ⟨nm, rfl⟩) hv post hS.2.2 hdg hlk
      | array t => exact W.aret hx hb hr (Or.inr ⟨t, rfl⟩) hv post hS.2.2 hdg hlk
      | _ => cases hk
  · cases hret : mR M with
    | none => rw [hret] at hr; exact W.vret hx hb hr post hS.2.2 hdg hlk
    | some ty => rw [hret] at hk; cases ty <;> cases hk
theorem endX_of (C : Cx p l R s m args meth cd G E A d M) {K : Out → AH → Prop} : EndX p l e R s m args below meth cd (vx_MQ below (QcM G A K) (XcM G A K) args s R.cells R.slots A) G A M K := by
  intro x h' H1 locs1 cells slots q ce pc lsA rest hx0 hx6 hQ hpass hD hc hn hce hcv hcl
  obtain ⟨hx, hb, hml, hown, hts, hE, hA, hR, hini, hlk, htab, hhx, hthr⟩ := C
  obtain ⟨ws, tys, hP, hK, hDD, hS, hcov⟩ := hD
  exact vx_outP hown hlk hpass hce hcv hcl (fun t ht hv => ⟨⟨x, h', rfl, hx0, hx6, hQ, ws, tys, by rw [ht]; exact hP, hK.moved hv, hDD, hcov⟩, hS.F ht⟩) hS.2.2 hc hn
theorem endT_of (C : Cx p l R s m args meth cd G E A d M) (hlt : l.stackTraces = false) {K : Out → AH → Prop} : EndT p l e R s m args below meth cd (vx_MQ below (QcM G A K) (XcM G A K) args s R.cells R.slots A) G A d M K := by
  intro pc X h H locs cells slots lsA st hX hQ hD h6 hr4 hc hn hsz
  obtain ⟨hx, hb, hml, hown, hts, hE, hA, hR, hini, hlk, htab, hhx, hthr⟩ := C
  obtain ⟨hO, hH, ⟨hX0, hX6⟩, ik, is, ic, tx, wide, e0, e3, ew, hcl, hin, hst, hth⟩ := hthr pc X hX
  obtain ⟨ws, tys, hP, hK, hDD, hS, hcov⟩ := hD
  rw [hO] at hown
  obtain ⟨sa, hsa⟩ := hE.2.2.2.2.2.1 _ hst
  have g1 : ∀ w, w ∈ lw_G → vx_ot w = true := fun w h => by unfold vx_ot; rw [(List.mem_filter.mp h).2]; simp
  have gD : ∀ w, w ∈ lw_D → vx_ot w = true := fun w h => by unfold vx_ot; rw [lw_D_on h]; rfl
  have hD1 : ∀ w, w ∈ lw_D → w.before args s = true := fun w h => va_Nw.use (lw_D_on h) (hE.2.2.2.2.2.2.1 w h)
  have hout : ∀ k, ∀ x ∈ cd.exceptionTable.toList, covers x k = false := by
    intro k x hx2
    rw [htab, hH] at hx2
    cases hx2
  have hXC : ∀ t : State, s.vm.Alike t.vm → H.size ≤ t.heap.size → (∀ q : Nat, q < H.size → t.heap[q]? = H[q]?) → XcM G A K (exN X) s t := fun t hv hz hk =>
    ⟨⟨X, h, rfl, hX0, hX6, hQ, ws, tys, hP.kept (fun k q hq => hk q.1 (hP k q hq).lt), hK.moved hv, hDD, hcov⟩, Nat.le_trans hS.1 hz, fun q hq hn2 => (hk q (Nat.lt_of_lt_of_le hq hS.1)).trans (hS.2.1 q hq hn2)⟩
  have hloc : (st.map fun v => v.category).sum + (13 * (exP.length + 1) + 43) ≤ R.locals := Nat.le_trans (Nat.add_le_add_right (cat_le st) _) (by show 2 * st.length + 82 ≤ _; omega)
  have hfr : exP.length + 3 < R.frames := by show 5 < _; omega
  by_cases h3 : X = 3
  · subst h3
    have hic : ic = 136 := thr_136 _ hth rfl
    subst hic
    refine vy_throw (r := ["java/lang/Exception"]) hx hb hlt wide vy_d0 vy_d1 vy_d2 vy_d5 hown (ex_fit hX0 hX6) (Y := "java/lang/RuntimeException") (exP_fit _ (by decide)) (fun n hn => exP_fit n (List.mem_cons_of_mem _ hn)) (hts _ hcl) (hts _ hin) hsa (fun w hw => (thr_words3 w hw).elim (fun h => hts w h) (hD1 w)) ?_ hE.2.2.2.1 hE.2.2.2.2.1 hS (hsz.trans hml.symm) e0 e3 ew hout hfr hloc hc hn hlk hXC hS.2.2 hc hn
    intro w hw
    rcases List.mem_cons.mp hw with rfl | hw
    · exact g1 _ hcl
    · rcases List.mem_cons.mp hw with rfl | hw
      · exact g1 _ hin
      · exact (thr_words3 w hw).elim (g1 w) (gD w)
  · have hat : ∀ w ∈ vx_atS RX4 ic (exN X) exP, w.before args s = true := fun w hw => (thr_words _ hth h3 w hw).elim (fun h => hts w h) (hD1 w)
    have hgood : ∀ w ∈ Cond.classLink RX4 ik (exN X) :: Cond.initialized (exN X) :: vx_atS RX4 ic (exN X) exP, vx_ot w = true := by
      intro w hw
      rcases List.mem_cons.mp hw with rfl | hw
      · exact g1 _ hcl
      · rcases List.mem_cons.mp hw with rfl | hw
        · exact g1 _ hin
        · exact (thr_words _ hth h3 w hw).elim (g1 w) (gD w)
    cases wide with
    | false =>
      obtain ⟨e4, e6, e9⟩ := ew
      exact vx_throwS hx hb hlt hown (ex_fit hX0 hX6) exP_fit (hts _ hcl) (hts _ hin) hsa hat hgood hE.2.2.2.1 hE.2.2.2.2.1 hS (hsz.trans hml.symm) e0 e3 e4 e6 e9 (hout _) hfr hloc hc hn hlk hXC hS.2.2 hc hn
    | true =>
      obtain ⟨e4, e6, e9⟩ := ew
      exact vx_throwSW hx hb hlt hown (ex_fit hX0 hX6) exP_fit (hts _ hcl) (hts _ hin) hsa hat hgood hE.2.2.2.1 hE.2.2.2.2.1 hS (hsz.trans hml.symm) e0 e3 e4 e6 e9 (hout _) hfr hloc hc hn hlk hXC hS.2.2 hc hn
theorem ent_Lr {M : MD} {as : List Value} (h : argOK M as = true) : ∃ lsA, entryFrame m as.toArray (mL M) = F0 m 0 lsA [] ∧ Lr (mJ M) lsA (mL M) (ent M as) := by
  unfold argOK at h
  simp only [Bool.and_eq_true, decide_eq_true_eq, List.all_eq_true] at h
  obtain ⟨h1, h2⟩ := h
  have hlen : ∀ as : List Value, (∀ v ∈ as, is1 v = true) → (lg_sl as).length = as.length := by
    intro as
    induction as with
    | nil => intro _; rfl
    | cons v r ih =>
      intro h
      have hv := is1_cat (h v List.mem_cons_self)
      unfold lg_sl at ih ⊢
      rw [List.flatMap_cons, List.length_append, ih (fun w hw => h w (List.mem_cons_of_mem _ hw)), if_neg (by omega)]
      simp only [List.length_cons, List.length_nil]
      omega
  have hmem : ∀ (as : List Value) (k : Nat), (∀ v ∈ as, is1 v = true) → ∀ (i : Nat) (v : Value), as[i]? = some v → (k + i, v) ∈ lv_args k as := by
    intro as
    induction as with
    | nil => intro k _ i v h; cases h
    | cons w r ih =>
      intro k h i v hv
      have hw := is1_cat (h w List.mem_cons_self)
      unfold lv_args
      rw [if_neg (by omega)]
      cases i with
      | zero => cases hv; exact List.mem_cons_self
      | succ i =>
        rw [List.getElem?_cons_succ] at hv
        have := ih (k + 1) (fun z hz => h z (List.mem_cons_of_mem _ hz)) i v hv
        rw [show k + (i + 1) = k + 1 + i by omega]
        exact List.mem_cons_of_mem _ this
  have hl0 := hlen as h2
  refine ⟨_, lg_entry_eq m as (mL M), lv_args 0 as, lv_entry as (by omega), ?_, ?_⟩
  · unfold ent
    rw [List.length_append, List.length_replicate]
    omega
  · intro i v hv hn
    unfold ent at hv
    by_cases hi : i < as.length
    · rw [List.getElem?_append_left hi] at hv
      have hm := hmem as 0 h2 i v hv
      rw [Nat.zero_add] at hm
      exact ⟨Or.inl (is1_cat (h2 v (List.mem_of_getElem? hv))), hm⟩
    · rw [List.getElem?_append_right (by omega)] at hv
      have := List.mem_of_getElem? hv
      exact absurd (List.eq_of_mem_replicate this) hn
end SNE
/-- THE CONTRACT OF EVERY METHOD, out of its run on our machine -/
theorem CRd_ok (l : Launch) (hlt : l.stackTraces = false) (E : EN) : ∀ d, CRok l E (CRd TTv E d) d
  | 0 => fun _ _ _ _ _ _ H => H.elim
  | d + 1 => by
    intro M' as h c' n' K H hok
    have ih := CRd_ok l hlt E d
    obtain ⟨hargs, H⟩ : argOK M' as = true ∧ EvR TTv E d M' K 0 (ent M' as) [] h c' n' := H
    rw [EvR_eq] at H
    refine ⟨by omega, fun G A => ?_⟩
    obtain ⟨o1, o2, o3, o4, o5, o6, o7, o8, o9⟩ := hok
    obtain ⟨hy1, hy2⟩ := o4
    have body : ∀ p e s m args below meth cd s₁, BodyLoose p l (mY M') (headSpec (cdW M' :: lw_G) ({ frames := d + 1 - 1, cells := c', slots := n', locals := 38 * (d + 1 - 1) })) (mB M') (mL M') (mR M') e s m args below meth cd s₁ → cd.maxLocals = mL M' → cd.exceptionTable.toList = tableOf (rawH (mH M')) → PcM G E A as h args s →
        W p l e (headSpec (cdW M' :: lw_G) ({ frames := d + 1 - 1, cells := c', slots := n', locals := 38 * (d + 1 - 1) })).room s m args below meth cd s.heap [] 0 0 (vx_MQ below (QcM G A K) (XcM G A K) args s c' n' A) (entryFrame m args (mL M')) := by
      intro p e s m args below meth cd s₁ B hml htab hP
      obtain ⟨rfl, ⟨ws, tys, hP, hK, hDD, hcov⟩, hE, hA⟩ := hP
      have hts := atoms_spec (ws := cdW M' :: lw_G) B.pre
      have C : Cx p l ({ frames := d, cells := c', slots := n', locals := 38 * d }) s m as.toArray meth cd G E A d M' := ⟨B.exec, B.bytes, hml, by rw [← o7]; exact findClass_of_methodNamed B.named, fun w hw => hts w (List.mem_cons_of_mem _ hw), hE, hA, ⟨Nat.le_refl _, Nat.le_refl _⟩, fun hi => (name_of_methodNamed B.named B.method).1.trans (o6 hi).1, B.notSynchronized, htab, o8, o9⟩
      obtain ⟨lsA, he, hLr⟩ := ent_Lr (m := m) hargs
      rw [he]
      exact H _ (snd_step (Qw := vx_MQ below (QcM G A K) (XcM G A K) as.toArray s c' n' A) C ih (endR_of C B.returns) (endX_of C) (endT_of C hlt)) s.heap [] 0 0 lsA ⟨ws, tys, hP, hK, hDD, va_S.rf, hcov⟩ hLr (by show 0 + c' ≤ c'; omega) (by show 0 + n' ≤ n'; omega)
    cases hmH : mH M' with
    | nil =>
      have hcd : cdW M' = Cond.code (mY M') (mB M') (mL M') (mR M') := by unfold cdW; rw [hmH]
      refine vx_ofW (cc := mB M') (maxL := mL M') (ret := mR M') (ws' := lw_G) o3 (by rw [hcd]) (fun p e s m args below meth cd s₁ B hml hno hP => body p e s m args below meth cd s₁ B hml ?_ hP)
      rw [hmH]
      cases ht : cd.exceptionTable.toList with
      | nil => rfl
      | cons x r => exact (hno x (by rw [ht]; exact List.mem_cons_self)).elim
    | cons x0 r0 =>
      have hcd : cdW M' = Cond.codeWith (mY M') (mB M') (mL M') (mR M') (rawH (x0 :: r0)) := by unfold cdW; rw [hmH]
      refine vx_ofWH (cc := mB M') (maxL := mL M') (ret := mR M') (hh := rawH (x0 :: r0)) (ws' := lw_G) o3 (by rw [hcd]) (fun p e s m args below meth cd s₁ B hml hP => body p e s m args below meth cd s₁ B hml ?_ hP)
      rw [hmH]
      refine vx_table (x := mY M') B (bytes := mB M') (maxL' := mL M') (ret' := mR M') ?_
      rw [← hcd]
      exact atoms_spec (ws := cdW M' :: lw_G) B.pre _ List.mem_cons_self
end
section
/-! the law's start: what our machine wants of it, out of what is given; THE CLAIM OUT OF ONE PURE STATEMENT -/
def emA : vp_A := (0, .inr (.inr (.inr (.inr (fun _ => none)))))
def enV (b L eA mi : Nat) (xs : Nat → Int32) : EN := (fun q => if q = b then some (.inl (0, L, .inl xs)) else if q = eA then some (.inl (4, emA)) else none, eA, mi)
def fl1 : List Cond := flatC (Jvm.Cond.and given_1 narrow_1)
theorem fl_str : ∀ x ∈ strL, Cond.exactly (.string RX4 x.1) "java/lang/String" ∈ fl1 ∧ Cond.stringRef RX4 x.1 x.2 ∈ lw_tbl := by decide +kernel
theorem fl_nc0 : ∀ X ∈ [1, 2, 3, 4, 5], ∀ Y ∈ [1, 2, 3, 4, 5], X = Y ∨ Cond.not (.castable (exN X) (exN Y)) ∈ fl1 := by decide +kernel
theorem fl_nc (X : Nat) (h1 : X < 6) (Y : Nat) (h2 : Y < 6) (h3 : 0 < X) (h4 : 0 < Y) (h5 : X ≠ Y) : Cond.not (.castable (exN X) (exN Y)) ∈ fl1 := by
  have m : ∀ {Z : Nat}, Z < 6 → 0 < Z → Z ∈ [1, 2, 3, 4, 5] := fun {Z} a b => by
    rcases (by omega : Z = 1 ∨ Z = 2 ∨ Z = 3 ∨ Z = 4 ∨ Z = 5) with rfl | rfl | rfl | rfl | rfl <;> simp
  exact (fl_nc0 X (m h1 h3) Y (m h2 h4)).resolve_left h5
theorem fl_e1 : Cond.exactly (.static RJx4a65c "DEFAULTCAPACITY_EMPTY_ELEMENTDATA" "[Ljava/lang/Object;") "[Ljava/lang/Object;" ∈ fl1 := by decide +kernel
theorem fl_e2 : Cond.arrayOf (.static RJx4a65c "DEFAULTCAPACITY_EMPTY_ELEMENTDATA" "[Ljava/lang/Object;") (.object "java/lang/Object") ∈ fl1 := by decide +kernel
theorem fl_e3 : Cond.eq (.length (.static RJx4a65c "DEFAULTCAPACITY_EMPTY_ELEMENTDATA" "[Ljava/lang/Object;")) (.int 0) ∈ fl1 := by decide +kernel
theorem fl_u : Cond.isRef (.static Bundle.tN "UNASSIGNED_STACK" Bundle.steD) ∈ fl1 := by decide +kernel
theorem fl_s : Cond.isRef (.static Bundle.tN "SUPPRESSED_SENTINEL" Bundle.listD) ∈ fl1 := by decide +kernel
theorem fl_m : Cond.isRef (.mirror "[Ljava/lang/Object;") ∈ fl1 := by decide +kernel
theorem tb_e : Cond.laysStatic RJx4a65c "DEFAULTCAPACITY_EMPTY_ELEMENTDATA" "[Ljava/lang/Object;" ∈ lw_tbl ∧ Cond.initialized RJx4a65c ∈ lw_tbl := by decide +kernel
theorem tb_u : Cond.laysStatic Bundle.tN "UNASSIGNED_STACK" Bundle.steD ∈ lw_tbl ∧ Cond.laysStatic Bundle.tN "SUPPRESSED_SENTINEL" Bundle.listD ∈ lw_tbl ∧ Cond.initialized Bundle.tN ∈ lw_tbl := by decide +kernel
theorem tb_o : Cond.arrayOver (.object "java/lang/Object") ∈ lw_tbl := by decide +kernel
/-- the pure statement -/
def PureLaw : Prop := ∀ (b L eA mi : Nat) (xs : Nat → Int32), L ≤ 260 → b ≠ eA → Ev (enV b L eA mi xs) 14 mL_law (fun o _ => o = .inl (some (.int 1))) 0 (ent mL_law [.ref b]) [] (fun _ => none) 676699 7071600
theorem start_ok {s : State} {b L : Nat} {xs : Nat → Int32} (hts : ∀ w ∈ lw_tbl, w.before #[Value.ref b] s = true) (hX : va_X b L xs s s.heap) (hbl : b < s.heap.size) (hgv : (Jvm.Cond.and given_1 narrow_1).before #[Value.ref b] s = true) : ∃ (G : va_G) (eA mi : Nat), b ≠ eA ∧ va_K G vwCl [] s ∧ EvOK G (enV b L eA mi xs) (fun q : Nat => s.heap.size ≤ q) s s.heap := by
  have hfl : ∀ c ∈ fl1, c.before #[Value.ref b] s = true := flat_of_before _ hgv
  have hG : ∀ w ∈ lw_G, w.before #[Value.ref b] s = true := fun w hw => hts w (List.mem_filter.mp hw).1
  have hnA : ∀ a : Nat, a < s.heap.size → ¬ s.heap.size ≤ a := fun a h => Nat.not_le.mpr h
  have hkn : ∀ ci : Nat, ∃ (c : ClassId) (iS : Nat → Nat), ci < 6 → u_Kn s (oN ci) (TC ci) (nC ci) c iS := by
    intro ci
    by_cases h : ci < 6
    · obtain ⟨c, iS, hk⟩ := u_known (C := oN ci) (T := TC ci) (N := nC ci) (n := nC ci) hG (wl_at h) (hG _ (wi_at h))
      exact ⟨c, iS, fun _ => hk⟩
    · exact ⟨0, fun _ => 0, fun h2 => absurd h2 h⟩
  obtain ⟨eA, cE, cellE, kE, hev, -, hcE, -, -, -, -⟩ := Cond.exactly_spec (hfl _ fl_e1)
  obtain ⟨hao, hunk⟩ := Cond.arrayOf_spec (hfl _ fl_e2) hev hcE
  have hlen := Cond.eq_int (hfl _ fl_e3) (n := 0) rfl
  obtain ⟨a2, cell2, hev2, hat2, hsz⟩ := Term.length_spec hlen
  have e2 : a2 = eA := by
    have := hev2.symm.trans hev
    cases this
    rfl
  subst e2
  have e3 : cell2 = cellE := Option.some.inj ((State.arrayAt?_spec hat2).1.symm.trans hcE)
  subst e3
  have hsz0 : cell2.slots.size.toInt32 = 0 := by
    exact (Value.int.inj hsz).symm
  have hne : b ≠ a2 := by
    intro h
    subst h
    obtain ⟨scr, h1, h2, -⟩ := hX
    cases Option.some.inj (h1.symm.trans hcE)
    obtain ⟨-, k1, g1, cp1, g2⟩ := h2
    obtain ⟨-, k2, g3, cp2, g4⟩ := hao
    cases Option.some.inj (g1.symm.trans g3)
    rw [g2] at g4
    cases g4
  obtain ⟨mi, hmi⟩ := va_Mi.of (hfl _ fl_m)
  refine ⟨(fun ci => Classical.choose (hkn ci), fun ci => Classical.choose (Classical.choose_spec (hkn ci))), a2, mi, hne, ⟨fun c q hq => ?_, fun k q h => by simp at h⟩, fun a x hx => ?_, va_Zof (hts _ tb_e.1) (hts _ tb_e.2) hev hnA, hmi, vx_Zqof (hts _ tb_u.1) (hts _ tb_u.2.2) (hfl _ fl_u) hnA, vx_Zqof (hts _ tb_u.2.1) (hts _ tb_u.2.2) (hfl _ fl_s) hnA, fun x hx => ?_, fun w hw => va_Nw.of (lw_D_on hw) (hts w (List.mem_filter.mp hw).1), va_AO.of (hts _ tb_o), fun X Y h1 h2 h3 h4 h5 => va_Nc.of (hfl _ (fl_nc X h1 Y h2 h3 h4 h5))⟩
  · have h7 : c < 6 := (List.getElem?_eq_some_iff.mp hq).1
    have hq2 := (cl_at h7).symm.trans hq
    cases hq2
    exact Classical.choose_spec (Classical.choose_spec (hkn c)) h7
  · unfold enV at hx
    dsimp only at hx
    split at hx
    · next h => subst h; cases hx; exact ⟨hnA _ hbl, hX⟩
    · split at hx
      · next h => subst h; cases hx; exact ⟨hnA _ (Array.getElem?_eq_some_iff.mp hcE).1, cell2, hcE, hao, hsz0⟩
      · cases hx
  · obtain ⟨h1, h2⟩ := fl_str x hx
    obtain ⟨a, c, cell, k, hv, -⟩ := Cond.exactly_spec (hfl _ h1)
    exact ⟨a, vk_R.of (U := s) (A := #[Value.ref b]) (hts _ h2) hv⟩
/-! THE CLAIM OUT OF ONE WALK OF THE LAW'S BODY. Your part is whole_start (and what it stands on); all else here is the same for every law, but numbers. -/
def R_law : String := "ShellhouseLaw"
def lw_P (b : Addr) (xs : List Int32) (args : Array Value) (s : State) : Prop := args = #[.ref b] ∧ s.IntsAt b xs ∧ xs.length ≤ 260 ∧ (Jvm.Cond.and given_1 narrow_1).before args s = true
/-- what a walk over the start with the record d0 says of its end, said of the start itself -/
theorem lw_closed {s t : State} {o : Outcome} {d0 : Drawn} {L : List Loc} {k n : Nat} (hd0 : s.drawn.sameBut d0 lw_cs) (hv : ∃ v, o = .returned v) (hW : (s.setDrawn d0).WarmedH t.vm) (hs : (s.setDrawn d0).sameButNew ({ t with vm := s.vm } : State) L k n) : State.butDraws s t lw_cs (fun t1 => Framed s o t1 L k n) := by
  have h2 : t.drawn = d0 := congrArg State.drawn hs.1
  refine ⟨⟨hv, hW, State.sameButNew.setDrawn hs s.drawn⟩, ?_, by decide⟩
  rw [h2]
  exact hd0
def lw_Q (_ : Array Value) (s : State) (o : Outcome) (t : State) : Prop := o = .returned (some (.int 1)) ∧ State.butDraws s t lw_cs (fun t1 => Framed s o t1 [] 676699 7071600)
def lw_Z (below : List Frame) (a : Array Value) (s : State) : State → Prop := fun t => ∃ o, t.status = .running ∧ Ended t below o ∧ lw_Q a s o t
/-- the law's own end, with 1 on the stack, nothing written that was there before, its room as the claim has it; d0: the record of draws at this point (at the entry s.drawn: begin with 'refine W.base ?_' and 'have hd0 := Drawn.sameBut.refl s.drawn lw_cs') -/
theorem lw_ret {p : Program} {l : Launch} {e : Env} {s : State} {m : MethodId} {below : List Frame} {meth : Method} {c : Code} {b : Nat} {d0 : Drawn} (hd0 : s.drawn.sameBut d0 lw_cs) (hx : p.tables.exec = Jvm.exec) (hb : c.code = code) (hr : meth.sig.returnType = ret) (hlocks : meth.locks = false) {pc : Nat} {H : Heap} {ls : Array Slot} (hdg : decode code pc = .ok (.ireturn, 1)) : W p l e room_1 (s.setDrawn d0) m #[Value.ref b] below meth c H [] 676699 7071600 (lw_Z below #[Value.ref b] s) (F0 m pc ls [.int 1]) := by
  intro T hT X
  obtain ⟨fs, hret, hrun, hended, hW, hframe⟩ := X.leave (v := some (.int 1)) (hlocks := hlocks) (fun h => by rw [hr] at h; cases h)
  have hmeth' : T.vm.method? m = some meth := X.method'
  refine ⟨T.setFrames fs, ?_, .returned (some (.int 1)), hrun, hended, rfl, lw_closed hd0 ⟨_, rfl⟩ hW hframe⟩
  jvm_step X.here [X.here.top, hx, hb, hdg, hmeth', hr, ret, narrow_b1]
  (try refine ⟨rfl, ?_⟩); (try refine ⟨rfl, ?_⟩)
  first | (intro acts; rw [hret _ acts rfl rfl rfl]) | rw [hret _ _ rfl rfl rfl]
  exact Steps.refl _
/-- what holds at the law's entry: the machine, the code, the tables' words (any of lw_tbl by 'hts w (by decide +kernel)'), the script of L ints xs at the cell b, what the Statement gives of the start (any of its parts by flat_of_before) -/
def lw_At (p : Program) (s : State) (m : MethodId) (meth : Method) (c : Code) (b L : Nat) (xs : Nat → Int32) : Prop :=
  p.tables.exec = Jvm.exec ∧ c.code = code ∧ meth.sig.returnType = ret ∧ c.maxLocals = 20 ∧ s.vm.findClass R_law = some m.cls ∧ (∀ w ∈ lw_tbl, w.before #[Value.ref b] s = true) ∧ va_X b L xs s s.heap ∧ b < s.heap.size ∧ meth.locks = false ∧ (Jvm.Cond.and given_1 narrow_1).before #[Value.ref b] s = true

/-- FROM THE ENTRY: the pure statement gives the walk -/
theorem whole_start {p : Program} {e : Env} {s : State} {m : MethodId} {below : List Frame} {meth : Method} {c : Code} (l : Launch) (hflags : l.flags = flags0) (hpure : PureLaw) (hnoh : c.exceptionTable.toList = []) {b L : Nat} {xs : Nat → Int32} (hL : L ≤ 260) (C0 : lw_At p s m meth c b L xs) : W p l e room_1 s m #[Value.ref b] below meth c s.heap [] 0 0 (lw_Z below #[Value.ref b] s) (entryFrame m ([Value.ref b] : List Value).toArray 20) := by
  obtain ⟨hx, hb, hr, hml, hown, hts, hX, hbl, hlocks, hgv⟩ := C0
  have hlt : l.stackTraces = false := by unfold Launch.stackTraces; rw [hflags]; decide +kernel
  obtain ⟨G, eA, mi, hne, hK, hE⟩ := start_ok hts hX hbl hgv
  have C : Cx p l room_1 s m #[Value.ref b] meth c G (enV b L eA mi xs) (fun q : Nat => s.heap.size ≤ q) 14 mL_law := ⟨hx, hb, hml, hown, fun w hw => hts w (List.mem_filter.mp hw).1, hE, fun q h => h, ⟨by decide, by decide⟩, (fun h => Bool.noConfusion h), hlocks, hnoh, (fun x hx => nomatch hx), (fun pc X h => nomatch h)⟩
  have H := hpure b L eA mi xs hL hne
  have H : EvR TTv (enV b L eA mi xs) 14 mL_law (fun o _ => o = .inl (some (.int 1))) 0 (ent mL_law [.ref b]) [] (fun _ => none) 676699 7071600 := H
  rw [EvR_eq] at H
  have hER : EndR p l e room_1 s m #[Value.ref b] below meth c (lw_Z below #[Value.ref b] s) G (fun q : Nat => s.heap.size ≤ q) mL_law (fun o _ => o = .inl (some (.int 1))) := by
    intro i v st pc lsA h H locs cells slots hdg hI hQ hD hc hn
    obtain ⟨ws, tys, hP, hK2, hDD, hS, hcov⟩ := hD
    have hv : v = some (.int 1) := Sum.inl.inj hQ
    subst hv
    rcases hI with ⟨rfl, x, rfl, hx1, -⟩ | ⟨rfl, x, rfl, hx1, -⟩ | ⟨rfl, x, rfl, hx1, -⟩ | ⟨rfl, x, rfl, hx1, -, hx2⟩ | ⟨rfl, rfl, hx1, -⟩
    · cases hx1
      refine va_forget (fun q hq => hS.2.2 q hq) ?_
      refine W.widen (k := 676699) (n := 7071600) hc hn ?_
      exact lw_ret (d0 := s.drawn) (Drawn.sameBut.refl s.drawn lw_cs) hx hb hr hlocks hdg
    · cases hx1
    · cases hx1
    · cases hx2
    · cases hx1
  obtain ⟨lsA, he, hLr⟩ := ent_Lr (m := m) (M := mL_law) (as := [.ref b]) rfl
  have he2 : entryFrame m ([Value.ref b] : List Value).toArray 20 = F0 m 0 lsA [] := he
  rw [he2]
  exact H _ (snd_step (Qw := lw_Z below #[Value.ref b] s) C (CRd_ok l hlt _ 14) hER (fun x h' _ _ _ _ _ _ _ _ _ _ _ hQ => nomatch hQ) (fun pc X h _ _ _ _ _ _ h2 => nomatch h2)) s.heap [] 0 0 lsA ⟨[], [], fun k q h => by simp at h, hK, ⟨fun i j p q h => by simp at h, fun k q h => by simp at h⟩, va_S.rf, fun a x h => nomatch h⟩ hLr (by decide) (by decide)
set_option maxHeartbeats 4000000 in
theorem lw_walk (hpure : PureLaw) (l : Launch) (hflags : l.flags = flags0) (b : Addr) (xs : List Int32) : MetFree l x (headSpec (Jvm.Cond.code x code maxLocals ret :: tables_1) room_1) (lw_P b xs) (fun _ _ _ _ _ => True) lw_Q := by
  refine MetFree.of_bodyS (code := code) (maxLocals := maxLocals) (ret := ret) (by decide) ?_ ?_
  · intro args s m h hn
    obtain ⟨meth, c, h1, h2, h3, h4, h5, h6, -, -⟩ := Cond.code_spec hn (atoms_spec (ws := Jvm.Cond.code x code maxLocals ret :: tables_1) h _ List.mem_cons_self)
    exact ⟨meth, c, h1, h2, h3, h4, h5, h6⟩
  · intro p e s m args below meth c s₁ B hml0 hP _
    obtain ⟨rfl, hx, hbd, hgv⟩ := hP
    obtain ⟨scr, harrAt, hlist, hof, hsmall⟩ := hx
    obtain ⟨hcb, hkn, -, -⟩ := State.arrayAt?_spec harrAt
    have hown : s.vm.findClass R_law = some m.cls := findClass_of_methodNamed B.named
    have hts0 : ∀ c ∈ (Jvm.Cond.code x code maxLocals ret :: tables_1), c.before #[Value.ref b] s = true := atoms_spec (ws := Jvm.Cond.code x code maxLocals ret :: tables_1) B.pre
    have hts : ∀ w ∈ lw_tbl, w.before #[Value.ref b] s = true := k2_hts_sels lw_privs (fun w hw => hts0 w (List.mem_cons_of_mem _ hw)) lw_privs_ok
    have hml : c.maxLocals = 20 := B.maxLocals_eq (hts0 _ List.mem_cons_self)
    have hnoh : c.exceptionTable.toList = [] := by
      obtain ⟨meth9, c9, h1, h2, -, -, -, -, h7, -⟩ := Cond.code_spec B.named (hts0 _ List.mem_cons_self)
      cases Option.some.inj (h1.symm.trans B.method)
      cases Option.some.inj (h2.symm.trans (Stand.of_body B).code)
      rw [Array.isEmpty_iff.mp h7]
    have X₀ : Stand p l e room_1 s m #[Value.ref b] below meth c s₁ [] 0 0 := Stand.of_body B
    have hh0 : s₁.heap = s.heap := by rw [B.state]; rfl
    have hsz : scr.slots.size = xs.length := by rw [← Array.length_toList, hlist, List.length_map]
    have hval : ∀ j : Nat, j < xs.length → scr.slots[j]? = some (.int (xs.getD j 0)) := fun j hj => by
      rw [← Array.getElem?_toList, hlist]
      simp [hj]
    have hbl : b < s.heap.size := (Array.getElem?_eq_some_iff.mp hcb).1
    have hX : va_X b xs.length (fun j => xs.getD j 0) s s.heap := ⟨scr, hcb, hof, hkn, hsz, hval⟩
    have K : W p l e room_1 s m #[Value.ref b] below meth c s₁.heap [] 0 0 (lw_Z below #[Value.ref b] s) (entryFrame m ([Value.ref b] : List Value).toArray 20) := by
      rw [hh0]
      exact whole_start l hflags hpure hnoh hbd ⟨B.exec, B.bytes, B.returns, hml, hown, hts, hX, hbl, B.notSynchronized, hgv⟩
    obtain ⟨t, a1, o, b1, b2, b3⟩ := K s₁ rfl X₀
    exact ⟨t, o, a1, b1, b2, b3⟩
theorem lw_pre_spec {args : Array Value} {s : State} (h : (Jvm.Cond.and given_1 narrow_1).before args s = true) (hr : rest_1_c.before args s = true) : ∃ (b : Addr) (xs : List Int32), lw_P b xs args s := by
  have hs := flat_of_before _ h
  have hq := flat_of_before _ hr
  have hc : (Cond.count 1).before args s = true := hs _ (by decide +kernel)
  have harr : (Cond.arrayOf (.arg 0) .int).before args s = true := hs _ (by decide +kernel)
  have hle : (Cond.le (.length (.arg 0)) (.int 260)).before args s = true := hs _ (by decide +kernel)
  have hlen : (Cond.isInt (.length (.arg 0))).before args s = true := hq _ (by decide +kernel)
  have hall : (Cond.all (.arg 0) (.isInt (.elem (.arg 0) (.index 0)))).before args s = true := hq _ (by decide +kernel)
  obtain ⟨b, xs, hb, hx⟩ := State.ints_of_pre rfl harr hlen hall
  have hsm : xs.length < 2 ^ 31 := hx.choose_spec.2.2.2
  have hev : (Term.length (.arg 0)).eval args s none [] s = some (.int xs.length.toInt32) := hx.length_eval hb
  have hv := Cond.le_ints hev (show (Term.int 260).eval args s none [] s = some (.int 260) from rfl)
  have hd : xs.length.toInt32 ≤ 260 := by
    simpa [Cond.before, Cond.holds, hv] using hle
  have hN : xs.length ≤ 260 := (Int32.ofNat_le_ofNat hsm (by decide)).mp (show Int32.ofNat xs.length ≤ Int32.ofNat 260 from hd)
  exact ⟨b, xs, Cond.one_arg hc (show args[0]? = some (.ref b) from hb), hx, hN, h⟩
theorem lw_comes (hpure : PureLaw) (l : Launch) (hflags : l.flags = flags0) : Comes l x (Jvm.Cond.code x code maxLocals ret :: tables_1) room_1 (fun tb e args s => Calls_1 tb e args s ∧ rest_1 tb e args s ∧ Pre_1 tb e args s)
    (fun _ _ args s o t => lw_Q args s o t) := by
  intro p e ha hc hk s m args below hf hfit hheap happ hpre
  obtain ⟨b, xs, hP⟩ := lw_pre_spec hpre.2.2 hpre.2.1
  obtain ⟨k, o, h1, h2, h3, hQ⟩ := lw_walk hpure l hflags b xs p e ha hc hk s m args below hf ((Spec.applies_iff_loose hf).mp happ).1 hP trivial
  exact ⟨k, o, h1, h2, h3, hQ⟩
theorem lw_frame {s t : State} {o : Outcome} {args : Array Value} (h : State.butDraws s t lw_cs (fun t1 => Framed s o t1 [] 676699 7071600)) :
    State.butDraws s t [Jvm.Choice.named "NaN.bits"] (fun t1 => Framed s o t1 (fieldLocs frame_1_writes args s ++ arrayLocs frame_1_arrays args s ++ staticLocs frame_1_statics s) 676699 7071600) := h
theorem lw_limb (hpure : PureLaw) (L : Cond) (hL : ∀ (args : Array Value) (s t : State), L.after args s (.returned (some (.int 1))) t = true) :
    ArmFor flags0 classFile x code maxLocals ret World_1 tables_1 room_1 Calls_1 rest_1 Pre_1
      (fun tb e a s o t => postC L tb e a s o t ∧ State.butDraws s t [Jvm.Choice.named "NaN.bits"] (fun t1 => Framed s o t1 (fieldLocs frame_1_writes a s ++ arrayLocs frame_1_arrays a s ++ staticLocs frame_1_statics s) 676699 7071600)) := by
  intro l hflags _ _ p e ha hc hk s m args below hf hfit hheap happ hpre
  obtain ⟨k, o, h1, h2, h3, rfl, hF⟩ := lw_comes hpure l hflags p e ha hc hk s m args below hf hfit hheap happ hpre
  exact ⟨k, _, h1, h2, h3, hL args s _, lw_frame hF⟩
end
