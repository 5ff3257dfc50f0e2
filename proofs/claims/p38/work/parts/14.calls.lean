theorem wgd : Cond.declares ⟨"java/lang/Object", "getClass", "()Ljava/lang/Class;"⟩ ∈ lw_D := by decide +kernel
theorem wgs : Cond.selects "[Ljava/lang/Object;" ⟨"java/lang/Object", "getClass", "()Ljava/lang/Class;"⟩ ⟨"java/lang/Object", "getClass", "()Ljava/lang/Class;"⟩ ∈ lw_G := lw_in 861 (by decide +kernel) (by decide +kernel)
theorem wgi : Cond.instanceMethod ⟨"java/lang/Object", "getClass", "()Ljava/lang/Class;"⟩ ∈ lw_G := lw_in 294 (by decide +kernel) (by decide +kernel)
theorem wgn : Cond.native ⟨"java/lang/Object", "getClass", "()Ljava/lang/Class;"⟩ ∈ lw_G := lw_in 307 (by decide +kernel) (by decide +kernel)
theorem wobi : Cond.instanceMethod objectInit ∈ lw_G := lw_in 51 (by decide +kernel) (by decide +kernel)
theorem wobc : Cond.code objectInit ⟨#[0xb1]⟩ 1 none ∈ lw_G := lw_in 52 (by decide +kernel) (by decide +kernel)
theorem wmin0 : Cond.static Lib.Math.min.name ∈ lw_G := lw_in 315 (by decide +kernel) (by decide +kernel)
theorem wmin1 : Cond.code Lib.Math.min.name Lib.Math.min.code 2 (some .int) ∈ lw_G := lw_in 316 (by decide +kernel) (by decide +kernel)
theorem wmax0 : Cond.static Lib.Math.max.name ∈ lw_G := lw_in 284 (by decide +kernel) (by decide +kernel)
theorem wmax1 : Cond.code Lib.Math.max.name Lib.Math.max.code 2 (some .int) ∈ lw_G := lw_in 285 (by decide +kernel) (by decide +kernel)
theorem wmi : Cond.initialized "java/lang/Math" ∈ lw_G := lw_in 36 (by decide +kernel) (by decide +kernel)
theorem wsi : Cond.initialized "java/lang/System" ∈ lw_G := lw_in 37 (by decide +kernel) (by decide +kernel)
theorem wan : Cond.native arraycopyName ∈ lw_G := lw_in 319 (by decide +kernel) (by decide +kernel)
theorem was : Cond.static arraycopyName ∈ lw_G := lw_in 318 (by decide +kernel) (by decide +kernel)
theorem nfw : nativeFrameWords "java/lang/System" "arraycopy" 5 + 11 ≤ 52 := by decide +kernel
section SNC
variable {p : Program} {l : Launch} {e : Env} {R : Room} {s : State} {m : MethodId} {args : Array Value} {below : List Frame} {meth : Method} {cd : Code} {Qw : State → Prop} {G : va_G} {E : EN} {A : Nat → Prop} {d : Nat} {M : MD} {CR : CT} {Q : Out → AH → Prop}
def CRok (l : Launch) (E : EN) (CR : CT) (d : Nat) : Prop := ∀ (M' : MD) (as : List Value) (h : AH) (c' n' : Nat) (K : Out → AH → Prop), CR M' as h c' n' K → okM M' → 1 ≤ d ∧ ∀ (G : va_G) (A : Nat → Prop), vx_Met l (mY M') (cdW M' :: lw_G) ({ frames := d - 1, cells := c', slots := n', locals := 38 * (d - 1) }) (PcM G E A as h) (QcM G A K) (XcM G A K) c' n' A
theorem snd_after {pc : Nat} {lsA : Array Slot} {st0 rest : List Value} {H : Heap} {locs : List Loc} {cells slots mc ms : Nat} {a : Array Value} {K : Out → AH → Prop}
    (hr : vx_Run p l e R s m args below meth cd H locs cells slots mc ms (F0 m pc lsA st0) rest (QcM G A K a) (XcM G A K) A) (hS : va_S A s.heap H locs)
    (kret : ∀ v h' H1 locs1, K (.inl v) h' → Dy G A s h' H1 locs1 → W p l e R s m args below meth cd H1 locs1 (cells + mc) (slots + ms) Qw (F0 m (pc + 3) lsA (v.toList ++ rest)))
    (kthr : ∀ x h' H1 locs1 q ce, 0 < x → x < 6 → K (.inr x) h' → Dy G A s h' H1 locs1 → H1[q]? = some ce → ce.vm = .none → s.vm.findClass (exN x) = some ce.cls → vx_W p l e R s m args below meth cd H1 locs1 (cells + mc) (slots + ms) Qw (F0 m pc lsA rest) q) :
    W p l e R s m args below meth cd H locs cells slots Qw (F0 m pc lsA st0) := by
  intro T hT X
  rcases hr T hT X with ⟨v, st₀, t, T', L, h0, X', hL, e1, e2, ⟨⟨v', h', hv, hK, hW⟩, hF⟩, st⟩ | ⟨q, st₀, t, T', L, Ex, ce, h0, X', hL, e1, e2, ⟨⟨x, h', rfl, hx0, hx6, hK, hW⟩, hF⟩, hce, hcv, hcl, st⟩
  · cases hv
    obtain ⟨k1, k2, k3⟩ := vx_keep h0 e1 hS (fun q _ h => h) (fun q h => h) hL hF
    obtain ⟨ws, tys, g1, g2, g3, g4⟩ := hW
    have hvm : s.vm.Alike t.vm := by rw [← e2]; exact X'.warmed.alike
    obtain ⟨t2, a1, b1⟩ := kret v h' T'.heap (locs ++ L) hK ⟨ws, tys, by rw [e1]; exact g1, g2.moved hvm.symm, g3, k3, g4⟩ T' rfl X'
    exact ⟨t2, st t2 a1, b1⟩
  · obtain ⟨k1, k2, k3⟩ := vx_keep h0 e1 hS (fun q _ h => h) (fun q h => h) hL hF
    obtain ⟨ws, tys, g1, g2, g3, g4⟩ := hW
    have hvm : s.vm.Alike t.vm := by rw [← e2]; exact X'.warmed.alike
    obtain ⟨t2, a1, b1⟩ := kthr x h' T'.heap (locs ++ L) q ce hx0 hx6 hK ⟨ws, tys, by rw [e1]; exact g1, g2.moved hvm.symm, g3, k3, g4⟩ (by rw [e1]; exact hce) hcv hcl T' rfl X'
    exact ⟨t2, st.trans a1, b1⟩
theorem good_G {ws : List Cond} (h : ∀ w ∈ ws, w ∈ lw_G) : GoodIn lw_G ws := fun w hw => ⟨h w hw, good_of_word (List.mem_filter.mp (h w hw)).2⟩
theorem cat_le : ∀ (r : List Value), (r.map fun v => v.category).sum ≤ 2 * r.length
  | [] => Nat.le_refl 0
  | v :: r => by
    have h1 := cat_le r
    have h2 : v.category ≤ 2 := by cases v <;> simp [Value.category]
    simp only [List.map_cons, List.sum_cons, List.length_cons]
    omega
theorem cat_room {pc : Nat} {ls : Array Slot} {st r : List Value} (h : r.length ≤ 4) : 2 * (F0 m pc ls st).monitorRoom + (r.map fun v => v.category).sum ≤ 8 := lv_room (by have := cat_le r; omega)
/-- the ends of a walk -/
def RetI (r : Option FieldType) (i : Instr) (v : Option Value) (st : List Value) : Prop :=
  (i = .ireturn ∧ ∃ x, st = [.int x] ∧ v = some (.int x) ∧ okR r (.int x) = true) ∨ (i = .lreturn ∧ ∃ x, st = [.long x] ∧ v = some (.long x) ∧ okS r = 1) ∨ (i = .freturn ∧ ∃ x, st = [.float x] ∧ v = some (.float x) ∧ okS r = 2) ∨
  (i = .areturn ∧ ∃ x, st = [x] ∧ v = some x ∧ isA x = true ∧ okS r = 3) ∨ (i = .return_ ∧ st = [] ∧ v = none ∧ okS r = 0)
def EndR (p : Program) (l : Launch) (e : Env) (R : Room) (s : State) (m : MethodId) (args : Array Value) (below : List Frame) (meth : Method) (cd : Code) (Qw : State → Prop) (G : va_G) (A : Nat → Prop) (M : MD) (Q : Out → AH → Prop) : Prop := ∀ (i : Instr) (v : Option Value) (st : List Value) (pc : Nat) (lsA : Array Slot) (h : AH) (H : Heap) (locs : List Loc) (cells slots : Nat), decode (mB M) pc = .ok (i, 1) → RetI (mR M) i v st → Q (.inl v) h → Dy G A s h H locs → cells ≤ R.cells → slots ≤ R.slots → W p l e R s m args below meth cd H locs cells slots Qw (F0 m pc lsA st)
def EndX (p : Program) (l : Launch) (e : Env) (R : Room) (s : State) (m : MethodId) (args : Array Value) (below : List Frame) (meth : Method) (cd : Code) (Qw : State → Prop) (G : va_G) (A : Nat → Prop) (M : MD) (Q : Out → AH → Prop) : Prop := ∀ (x : Nat) (h' : AH) (H1 : Heap) (locs1 : List Loc) (cells slots : Nat) (q : Nat) (ce : Cell) (pc : Nat) (lsA : Array Slot) (rest : List Value), 0 < x → x < 6 → Q (.inr x) h' →
  (∀ z ∈ cd.exceptionTable.toList, covers z pc = false ∨ (z.catchType ≠ 0 ∧ ∃ nm : String, (Cond.classLink (oN (mO M)) z.catchType nm).before args s = true ∧ va_Nc (exN x) nm s)) → Dy G A s h' H1 locs1 → cells ≤ R.cells → slots ≤ R.slots → H1[q]? = some ce → ce.vm = .none → s.vm.findClass (exN x) = some ce.cls → vx_W p l e R s m args below meth cd H1 locs1 cells slots Qw (F0 m pc lsA rest) q
def EndT (p : Program) (l : Launch) (e : Env) (R : Room) (s : State) (m : MethodId) (args : Array Value) (below : List Frame) (meth : Method) (cd : Code) (Qw : State → Prop) (G : va_G) (A : Nat → Prop) (d : Nat) (M : MD) (Q : Out → AH → Prop) : Prop := ∀ (pc X : Nat) (h : AH) (H : Heap) (locs : List Loc) (cells slots : Nat) (lsA : Array Slot) (st : List Value), look (mT M) pc = some X → Q (.inr X) h → Dy G A s h H locs → 6 ≤ d → st.length ≤ 4 → cells + 1 ≤ R.cells → slots + 6 ≤ R.slots → lsA.size = mL M → W p l e R s m args below meth cd H locs cells slots Qw (F0 m pc lsA st)
theorem wcx : ∀ {x : Nat}, 0 < x → x < 6 → Cond.classLink (oN 7) (exI x) (exN x) ∈ lw_G ∧ exI x ≠ 0 := by
  have h : ∀ x, x < 6 → 0 < x → Cond.classLink (oN 7) (exI x) (exN x) ∈ lw_G ∧ exI x ≠ 0 := by decide +kernel
  exact fun {x} h1 h2 => h x h2 h1
theorem wcc : ∀ {x : Nat}, 0 < x → x < 6 → Cond.castable (exN x) (exN x) ∈ lw_D := by
  have h : ∀ x, x < 6 → 0 < x → Cond.castable (exN x) (exN x) ∈ lw_D := by decide +kernel
  exact fun {x} h1 h2 => h x h2 h1
theorem sn_thr (C : Cx p l R s m args meth cd G E A d M) (hEX : EndX p l e R s m args below meth cd Qw G A M Q) {x : Nat} {h' : AH} {H1 : Heap} {locs1 : List Loc} {cells slots q c n : Nat} {ce : Cell} {pc : Nat} {lsA : Array Slot} {ls rest : List Value} (hx0 : 0 < x) (hx6 : x < 6)
    (hK : match hdl M pc x with | some t => ∀ q, PS p l e R s m args below meth cd Qw G A M t ls [.ref q] h' c n | none => Q (.inr x) h') (hD : Dy G A s h' H1 locs1) (hL : Lr (mJ M) lsA (mL M) ls) (hc : cells + c ≤ R.cells) (hn : slots + n ≤ R.slots) (hce : H1[q]? = some ce) (hcv : ce.vm = .none) (hcl : s.vm.findClass (exN x) = some ce.cls) :
    vx_W p l e R s m args below meth cd H1 locs1 cells slots Qw (F0 m pc lsA rest) q := by
  obtain ⟨hx, hb, hml, hown, hts, hE, hA, hR, hini, hlk, htab, hhx, hthr⟩ := C
  have pass : ∀ a ∈ mH M, ¬ (decide (a.1 ≤ pc) && decide (pc < a.2.1) && Nat.beq a.2.2.2 x) = true → covers (⟨a.1, a.2.1, a.2.2.1, exI a.2.2.2⟩ : ExceptionTableEntry) pc = false ∨ (exI a.2.2.2 ≠ 0 ∧ ∃ nm : String, (Cond.classLink (oN (mO M)) (exI a.2.2.2) nm).before args s = true ∧ va_Nc (exN x) nm s) := by
    intro a ha hp
    obtain ⟨⟨p1, p2⟩, p3⟩ := hhx a ha
    cases hcv2 : covers (⟨a.1, a.2.1, a.2.2.1, exI a.2.2.2⟩ : ExceptionTableEntry) pc with
    | false => exact Or.inl rfl
    | true =>
      refine Or.inr ⟨(wcx p1 p2).2, exN a.2.2.2, by rw [p3]; exact hts _ (wcx p1 p2).1, hE.2.2.2.2.2.2.2.2 x a.2.2.2 hx6 p2 hx0 p1 (fun z => hp ?_)⟩
      have h1 : (decide (a.1 ≤ pc) && decide (pc < a.2.1)) = true := hcv2
      rw [h1, Bool.true_and, ← z]
      exact Nat.beq_refl x
  cases hh : hdl M pc x with
  | none =>
    rw [hh] at hK
    refine hEX x h' H1 locs1 cells slots q ce pc lsA rest hx0 hx6 hK ?_ hD (by omega) (by omega) hce hcv hcl
    rw [htab]
    intro z hz
    obtain ⟨y, hy, rfl⟩ := List.mem_map.mp hz
    obtain ⟨a, ha, rfl⟩ := List.mem_map.mp hy
    refine pass a ha (fun hp => ?_)
    unfold hdl at hh
    rw [Option.map_eq_none_iff] at hh
    exact absurd hp (List.find?_eq_none.mp hh a ha)
  | some t =>
    rw [hh] at hK
    unfold hdl at hh
    rw [Option.map_eq_some_iff] at hh
    obtain ⟨y, hy, rfl⟩ := hh
    obtain ⟨hpy, as, bs, hsp, has⟩ := List.find?_eq_some_iff_append.mp hy
    have hmem : y ∈ mH M := by rw [hsp]; simp
    obtain ⟨⟨p1, p2⟩, p3⟩ := hhx y hmem
    simp only [Bool.and_eq_true] at hpy
    have hyx : y.2.2.2 = x := Nat.eq_of_beq_eq_true hpy.2
    let f : Nat × Nat × Nat × Nat → ExceptionTableEntry := fun a => ⟨a.1, a.2.1, a.2.2.1, exI a.2.2.2⟩
    have htab2 : cd.exceptionTable.toList = as.map f ++ f y :: bs.map f := by
      rw [htab, hsp]
      simp only [tableOf, rawH, List.map_append, List.map_cons, List.map_map]
      rfl
    refine vx_catch (own := oN (mO M)) (name := exN x) hown (as.map f) (f y) (bs.map f) htab2 ?_ (by show (decide _ && decide _) = true; rw [hpy.1.1, hpy.1.2]; rfl) (by show exI y.2.2.2 ≠ 0; exact (wcx p1 p2).2) (by rw [p3]; show (Cond.classLink (oN 7) (exI y.2.2.2) (exN x)).before args s = true; rw [hyx]; exact hts _ (wcx hx0 hx6).1) (va_Nw.use (lw_D_on (wcc hx0 hx6)) (hE.2.2.2.2.2.2.1 _ (wcc hx0 hx6))) hce hcv hcl ?_
    · intro z hz
      obtain ⟨a, ha, rfl⟩ := List.mem_map.mp hz
      have hma : a ∈ mH M := by rw [hsp]; exact List.mem_append_left _ ha
      refine pass a hma ?_
      intro hp
      have h9 := has a ha
      rw [Bool.not_eq_true'] at h9
      exact absurd (hp.symm.trans h9) (by decide)
    · exact hK q H1 locs1 cells slots lsA hD hL hc hn
theorem Pre_of {as : List Value} {h : AH} {H : Heap} {locs : List Loc} (hE : EvOK G E A s s.heap) (hA : ∀ q : Nat, s.heap.size ≤ q → A q) (hD : Dy G A s h H locs) : ∀ U : State, U.heap = H → s.WarmedH U.vm → PcM G E A as h as.toArray U := by
  intro U hU hW
  obtain ⟨ws, tys, hP, hK, hDD, hS, hcov⟩ := hD
  refine ⟨rfl, ⟨ws, tys, by rw [hU]; exact hP, hK.moved hW.alike, hDD, hcov⟩, hE.mv hS hU hW, fun q hq => hA q ?_⟩
  rw [hU] at hq
  exact Nat.le_trans hS.1 hq
theorem sn_call (C : Cx p l R s m args meth cd G E A d M) (hEX : EndX p l e R s m args below meth cd Qw G A M Q) {M' : MD} {h : AH} {H : Heap} {locs : List Loc} {cells slots c n c' n' pc : Nat} {lsA : Array Slot} {ls st0 rest : List Value} {a : Array Value} (hc' : c' ≤ c) (hn' : n' ≤ n)
    (hD : Dy G A s h H locs) (hL : Lr (mJ M) lsA (mL M) ls) (hc : cells + c ≤ R.cells) (hn : slots + n ≤ R.slots)
    (hr : vx_Run p l e R s m args below meth cd H locs cells slots c' n' (F0 m pc lsA st0) rest (QcM G A (fun o h' => Aft (PS p l e R s m args below meth cd Qw G A M) Q M (mI M') pc ls rest o h' (c - c') (n - n')) a) (XcM G A (fun o h' => Aft (PS p l e R s m args below meth cd Qw G A M) Q M (mI M') pc ls rest o h' (c - c') (n - n'))) A) :
    W p l e R s m args below meth cd H locs cells slots Qw (F0 m pc lsA st0) := by
  obtain ⟨ws, tys, hP, hK, hDD, hS, hcov⟩ := id hD
  refine snd_after hr hS (fun v h' H1 locs1 hK1 hD1 => ?_) (fun x h' H1 locs1 q ce h0 h6 hK1 hD1 h1 h2 h3 => ?_)
  · exact hK1 H1 locs1 (cells + c') (slots + n') lsA hD1 hL (by omega) (by omega)
  · exact sn_thr (c := c - c') (n := n - n') C hEX h0 h6 hK1.2 hD1 hL (by omega) (by omega) h1 h2 h3
theorem sn_inv0 (C : Cx p l R s m args meth cd G E A d M) (hCR : CRok l E CR d) (hEX : EndX p l e R s m args below meth cd Qw G A M Q) {i pc : Nat} {ls st : List Value} {h : AH} {c n : Nat} (hdg : decode (mB M) pc = .ok (.invokevirtual i, 3)) (HS : STr E CR M Q (PS p l e R s m args below meth cd Qw G A M) pc ls h c n (stp TTv E d M pc ls st h (.invokevirtual i))) : PS p l e R s m args below meth cd Qw G A M pc ls st h c n := by
  intro H locs cells slots lsA hD hL hc hn
  have C0 := C
  obtain ⟨hx, hb, hml, hown, hts, hE, hA, hR, hini, hlk, htab, hhx, hthr⟩ := C
  simp only [stp] at HS
  obtain ⟨⟨kd, na, M'⟩, hq, HS⟩ := STr_bind HS
  obtain ⟨hk, HS⟩ := STr_ift HS
  have ok := clT_ok hq
  dsimp only at hk
  obtain ⟨ws, tys, hP, hK, hDD, hS, hcov⟩ := id hD
  rcases hk with rfl | rfl
  · simp only [inv] at HS
    split at HS
    · next b r hdrop =>
      obtain ⟨fs, hfs, HS⟩ := STr_bind HS
      obtain ⟨⟨htake, hr4⟩, HS⟩ := STr_ift HS
      obtain ⟨c', n', hc', hn', HS⟩ := HS
      obtain ⟨hl, ⟨hokM, hmH, hinst, hpar⟩, hsel, h7⟩ := ok
      obtain ⟨hd1, hM⟩ := hCR M' _ h c' n' _ HS hokM
      obtain ⟨j, hj⟩ := hcov b _ (ob_spec hfs)
      obtain ⟨o1, o2, o3, o4, o5, o6, o7, o8⟩ := hokM
      have o5 : mL M' ≤ 17 := o5
      have hcd : cdW M' = Cond.code (mY M') (mB M') (mL M') (mR M') := by unfold cdW; rw [hmH]
      have hG : ∀ w ∈ wsV (oN (mO M)) i (oN (mO M')) (mY M') (cdW M' :: lw_G), w ∈ lw_G := by
        intro w hw
        unfold wsV at hw
        rcases List.mem_append.mp hw with hw | hw
        · rcases (by simpa using hw : w = .methodLink (oN (mO M)) i (mY M') ∨ w = .instanceMethod (mY M') ∨ w = .selects (oN (mO M')) (mY M') (mY M') ∨ w = .initialized (oN (mO M'))) with rfl | rfl | rfl | rfl
          · exact hl
          · exact hinst
          · exact hsel
          · rw [← o7]; exact o2
        · rcases List.mem_cons.mp hw with rfl | hw
          · exact o1
          · exact hw
      have hst : st = (st.take na).reverse.reverse ++ .ref b :: r := by
        rw [List.reverse_reverse, ← hdrop, List.take_append_drop]
      exact sn_call C0 hEX hc' hn' hD hL hc hn (vx_runV (As := (st.take na).reverse) (b := b) (rest := r) ⟨hx, hb, hml, hown, hts⟩ (hM G A) (cwV na hts (good_G hG) (by rw [hcd]) rfl rfl ⟨o7, o4.1, o4.2, hpar⟩ ⟨by show d - 1 + 1 ≤ _; omega, by show 8 + (mL M' + 11) + 38 * (d - 1) ≤ _; omega⟩) ⟨PcM.blind, va_recv hK hP (cl_at h7) hj, Pre_of hE hA hD⟩ rfl (by rw [List.length_reverse]; exact htake) hL.size hst (cat_room hr4) hdg ⟨by omega, by omega⟩)
    · exact False.elim HS
  · simp only [inv] at HS
    split at HS
    · next a r _ _ =>
      obtain ⟨f, hf, HS⟩ := STr_bind HS
      obtain ⟨⟨hr4, hd1⟩, HS⟩ := STr_ift HS
      obtain ⟨j, t, cA, g1, g2⟩ := hcov a _ (rdA_spec hf)
      have hcl : s.vm.findClass "[Ljava/lang/Object;" = some cA := by
        obtain ⟨kA, comp, -, -, -, h4⟩ := (hK.2 t _ g2).2
        exact h4
      have hc2 := cat_le r
      exact va_getC hx hb (hml.trans hL.size.symm) hown (hts _ ok) (va_Nw.use rfl (hE.2.2.2.2.2.2.1 _ wgd)) (hts _ wgs) (hts _ wgi) (hts _ wgn) hE.2.2.1 ⟨_, hP j _ g1, rfl, hcl⟩ (by omega) (Nat.le_trans (Nat.add_le_add_right hc2 14) (by omega)) hdg (HS H locs cells slots lsA hD hL hc hn)
    · exact False.elim HS
theorem sn_inv1 (C : Cx p l R s m args meth cd G E A d M) (hCR : CRok l E CR d) (hEX : EndX p l e R s m args below meth cd Qw G A M Q) {i pc : Nat} {ls st : List Value} {h : AH} {c n : Nat} (hdg : decode (mB M) pc = .ok (.invokespecial i, 3)) (HS : STr E CR M Q (PS p l e R s m args below meth cd Qw G A M) pc ls h c n (stp TTv E d M pc ls st h (.invokespecial i))) : PS p l e R s m args below meth cd Qw G A M pc ls st h c n := by
  intro H locs cells slots lsA hD hL hc hn
  have C0 := C
  obtain ⟨hx, hb, hml, hown, hts, hE, hA, hR, hini, hlk, htab, hhx, hthr⟩ := C
  simp only [stp] at HS
  obtain ⟨⟨kd, na, M'⟩, hq, HS⟩ := STr_bind HS
  obtain ⟨hk, HS⟩ := STr_ift HS
  have ok := clT_ok hq
  dsimp only at hk
  obtain ⟨ws, tys, hP, hK, hDD, hS, hcov⟩ := id hD
  rcases hk with rfl | rfl
  · simp only [inv] at HS
    split at HS
    · next b r hdrop =>
      obtain ⟨⟨htake, hr4⟩, HS⟩ := STr_ift HS
      obtain ⟨c', n', hc', hn', HS⟩ := HS
      obtain ⟨hl, ⟨hokM, hmH, hinst, hpar⟩, hmi⟩ := ok
      have hmi : mI M' = true := hmi
      obtain ⟨hd1, hM⟩ := hCR M' _ h c' n' _ HS hokM
      obtain ⟨o1, o2, o3, o4, o5, o6, o7, o8⟩ := hokM
      have o5 : mL M' ≤ 17 := o5
      obtain ⟨hname, hret, -⟩ := o6 hmi
      have hcd : cdW M' = Cond.code (mY M') (mB M') (mL M') none := by unfold cdW; rw [hmH]; rw [← hret]
      have hG : ∀ w ∈ cdW M' :: lw_G, w ∈ lw_G := by
        intro w hw
        rcases List.mem_cons.mp hw with rfl | hw
        · exact o1
        · exact hw
      have hst : st = (st.take na).reverse.reverse ++ .ref b :: r := by
        rw [List.reverse_reverse, ← hdrop, List.take_append_drop]
      refine sn_call (M' := M') C0 hEX hc' hn' hD hL hc hn (fun T hT X => Or.inl (va_runI (As := (st.take na).reverse) (b := b) (rest := r) ⟨hx, hb, hml, hown, hts⟩ (vx_noThrow (hM G A) (fun X st t ⟨⟨x, h', _, _, _, hK2, _⟩, _⟩ => ?_)) (cwI na hts (good_G hG) (by rw [hcd]) rfl rfl (hts _ o2) (hts _ hl) (hts _ hinst) hname ⟨o4.1, o4.2, hpar⟩ ⟨by show d - 1 + 1 ≤ _; omega, by show 8 + (mL M' + 11) + 38 * (d - 1) ≤ _; omega⟩) ⟨PcM.blind, Pre_of hE hA hD⟩ rfl (by rw [List.length_reverse]; exact htake) hL.size hst (cat_room hr4) hdg ⟨by omega, by omega⟩ T hT X))
      have h9 : mI M' = false := hK2.1
      rw [hmi] at h9
      cases h9
    · exact False.elim HS
  · simp only [inv] at HS
    split at HS
    · next a r _ _ =>
      obtain ⟨⟨hr4, hd1⟩, HS⟩ := STr_ift HS
      have hc2 := cat_le r
      exact W.objInit hx hb hown (hts _ ok) (hts _ wobi) (hts _ wobc) rfl (hL.size.trans hml.symm) rfl hdg (by omega) (Nat.le_trans (Nat.add_le_add_right (cat_room hr4) 12) (by omega)) (HS H locs cells slots lsA hD hL hc hn)
    · exact False.elim HS
theorem sn_inv2 (C : Cx p l R s m args meth cd G E A d M) (hCR : CRok l E CR d) (hEX : EndX p l e R s m args below meth cd Qw G A M Q) {i pc : Nat} {ls st : List Value} {h : AH} {c n : Nat} (hdg : decode (mB M) pc = .ok (.invokestatic i, 3)) (HS : STr E CR M Q (PS p l e R s m args below meth cd Qw G A M) pc ls h c n (stp TTv E d M pc ls st h (.invokestatic i))) : PS p l e R s m args below meth cd Qw G A M pc ls st h c n := by
  intro H locs cells slots lsA hD hL hc hn
  have C0 := C
  obtain ⟨hx, hb, hml, hown, hts, hE, hA, hR, hini, hlk, htab, hhx, hthr⟩ := C
  simp only [stp] at HS
  obtain ⟨⟨kd, na, M'⟩, hq, HS⟩ := STr_bind HS
  obtain ⟨hk, HS⟩ := STr_ift HS
  have ok := clT_ok hq
  dsimp only at hk
  obtain ⟨ws, tys, hP, hK, hDD, hS, hcov⟩ := id hD
  have hls : cd.maxLocals = lsA.size := hml.trans hL.size.symm
  rcases (by omega : kd = 2 ∨ kd = 4 ∨ kd = 5 ∨ kd = 6 ∨ kd = 7) with rfl | rfl | rfl | rfl | rfl
  · simp only [inv] at HS
    obtain ⟨⟨htake, hr4⟩, HS⟩ := STr_ift HS
    obtain ⟨c', n', hc', hn', HS⟩ := HS
    obtain ⟨hl, hokM, hstt, hpar⟩ := ok
    obtain ⟨hd1, hM⟩ := hCR M' _ h c' n' _ HS hokM
    obtain ⟨o1, o2, o3, o4, o5, o6, o7, o8⟩ := hokM
    have o5 : mL M' ≤ 17 := o5
    have hG : ∀ w ∈ va_wsS (oN (mO M)) i (mY M') (cdW M' :: lw_G), w ∈ lw_G := by
      intro w hw
      unfold va_wsS at hw
      rcases List.mem_append.mp hw with hw | hw
      · rcases (by simpa using hw : w = .methodLink (oN (mO M)) i (mY M') ∨ w = .static (mY M') ∨ w = .initialized (mY M').cls) with rfl | rfl | rfl
        · exact hl
        · exact hstt
        · exact o2
      · rcases List.mem_cons.mp hw with rfl | hw
        · exact o1
        · exact hw
    have hst : st = (st.take na).reverse.reverse ++ st.drop na := by
      rw [List.reverse_reverse, List.take_append_drop]
    cases hmH : mH M' with
    | nil =>
      have hcd : cdW M' = Cond.code (mY M') (mB M') (mL M') (mR M') := by unfold cdW; rw [hmH]
      exact sn_call (M' := M') C0 hEX hc' hn' hD hL hc hn (vx_runS (As := (st.take na).reverse) (rest := st.drop na) ⟨hx, hb, hml, hown, hts⟩ (hM G A) (va_cwS na hts (good_G hG) (by rw [hcd]) rfl rfl ⟨o4.1, o4.2, hpar⟩ ⟨by show d - 1 + 1 ≤ _; omega, by show 8 + (mL M' + 11) + 38 * (d - 1) ≤ _; omega⟩) ⟨PcM.blind, Pre_of hE hA hD⟩ rfl (by rw [List.length_reverse]; exact htake) hL.size hst (cat_room hr4) hdg ⟨by omega, by omega⟩)
    | cons x0 r0 =>
      have hcd : cdW M' = Cond.codeWith (mY M') (mB M') (mL M') (mR M') (rawH (x0 :: r0)) := by unfold cdW; rw [hmH]
      exact sn_call (M' := M') C0 hEX hc' hn' hD hL hc hn (vx_runSX (As := (st.take na).reverse) (rest := st.drop na) ⟨hx, hb, hml, hown, hts⟩ (hM G A) (vx_cwSW na hts (good_G hG) (by rw [hcd]) rfl rfl ⟨o4.1, o4.2, hpar⟩ ⟨by show d - 1 + 1 ≤ _; omega, by show 8 + (mL M' + 11) + 38 * (d - 1) ≤ _; omega⟩) ⟨PcM.blind, Pre_of hE hA hD⟩ rfl (by rw [List.length_reverse]; exact htake) hL.size hst (cat_room hr4) hdg ⟨by omega, by omega⟩)
  · simp only [inv] at HS
    split at HS
    · next y x r _ _ =>
      obtain ⟨⟨hr4, hd1⟩, HS⟩ := STr_ift HS
      exact va_mmin hx hb hls hown (hts _ ok) (hts _ wmin0) (hts _ wmi) (hts _ wmin1) (by omega) (Nat.le_trans (Nat.add_le_add_right (cat_le r) 13) (by omega)) (by omega) (by omega) hdg (HS H locs cells slots lsA hD hL hc hn)
    · exact False.elim HS
  · simp only [inv] at HS
    split at HS
    · next y x r _ _ =>
      obtain ⟨⟨hr4, hd1⟩, HS⟩ := STr_ift HS
      exact va_mmax hx hb hls hown (hts _ ok) (hts _ wmax0) (hts _ wmi) (hts _ wmax1) (by omega) (Nat.le_trans (Nat.add_le_add_right (cat_le r) 13) (by omega)) (by omega) (by omega) hdg (HS H locs cells slots lsA hD hL hc hn)
    · exact False.elim HS
  · simp only [inv] at HS
    split at HS
    · next k dp b sp a r _ _ =>
      obtain ⟨f, hf, HS⟩ := STr_bind HS
      obtain ⟨g, hg, HS⟩ := STr_bind HS
      obtain ⟨⟨⟨h1, h2, h3, h4, h5⟩, hr4, hd1⟩, HS⟩ := STr_ift HS
      obtain ⟨j0, t0, cA0, g1, g2⟩ := hcov a _ (rwI_spec hf)
      obtain ⟨j1, t1, cA1, g3, g4⟩ := hcov b _ (rwI_spec hg)
      exact va_copyi hx hb hls hown (hts _ ok) (hts _ wan) (hts _ was) (hts _ wsi) hK hP hDD hS j0 j1 t0 t1 g1 g3 g2 g4 rfl h1 h2 h3 h4 h5 (fun _ _ => rfl) (by omega) (Nat.le_trans (Nat.add_le_add (cat_le r) nfw) (by omega)) hdg (fun H1 locs1 hP1 hD1 hS1 => HS H1 locs1 cells slots lsA (Dy.set (locs := locs) hK hcov hDD g3 hP1 hD1 hS1 ⟨j1, t1, cA1, List.getElem?_set_self (List.getElem?_eq_some_iff.mp g3).1, g4⟩) hL hc hn)
    · exact False.elim HS
  · simp only [inv] at HS
    split at HS
    · next k dp b sp a r _ _ =>
      obtain ⟨f, hf, HS⟩ := STr_bind HS
      obtain ⟨g, hg, HS⟩ := STr_bind HS
      obtain ⟨⟨⟨h1, h2, h3, h4, h5⟩, hel, hr4, hd1⟩, HS⟩ := STr_ift HS
      obtain ⟨j0, t0, cA0, g1, g2⟩ := hcov a _ (rdA_spec hf)
      obtain ⟨j1, t1, cA1, g3, g4⟩ := hcov b _ (rdA_spec hg)
      refine va_copyM hx hb hls hown (hts _ ok) (hts _ wan) (hts _ was) (hts _ wsi) hK hP hDD hS j0 j1 t0 t1 g1 g3 g2 g4 h1 h2 h3 h4 h5 (fun i hi y hy => ?_) (by omega) (Nat.le_trans (Nat.add_le_add (cat_le r) nfw) (by omega)) hdg (fun H1 locs1 hP1 hD1 hS1 => HS H1 locs1 cells slots lsA (Dy.set (locs := locs) hK hcov hDD g3 hP1 hD1 hS1 ⟨j1, t1, cA1, List.getElem?_set_self (List.getElem?_eq_some_iff.mp g3).1, g4⟩) hL hc hn)
      have h9 := hel i hi
      rw [hy] at h9
      obtain ⟨⟨ci, fs⟩, hv⟩ := isO_spec (h := h) h9
      obtain ⟨k9, hk9⟩ := hcov y _ hv
      have h7 := ci_lt hP hk9
      refine va_rAny hK hP hk9 (cl_at h7) (fun comp c0 e1 e2 => ?_)
      obtain ⟨c3, c4, hc3, hc4, hasg⟩ := Cond.castable_spec (hE.2.2.2.2.2.2.1 _ (castO h7))
      cases Option.some.inj (hc4.symm.trans e1)
      cases Option.some.inj (hc3.symm.trans e2)
      exact hasg
    · exact False.elim HS
end SNC
