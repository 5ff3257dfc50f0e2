theorem thr_words : ∀ x ∈ thrL, x.2 ≠ 3 → ∀ w ∈ vx_atS RX4 x.1 (exN x.2) exP, w ∈ lw_G ∨ w ∈ lw_D := by decide +kernel
abbrev vyN : List Cond := (vy_atoms RX4 136 (exN 3) 13 prog_27_method_4_code "java/lang/RuntimeException" ["java/lang/Exception"]).filter vx_no
theorem thr_words3 : ∀ w ∈ vyN, w ∈ lw_G ∨ w ∈ lw_D := by decide +kernel
theorem thr_136 : ∀ x ∈ thrL, x.2 = 3 → x.1 = 136 := by decide
theorem vy_d0 : decode prog_27_method_4_code 0 = .ok (.aload_n 0, 1) := by decide +kernel
theorem vy_d1 : decode prog_27_method_4_code 1 = .ok (.aload_n 1, 1) := by decide +kernel
theorem vy_d2 : decode prog_27_method_4_code 2 = .ok (.invokespecial 13, 3) := by decide +kernel
theorem vy_d5 : decode prog_27_method_4_code 5 = .ok (.return_, 1) := by decide +kernel
theorem ex_fit : ∀ {x : Nat}, 0 < x → x < 6 → Bundle.fit (exN x) = true := by
  have h : ∀ x, x < 6 → 0 < x → Bundle.fit (exN x) = true := by decide +kernel
  exact fun {x} h1 h2 => h x h2 h1
theorem exP_fit : ∀ n ∈ exP, Bundle.fit n = true := by decide +kernel
theorem dfl_get {ci j : Nat} (h : j < nC ci) : defaultValue (tyC ci j) = vp_V (dfl ci) j := by
  unfold dfl vp_V
  rw [List.getD_eq_getElem?_getD, List.getElem?_map, List.getElem?_range h]
  rfl
section SNE
variable {p : Program} {l : Launch} {e : Env} {R : Room} {s : State} {m : MethodId} {args : Array Value} {below : List Frame} {meth : Method} {cd : Code} {Qw : State → Prop} {G : va_G} {E : EN} {A : Nat → Prop} {d : Nat} {M : MD} {CR : CT} {Q : Out → AH → Prop}
theorem sn_new (C : Cx p l R s m args meth cd G E A d M) (hET : EndT p l e R s m args below meth cd Qw G A d M Q) {i pc : Nat} {ls st : List Value} {h : AH} {c n : Nat} (hdg : decode (mB M) pc = .ok (.new i, 3)) (HS : STr E CR M Q (PS p l e R s m args below meth cd Qw G A M) pc ls h c n (stp TTv E d M pc ls st h (.new i))) : PS p l e R s m args below meth cd Qw G A M pc ls st h c n := by
  intro H locs cells slots lsA hD hL hc hn
  obtain ⟨hx, hb, hml, hown, hts, hE, hA, hR, hini, hlk, htab, hhx, hthr⟩ := C
  simp only [stp] at HS
  split at HS
  · next ci hci =>
    obtain ⟨h1c, h2n, HS⟩ := HS
    dsimp only at h2n HS
    obtain ⟨h7, hl⟩ := nwT_ok hci
    obtain ⟨ws, tys, hP, hK, hDD, hS, hcov⟩ := id hD
    refine va_new (ci := ci) (fs := dfl ci) (C := oN ci) (T := TC ci) (N := nC ci) hx hb hts (wl_at h7) (tyC ci) (ty_at h7) hown (hts _ hl) (hts _ (wi_at h7)) (hts _ (wj_at h7)) hK hP hDD hS hA (cl_at h7) (fun j hj => dfl_get hj) (by omega) (by omega) hdg (fun q H1 hP1 hD1 hS1 => ?_)
    exact HS q (Dy.fresh (H1 := H1) hcov hD1) (Dy.freshE (H1 := H1) hE hD1) H1 locs (cells + 1) (slots + nC ci) lsA (Dy.push (tys1 := []) (by rw [List.append_nil]; exact hK) hcov hP1 hD1 hS1 ⟨ws.length, by simp⟩) hL (by omega) (by omega)
  · obtain ⟨X, hX, HS⟩ := STr_bind HS
    obtain ⟨⟨h6, hr4⟩, HS⟩ := STr_ift HS
    obtain ⟨h1c, h2n, HS⟩ := HS
    exact hET pc X h H locs cells slots lsA st hX HS hD h6 hr4 (by omega) (by omega) hL.size
theorem sn_ret (C : Cx p l R s m args meth cd G E A d M) (hER : EndR p l e R s m args below meth cd Qw G A M Q) {i : Instr} {v : Option Value} {pc : Nat} {ls st : List Value} {h : AH} {c n : Nat} (hdg : decode (mB M) pc = .ok (i, 1)) (hI : RetI (mR M) i v st) (hq : Q (.inl v) h) : PS p l e R s m args below meth cd Qw G A M pc ls st h c n := by
  intro H locs cells slots lsA hD hL hc hn
  exact hER i v st pc lsA h H locs cells slots hdg hI hq hD (by omega) (by omega)
theorem snd_step (C : Cx p l R s m args meth cd G E A d M) (hCR : CRok l E CR d) (hER : EndR p l e R s m args below meth cd Qw G A M Q) (hEX : EndX p l e R s m args below meth cd Qw G A M Q) (hET : EndT p l e R s m args below meth cd Qw G A d M Q) :
    ∀ pc ls st h c n, ST TTv E d CR M Q (PS p l e R s m args below meth cd Qw G A M) pc ls st h c n → PS p l e R s m args below meth cd Qw G A M pc ls st h c n := by
  intro pc ls st h c n H
  unfold ST at H
  cases hdg : decode (mB M) pc with
  | error z => rw [hdg] at H; exact H.elim
  | ok x =>
    rw [hdg] at H
    obtain ⟨i, len⟩ := x
    obtain ⟨hl, HS⟩ := H
    dsimp only at hl HS
    have hlen : ∀ {k : Nat}, Nat.beq k len = true → decode (mB M) pc = .ok (i, k) := fun {k} hk => by rw [Nat.eq_of_beq_eq_true hk]; exact hdg
    cases i with
    | aload_n k => exact sn_aload_n C (hlen hl) HS
    | aload k => exact sn_aload C (hlen hl) HS
    | iload_n k => exact sn_iload_n C (hlen hl) HS
    | iload k => exact sn_iload C (hlen hl) HS
    | fload k => exact sn_fload C (hlen hl) HS
    | lload_n k => exact sn_lload_n C (hlen hl) HS
    | lload k => exact sn_lload C (hlen hl) HS
    | lstore_n k => exact sn_lstore_n C (hlen hl) HS
    | lstore k => exact sn_lstore C (hlen hl) HS
    | irem => exact sn_irem C (hlen hl) HS
    | iushr => exact sn_iushr C (hlen hl) HS
    | lmul => exact sn_lmul C (hlen hl) HS
    | ldc2_w k => exact sn_ldc2_w C (hlen hl) HS
    | caload => exact sn_caload C (hlen hl) HS
    | castore => exact sn_castore C (hlen hl) HS
    | istore_n k => exact sn_istore_n C (hlen hl) HS
    | istore k => exact sn_istore C (hlen hl) HS
    | fstore k => exact sn_fstore C (hlen hl) HS
    | astore_n k => exact sn_astore_n C (hlen hl) HS
    | astore k => exact sn_astore C (hlen hl) HS
    | iconst k => exact sn_iconst C (hlen hl) HS
    | bipush k => exact sn_bipush C (hlen hl) HS
    | sipush k => exact sn_sipush C (hlen hl) HS
    | lconst k => exact sn_lconst C (hlen hl) HS
    | fconst k => exact sn_fconst C (hlen hl) HS
    | aconst_null => exact sn_aconst_null C (hlen hl) HS
    | iadd => exact sn_iadd C (hlen hl) HS
    | isub => exact sn_isub C (hlen hl) HS
    | imul => exact sn_imul C (hlen hl) HS
    | iand => exact sn_iand C (hlen hl) HS
    | ior => exact sn_ior C (hlen hl) HS
    | ishl => exact sn_ishl C (hlen hl) HS
    | ishr => exact sn_ishr C (hlen hl) HS
    | ladd => exact sn_ladd C (hlen hl) HS
    | lcmp => exact sn_lcmp C (hlen hl) HS
    | i2l => exact sn_i2l C (hlen hl) HS
    | i2c => exact sn_i2c C (hlen hl) HS
    | i2f => exact sn_i2f C (hlen hl) HS
    | f2d => exact sn_f2d C (hlen hl) HS
    | fdiv => exact sn_fdiv C (hlen hl) HS
    | fcmp o => exact sn_fcmp C (hlen hl) HS
    | dcmp o => exact sn_dcmp C (hlen hl) HS
    | ifCond a b => exact sn_ifCond C (hlen hl) HS
    | if_icmp a b => exact sn_if_icmp C (hlen hl) HS
    | if_acmp a b => exact sn_if_acmp C (hlen hl) HS
    | ifnull a => exact sn_ifnull C (hlen hl) HS
    | ifnonnull a => exact sn_ifnonnull C (hlen hl) HS
    | goto a => exact sn_goto C (hlen hl) HS
    | tableswitch a b c2 d2 => exact sn_tableswitch C hdg HS
    | iinc a b => exact sn_iinc C (hlen hl) HS
    | dup => exact sn_dup C (hlen hl) HS
    | dup_x1 => exact sn_dup_x1 C (hlen hl) HS
    | dup2 => exact sn_dup2 C (hlen hl) HS
    | pop => exact sn_pop C (hlen hl) HS
    | getfield a => exact sn_getfield C (hlen hl) HS
    | putfield a => exact sn_putfield C (hlen hl) HS
    | getstatic a => exact sn_getstatic C (hlen hl) HS
    | ldc a => exact sn_ldc C (hlen hl) HS
    | iaload => exact sn_iaload C (hlen hl) HS
    | baload => exact sn_baload C (hlen hl) HS
    | laload => exact sn_laload C (hlen hl) HS
    | daload => exact sn_daload C (hlen hl) HS
    | aaload => exact sn_aaload C (hlen hl) HS
    | iastore => exact sn_iastore C (hlen hl) HS
    | bastore => exact sn_bastore C (hlen hl) HS
    | lastore => exact sn_lastore C (hlen hl) HS
    | dastore => exact sn_dastore C (hlen hl) HS
    | aastore => exact sn_aastore C (hlen hl) HS
    | arraylength => exact sn_arraylength C (hlen hl) HS
    | newarray a => exact sn_newarray C (hlen hl) HS
    | anewarray a => exact sn_anewarray C (hlen hl) HS
    | new a => exact sn_new C hET (hlen hl) HS
    | checkcast a => exact sn_checkcast C (hlen hl) HS
    | invokevirtual a => exact sn_inv0 C hCR hEX (hlen hl) HS
    | invokespecial a => exact sn_inv1 C hCR hEX (hlen hl) HS
    | invokestatic a => exact sn_inv2 C hCR hEX (hlen hl) HS
    | ireturn =>
      simp only [stp] at HS
      split at HS
      · next x _ =>
        obtain ⟨hb, HS⟩ := STr_ift HS
        exact sn_ret C hER (hlen hl) (Or.inl ⟨rfl, _, rfl, rfl, hb⟩) HS
      · exact False.elim HS
    | lreturn =>
      simp only [stp] at HS
      split at HS
      · obtain ⟨hb, HS⟩ := STr_ift HS
        exact sn_ret C hER (hlen hl) (Or.inr (Or.inl ⟨rfl, _, rfl, rfl, hb⟩)) HS
      · exact False.elim HS
    | freturn =>
      simp only [stp] at HS
      split at HS
      · obtain ⟨hb, HS⟩ := STr_ift HS
        exact sn_ret C hER (hlen hl) (Or.inr (Or.inr (Or.inl ⟨rfl, _, rfl, rfl, hb⟩))) HS
      · exact False.elim HS
    | areturn =>
      simp only [stp] at HS
      split at HS
      · obtain ⟨hb, HS⟩ := STr_ift HS
        exact sn_ret C hER (hlen hl) (Or.inr (Or.inr (Or.inr (Or.inl ⟨rfl, _, rfl, rfl, hb⟩)))) HS
      · exact False.elim HS
    | return_ =>
      simp only [stp] at HS
      split at HS
      · obtain ⟨hb, HS⟩ := STr_ift HS
        exact sn_ret C hER (hlen hl) (Or.inr (Or.inr (Or.inr (Or.inr ⟨rfl, rfl, rfl, hb⟩)))) HS
      · exact False.elim HS
    | _ => exact False.elim HS
/-- what a method's end owes, to its caller -/
theorem endR_of (C : Cx p l R s m args meth cd G E A d M) {K : Out → AH → Prop} (hr : meth.sig.returnType = mR M) : EndR p l e R s m args below meth cd (vx_MQ below (QcM G A K) (XcM G A K) args s R.cells R.slots A) G A M K := by
  intro i v st pc lsA h H locs cells slots hdg hI hQ hD hc hn
  obtain ⟨hx, hb, hml, hown, hts, hE, hA, hR, hini, hlk, htab, hhx, hthr⟩ := C
  obtain ⟨ws, tys, hP, hK, hDD, hS, hcov⟩ := hD
  refine W.widen (k := R.cells) (n := R.slots) hc hn ?_
  refine vx_ret ?_
  have post : ∀ t : State, t.heap = H → s.WarmedH t.vm → QcM G A K args s (.returned v) t := fun t ht hW => ⟨⟨v, h, rfl, hQ, ws, tys, by rw [ht]; exact hP, hK.moved hW.alike, hDD, hcov⟩, hS.F ht⟩
  rcases hI with ⟨rfl, x, rfl, rfl, hk⟩ | ⟨rfl, x, rfl, rfl, hk⟩ | ⟨rfl, x, rfl, rfl, hk⟩ | ⟨rfl, x, rfl, rfl, ha, hk⟩ | ⟨rfl, rfl, rfl, hk⟩
  · cases hret : mR M with
    | none => rw [hret] at hk; cases hk
    | some ty =>
      rw [hret] at hk hr
      cases ty with
      | int => exact W.iret hx hb hr post hS.2.2 hdg hlk
      | boolean => exact W.zret hx hb hr (okF_spec (t := .boolean) hk).1 post hS.2.2 hdg hlk
      | char => exact W.zret hx hb hr (okF_spec (t := .char) hk).1 post hS.2.2 hdg hlk
      | _ => cases hk
  · cases hret : mR M with
    | none => rw [hret] at hk; cases hk
    | some ty =>
      rw [hret] at hk hr
      cases ty with
      | long => exact W.lret hx hb hr post hS.2.2 hdg hlk
      | _ => cases hk
  · cases hret : mR M with
    | none => rw [hret] at hk; cases hk
    | some ty =>
      rw [hret] at hk hr
      cases ty with
      | float => exact W.fret hx hb hr post hS.2.2 hdg hlk
      | _ => cases hk
  · cases hret : mR M with
    | none => rw [hret] at hk; cases hk
    | some ty =>
      rw [hret] at hk hr
      have hv : x = .null ∨ ∃ a, x = .ref a := by
        cases x with
        | ref a => exact Or.inr ⟨a, rfl⟩
        | null => exact Or.inl rfl
        | _ => cases ha
      cases ty with
      | object nm => exact W.aret hx hb hr (Or.inl ⟨nm, rfl⟩) hv post hS.2.2 hdg hlk
      | array t => exact W.aret hx hb hr (Or.inr ⟨t, rfl⟩) hv post hS.2.2 hdg hlk
      | _ => cases hk
  · cases hret : mR M with
    | none => rw [hret] at hr; exact W.vret hx hb hr post hS.2.2 hdg hlk
    | some ty => rw [hret] at hk; cases ty <;> cases hk
theorem endX_of (C : Cx p l R s m args meth cd G E A d M) {K : Out → AH → Prop} : EndX p l e R s m args below meth cd (vx_MQ below (QcM G A K) (XcM G A K) args s R.cells R.slots A) G A M K := by
  intro x h' H1 locs1 cells slots q ce pc lsA rest hx0 hx6 hQ hpass hD hc hn hce hcv hcl
  obtain ⟨hx, hb, hml, hown, hts, hE, hA, hR, hini, hlk, htab, hhx, hthr⟩ := C
  obtain ⟨ws, tys, hP, hK, hDD, hS, hcov⟩ := hD
  exact vx_outP hown hlk hpass hce hcv hcl (fun t ht hv => ⟨⟨x, h', rfl, hx0, hx6, hQ, ws, tys, by rw [ht]; exact hP, hK.moved hv, hDD, hcov⟩, hS.F ht⟩) hS.2.2 hc hn
theorem endT_of (C : Cx p l R s m args meth cd G E A d M) (hlt : l.stackTraces = false) {K : Out → AH → Prop} : EndT p l e R s m args below meth cd (vx_MQ below (QcM G A K) (XcM G A K) args s R.cells R.slots A) G A d M K := by
  intro pc X h H locs cells slots lsA st hX hQ hD h6 hr4 hc hn hsz
  obtain ⟨hx, hb, hml, hown, hts, hE, hA, hR, hini, hlk, htab, hhx, hthr⟩ := C
  obtain ⟨hO, hH, ⟨hX0, hX6⟩, ik, is, ic, tx, wide, e0, e3, ew, hcl, hin, hst, hth⟩ := hthr pc X hX
  obtain ⟨ws, tys, hP, hK, hDD, hS, hcov⟩ := hD
  rw [hO] at hown
  obtain ⟨sa, hsa⟩ := hE.2.2.2.2.2.1 _ hst
  have g1 : ∀ w, w ∈ lw_G → vx_ot w = true := fun w h => by unfold vx_ot; rw [(List.mem_filter.mp h).2]; simp
  have gD : ∀ w, w ∈ lw_D → vx_ot w = true := fun w h => by unfold vx_ot; rw [lw_D_on h]; rfl
  have hD1 : ∀ w, w ∈ lw_D → w.before args s = true := fun w h => va_Nw.use (lw_D_on h) (hE.2.2.2.2.2.2.1 w h)
  have hout : ∀ k, ∀ x ∈ cd.exceptionTable.toList, covers x k = false := by
    intro k x hx2
    rw [htab, hH] at hx2
    cases hx2
  have hXC : ∀ t : State, s.vm.Alike t.vm → H.size ≤ t.heap.size → (∀ q : Nat, q < H.size → t.heap[q]? = H[q]?) → XcM G A K (exN X) s t := fun t hv hz hk =>
    ⟨⟨X, h, rfl, hX0, hX6, hQ, ws, tys, hP.kept (fun k q hq => hk q.1 (hP k q hq).lt), hK.moved hv, hDD, hcov⟩, Nat.le_trans hS.1 hz, fun q hq hn2 => (hk q (Nat.lt_of_lt_of_le hq hS.1)).trans (hS.2.1 q hq hn2)⟩
  have hloc : (st.map fun v => v.category).sum + (13 * (exP.length + 1) + 43) ≤ R.locals := Nat.le_trans (Nat.add_le_add_right (cat_le st) _) (by show 2 * st.length + 82 ≤ _; omega)
  have hfr : exP.length + 3 < R.frames := by show 5 < _; omega
  by_cases h3 : X = 3
  · subst h3
    have hic : ic = 136 := thr_136 _ hth rfl
    subst hic
    refine vy_throw (r := ["java/lang/Exception"]) hx hb hlt wide vy_d0 vy_d1 vy_d2 vy_d5 hown (ex_fit hX0 hX6) (Y := "java/lang/RuntimeException") (exP_fit _ (by decide)) (fun n hn => exP_fit n (List.mem_cons_of_mem _ hn)) (hts _ hcl) (hts _ hin) hsa (fun w hw => (thr_words3 w hw).elim (fun h => hts w h) (hD1 w)) ?_ hE.2.2.2.1 hE.2.2.2.2.1 hS (hsz.trans hml.symm) e0 e3 ew hout hfr hloc hc hn hlk hXC hS.2.2 hc hn
    intro w hw
    rcases List.mem_cons.mp hw with rfl | hw
    · exact g1 _ hcl
    · rcases List.mem_cons.mp hw with rfl | hw
      · exact g1 _ hin
      · exact (thr_words3 w hw).elim (g1 w) (gD w)
  · have hat : ∀ w ∈ vx_atS RX4 ic (exN X) exP, w.before args s = true := fun w hw => (thr_words _ hth h3 w hw).elim (fun h => hts w h) (hD1 w)
    have hgood : ∀ w ∈ Cond.classLink RX4 ik (exN X) :: Cond.initialized (exN X) :: vx_atS RX4 ic (exN X) exP, vx_ot w = true := by
      intro w hw
      rcases List.mem_cons.mp hw with rfl | hw
      · exact g1 _ hcl
      · rcases List.mem_cons.mp hw with rfl | hw
        · exact g1 _ hin
        · exact (thr_words _ hth h3 w hw).elim (g1 w) (gD w)
    cases wide with
    | false =>
      obtain ⟨e4, e6, e9⟩ := ew
      exact vx_throwS hx hb hlt hown (ex_fit hX0 hX6) exP_fit (hts _ hcl) (hts _ hin) hsa hat hgood hE.2.2.2.1 hE.2.2.2.2.1 hS (hsz.trans hml.symm) e0 e3 e4 e6 e9 (hout _) hfr hloc hc hn hlk hXC hS.2.2 hc hn
    | true =>
      obtain ⟨e4, e6, e9⟩ := ew
      exact vx_throwSW hx hb hlt hown (ex_fit hX0 hX6) exP_fit (hts _ hcl) (hts _ hin) hsa hat hgood hE.2.2.2.1 hE.2.2.2.2.1 hS (hsz.trans hml.symm) e0 e3 e4 e6 e9 (hout _) hfr hloc hc hn hlk hXC hS.2.2 hc hn
theorem ent_Lr {M : MD} {as : List Value} (h : argOK M as = true) : ∃ lsA, entryFrame m as.toArray (mL M) = F0 m 0 lsA [] ∧ Lr (mJ M) lsA (mL M) (ent M as) := by
  unfold argOK at h
  simp only [Bool.and_eq_true, decide_eq_true_eq, List.all_eq_true] at h
  obtain ⟨h1, h2⟩ := h
  have hlen : ∀ as : List Value, (∀ v ∈ as, is1 v = true) → (lg_sl as).length = as.length := by
    intro as
    induction as with
    | nil => intro _; rfl
    | cons v r ih =>
      intro h
      have hv := is1_cat (h v List.mem_cons_self)
      unfold lg_sl at ih ⊢
      rw [List.flatMap_cons, List.length_append, ih (fun w hw => h w (List.mem_cons_of_mem _ hw)), if_neg (by omega)]
      simp only [List.length_cons, List.length_nil]
      omega
  have hmem : ∀ (as : List Value) (k : Nat), (∀ v ∈ as, is1 v = true) → ∀ (i : Nat) (v : Value), as[i]? = some v → (k + i, v) ∈ lv_args k as := by
    intro as
    induction as with
    | nil => intro k _ i v h; cases h
    | cons w r ih =>
      intro k h i v hv
      have hw := is1_cat (h w List.mem_cons_self)
      unfold lv_args
      rw [if_neg (by omega)]
      cases i with
      | zero => cases hv; exact List.mem_cons_self
      | succ i =>
        rw [List.getElem?_cons_succ] at hv
        have := ih (k + 1) (fun z hz => h z (List.mem_cons_of_mem _ hz)) i v hv
        rw [show k + (i + 1) = k + 1 + i by omega]
        exact List.mem_cons_of_mem _ this
  have hl0 := hlen as h2
  refine ⟨_, lg_entry_eq m as (mL M), lv_args 0 as, lv_entry as (by omega), ?_, ?_⟩
  · unfold ent
    rw [List.length_append, List.length_replicate]
    omega
  · intro i v hv hn
    unfold ent at hv
    by_cases hi : i < as.length
    · rw [List.getElem?_append_left hi] at hv
      have hm := hmem as 0 h2 i v hv
      rw [Nat.zero_add] at hm
      exact ⟨Or.inl (is1_cat (h2 v (List.mem_of_getElem? hv))), hm⟩
    · rw [List.getElem?_append_right (by omega)] at hv
      have := List.mem_of_getElem? hv
      exact absurd (List.eq_of_mem_replicate this) hn
end SNE
/-- THE CONTRACT OF EVERY METHOD, out of its run on our machine -/
theorem CRd_ok (l : Launch) (hlt : l.stackTraces = false) (E : EN) : ∀ d, CRok l E (CRd TTv E d) d
  | 0 => fun _ _ _ _ _ _ H => H.elim
  | d + 1 => by
    intro M' as h c' n' K H hok
    have ih := CRd_ok l hlt E d
    obtain ⟨hargs, H⟩ : argOK M' as = true ∧ EvR TTv E d M' K 0 (ent M' as) [] h c' n' := H
    rw [EvR_eq] at H
    refine ⟨by omega, fun G A => ?_⟩
    obtain ⟨o1, o2, o3, o4, o5, o6, o7, o8, o9⟩ := hok
    obtain ⟨hy1, hy2⟩ := o4
    have body : ∀ p e s m args below meth cd s₁, BodyLoose p l (mY M') (headSpec (cdW M' :: lw_G) ({ frames := d + 1 - 1, cells := c', slots := n', locals := 38 * (d + 1 - 1) })) (mB M') (mL M') (mR M') e s m args below meth cd s₁ → cd.maxLocals = mL M' → cd.exceptionTable.toList = tableOf (rawH (mH M')) → PcM G E A as h args s →
        W p l e (headSpec (cdW M' :: lw_G) ({ frames := d + 1 - 1, cells := c', slots := n', locals := 38 * (d + 1 - 1) })).room s m args below meth cd s.heap [] 0 0 (vx_MQ below (QcM G A K) (XcM G A K) args s c' n' A) (entryFrame m args (mL M')) := by
      intro p e s m args below meth cd s₁ B hml htab hP
      obtain ⟨rfl, ⟨ws, tys, hP, hK, hDD, hcov⟩, hE, hA⟩ := hP
      have hts := atoms_spec (ws := cdW M' :: lw_G) B.pre
      have C : Cx p l ({ frames := d, cells := c', slots := n', locals := 38 * d }) s m as.toArray meth cd G E A d M' := ⟨B.exec, B.bytes, hml, by rw [← o7]; exact findClass_of_methodNamed B.named, fun w hw => hts w (List.mem_cons_of_mem _ hw), hE, hA, ⟨Nat.le_refl _, Nat.le_refl _⟩, fun hi => (name_of_methodNamed B.named B.method).1.trans (o6 hi).1, B.notSynchronized, htab, o8, o9⟩
      obtain ⟨lsA, he, hLr⟩ := ent_Lr (m := m) hargs
      rw [he]
      exact H _ (snd_step (Qw := vx_MQ below (QcM G A K) (XcM G A K) as.toArray s c' n' A) C ih (endR_of C B.returns) (endX_of C) (endT_of C hlt)) s.heap [] 0 0 lsA ⟨ws, tys, hP, hK, hDD, va_S.rf, hcov⟩ hLr (by show 0 + c' ≤ c'; omega) (by show 0 + n' ≤ n'; omega)
    cases hmH : mH M' with
    | nil =>
      have hcd : cdW M' = Cond.code (mY M') (mB M') (mL M') (mR M') := by unfold cdW; rw [hmH]
      refine vx_ofW (cc := mB M') (maxL := mL M') (ret := mR M') (ws' := lw_G) o3 (by rw [hcd]) (fun p e s m args below meth cd s₁ B hml hno hP => body p e s m args below meth cd s₁ B hml ?_ hP)
      rw [hmH]
      cases ht : cd.exceptionTable.toList with
      | nil => rfl
      | cons x r => exact (hno x (by rw [ht]; exact List.mem_cons_self)).elim
    | cons x0 r0 =>
      have hcd : cdW M' = Cond.codeWith (mY M') (mB M') (mL M') (mR M') (rawH (x0 :: r0)) := by unfold cdW; rw [hmH]
      refine vx_ofWH (cc := mB M') (maxL := mL M') (ret := mR M') (hh := rawH (x0 :: r0)) (ws' := lw_G) o3 (by rw [hcd]) (fun p e s m args below meth cd s₁ B hml hP => body p e s m args below meth cd s₁ B hml ?_ hP)
      rw [hmH]
      refine vx_table (x := mY M') B (bytes := mB M') (maxL' := mL M') (ret' := mR M') ?_
      rw [← hcd]
      exact atoms_spec (ws := cdW M' :: lw_G) B.pre _ List.mem_cons_self
