section SND
variable {p : Program} {l : Launch} {e : Env} {R : Room} {s : State} {m : MethodId} {args : Array Value} {below : List Frame} {meth : Method} {cd : Code} {Qw : State → Prop} {G : va_G} {E : EN} {A : Nat → Prop} {d : Nat} {M : MD} {CR : CT} {Q : Out → AH → Prop}
def Dy (G : va_G) (A : Nat → Prop) (s : State) (h : AH) (H : Heap) (locs : List Loc) : Prop := ∃ (ws : va_W) (tys : List (ClassId × FieldType)), va_P G vwCl ws H ∧ va_K G vwCl tys s ∧ va_D A ws ∧ va_S A s.heap H locs ∧ ∀ a x, h a = some x → inW ws tys a x
def PS (p : Program) (l : Launch) (e : Env) (R : Room) (s : State) (m : MethodId) (args : Array Value) (below : List Frame) (meth : Method) (cd : Code) (Qw : State → Prop) (G : va_G) (A : Nat → Prop) (M : MD) : PT := fun pc ls st h c n => ∀ (H : Heap) (locs : List Loc) (cells slots : Nat) (lsA : Array Slot), Dy G A s h H locs → Lr (mJ M) lsA (mL M) ls → cells + c ≤ R.cells → slots + n ≤ R.slots → W p l e R s m args below meth cd H locs cells slots Qw (F0 m pc lsA st)
def Cx (p : Program) (l : Launch) (R : Room) (s : State) (m : MethodId) (args : Array Value) (meth : Method) (cd : Code) (G : va_G) (E : EN) (A : Nat → Prop) (d : Nat) (M : MD) : Prop :=
  p.tables.exec = Jvm.exec ∧ cd.code = mB M ∧ cd.maxLocals = mL M ∧ s.vm.findClass (oN (mO M)) = some m.cls ∧ (∀ w ∈ lw_G, w.before args s = true) ∧ EvOK G E A s s.heap ∧ (∀ q : Nat, s.heap.size ≤ q → A q) ∧ (d ≤ R.frames ∧ 38 * d ≤ R.locals) ∧ (mI M = true → meth.name = "<init>") ∧ meth.locks = false ∧ cd.exceptionTable.toList = tableOf (rawH (mH M)) ∧
  (∀ x ∈ mH M, (0 < x.2.2.2 ∧ x.2.2.2 < 6) ∧ mO M = 7) ∧ (∀ pc X, look (mT M) pc = some X → mO M = 5 ∧ mH M = [] ∧ (0 < X ∧ X < 6) ∧ ∃ ik is ic tx wide, okT M pc X ik is ic tx wide)
theorem STr_ift {P : PT} {pc : Nat} {ls : List Value} {h : AH} {c n : Nat} {b : Prop} [Decidable b] {x : Option RES} (H : STr E CR M Q P pc ls h c n (ift b x)) : b ∧ STr E CR M Q P pc ls h c n x := by
  unfold ift at H
  by_cases hb : b
  · rw [if_pos hb] at H; exact ⟨hb, H⟩
  · rw [if_neg hb] at H; exact H.elim
theorem STr_bind {P : PT} {pc : Nat} {ls : List Value} {h : AH} {c n : Nat} {α : Type} {o : Option α} {f : α → Option RES} (H : STr E CR M Q P pc ls h c n (o.bind f)) : ∃ z, o = some z ∧ STr E CR M Q P pc ls h c n (f z) := by
  cases o with
  | none => exact H.elim
  | some z => exact ⟨z, rfl, H⟩
theorem jmp_spec {pc t : Nat} {off : Int} (h : jmp pc off = some t) : (pc : Int) + off = (t : Int) := by
  unfold jmp at h
  split at h
  · next e => cases h; exact e
  · cases h
theorem isA_rf {v : Value} (h : isA v = true) : ∃ r : Option Nat, v = va_rf r := by
  cases v with
  | ref a => exact ⟨some a, rfl⟩
  | null => exact ⟨none, rfl⟩
  | _ => cases h
theorem va_rf_eq {a b : Option Nat} : va_rf a = va_rf b ↔ a = b := by
  cases a <;> cases b <;> simp [va_rf]
theorem is1_cat {v : Value} (h : is1 v = true) : v.category = 1 := by cases v <;> first | rfl | cases h
theorem i32_nlt {x y : Int32} : ¬ x < y ↔ y ≤ x := Int32.not_lt
theorem sto_spec {P : PT} {pc : Nat} {ls : List Value} {h : AH} {c n : Nat} {l : List Nat} {k : Nat} {v : Value} {f : List Value → Option RES} (H : STr E CR M Q P pc ls h c n (sto l ls k v f)) : jp l k = false ∧ k < ls.length ∧ STr E CR M Q P pc ls h c n (f (ls.set k v)) := by
  unfold sto at H
  split at H
  · exact H.elim
  · split at H
    · exact H.elim
    · next hj =>
      obtain ⟨z, hz, H⟩ := STr_bind H
      exact ⟨hj, (List.getElem?_eq_some_iff.mp hz).1, H⟩
theorem sto2_spec {P : PT} {pc : Nat} {ls : List Value} {h : AH} {c n : Nat} {l : List Nat} {k : Nat} {v : Value} {f : List Value → Option RES} (H : STr E CR M Q P pc ls h c n (sto2 l ls k v f)) : jl l k = true ∧ jp l k = false ∧ k + 1 < ls.length ∧ STr E CR M Q P pc ls h c n (f ((ls.set k v).set (k + 1) (.retAddr 0))) := by
  unfold sto2 at H
  split at H
  · exact H.elim
  · next hl =>
    split at H
    · exact H.elim
    · next hj =>
      obtain ⟨z, hz, H⟩ := STr_bind H
      exact ⟨hl, hj, (List.getElem?_eq_some_iff.mp hz).1, H⟩
theorem sn_aload_n (C : Cx p l R s m args meth cd G E A d M) {pc : Nat} {ls st : List Value} {h : AH} {c n : Nat} {k : Fin 4} (hdg : decode (mB M) pc = .ok ((.aload_n k), 1)) (HS : STr E CR M Q (PS p l e R s m args below meth cd Qw G A M) pc ls h c n (stp TTv E d M pc ls st h (.aload_n k))) : PS p l e R s m args below meth cd Qw G A M pc ls st h c n := by
  intro H locs cells slots lsA hD hL hc hn
  obtain ⟨hx, hb, hml, hown, hts, hE, hA, hR, hini, hlk, htab, hhx, hthr⟩ := C
  simp only [stp] at HS
  obtain ⟨v, hv, HS⟩ := STr_bind HS
  obtain ⟨hb2, HS⟩ := STr_ift HS
  cases v with
  | ref x => exact lv_aload_n hx hb hdg rfl (hL.at hv (fun z => by cases z)) (HS H locs cells slots lsA hD hL hc hn)
  | null => exact lv_aload_nN hx hb hdg rfl (hL.at hv (fun z => by cases z)) (HS H locs cells slots lsA hD hL hc hn)
  | _ => cases hb2
theorem sn_aload (C : Cx p l R s m args meth cd G E A d M) {pc : Nat} {ls st : List Value} {h : AH} {c n : Nat} {k : Nat} (hdg : decode (mB M) pc = .ok ((.aload k), 2)) (HS : STr E CR M Q (PS p l e R s m args below meth cd Qw G A M) pc ls h c n (stp TTv E d M pc ls st h (.aload k))) : PS p l e R s m args below meth cd Qw G A M pc ls st h c n := by
  intro H locs cells slots lsA hD hL hc hn
  obtain ⟨hx, hb, hml, hown, hts, hE, hA, hR, hini, hlk, htab, hhx, hthr⟩ := C
  simp only [stp] at HS
  obtain ⟨v, hv, HS⟩ := STr_bind HS
  obtain ⟨hb2, HS⟩ := STr_ift HS
  cases v with
  | ref x => exact lv_aload hx hb hdg (hL.at hv (fun z => by cases z)) (HS H locs cells slots lsA hD hL hc hn)
  | null => exact lv_aloadN hx hb hdg (hL.at hv (fun z => by cases z)) (HS H locs cells slots lsA hD hL hc hn)
  | _ => cases hb2
theorem sn_iload_n (C : Cx p l R s m args meth cd G E A d M) {pc : Nat} {ls st : List Value} {h : AH} {c n : Nat} {k : Fin 4} (hdg : decode (mB M) pc = .ok ((.iload_n k), 1)) (HS : STr E CR M Q (PS p l e R s m args below meth cd Qw G A M) pc ls h c n (stp TTv E d M pc ls st h (.iload_n k))) : PS p l e R s m args below meth cd Qw G A M pc ls st h c n := by
  intro H locs cells slots lsA hD hL hc hn
  obtain ⟨hx, hb, hml, hown, hts, hE, hA, hR, hini, hlk, htab, hhx, hthr⟩ := C
  simp only [stp] at HS
  obtain ⟨v, hv, HS⟩ := STr_bind HS
  obtain ⟨hb2, HS⟩ := STr_ift HS
  cases v with
  | int x => exact lv_iload_n hx hb hdg rfl (hL.at hv (fun z => by cases z)) (HS H locs cells slots lsA hD hL hc hn)
  | _ => cases hb2
theorem sn_iload (C : Cx p l R s m args meth cd G E A d M) {pc : Nat} {ls st : List Value} {h : AH} {c n : Nat} {k : Nat} (hdg : decode (mB M) pc = .ok ((.iload k), 2)) (HS : STr E CR M Q (PS p l e R s m args below meth cd Qw G A M) pc ls h c n (stp TTv E d M pc ls st h (.iload k))) : PS p l e R s m args below meth cd Qw G A M pc ls st h c n := by
  intro H locs cells slots lsA hD hL hc hn
  obtain ⟨hx, hb, hml, hown, hts, hE, hA, hR, hini, hlk, htab, hhx, hthr⟩ := C
  simp only [stp] at HS
  obtain ⟨v, hv, HS⟩ := STr_bind HS
  obtain ⟨hb2, HS⟩ := STr_ift HS
  cases v with
  | int x => exact lv_iload hx hb hdg (hL.at hv (fun z => by cases z)) (HS H locs cells slots lsA hD hL hc hn)
  | _ => cases hb2
theorem sn_fload (C : Cx p l R s m args meth cd G E A d M) {pc : Nat} {ls st : List Value} {h : AH} {c n : Nat} {k : Nat} (hdg : decode (mB M) pc = .ok ((.fload k), 2)) (HS : STr E CR M Q (PS p l e R s m args below meth cd Qw G A M) pc ls h c n (stp TTv E d M pc ls st h (.fload k))) : PS p l e R s m args below meth cd Qw G A M pc ls st h c n := by
  intro H locs cells slots lsA hD hL hc hn
  obtain ⟨hx, hb, hml, hown, hts, hE, hA, hR, hini, hlk, htab, hhx, hthr⟩ := C
  simp only [stp] at HS
  obtain ⟨v, hv, HS⟩ := STr_bind HS
  obtain ⟨hb2, HS⟩ := STr_ift HS
  cases v with
  | float x => exact lv_fload hx hb hdg (hL.at hv (fun z => by cases z)) (HS H locs cells slots lsA hD hL hc hn)
  | _ => cases hb2
theorem sn_lload_n (C : Cx p l R s m args meth cd G E A d M) {pc : Nat} {ls st : List Value} {h : AH} {c n : Nat} {k : Fin 4} (hdg : decode (mB M) pc = .ok ((.lload_n k), 1)) (HS : STr E CR M Q (PS p l e R s m args below meth cd Qw G A M) pc ls h c n (stp TTv E d M pc ls st h (.lload_n k))) : PS p l e R s m args below meth cd Qw G A M pc ls st h c n := by
  intro H locs cells slots lsA hD hL hc hn
  obtain ⟨hx, hb, hml, hown, hts, hE, hA, hR, hini, hlk, htab, hhx, hthr⟩ := C
  simp only [stp] at HS
  obtain ⟨v, hv, HS⟩ := STr_bind HS
  obtain ⟨hb2, HS⟩ := STr_ift HS
  cases v with
  | long x => exact lv_lload_n hx hb hdg rfl (hL.at hv (fun z => by cases z)) (HS H locs cells slots lsA hD hL hc hn)
  | _ => cases hb2
theorem sn_lload (C : Cx p l R s m args meth cd G E A d M) {pc : Nat} {ls st : List Value} {h : AH} {c n : Nat} {k : Nat} (hdg : decode (mB M) pc = .ok ((.lload k), 2)) (HS : STr E CR M Q (PS p l e R s m args below meth cd Qw G A M) pc ls h c n (stp TTv E d M pc ls st h (.lload k))) : PS p l e R s m args below meth cd Qw G A M pc ls st h c n := by
  intro H locs cells slots lsA hD hL hc hn
  obtain ⟨hx, hb, hml, hown, hts, hE, hA, hR, hini, hlk, htab, hhx, hthr⟩ := C
  simp only [stp] at HS
  obtain ⟨v, hv, HS⟩ := STr_bind HS
  obtain ⟨hb2, HS⟩ := STr_ift HS
  cases v with
  | long x => exact lv_lload hx hb hdg (hL.at hv (fun z => by cases z)) (HS H locs cells slots lsA hD hL hc hn)
  | _ => cases hb2
theorem sn_istore_n (C : Cx p l R s m args meth cd G E A d M) {pc : Nat} {ls st : List Value} {h : AH} {c n : Nat} {k : Fin 4} (hdg : decode (mB M) pc = .ok ((.istore_n k), 1)) (HS : STr E CR M Q (PS p l e R s m args below meth cd Qw G A M) pc ls h c n (stp TTv E d M pc ls st h (.istore_n k))) : PS p l e R s m args below meth cd Qw G A M pc ls st h c n := by
  intro H locs cells slots lsA hD hL hc hn
  obtain ⟨hx, hb, hml, hown, hts, hE, hA, hR, hini, hlk, htab, hhx, hthr⟩ := C
  simp only [stp] at HS
  split at HS
  · obtain ⟨hjp, hk, HS⟩ := sto_spec HS
    obtain ⟨lv, h1, h2, h3⟩ := hL
    exact lv_istore_n hx hb hdg rfl h1 (by omega) rfl (fun ls' h' => HS H locs cells slots ls' hD (Lr_set hjp h2 h3 rfl h') hc hn)
  · exact False.elim HS
theorem sn_istore (C : Cx p l R s m args meth cd G E A d M) {pc : Nat} {ls st : List Value} {h : AH} {c n : Nat} {k : Nat} (hdg : decode (mB M) pc = .ok ((.istore k), 2)) (HS : STr E CR M Q (PS p l e R s m args below meth cd Qw G A M) pc ls h c n (stp TTv E d M pc ls st h (.istore k))) : PS p l e R s m args below meth cd Qw G A M pc ls st h c n := by
  intro H locs cells slots lsA hD hL hc hn
  obtain ⟨hx, hb, hml, hown, hts, hE, hA, hR, hini, hlk, htab, hhx, hthr⟩ := C
  simp only [stp] at HS
  split at HS
  · obtain ⟨hjp, hk, HS⟩ := sto_spec HS
    obtain ⟨lv, h1, h2, h3⟩ := hL
    exact lv_istore hx hb hdg h1 (by omega) rfl (fun ls' h' => HS H locs cells slots ls' hD (Lr_set hjp h2 h3 rfl h') hc hn)
  · exact False.elim HS
theorem sn_fstore (C : Cx p l R s m args meth cd G E A d M) {pc : Nat} {ls st : List Value} {h : AH} {c n : Nat} {k : Nat} (hdg : decode (mB M) pc = .ok ((.fstore k), 2)) (HS : STr E CR M Q (PS p l e R s m args below meth cd Qw G A M) pc ls h c n (stp TTv E d M pc ls st h (.fstore k))) : PS p l e R s m args below meth cd Qw G A M pc ls st h c n := by
  intro H locs cells slots lsA hD hL hc hn
  obtain ⟨hx, hb, hml, hown, hts, hE, hA, hR, hini, hlk, htab, hhx, hthr⟩ := C
  simp only [stp] at HS
  split at HS
  · obtain ⟨hjp, hk, HS⟩ := sto_spec HS
    obtain ⟨lv, h1, h2, h3⟩ := hL
    exact lv_fstore hx hb hdg h1 (by omega) rfl (fun ls' h' => HS H locs cells slots ls' hD (Lr_set hjp h2 h3 rfl h') hc hn)
  · exact False.elim HS
theorem sn_lstore_n (C : Cx p l R s m args meth cd G E A d M) {pc : Nat} {ls st : List Value} {h : AH} {c n : Nat} {k : Fin 4} (hdg : decode (mB M) pc = .ok ((.lstore_n k), 1)) (HS : STr E CR M Q (PS p l e R s m args below meth cd Qw G A M) pc ls h c n (stp TTv E d M pc ls st h (.lstore_n k))) : PS p l e R s m args below meth cd Qw G A M pc ls st h c n := by
  intro H locs cells slots lsA hD hL hc hn
  obtain ⟨hx, hb, hml, hown, hts, hE, hA, hR, hini, hlk, htab, hhx, hthr⟩ := C
  simp only [stp] at HS
  split at HS
  · obtain ⟨hjl, hjp, hk, HS⟩ := sto2_spec HS
    obtain ⟨lv, h1, h2, h3⟩ := hL
    exact lv_lstore_n hx hb hdg rfl h1 (by omega) rfl (fun ls' h' => HS H locs cells slots ls' hD (Lr_set2 hjl hjp h2 h3 h') hc hn)
  · exact False.elim HS
theorem sn_lstore (C : Cx p l R s m args meth cd G E A d M) {pc : Nat} {ls st : List Value} {h : AH} {c n : Nat} {k : Nat} (hdg : decode (mB M) pc = .ok ((.lstore k), 2)) (HS : STr E CR M Q (PS p l e R s m args below meth cd Qw G A M) pc ls h c n (stp TTv E d M pc ls st h (.lstore k))) : PS p l e R s m args below meth cd Qw G A M pc ls st h c n := by
  intro H locs cells slots lsA hD hL hc hn
  obtain ⟨hx, hb, hml, hown, hts, hE, hA, hR, hini, hlk, htab, hhx, hthr⟩ := C
  simp only [stp] at HS
  split at HS
  · obtain ⟨hjl, hjp, hk, HS⟩ := sto2_spec HS
    obtain ⟨lv, h1, h2, h3⟩ := hL
    exact lv_lstore hx hb hdg h1 (by omega) rfl (fun ls' h' => HS H locs cells slots ls' hD (Lr_set2 hjl hjp h2 h3 h') hc hn)
  · exact False.elim HS
theorem sn_astore_n (C : Cx p l R s m args meth cd G E A d M) {pc : Nat} {ls st : List Value} {h : AH} {c n : Nat} {k : Fin 4} (hdg : decode (mB M) pc = .ok ((.astore_n k), 1)) (HS : STr E CR M Q (PS p l e R s m args below meth cd Qw G A M) pc ls h c n (stp TTv E d M pc ls st h (.astore_n k))) : PS p l e R s m args below meth cd Qw G A M pc ls st h c n := by
  intro H locs cells slots lsA hD hL hc hn
  obtain ⟨hx, hb, hml, hown, hts, hE, hA, hR, hini, hlk, htab, hhx, hthr⟩ := C
  simp only [stp] at HS
  split at HS
  · next v r =>
    obtain ⟨hb2, HS⟩ := STr_ift HS
    obtain ⟨hjp, hk, HS⟩ := sto_spec HS
    obtain ⟨lv, h1, h2, h3⟩ := hL
    cases v with
    | ref x => exact lv_astore_n hx hb hdg rfl h1 (by omega) rfl (fun ls' h' => HS H locs cells slots ls' hD (Lr_set hjp h2 h3 rfl h') hc hn)
    | null => exact lv_astore_nN hx hb hdg rfl h1 (by omega) rfl (fun ls' h' => HS H locs cells slots ls' hD (Lr_set hjp h2 h3 rfl h') hc hn)
    | _ => cases hb2
  · exact False.elim HS
theorem sn_astore (C : Cx p l R s m args meth cd G E A d M) {pc : Nat} {ls st : List Value} {h : AH} {c n : Nat} {k : Nat} (hdg : decode (mB M) pc = .ok ((.astore k), 2)) (HS : STr E CR M Q (PS p l e R s m args below meth cd Qw G A M) pc ls h c n (stp TTv E d M pc ls st h (.astore k))) : PS p l e R s m args below meth cd Qw G A M pc ls st h c n := by
  intro H locs cells slots lsA hD hL hc hn
  obtain ⟨hx, hb, hml, hown, hts, hE, hA, hR, hini, hlk, htab, hhx, hthr⟩ := C
  simp only [stp] at HS
  split at HS
  · next v r =>
    obtain ⟨hb2, HS⟩ := STr_ift HS
    obtain ⟨hjp, hk, HS⟩ := sto_spec HS
    obtain ⟨lv, h1, h2, h3⟩ := hL
    cases v with
    | ref x => exact lv_astore hx hb hdg h1 (by omega) rfl (fun ls' h' => HS H locs cells slots ls' hD (Lr_set hjp h2 h3 rfl h') hc hn)
    | null => exact lv_astoreN hx hb hdg h1 (by omega) rfl (fun ls' h' => HS H locs cells slots ls' hD (Lr_set hjp h2 h3 rfl h') hc hn)
    | _ => cases hb2
  · exact False.elim HS
theorem sn_iconst (C : Cx p l R s m args meth cd G E A d M) {pc : Nat} {ls st : List Value} {h : AH} {c n : Nat} {i : Int} (hdg : decode (mB M) pc = .ok ((.iconst i), 1)) (HS : STr E CR M Q (PS p l e R s m args below meth cd Qw G A M) pc ls h c n (stp TTv E d M pc ls st h (.iconst i))) : PS p l e R s m args below meth cd Qw G A M pc ls st h c n := by
  intro H locs cells slots lsA hD hL hc hn
  obtain ⟨hx, hb, hml, hown, hts, hE, hA, hR, hini, hlk, htab, hhx, hthr⟩ := C
  simp only [stp] at HS
  exact lv_iconst hx hb hdg rfl (HS H locs cells slots lsA hD hL hc hn)
theorem sn_bipush (C : Cx p l R s m args meth cd G E A d M) {pc : Nat} {ls st : List Value} {h : AH} {c n : Nat} {i : Int} (hdg : decode (mB M) pc = .ok ((.bipush i), 2)) (HS : STr E CR M Q (PS p l e R s m args below meth cd Qw G A M) pc ls h c n (stp TTv E d M pc ls st h (.bipush i))) : PS p l e R s m args below meth cd Qw G A M pc ls st h c n := by
  intro H locs cells slots lsA hD hL hc hn
  obtain ⟨hx, hb, hml, hown, hts, hE, hA, hR, hini, hlk, htab, hhx, hthr⟩ := C
  simp only [stp] at HS
  exact lv_bipush hx hb hdg rfl (HS H locs cells slots lsA hD hL hc hn)
theorem sn_sipush (C : Cx p l R s m args meth cd G E A d M) {pc : Nat} {ls st : List Value} {h : AH} {c n : Nat} {i : Int} (hdg : decode (mB M) pc = .ok ((.sipush i), 3)) (HS : STr E CR M Q (PS p l e R s m args below meth cd Qw G A M) pc ls h c n (stp TTv E d M pc ls st h (.sipush i))) : PS p l e R s m args below meth cd Qw G A M pc ls st h c n := by
  intro H locs cells slots lsA hD hL hc hn
  obtain ⟨hx, hb, hml, hown, hts, hE, hA, hR, hini, hlk, htab, hhx, hthr⟩ := C
  simp only [stp] at HS
  exact lv_sipush hx hb hdg rfl (HS H locs cells slots lsA hD hL hc hn)
theorem sn_lconst (C : Cx p l R s m args meth cd G E A d M) {pc : Nat} {ls st : List Value} {h : AH} {c n : Nat} {k : Fin 2} (hdg : decode (mB M) pc = .ok ((.lconst k), 1)) (HS : STr E CR M Q (PS p l e R s m args below meth cd Qw G A M) pc ls h c n (stp TTv E d M pc ls st h (.lconst k))) : PS p l e R s m args below meth cd Qw G A M pc ls st h c n := by
  intro H locs cells slots lsA hD hL hc hn
  obtain ⟨hx, hb, hml, hown, hts, hE, hA, hR, hini, hlk, htab, hhx, hthr⟩ := C
  simp only [stp] at HS
  exact lv_lconst hx hb hdg rfl (HS H locs cells slots lsA hD hL hc hn)
theorem sn_fconst (C : Cx p l R s m args meth cd G E A d M) {pc : Nat} {ls st : List Value} {h : AH} {c n : Nat} {k : Fin 3} (hdg : decode (mB M) pc = .ok ((.fconst k), 1)) (HS : STr E CR M Q (PS p l e R s m args below meth cd Qw G A M) pc ls h c n (stp TTv E d M pc ls st h (.fconst k))) : PS p l e R s m args below meth cd Qw G A M pc ls st h c n := by
  intro H locs cells slots lsA hD hL hc hn
  obtain ⟨hx, hb, hml, hown, hts, hE, hA, hR, hini, hlk, htab, hhx, hthr⟩ := C
  simp only [stp] at HS
  split at HS
  · next hk =>
    have e : k = 0 := Fin.ext hk
    subst e
    exact lv_fconst0 hx hb hdg (HS H locs cells slots lsA hD hL hc hn)
  · exact False.elim HS
theorem sn_aconst_null (C : Cx p l R s m args meth cd G E A d M) {pc : Nat} {ls st : List Value} {h : AH} {c n : Nat} (hdg : decode (mB M) pc = .ok (.aconst_null, 1)) (HS : STr E CR M Q (PS p l e R s m args below meth cd Qw G A M) pc ls h c n (stp TTv E d M pc ls st h .aconst_null)) : PS p l e R s m args below meth cd Qw G A M pc ls st h c n := by
  intro H locs cells slots lsA hD hL hc hn
  obtain ⟨hx, hb, hml, hown, hts, hE, hA, hR, hini, hlk, htab, hhx, hthr⟩ := C
  simp only [stp] at HS
  exact lv_null hx hb hdg (HS H locs cells slots lsA hD hL hc hn)
theorem sn_iadd (C : Cx p l R s m args meth cd G E A d M) {pc : Nat} {ls st : List Value} {h : AH} {c n : Nat} (hdg : decode (mB M) pc = .ok (.iadd, 1)) (HS : STr E CR M Q (PS p l e R s m args below meth cd Qw G A M) pc ls h c n (stp TTv E d M pc ls st h .iadd)) : PS p l e R s m args below meth cd Qw G A M pc ls st h c n := by
  intro H locs cells slots lsA hD hL hc hn
  obtain ⟨hx, hb, hml, hown, hts, hE, hA, hR, hini, hlk, htab, hhx, hthr⟩ := C
  simp only [stp] at HS
  split at HS
  · exact lv_iadd hx hb hdg (HS H locs cells slots lsA hD hL hc hn)
  · exact False.elim HS
theorem sn_isub (C : Cx p l R s m args meth cd G E A d M) {pc : Nat} {ls st : List Value} {h : AH} {c n : Nat} (hdg : decode (mB M) pc = .ok (.isub, 1)) (HS : STr E CR M Q (PS p l e R s m args below meth cd Qw G A M) pc ls h c n (stp TTv E d M pc ls st h .isub)) : PS p l e R s m args below meth cd Qw G A M pc ls st h c n := by
  intro H locs cells slots lsA hD hL hc hn
  obtain ⟨hx, hb, hml, hown, hts, hE, hA, hR, hini, hlk, htab, hhx, hthr⟩ := C
  simp only [stp] at HS
  split at HS
  · exact lv_isub hx hb hdg (HS H locs cells slots lsA hD hL hc hn)
  · exact False.elim HS
theorem sn_imul (C : Cx p l R s m args meth cd G E A d M) {pc : Nat} {ls st : List Value} {h : AH} {c n : Nat} (hdg : decode (mB M) pc = .ok (.imul, 1)) (HS : STr E CR M Q (PS p l e R s m args below meth cd Qw G A M) pc ls h c n (stp TTv E d M pc ls st h .imul)) : PS p l e R s m args below meth cd Qw G A M pc ls st h c n := by
  intro H locs cells slots lsA hD hL hc hn
  obtain ⟨hx, hb, hml, hown, hts, hE, hA, hR, hini, hlk, htab, hhx, hthr⟩ := C
  simp only [stp] at HS
  split at HS
  · exact lv_imul hx hb hdg (HS H locs cells slots lsA hD hL hc hn)
  · exact False.elim HS
theorem sn_iand (C : Cx p l R s m args meth cd G E A d M) {pc : Nat} {ls st : List Value} {h : AH} {c n : Nat} (hdg : decode (mB M) pc = .ok (.iand, 1)) (HS : STr E CR M Q (PS p l e R s m args below meth cd Qw G A M) pc ls h c n (stp TTv E d M pc ls st h .iand)) : PS p l e R s m args below meth cd Qw G A M pc ls st h c n := by
  intro H locs cells slots lsA hD hL hc hn
  obtain ⟨hx, hb, hml, hown, hts, hE, hA, hR, hini, hlk, htab, hhx, hthr⟩ := C
  simp only [stp] at HS
  split at HS
  · exact lv_iand hx hb hdg (HS H locs cells slots lsA hD hL hc hn)
  · exact False.elim HS
theorem sn_ior (C : Cx p l R s m args meth cd G E A d M) {pc : Nat} {ls st : List Value} {h : AH} {c n : Nat} (hdg : decode (mB M) pc = .ok (.ior, 1)) (HS : STr E CR M Q (PS p l e R s m args below meth cd Qw G A M) pc ls h c n (stp TTv E d M pc ls st h .ior)) : PS p l e R s m args below meth cd Qw G A M pc ls st h c n := by
  intro H locs cells slots lsA hD hL hc hn
  obtain ⟨hx, hb, hml, hown, hts, hE, hA, hR, hini, hlk, htab, hhx, hthr⟩ := C
  simp only [stp] at HS
  split at HS
  · exact lv_ior hx hb hdg (HS H locs cells slots lsA hD hL hc hn)
  · exact False.elim HS
theorem sn_ishl (C : Cx p l R s m args meth cd G E A d M) {pc : Nat} {ls st : List Value} {h : AH} {c n : Nat} (hdg : decode (mB M) pc = .ok (.ishl, 1)) (HS : STr E CR M Q (PS p l e R s m args below meth cd Qw G A M) pc ls h c n (stp TTv E d M pc ls st h .ishl)) : PS p l e R s m args below meth cd Qw G A M pc ls st h c n := by
  intro H locs cells slots lsA hD hL hc hn
  obtain ⟨hx, hb, hml, hown, hts, hE, hA, hR, hini, hlk, htab, hhx, hthr⟩ := C
  simp only [stp] at HS
  split at HS
  · exact lv_ishl hx hb hdg (HS H locs cells slots lsA hD hL hc hn)
  · exact False.elim HS
theorem sn_ishr (C : Cx p l R s m args meth cd G E A d M) {pc : Nat} {ls st : List Value} {h : AH} {c n : Nat} (hdg : decode (mB M) pc = .ok (.ishr, 1)) (HS : STr E CR M Q (PS p l e R s m args below meth cd Qw G A M) pc ls h c n (stp TTv E d M pc ls st h .ishr)) : PS p l e R s m args below meth cd Qw G A M pc ls st h c n := by
  intro H locs cells slots lsA hD hL hc hn
  obtain ⟨hx, hb, hml, hown, hts, hE, hA, hR, hini, hlk, htab, hhx, hthr⟩ := C
  simp only [stp] at HS
  split at HS
  · exact lv_ishr hx hb hdg (HS H locs cells slots lsA hD hL hc hn)
  · exact False.elim HS
theorem sn_ladd (C : Cx p l R s m args meth cd G E A d M) {pc : Nat} {ls st : List Value} {h : AH} {c n : Nat} (hdg : decode (mB M) pc = .ok (.ladd, 1)) (HS : STr E CR M Q (PS p l e R s m args below meth cd Qw G A M) pc ls h c n (stp TTv E d M pc ls st h .ladd)) : PS p l e R s m args below meth cd Qw G A M pc ls st h c n := by
  intro H locs cells slots lsA hD hL hc hn
  obtain ⟨hx, hb, hml, hown, hts, hE, hA, hR, hini, hlk, htab, hhx, hthr⟩ := C
  simp only [stp] at HS
  split at HS
  · exact lv_ladd hx hb hdg (HS H locs cells slots lsA hD hL hc hn)
  · exact False.elim HS
theorem sn_lcmp (C : Cx p l R s m args meth cd G E A d M) {pc : Nat} {ls st : List Value} {h : AH} {c n : Nat} (hdg : decode (mB M) pc = .ok (.lcmp, 1)) (HS : STr E CR M Q (PS p l e R s m args below meth cd Qw G A M) pc ls h c n (stp TTv E d M pc ls st h .lcmp)) : PS p l e R s m args below meth cd Qw G A M pc ls st h c n := by
  intro H locs cells slots lsA hD hL hc hn
  obtain ⟨hx, hb, hml, hown, hts, hE, hA, hR, hini, hlk, htab, hhx, hthr⟩ := C
  simp only [stp] at HS
  split at HS
  · exact W.lcmp hx hb hdg (HS H locs cells slots lsA hD hL hc hn)
  · exact False.elim HS
theorem sn_irem (C : Cx p l R s m args meth cd G E A d M) {pc : Nat} {ls st : List Value} {h : AH} {c n : Nat} (hdg : decode (mB M) pc = .ok (.irem, 1)) (HS : STr E CR M Q (PS p l e R s m args below meth cd Qw G A M) pc ls h c n (stp TTv E d M pc ls st h .irem)) : PS p l e R s m args below meth cd Qw G A M pc ls st h c n := by
  intro H locs cells slots lsA hD hL hc hn
  obtain ⟨hx, hb, hml, hown, hts, hE, hA, hR, hini, hlk, htab, hhx, hthr⟩ := C
  simp only [stp] at HS
  split at HS
  · obtain ⟨hb2, HS⟩ := STr_ift HS
    exact lv_irem hx hb hdg hb2 (HS H locs cells slots lsA hD hL hc hn)
  · exact False.elim HS
theorem sn_iushr (C : Cx p l R s m args meth cd G E A d M) {pc : Nat} {ls st : List Value} {h : AH} {c n : Nat} (hdg : decode (mB M) pc = .ok (.iushr, 1)) (HS : STr E CR M Q (PS p l e R s m args below meth cd Qw G A M) pc ls h c n (stp TTv E d M pc ls st h .iushr)) : PS p l e R s m args below meth cd Qw G A M pc ls st h c n := by
  intro H locs cells slots lsA hD hL hc hn
  obtain ⟨hx, hb, hml, hown, hts, hE, hA, hR, hini, hlk, htab, hhx, hthr⟩ := C
  simp only [stp] at HS
  split at HS
  · exact lv_iushr hx hb hdg rfl (HS H locs cells slots lsA hD hL hc hn)
  · exact False.elim HS
theorem sn_lmul (C : Cx p l R s m args meth cd G E A d M) {pc : Nat} {ls st : List Value} {h : AH} {c n : Nat} (hdg : decode (mB M) pc = .ok (.lmul, 1)) (HS : STr E CR M Q (PS p l e R s m args below meth cd Qw G A M) pc ls h c n (stp TTv E d M pc ls st h .lmul)) : PS p l e R s m args below meth cd Qw G A M pc ls st h c n := by
  intro H locs cells slots lsA hD hL hc hn
  obtain ⟨hx, hb, hml, hown, hts, hE, hA, hR, hini, hlk, htab, hhx, hthr⟩ := C
  simp only [stp] at HS
  split at HS
  · exact lv_lmul hx hb hdg (HS H locs cells slots lsA hD hL hc hn)
  · exact False.elim HS
theorem sn_i2l (C : Cx p l R s m args meth cd G E A d M) {pc : Nat} {ls st : List Value} {h : AH} {c n : Nat} (hdg : decode (mB M) pc = .ok (.i2l, 1)) (HS : STr E CR M Q (PS p l e R s m args below meth cd Qw G A M) pc ls h c n (stp TTv E d M pc ls st h .i2l)) : PS p l e R s m args below meth cd Qw G A M pc ls st h c n := by
  intro H locs cells slots lsA hD hL hc hn
  obtain ⟨hx, hb, hml, hown, hts, hE, hA, hR, hini, hlk, htab, hhx, hthr⟩ := C
  simp only [stp] at HS
  split at HS
  · exact lv_i2l hx hb hdg rfl (HS H locs cells slots lsA hD hL hc hn)
  · exact False.elim HS
theorem sn_i2c (C : Cx p l R s m args meth cd G E A d M) {pc : Nat} {ls st : List Value} {h : AH} {c n : Nat} (hdg : decode (mB M) pc = .ok (.i2c, 1)) (HS : STr E CR M Q (PS p l e R s m args below meth cd Qw G A M) pc ls h c n (stp TTv E d M pc ls st h .i2c)) : PS p l e R s m args below meth cd Qw G A M pc ls st h c n := by
  intro H locs cells slots lsA hD hL hc hn
  obtain ⟨hx, hb, hml, hown, hts, hE, hA, hR, hini, hlk, htab, hhx, hthr⟩ := C
  simp only [stp] at HS
  split at HS
  · exact lv_i2c hx hb hdg rfl (HS H locs cells slots lsA hD hL hc hn)
  · exact False.elim HS
theorem sn_i2f (C : Cx p l R s m args meth cd G E A d M) {pc : Nat} {ls st : List Value} {h : AH} {c n : Nat} (hdg : decode (mB M) pc = .ok (.i2f, 1)) (HS : STr E CR M Q (PS p l e R s m args below meth cd Qw G A M) pc ls h c n (stp TTv E d M pc ls st h .i2f)) : PS p l e R s m args below meth cd Qw G A M pc ls st h c n := by
  intro H locs cells slots lsA hD hL hc hn
  obtain ⟨hx, hb, hml, hown, hts, hE, hA, hR, hini, hlk, htab, hhx, hthr⟩ := C
  simp only [stp] at HS
  split at HS
  · exact lv_i2f hx hb hdg (HS H locs cells slots lsA hD hL hc hn)
  · exact False.elim HS
theorem sn_f2d (C : Cx p l R s m args meth cd G E A d M) {pc : Nat} {ls st : List Value} {h : AH} {c n : Nat} (hdg : decode (mB M) pc = .ok (.f2d, 1)) (HS : STr E CR M Q (PS p l e R s m args below meth cd Qw G A M) pc ls h c n (stp TTv E d M pc ls st h .f2d)) : PS p l e R s m args below meth cd Qw G A M pc ls st h c n := by
  intro H locs cells slots lsA hD hL hc hn
  obtain ⟨hx, hb, hml, hown, hts, hE, hA, hR, hini, hlk, htab, hhx, hthr⟩ := C
  simp only [stp] at HS
  split at HS
  · obtain ⟨hb2, HS⟩ := STr_ift HS
    exact lv_f2d hx hb hdg hb2 (HS H locs cells slots lsA hD hL hc hn)
  · exact False.elim HS
theorem sn_fdiv (C : Cx p l R s m args meth cd G E A d M) {pc : Nat} {ls st : List Value} {h : AH} {c n : Nat} (hdg : decode (mB M) pc = .ok (.fdiv, 1)) (HS : STr E CR M Q (PS p l e R s m args below meth cd Qw G A M) pc ls h c n (stp TTv E d M pc ls st h .fdiv)) : PS p l e R s m args below meth cd Qw G A M pc ls st h c n := by
  intro H locs cells slots lsA hD hL hc hn
  obtain ⟨hx, hb, hml, hown, hts, hE, hA, hR, hini, hlk, htab, hhx, hthr⟩ := C
  simp only [stp] at HS
  split at HS
  · obtain ⟨hb2, HS⟩ := STr_ift HS
    exact lv_fdiv hx hb hdg hb2 (HS H locs cells slots lsA hD hL hc hn)
  · exact False.elim HS
theorem sn_fcmp (C : Cx p l R s m args meth cd G E A d M) {pc : Nat} {ls st : List Value} {h : AH} {c n : Nat} {o : CmpOp} (hdg : decode (mB M) pc = .ok ((.fcmp o), 1)) (HS : STr E CR M Q (PS p l e R s m args below meth cd Qw G A M) pc ls h c n (stp TTv E d M pc ls st h (.fcmp o))) : PS p l e R s m args below meth cd Qw G A M pc ls st h c n := by
  intro H locs cells slots lsA hD hL hc hn
  obtain ⟨hx, hb, hml, hown, hts, hE, hA, hR, hini, hlk, htab, hhx, hthr⟩ := C
  simp only [stp] at HS
  split at HS
  · exact lv_fcmp hx hb hdg (HS H locs cells slots lsA hD hL hc hn)
  · exact False.elim HS
theorem sn_dcmp (C : Cx p l R s m args meth cd G E A d M) {pc : Nat} {ls st : List Value} {h : AH} {c n : Nat} {o : CmpOp} (hdg : decode (mB M) pc = .ok ((.dcmp o), 1)) (HS : STr E CR M Q (PS p l e R s m args below meth cd Qw G A M) pc ls h c n (stp TTv E d M pc ls st h (.dcmp o))) : PS p l e R s m args below meth cd Qw G A M pc ls st h c n := by
  intro H locs cells slots lsA hD hL hc hn
  obtain ⟨hx, hb, hml, hown, hts, hE, hA, hR, hini, hlk, htab, hhx, hthr⟩ := C
  simp only [stp] at HS
  split at HS
  · exact lv_dcmp hx hb hdg (HS H locs cells slots lsA hD hL hc hn)
  · exact False.elim HS
theorem sn_ifCond (C : Cx p l R s m args meth cd G E A d M) {pc : Nat} {ls st : List Value} {h : AH} {c n : Nat} {cc : Jvm.ClassFile.Cond} {off : Int} (hdg : decode (mB M) pc = .ok ((.ifCond cc off), 3)) (HS : STr E CR M Q (PS p l e R s m args below meth cd Qw G A M) pc ls h c n (stp TTv E d M pc ls st h (.ifCond cc off))) : PS p l e R s m args below meth cd Qw G A M pc ls st h c n := by
  intro H locs cells slots lsA hD hL hc hn
  obtain ⟨hx, hb, hml, hown, hts, hE, hA, hR, hini, hlk, htab, hhx, hthr⟩ := C
  simp only [stp] at HS
  split at HS
  · next x r =>
    obtain ⟨t, ht, HS⟩ := STr_bind HS
    cases cc with
    | eq => exact lv_if_eq hx hb hdg (jmp_spec ht) (fun z => by dsimp only [brI] at HS; rw [if_pos z] at HS; exact HS H locs cells slots lsA hD hL hc hn) (fun z => by dsimp only [brI] at HS; rw [if_neg z] at HS; exact HS H locs cells slots lsA hD hL hc hn)
    | ne => exact lv_if_ne hx hb hdg (jmp_spec ht) (fun z => by dsimp only [brI] at HS; rw [if_neg z] at HS; exact HS H locs cells slots lsA hD hL hc hn) (fun z => by dsimp only [brI] at HS; rw [if_pos z] at HS; exact HS H locs cells slots lsA hD hL hc hn)
    | lt => exact lv_if_lt hx hb hdg (jmp_spec ht) (fun z => by dsimp only [brI] at HS; rw [if_pos z] at HS; exact HS H locs cells slots lsA hD hL hc hn) (fun z => by dsimp only [brI] at HS; rw [if_neg z] at HS; exact HS H locs cells slots lsA hD hL hc hn)
    | ge => exact lv_if_ge hx hb hdg (jmp_spec ht) (fun z => by dsimp only [brI] at HS; rw [if_neg (i32_nlt.mpr z)] at HS; exact HS H locs cells slots lsA hD hL hc hn) (fun z => by dsimp only [brI] at HS; rw [if_pos (by rcases Classical.em (x < 0) with q | q; exact q; exact absurd (i32_nlt.mp q) z)] at HS; exact HS H locs cells slots lsA hD hL hc hn)
    | gt => exact lv_if_gt hx hb hdg (jmp_spec ht) (fun z => by dsimp only [brI] at HS; rw [if_pos z] at HS; exact HS H locs cells slots lsA hD hL hc hn) (fun z => by dsimp only [brI] at HS; rw [if_neg z] at HS; exact HS H locs cells slots lsA hD hL hc hn)
    | le => exact lv_if_le hx hb hdg (jmp_spec ht) (fun z => by dsimp only [brI] at HS; rw [if_neg (i32_nlt.mpr z)] at HS; exact HS H locs cells slots lsA hD hL hc hn) (fun z => by dsimp only [brI] at HS; rw [if_pos (by rcases Classical.em (0 < x) with q | q; exact q; exact absurd (i32_nlt.mp q) z)] at HS; exact HS H locs cells slots lsA hD hL hc hn)
  · exact False.elim HS
theorem sn_if_icmp (C : Cx p l R s m args meth cd G E A d M) {pc : Nat} {ls st : List Value} {h : AH} {c n : Nat} {cc : Jvm.ClassFile.Cond} {off : Int} (hdg : decode (mB M) pc = .ok ((.if_icmp cc off), 3)) (HS : STr E CR M Q (PS p l e R s m args below meth cd Qw G A M) pc ls h c n (stp TTv E d M pc ls st h (.if_icmp cc off))) : PS p l e R s m args below meth cd Qw G A M pc ls st h c n := by
  intro H locs cells slots lsA hD hL hc hn
  obtain ⟨hx, hb, hml, hown, hts, hE, hA, hR, hini, hlk, htab, hhx, hthr⟩ := C
  simp only [stp] at HS
  split at HS
  · next y x r =>
    obtain ⟨t, ht, HS⟩ := STr_bind HS
    cases cc with
    | eq => exact lv_icmp_eq hx hb hdg (jmp_spec ht) (fun z => by dsimp only [brI] at HS; rw [if_pos z] at HS; exact HS H locs cells slots lsA hD hL hc hn) (fun z => by dsimp only [brI] at HS; rw [if_neg z] at HS; exact HS H locs cells slots lsA hD hL hc hn)
    | ne => exact lv_icmp_ne hx hb hdg (jmp_spec ht) (fun z => by dsimp only [brI] at HS; rw [if_neg z] at HS; exact HS H locs cells slots lsA hD hL hc hn) (fun z => by dsimp only [brI] at HS; rw [if_pos z] at HS; exact HS H locs cells slots lsA hD hL hc hn)
    | lt => exact lv_icmp_lt hx hb hdg (jmp_spec ht) (fun z => by dsimp only [brI] at HS; rw [if_pos z] at HS; exact HS H locs cells slots lsA hD hL hc hn) (fun z => by dsimp only [brI] at HS; rw [if_neg z] at HS; exact HS H locs cells slots lsA hD hL hc hn)
    | ge => exact lv_icmp_ge hx hb hdg (jmp_spec ht) (fun z => by dsimp only [brI] at HS; rw [if_neg (i32_nlt.mpr z)] at HS; exact HS H locs cells slots lsA hD hL hc hn) (fun z => by dsimp only [brI] at HS; rw [if_pos (by rcases Classical.em (x < y) with q | q; exact q; exact absurd (i32_nlt.mp q) z)] at HS; exact HS H locs cells slots lsA hD hL hc hn)
    | gt => exact lv_icmp_gt hx hb hdg (jmp_spec ht) (fun z => by dsimp only [brI] at HS; rw [if_pos z] at HS; exact HS H locs cells slots lsA hD hL hc hn) (fun z => by dsimp only [brI] at HS; rw [if_neg z] at HS; exact HS H locs cells slots lsA hD hL hc hn)
    | le => exact lv_icmp_le hx hb hdg (jmp_spec ht) (fun z => by dsimp only [brI] at HS; rw [if_neg (i32_nlt.mpr z)] at HS; exact HS H locs cells slots lsA hD hL hc hn) (fun z => by dsimp only [brI] at HS; rw [if_pos (by rcases Classical.em (y < x) with q | q; exact q; exact absurd (i32_nlt.mp q) z)] at HS; exact HS H locs cells slots lsA hD hL hc hn)
  · exact False.elim HS
theorem sn_if_acmp (C : Cx p l R s m args meth cd G E A d M) {pc : Nat} {ls st : List Value} {h : AH} {c n : Nat} {cc : ACond} {off : Int} (hdg : decode (mB M) pc = .ok ((.if_acmp cc off), 3)) (HS : STr E CR M Q (PS p l e R s m args below meth cd Qw G A M) pc ls h c n (stp TTv E d M pc ls st h (.if_acmp cc off))) : PS p l e R s m args below meth cd Qw G A M pc ls st h c n := by
  intro H locs cells slots lsA hD hL hc hn
  obtain ⟨hx, hb, hml, hown, hts, hE, hA, hR, hini, hlk, htab, hhx, hthr⟩ := C
  simp only [stp] at HS
  split at HS
  · next w v r =>
    obtain ⟨⟨h1, h2⟩, HS⟩ := STr_ift HS
    obtain ⟨t, ht, HS⟩ := STr_bind HS
    obtain ⟨rv, rfl⟩ := isA_rf h1
    obtain ⟨rw_, rfl⟩ := isA_rf h2
    cases cc with
    | eq => exact lv_acmp_eq hx hb hdg (jmp_spec ht) (fun z => by dsimp only [brA] at HS; rw [if_pos (va_rf_eq.mpr z)] at HS; exact HS H locs cells slots lsA hD hL hc hn) (fun z => by dsimp only [brA] at HS; rw [if_neg (fun q => z (va_rf_eq.mp q))] at HS; exact HS H locs cells slots lsA hD hL hc hn)
    | ne => exact lv_acmp_ne hx hb hdg (jmp_spec ht) (fun z => by dsimp only [brA] at HS; rw [if_neg (fun q => z (va_rf_eq.mp q))] at HS; exact HS H locs cells slots lsA hD hL hc hn) (fun z => by dsimp only [brA] at HS; rw [if_pos (va_rf_eq.mpr z)] at HS; exact HS H locs cells slots lsA hD hL hc hn)
  · exact False.elim HS
theorem sn_ifnull (C : Cx p l R s m args meth cd G E A d M) {pc : Nat} {ls st : List Value} {h : AH} {c n : Nat} {off : Int} (hdg : decode (mB M) pc = .ok ((.ifnull off), 3)) (HS : STr E CR M Q (PS p l e R s m args below meth cd Qw G A M) pc ls h c n (stp TTv E d M pc ls st h (.ifnull off))) : PS p l e R s m args below meth cd Qw G A M pc ls st h c n := by
  intro H locs cells slots lsA hD hL hc hn
  obtain ⟨hx, hb, hml, hown, hts, hE, hA, hR, hini, hlk, htab, hhx, hthr⟩ := C
  simp only [stp] at HS
  split at HS
  · next v r =>
    obtain ⟨h1, HS⟩ := STr_ift HS
    obtain ⟨t, ht, HS⟩ := STr_bind HS
    dsimp only [brA] at HS
    cases v with
    | ref a => rw [if_neg (fun z => by cases z)] at HS; exact lv_ifnull hx hb hdg (HS H locs cells slots lsA hD hL hc hn)
    | null => rw [if_pos rfl] at HS; exact lv_ifnullN hx hb hdg (jmp_spec ht) (HS H locs cells slots lsA hD hL hc hn)
    | _ => cases h1
  · exact False.elim HS
theorem sn_ifnonnull (C : Cx p l R s m args meth cd G E A d M) {pc : Nat} {ls st : List Value} {h : AH} {c n : Nat} {off : Int} (hdg : decode (mB M) pc = .ok ((.ifnonnull off), 3)) (HS : STr E CR M Q (PS p l e R s m args below meth cd Qw G A M) pc ls h c n (stp TTv E d M pc ls st h (.ifnonnull off))) : PS p l e R s m args below meth cd Qw G A M pc ls st h c n := by
  intro H locs cells slots lsA hD hL hc hn
  obtain ⟨hx, hb, hml, hown, hts, hE, hA, hR, hini, hlk, htab, hhx, hthr⟩ := C
  simp only [stp] at HS
  split at HS
  · next v r =>
    obtain ⟨h1, HS⟩ := STr_ift HS
    obtain ⟨t, ht, HS⟩ := STr_bind HS
    dsimp only [brA] at HS
    cases v with
    | ref a => rw [if_neg (fun z => by cases z)] at HS; exact lv_ifnonnull hx hb hdg (jmp_spec ht) (HS H locs cells slots lsA hD hL hc hn)
    | null => rw [if_pos rfl] at HS; exact lv_ifnonnullN hx hb hdg (HS H locs cells slots lsA hD hL hc hn)
    | _ => cases h1
  · exact False.elim HS
theorem sn_goto (C : Cx p l R s m args meth cd G E A d M) {pc : Nat} {ls st : List Value} {h : AH} {c n : Nat} {off : Int} (hdg : decode (mB M) pc = .ok ((.goto off), 3)) (HS : STr E CR M Q (PS p l e R s m args below meth cd Qw G A M) pc ls h c n (stp TTv E d M pc ls st h (.goto off))) : PS p l e R s m args below meth cd Qw G A M pc ls st h c n := by
  intro H locs cells slots lsA hD hL hc hn
  obtain ⟨hx, hb, hml, hown, hts, hE, hA, hR, hini, hlk, htab, hhx, hthr⟩ := C
  simp only [stp] at HS
  obtain ⟨t, ht, HS⟩ := STr_bind HS
  exact lv_goto hx hb hdg (jmp_spec ht) (HS H locs cells slots lsA hD hL hc hn)
theorem sn_tableswitch (C : Cx p l R s m args meth cd G E A d M) {pc : Nat} {ls st : List Value} {h : AH} {c n : Nat} {df lo hi : Int} {offs : Array Int} {len : Nat} (hdg : decode (mB M) pc = .ok ((.tableswitch df lo hi offs), len)) (HS : STr E CR M Q (PS p l e R s m args below meth cd Qw G A M) pc ls h c n (stp TTv E d M pc ls st h (.tableswitch df lo hi offs))) : PS p l e R s m args below meth cd Qw G A M pc ls st h c n := by
  intro H locs cells slots lsA hD hL hc hn
  obtain ⟨hx, hb, hml, hown, hts, hE, hA, hR, hini, hlk, htab, hhx, hthr⟩ := C
  simp only [stp] at HS
  split at HS
  · next x r =>
    obtain ⟨t, ht, HS⟩ := STr_bind HS
    by_cases hz : x.toInt < lo ∨ hi < x.toInt
    · rw [if_pos hz] at ht
      exact lv_tableOut hx hb hdg hz (jmp_spec ht) (HS H locs cells slots lsA hD hL hc hn)
    · rw [if_neg hz] at ht
      cases ho : offs[(x.toInt - lo).toNat]? with
      | none => rw [ho] at ht; cases ht
      | some o =>
        rw [ho] at ht
        exact lv_tableIn hx hb hdg (fun z => hz (Or.inl z)) (fun z => hz (Or.inr z)) ho (jmp_spec ht) (HS H locs cells slots lsA hD hL hc hn)
  · exact False.elim HS
theorem sn_iinc (C : Cx p l R s m args meth cd G E A d M) {pc : Nat} {ls st : List Value} {h : AH} {c n : Nat} {k : Nat} {i : Int} (hdg : decode (mB M) pc = .ok ((.iinc k i), 3)) (HS : STr E CR M Q (PS p l e R s m args below meth cd Qw G A M) pc ls h c n (stp TTv E d M pc ls st h (.iinc k i))) : PS p l e R s m args below meth cd Qw G A M pc ls st h c n := by
  intro H locs cells slots lsA hD hL hc hn
  obtain ⟨hx, hb, hml, hown, hts, hE, hA, hR, hini, hlk, htab, hhx, hthr⟩ := C
  simp only [stp] at HS
  split at HS
  · next x hk0 =>
    obtain ⟨hjp, hk, HS⟩ := sto_spec HS
    obtain ⟨lv, h1, h2, h3⟩ := hL
    obtain ⟨j, hj⟩ := List.getElem?_of_mem (h3 k (.int x) hk0 (fun z => by cases z)).2
    exact lv_iinc hx hb hdg h1 (k := j) hj rfl (by omega) rfl (fun ls' h' => HS H locs cells slots ls' hD (Lr_set hjp h2 h3 rfl h') hc hn)
  · exact False.elim HS
theorem sn_dup (C : Cx p l R s m args meth cd G E A d M) {pc : Nat} {ls st : List Value} {h : AH} {c n : Nat} (hdg : decode (mB M) pc = .ok (.dup, 1)) (HS : STr E CR M Q (PS p l e R s m args below meth cd Qw G A M) pc ls h c n (stp TTv E d M pc ls st h .dup)) : PS p l e R s m args below meth cd Qw G A M pc ls st h c n := by
  intro H locs cells slots lsA hD hL hc hn
  obtain ⟨hx, hb, hml, hown, hts, hE, hA, hR, hini, hlk, htab, hhx, hthr⟩ := C
  simp only [stp] at HS
  split at HS
  · obtain ⟨hb2, HS⟩ := STr_ift HS
    exact lv_dup hx hb hdg (is1_cat hb2) (HS H locs cells slots lsA hD hL hc hn)
  · exact False.elim HS
theorem sn_dup_x1 (C : Cx p l R s m args meth cd G E A d M) {pc : Nat} {ls st : List Value} {h : AH} {c n : Nat} (hdg : decode (mB M) pc = .ok (.dup_x1, 1)) (HS : STr E CR M Q (PS p l e R s m args below meth cd Qw G A M) pc ls h c n (stp TTv E d M pc ls st h .dup_x1)) : PS p l e R s m args below meth cd Qw G A M pc ls st h c n := by
  intro H locs cells slots lsA hD hL hc hn
  obtain ⟨hx, hb, hml, hown, hts, hE, hA, hR, hini, hlk, htab, hhx, hthr⟩ := C
  simp only [stp] at HS
  split at HS
  · obtain ⟨hb2, HS⟩ := STr_ift HS
    exact lv_dup_x1 hx hb hdg (is1_cat hb2.1) (is1_cat hb2.2) (HS H locs cells slots lsA hD hL hc hn)
  · exact False.elim HS
theorem sn_dup2 (C : Cx p l R s m args meth cd G E A d M) {pc : Nat} {ls st : List Value} {h : AH} {c n : Nat} (hdg : decode (mB M) pc = .ok (.dup2, 1)) (HS : STr E CR M Q (PS p l e R s m args below meth cd Qw G A M) pc ls h c n (stp TTv E d M pc ls st h .dup2)) : PS p l e R s m args below meth cd Qw G A M pc ls st h c n := by
  intro H locs cells slots lsA hD hL hc hn
  obtain ⟨hx, hb, hml, hown, hts, hE, hA, hR, hini, hlk, htab, hhx, hthr⟩ := C
  simp only [stp] at HS
  split at HS
  · obtain ⟨hb2, HS⟩ := STr_ift HS
    exact lv_dup2_11 hx hb hdg (is1_cat hb2.1) (is1_cat hb2.2) (HS H locs cells slots lsA hD hL hc hn)
  · exact False.elim HS
theorem sn_pop (C : Cx p l R s m args meth cd G E A d M) {pc : Nat} {ls st : List Value} {h : AH} {c n : Nat} (hdg : decode (mB M) pc = .ok (.pop, 1)) (HS : STr E CR M Q (PS p l e R s m args below meth cd Qw G A M) pc ls h c n (stp TTv E d M pc ls st h .pop)) : PS p l e R s m args below meth cd Qw G A M pc ls st h c n := by
  intro H locs cells slots lsA hD hL hc hn
  obtain ⟨hx, hb, hml, hown, hts, hE, hA, hR, hini, hlk, htab, hhx, hthr⟩ := C
  simp only [stp] at HS
  split at HS
  · obtain ⟨hb2, HS⟩ := STr_ift HS
    exact lv_pop hx hb hdg (is1_cat hb2) (HS H locs cells slots lsA hD hL hc hn)
  · exact False.elim HS
theorem ob_spec {h : AH} {a ci : Nat} {fs : List Value} (H : ob h a ci = some fs) : h a = some (.inr (ci, fs)) := by
  unfold ob at H
  split at H
  · next cj gs e =>
    split at H
    · next e2 => cases H; rw [e, e2]
    · cases H
  · cases H
theorem sm_of {o : Nat} {q : Nat × Nat} {ref : String} (hown : s.vm.findClass (oN o) = some m.cls) (hts : ∀ w ∈ lw_G, w.before args s = true) (hr : ref = (TC q.1 q.2).1 ∨ Cond.sameField ref (TC q.1 q.2).1 (TC q.1 q.2).2.1 (TC q.1 q.2).2.2.1 ∈ lw_G) : ∀ x, s.fieldFound? (TC q.1 q.2).1 (TC q.1 q.2).2.1 (TC q.1 q.2).2.2.1 = some x → s.fieldFound? ref (TC q.1 q.2).2.1 (TC q.1 q.2).2.2.1 = some x := by
  rcases hr with rfl | hr
  · exact fun x h => h
  · exact fun x h => u_same (hts _ hr) x h
theorem okF_spec {t : FieldType} {v : Value} (h : okF t v = true) : narrow t v = v ∧ fits t v = true := by
  have k01 : ∀ x : Int32, (x == 0 || x == 1) = true → x &&& 1 = x := by
    intro x hx
    rcases (by simpa using hx : x = 0 ∨ x = 1) with rfl | rfl <;> rfl
  cases t with
  | boolean =>
    cases v with
    | int x => exact ⟨by show Value.int (x &&& 1) = _; rw [k01 x h], h⟩
    | _ => cases h
  | char =>
    cases v with
    | int x =>
      have h2 : (decide (0 ≤ x.toInt) && decide (x.toInt < 65536)) = true := h
      simp only [Bool.and_eq_true, decide_eq_true_eq] at h2
      obtain ⟨j, hj, rfl⟩ : ∃ j : Nat, j < 65536 ∧ x = nI j := by
        obtain ⟨j, h5, h6⟩ := nI_of (x := x) (by rw [Int32.lt_iff_toInt_lt]; have : (0 : Int32).toInt = 0 := rfl; omega)
        subst h6
        rw [nI_toInt h5] at h2
        exact ⟨j, by omega, rfl⟩
      exact pk_charN hj
    | _ => cases h
  | int => cases v <;> first | exact ⟨rfl, rfl⟩ | cases h
  | long => cases v <;> first | exact ⟨rfl, rfl⟩ | cases h
  | object _ => cases v <;> first | exact ⟨rfl, rfl⟩ | cases h
  | array _ => cases v <;> first | exact ⟨rfl, rfl⟩ | cases h
  | _ => cases h
/-- behind a write -/
theorem Dy.set {h : AH} {H1 : Heap} {locs locs1 : List Loc} {ws : va_W} {tys : List (ClassId × FieldType)} {i : Nat} {a : Nat} {e0 : va_E} {y : va_E} {x : AC} (hK : va_K G vwCl tys s) (hcov : ∀ a x, h a = some x → inW ws tys a x) (hD : va_D A ws) (hi : ws[i]? = some (a, e0)) (hP1 : va_P G vwCl (ws.set i (a, y)) H1) (hD1 : va_D A (ws.set i (a, y))) (hS1 : va_S A s.heap H1 locs1) (hxy : inW (ws.set i (a, y)) tys a x) : Dy G A s (hset h a x) H1 locs1 := by
  refine ⟨_, tys, hP1, hK, hD1, hS1, fun b z hz => ?_⟩
  unfold hset at hz
  by_cases hb : b = a
  · subst hb
    rw [if_pos rfl] at hz
    cases hz
    exact hxy
  · rw [if_neg hb] at hz
    have h0 := hcov b z hz
    have key : ∀ (k : Nat) (w : va_E), ws[k]? = some (b, w) → (ws.set i (a, y))[k]? = some (b, w) := by
      intro k w hk
      rw [List.getElem?_set_ne]
      · exact hk
      · intro hik
        subst hik
        rw [hi] at hk
        cases hk
        exact hb rfl
    cases z with
    | inl z =>
      obtain ⟨k, j, cA, g1, g2⟩ := h0
      exact ⟨k, j, cA, key k _ g1, g2⟩
    | inr z =>
      obtain ⟨k, g1⟩ := h0
      exact ⟨k, key k _ g1⟩
theorem Dy.push {h : AH} {H1 : Heap} {locs1 : List Loc} {ws : va_W} {tys tys1 : List (ClassId × FieldType)} {a : Nat} {y : va_E} {x : AC} (hK : va_K G vwCl (tys ++ tys1) s) (hcov : ∀ a x, h a = some x → inW ws tys a x) (hP1 : va_P G vwCl (ws ++ [(a, y)]) H1) (hD1 : va_D A (ws ++ [(a, y)])) (hS1 : va_S A s.heap H1 locs1) (hxy : inW (ws ++ [(a, y)]) (tys ++ tys1) a x) : Dy G A s (hset h a x) H1 locs1 := by
  refine ⟨_, tys ++ tys1, hP1, hK, hD1, hS1, fun b z hz => ?_⟩
  unfold hset at hz
  by_cases hb : b = a
  · subst hb
    rw [if_pos rfl] at hz
    cases hz
    exact hxy
  · rw [if_neg hb] at hz
    have h0 := hcov b z hz
    have kl : ∀ {α : Type} {l1 l2 : List α} {k : Nat} {w : α}, l1[k]? = some w → (l1 ++ l2)[k]? = some w := by
      intro α l1 l2 k w hk
      rw [List.getElem?_append_left (List.getElem?_eq_some_iff.mp hk).1]
      exact hk
    cases z with
    | inl z =>
      obtain ⟨k, j, cA, g1, g2⟩ := h0
      exact ⟨k, j, cA, kl g1, kl g2⟩
    | inr z =>
      obtain ⟨k, g1⟩ := h0
      exact ⟨k, kl g1⟩
/-- a new cell lies apart from all that we know -/
theorem Dy.fresh {h : AH} {H1 : Heap} {ws : va_W} {tys : List (ClassId × FieldType)} {a : Nat} {y : va_E} (hcov : ∀ a x, h a = some x → inW ws tys a x) (hD1 : va_D A (ws ++ [(a, y)])) : h a = none := by
  cases hh : h a with
  | none => rfl
  | some x =>
    have h0 := hcov a x hh
    have key : ∀ (k : Nat) (w : va_E), ws[k]? = some (a, w) → False := by
      intro k w hk
      have hlt := (List.getElem?_eq_some_iff.mp hk).1
      have h1 : (ws ++ [(a, y)])[k]? = some (a, w) := by rw [List.getElem?_append_left hlt]; exact hk
      have h2 : (ws ++ [(a, y)])[ws.length]? = some (a, y) := by simp
      exact absurd (hD1.1 k ws.length _ _ h1 h2 rfl) (by omega)
    cases x with
    | inl z => obtain ⟨k, j, cA, g1, g2⟩ := h0; exact (key k _ g1).elim
    | inr z => obtain ⟨k, g1⟩ := h0; exact (key k _ g1).elim
theorem Dy.freshE {H1 : Heap} {ws : va_W} {a : Nat} {y : va_E} (hE : EvOK G E A s s.heap) (hD1 : va_D A (ws ++ [(a, y)])) : E.1 a = none := by
  have hAa : A a := hD1.2 ws.length (a, y) (by simp)
  cases hh : E.1 a with
  | none => rfl
  | some x => exact absurd hAa (hE.1 a x hh).1
/-- a read of ours, in some world of the kit's, or of a read-only cell -/
theorem rd_in {h : AH} {H : Heap} {locs : List Loc} (hE : EvOK G E A s s.heap) (hD : Dy G A s h H locs) {a : Nat} {x : AC} (hr : rd E h a = some x) : (∃ (ws : va_W) (tys : List (ClassId × FieldType)), va_P G vwCl ws H ∧ va_K G vwCl tys s ∧ inW ws tys a x) ∨ (¬ A a ∧ RO a x s s.heap) := by
  unfold rd at hr
  obtain ⟨ws, tys, hP, hK, hDD, hS, hcov⟩ := hD
  cases hh : h a with
  | some y =>
    rw [hh] at hr
    cases hr
    exact Or.inl ⟨ws, tys, hP, hK, hcov a _ hh⟩
  | none =>
    rw [hh] at hr
    exact Or.inr (hE.1 a x hr)
theorem RO_0 {a N : Nat} {f : Nat → Int32} {U : State} {H : Heap} (h : RO a (.inl (0, N, .inl f)) U H) : va_X a N f U H := h
theorem RO_1 {a N : Nat} {f : Nat → Int32} {U : State} {H : Heap} (h : RO a (.inl (1, N, .inl f)) U H) : False := h
theorem RO_len {a k : Nat} {x : vp_A} {U : State} {H : Heap} (h : RO a (.inl (k, x)) U H) : (∃ f, va_X a x.1 f U H) ∨ ∃ cell : Cell, H[a]? = some cell ∧ U.isArrayOf cell (.object "java/lang/Object") ∧ cell.slots.size.toInt32 = Int32.ofNat x.1 := by
  unfold RO at h
  split at h
  · next N f e => cases e; exact Or.inl ⟨f, h⟩
  · next y e => cases e; exact Or.inr h
  · exact h.elim
theorem inB_spec {i : Int32} {N : Nat} (h : inB i N = true) : vp_in i N := by
  unfold inB at h
  exact (of_decide_eq_true h : ¬ (i < 0 ∨ N ≤ i.toNatClampNeg))
theorem sn_getfield (C : Cx p l R s m args meth cd G E A d M) {pc : Nat} {ls st : List Value} {h : AH} {c n : Nat} {i : Nat} (hdg : decode (mB M) pc = .ok ((.getfield i), 3)) (HS : STr E CR M Q (PS p l e R s m args below meth cd Qw G A M) pc ls h c n (stp TTv E d M pc ls st h (.getfield i))) : PS p l e R s m args below meth cd Qw G A M pc ls st h c n := by
  intro H locs cells slots lsA hD hL hc hn
  obtain ⟨hx, hb, hml, hown, hts, hE, hA, hR, hini, hlk, htab, hhx, hthr⟩ := C
  simp only [stp] at HS
  split at HS
  · next a r =>
    obtain ⟨q, hq, HS⟩ := STr_bind HS
    obtain ⟨fs, hf, HS⟩ := STr_bind HS
    obtain ⟨v, hv, HS⟩ := STr_bind HS
    obtain ⟨h7, hk, ref, hl, hr⟩ := fdT_ok hq
    obtain ⟨ws, tys, hP, hK, hDD, hS, hcov⟩ := id hD
    obtain ⟨j, hj⟩ := hcov a _ (ob_spec hf)
    exact va_get hx hb hts (wl_at h7) hown hK hP j hj (cl_at h7) q.2 hk (hts _ hl) (sm_of hown hts hr) hv hdg (HS H locs cells slots lsA hD hL hc hn)
  · exact False.elim HS
theorem fin_own : ∀ {ci k : Nat}, ci < 6 → k < nC ci → (TC ci k).2.2.2 = true → (TC ci k).1 = oN ci := by
  have h : ∀ ci, ci < 6 → ∀ k, k < nC ci → (TC ci k).2.2.2 = true → (TC ci k).1 = oN ci := by decide +kernel
  exact fun {ci k} h1 h2 h3 => h ci h1 k h2 h3
theorem sn_putfield (C : Cx p l R s m args meth cd G E A d M) {pc : Nat} {ls st : List Value} {h : AH} {c n : Nat} {i : Nat} (hdg : decode (mB M) pc = .ok ((.putfield i), 3)) (HS : STr E CR M Q (PS p l e R s m args below meth cd Qw G A M) pc ls h c n (stp TTv E d M pc ls st h (.putfield i))) : PS p l e R s m args below meth cd Qw G A M pc ls st h c n := by
  intro H locs cells slots lsA hD hL hc hn
  obtain ⟨hx, hb, hml, hown, hts, hE, hA, hR, hini, hlk, htab, hhx, hthr⟩ := C
  simp only [stp] at HS
  split at HS
  · next v a r =>
    obtain ⟨q, hq, HS⟩ := STr_bind HS
    obtain ⟨fs, hf, HS⟩ := STr_bind HS
    obtain ⟨⟨⟨hlt, hok⟩, hfin⟩, HS⟩ := STr_ift HS
    obtain ⟨h7, hk, ref, hl, hr⟩ := fdT_ok hq
    obtain ⟨ws, tys, hP, hK, hDD, hS, hcov⟩ := id hD
    obtain ⟨j, hj⟩ := hcov a _ (ob_spec hf)
    obtain ⟨hn1, hf1⟩ := okF_spec hok
    have fin : ∀ (H1 : Heap) (locs1 : List Loc), va_P G vwCl (ws.set j (a, .inr (q.1, fs.set q.2 v))) H1 → va_D A (ws.set j (a, .inr (q.1, fs.set q.2 v))) → va_S A s.heap H1 locs1 → W p l e R s m args below meth cd H1 locs1 cells slots Qw (F0 m (pc + 3) lsA r) := fun H1 locs1 hP1 hD1 hS1 =>
      HS H1 locs1 cells slots lsA (Dy.set (locs := locs) hK hcov hDD hj hP1 hD1 hS1 ⟨j, List.getElem?_set_self (List.getElem?_eq_some_iff.mp hj).1⟩) hL hc hn
    rcases Bool.eq_false_or_eq_true (TC q.1 q.2).2.2.2 with hff | hff
    · rcases hfin with z | ⟨z1, z2⟩
      · rw [hff] at z; cases z
      · have hdc : (TC q.1 q.2).1 = oN (mO M) := by
          rw [z2]
          exact fin_own h7 hk hff
        exact va_putF hx hb hts (wl_at h7) (tyC q.1) (ty_at h7) (nm_at h7) hown hK hP hDD hS j hj (cl_at h7) q.2 hk (hts _ hl) (sm_of hown hts hr) hff (hini z1) hdc (ty_at h7 q.2 hk) hn1 hf1 hlt hdg fin
    · exact va_put hx hb hts (wl_at h7) (tyC q.1) (ty_at h7) (nm_at h7) hown hK hP hDD hS j hj (cl_at h7) q.2 hk (hts _ hl) (sm_of hown hts hr) hff (ty_at h7 q.2 hk) hn1 hf1 hlt hdg fin
  · exact False.elim HS
theorem wst : Cond.fieldLink (oN 0) 39 "java/util/ArrayList" "DEFAULTCAPACITY_EMPTY_ELEMENTDATA" "[Ljava/lang/Object;" ∈ lw_G := lw_in 65 (by decide +kernel) (by decide +kernel)
theorem sn_getstatic (C : Cx p l R s m args meth cd G E A d M) {pc : Nat} {ls st : List Value} {h : AH} {c n : Nat} {i : Nat} (hdg : decode (mB M) pc = .ok ((.getstatic i), 3)) (HS : STr E CR M Q (PS p l e R s m args below meth cd Qw G A M) pc ls h c n (stp TTv E d M pc ls st h (.getstatic i))) : PS p l e R s m args below meth cd Qw G A M pc ls st h c n := by
  intro H locs cells slots lsA hD hL hc hn
  obtain ⟨hx, hb, hml, hown, hts, hE, hA, hR, hini, hlk, htab, hhx, hthr⟩ := C
  simp only [stp] at HS
  obtain ⟨ho, HS2⟩ := STr_ift HS
  obtain ⟨ho, rfl⟩ := ho
  have HS := HS2
  obtain ⟨ws, tys, hP, hK, hDD, hS, hcov⟩ := id hD
  rw [ho] at hown
  exact va_gets hx hb hE.2.1 hS hown (hts _ wst) (fun x h => h) hdg (HS H locs cells slots lsA hD hL hc hn)
theorem wcn : Cond.constant (oN 11) 200 2147483639 ∈ lw_G := lw_in 286 (by decide +kernel) (by decide +kernel)
theorem wlk : Cond.classLink (oN 8) 110 "[Ljava/lang/Object;" ∈ lw_G := lw_in 311 (by decide +kernel) (by decide +kernel)
theorem wcl : Cond.constant (oN 7) 7 40503 ∈ lw_G := lw_in 152 (by decide +kernel) (by decide +kernel)
theorem wcf : Cond.constantFloat (oN 7) 125 3264610304 ∈ lw_G := lw_in 810 (by decide +kernel) (by decide +kernel)
theorem wl2_213 : Cond.constantLong (oN 7) 213 31 ∈ lw_G := lw_in 737 (by decide +kernel) (by decide +kernel)
theorem wl2_219 : Cond.constantLong (oN 7) 219 7 ∈ lw_G := lw_in 742 (by decide +kernel) (by decide +kernel)
theorem wl2_221 : Cond.constantLong (oN 7) 221 101 ∈ lw_G := lw_in 743 (by decide +kernel) (by decide +kernel)
theorem wl2_226 : Cond.constantLong (oN 7) 226 11 ∈ lw_G := lw_in 748 (by decide +kernel) (by decide +kernel)
theorem wl2_228 : Cond.constantLong (oN 7) 228 13 ∈ lw_G := lw_in 749 (by decide +kernel) (by decide +kernel)
theorem wl2_230 : Cond.constantLong (oN 7) 230 17 ∈ lw_G := lw_in 750 (by decide +kernel) (by decide +kernel)
theorem sn_ldc (C : Cx p l R s m args meth cd G E A d M) {pc : Nat} {ls st : List Value} {h : AH} {c n : Nat} {i : Nat} (hdg : decode (mB M) pc = .ok ((.ldc i), 2)) (HS : STr E CR M Q (PS p l e R s m args below meth cd Qw G A M) pc ls h c n (stp TTv E d M pc ls st h (.ldc i))) : PS p l e R s m args below meth cd Qw G A M pc ls st h c n := by
  intro H locs cells slots lsA hD hL hc hn
  obtain ⟨hx, hb, hml, hown, hts, hE, hA, hR, hini, hlk, htab, hhx, hthr⟩ := C
  simp only [stp] at HS
  split at HS
  · next ho =>
    rw [ho] at hown
    exact lv_ldc hx hb hown (hts _ wcn) hdg (HS H locs cells slots lsA hD hL hc hn)
  · next ho =>
    rw [ho] at hown
    exact va_ldcM hx hb hown (hts _ wlk) hE.2.2.1 hdg (HS H locs cells slots lsA hD hL hc hn)
  · next ho =>
    rw [ho] at hown
    exact lv_ldc hx hb hown (hts _ wcl) hdg (HS H locs cells slots lsA hD hL hc hn)
  · next ho =>
    rw [ho] at hown
    exact lv_ldcf hx hb hown (hts _ wcf) hdg (HS H locs cells slots lsA hD hL hc hn)
  · exact False.elim HS
theorem sn_ldc2_w (C : Cx p l R s m args meth cd G E A d M) {pc : Nat} {ls st : List Value} {h : AH} {c n : Nat} {i : Nat} (hdg : decode (mB M) pc = .ok ((.ldc2_w i), 3)) (HS : STr E CR M Q (PS p l e R s m args below meth cd Qw G A M) pc ls h c n (stp TTv E d M pc ls st h (.ldc2_w i))) : PS p l e R s m args below meth cd Qw G A M pc ls st h c n := by
  intro H locs cells slots lsA hD hL hc hn
  obtain ⟨hx, hb, hml, hown, hts, hE, hA, hR, hini, hlk, htab, hhx, hthr⟩ := C
  simp only [stp] at HS
  split at HS
  · next ho =>
    rw [ho] at hown
    exact lv_ldc2 hx hb hown (hts _ wl2_213) hdg (HS H locs cells slots lsA hD hL hc hn)
  · next ho =>
    rw [ho] at hown
    exact lv_ldc2 hx hb hown (hts _ wl2_219) hdg (HS H locs cells slots lsA hD hL hc hn)
  · next ho =>
    rw [ho] at hown
    exact lv_ldc2 hx hb hown (hts _ wl2_221) hdg (HS H locs cells slots lsA hD hL hc hn)
  · next ho =>
    rw [ho] at hown
    exact lv_ldc2 hx hb hown (hts _ wl2_226) hdg (HS H locs cells slots lsA hD hL hc hn)
  · next ho =>
    rw [ho] at hown
    exact lv_ldc2 hx hb hown (hts _ wl2_228) hdg (HS H locs cells slots lsA hD hL hc hn)
  · next ho =>
    rw [ho] at hown
    exact lv_ldc2 hx hb hown (hts _ wl2_230) hdg (HS H locs cells slots lsA hD hL hc hn)
  · exact False.elim HS
theorem rdI_spec {h : AH} {a k : Nat} {q : Nat × (Nat → Int32)} (H : rdI E h a k = some q) : rd E h a = some (.inl (k, q.1, .inl q.2)) := by
  unfold rdI at H
  split at H
  · next k' N f e =>
    split at H
    · next e2 => cases H; rw [e, e2]
    · cases H
  · cases H
theorem rdJ_spec {h : AH} {a : Nat} {q : Nat × (Nat → Int64)} (H : rdJ E h a = some q) : rd E h a = some (.inl (2, q.1, .inr (.inl q.2))) := by
  unfold rdJ at H
  split at H
  · next N f e => cases H; exact e
  · cases H
theorem rdD_spec {h : AH} {a : Nat} {q : Nat × (Nat → UInt64)} (H : rdD E h a = some q) : rd E h a = some (.inl (3, q.1, .inr (.inr (.inr (.inl q.2))))) := by
  unfold rdD at H
  split at H
  · next N f e => cases H; exact e
  · cases H
theorem rdA_spec {h : AH} {a : Nat} {q : Nat × (Nat → Option Nat)} (H : rdA h a = some q) : h a = some (.inl (4, q.1, .inr (.inr (.inr (.inr q.2))))) := by
  unfold rdA at H
  split at H
  · next N f e => cases H; exact e
  · cases H
theorem rwI_spec {h : AH} {a k : Nat} {q : Nat × (Nat → Int32)} (H : rwI h a k = some q) : h a = some (.inl (k, q.1, .inl q.2)) := by
  unfold rwI at H
  split at H
  · next k' N f e =>
    split at H
    · next e2 => cases H; rw [e, e2]
    · cases H
  · cases H
theorem rwJ_spec {h : AH} {a : Nat} {q : Nat × (Nat → Int64)} (H : rwJ h a = some q) : h a = some (.inl (2, q.1, .inr (.inl q.2))) := by
  unfold rwJ at H
  split at H
  · next N f e => cases H; exact e
  · cases H
theorem rwD_spec {h : AH} {a : Nat} {q : Nat × (Nat → UInt64)} (H : rwD h a = some q) : h a = some (.inl (3, q.1, .inr (.inr (.inr (.inl q.2))))) := by
  unfold rwD at H
  split at H
  · next N f e => cases H; exact e
  · cases H
theorem isO_spec {h : AH} {a : Nat} (H : isO h a = true) : ∃ o, h a = some (.inr o) := by
  unfold isO at H
  split at H
  · next o e => exact ⟨o, e⟩
  · cases H
theorem sn_iaload (C : Cx p l R s m args meth cd G E A d M) {pc : Nat} {ls st : List Value} {h : AH} {c n : Nat} (hdg : decode (mB M) pc = .ok (.iaload, 1)) (HS : STr E CR M Q (PS p l e R s m args below meth cd Qw G A M) pc ls h c n (stp TTv E d M pc ls st h .iaload)) : PS p l e R s m args below meth cd Qw G A M pc ls st h c n := by
  intro H locs cells slots lsA hD hL hc hn
  obtain ⟨hx, hb, hml, hown, hts, hE, hA, hR, hini, hlk, htab, hhx, hthr⟩ := C
  simp only [stp] at HS
  split at HS
  · next i a r =>
    obtain ⟨q, hq, HS⟩ := STr_bind HS
    obtain ⟨hi, HS⟩ := STr_ift HS
    rcases rd_in hE hD (rdI_spec hq) with ⟨ws, tys, hP, hK, j, t, cA, g1, g2⟩ | ⟨hna, hro⟩
    · exact va_iald hx hb hK hP j t g1 g2 (inB_spec hi) hdg (HS H locs cells slots lsA hD hL hc hn)
    · obtain ⟨_, _, _, _, _, hS, _⟩ := id hD
      exact va_sld hx hb (RO_0 hro) hro.lt hna hS (inB_spec hi) hdg (HS H locs cells slots lsA hD hL hc hn)
  · exact False.elim HS
theorem sn_baload (C : Cx p l R s m args meth cd G E A d M) {pc : Nat} {ls st : List Value} {h : AH} {c n : Nat} (hdg : decode (mB M) pc = .ok (.baload, 1)) (HS : STr E CR M Q (PS p l e R s m args below meth cd Qw G A M) pc ls h c n (stp TTv E d M pc ls st h .baload)) : PS p l e R s m args below meth cd Qw G A M pc ls st h c n := by
  intro H locs cells slots lsA hD hL hc hn
  obtain ⟨hx, hb, hml, hown, hts, hE, hA, hR, hini, hlk, htab, hhx, hthr⟩ := C
  simp only [stp] at HS
  split at HS
  · next i a r =>
    obtain ⟨q, hq, HS⟩ := STr_bind HS
    obtain ⟨hi, HS⟩ := STr_ift HS
    rcases rd_in hE hD (rdI_spec hq) with ⟨ws, tys, hP, hK, j, t, cA, g1, g2⟩ | ⟨hna, hro⟩
    · exact va_zald hx hb hK hP j t g1 g2 (inB_spec hi) hdg (HS H locs cells slots lsA hD hL hc hn)
    · exact (RO_1 hro).elim
  · exact False.elim HS
theorem sn_caload (C : Cx p l R s m args meth cd G E A d M) {pc : Nat} {ls st : List Value} {h : AH} {c n : Nat} (hdg : decode (mB M) pc = .ok (.caload, 1)) (HS : STr E CR M Q (PS p l e R s m args below meth cd Qw G A M) pc ls h c n (stp TTv E d M pc ls st h .caload)) : PS p l e R s m args below meth cd Qw G A M pc ls st h c n := by
  intro H locs cells slots lsA hD hL hc hn
  obtain ⟨hx, hb, hml, hown, hts, hE, hA, hR, hini, hlk, htab, hhx, hthr⟩ := C
  simp only [stp] at HS
  split at HS
  · next i a r =>
    obtain ⟨q, hq, HS⟩ := STr_bind HS
    obtain ⟨hi, HS⟩ := STr_ift HS
    rcases rd_in hE hD (rdI_spec hq) with ⟨ws, tys, hP, hK, j, t, cA, g1, g2⟩ | ⟨hna, hro⟩
    · exact va_cald hx hb hK hP j t g1 g2 (inB_spec hi) hdg (HS H locs cells slots lsA hD hL hc hn)
    · exact False.elim hro
  · exact False.elim HS
theorem sn_laload (C : Cx p l R s m args meth cd G E A d M) {pc : Nat} {ls st : List Value} {h : AH} {c n : Nat} (hdg : decode (mB M) pc = .ok (.laload, 1)) (HS : STr E CR M Q (PS p l e R s m args below meth cd Qw G A M) pc ls h c n (stp TTv E d M pc ls st h .laload)) : PS p l e R s m args below meth cd Qw G A M pc ls st h c n := by
  intro H locs cells slots lsA hD hL hc hn
  obtain ⟨hx, hb, hml, hown, hts, hE, hA, hR, hini, hlk, htab, hhx, hthr⟩ := C
  simp only [stp] at HS
  split at HS
  · next i a r =>
    obtain ⟨q, hq, HS⟩ := STr_bind HS
    obtain ⟨hi, HS⟩ := STr_ift HS
    rcases rd_in hE hD (rdJ_spec hq) with ⟨ws, tys, hP, hK, j, t, cA, g1, g2⟩ | ⟨hna, hro⟩
    · exact va_lald hx hb hK hP j t g1 g2 (inB_spec hi) hdg (HS H locs cells slots lsA hD hL hc hn)
    · exact False.elim hro
  · exact False.elim HS
theorem sn_daload (C : Cx p l R s m args meth cd G E A d M) {pc : Nat} {ls st : List Value} {h : AH} {c n : Nat} (hdg : decode (mB M) pc = .ok (.daload, 1)) (HS : STr E CR M Q (PS p l e R s m args below meth cd Qw G A M) pc ls h c n (stp TTv E d M pc ls st h .daload)) : PS p l e R s m args below meth cd Qw G A M pc ls st h c n := by
  intro H locs cells slots lsA hD hL hc hn
  obtain ⟨hx, hb, hml, hown, hts, hE, hA, hR, hini, hlk, htab, hhx, hthr⟩ := C
  simp only [stp] at HS
  split at HS
  · next i a r =>
    obtain ⟨q, hq, HS⟩ := STr_bind HS
    obtain ⟨hi, HS⟩ := STr_ift HS
    rcases rd_in hE hD (rdD_spec hq) with ⟨ws, tys, hP, hK, j, t, cA, g1, g2⟩ | ⟨hna, hro⟩
    · exact va_dald hx hb hK hP j t g1 g2 (inB_spec hi) hdg (HS H locs cells slots lsA hD hL hc hn)
    · exact False.elim hro
  · exact False.elim HS
theorem sn_aaload (C : Cx p l R s m args meth cd G E A d M) {pc : Nat} {ls st : List Value} {h : AH} {c n : Nat} (hdg : decode (mB M) pc = .ok (.aaload, 1)) (HS : STr E CR M Q (PS p l e R s m args below meth cd Qw G A M) pc ls h c n (stp TTv E d M pc ls st h .aaload)) : PS p l e R s m args below meth cd Qw G A M pc ls st h c n := by
  intro H locs cells slots lsA hD hL hc hn
  obtain ⟨hx, hb, hml, hown, hts, hE, hA, hR, hini, hlk, htab, hhx, hthr⟩ := C
  simp only [stp] at HS
  split at HS
  · next i a r =>
    obtain ⟨q, hq, HS⟩ := STr_bind HS
    obtain ⟨hi, HS⟩ := STr_ift HS
    obtain ⟨ws, tys, hP, hK, hDD, hS, hcov⟩ := id hD
    obtain ⟨j, t, cA, g1, g2⟩ := hcov a _ (rdA_spec hq)
    exact va_aldq hx hb hK hP j t g1 g2 (inB_spec hi) hdg (HS H locs cells slots lsA hD hL hc hn)
  · exact False.elim HS
theorem sn_iastore (C : Cx p l R s m args meth cd G E A d M) {pc : Nat} {ls st : List Value} {h : AH} {c n : Nat} (hdg : decode (mB M) pc = .ok (.iastore, 1)) (HS : STr E CR M Q (PS p l e R s m args below meth cd Qw G A M) pc ls h c n (stp TTv E d M pc ls st h .iastore)) : PS p l e R s m args below meth cd Qw G A M pc ls st h c n := by
  intro H locs cells slots lsA hD hL hc hn
  obtain ⟨hx, hb, hml, hown, hts, hE, hA, hR, hini, hlk, htab, hhx, hthr⟩ := C
  simp only [stp] at HS
  split at HS
  · next x i a r =>
    obtain ⟨q, hq, HS⟩ := STr_bind HS
    obtain ⟨hi, HS⟩ := STr_ift HS
    obtain ⟨ws, tys, hP, hK, hDD, hS, hcov⟩ := id hD
    obtain ⟨j, t, cA, g1, g2⟩ := hcov a _ (rwI_spec hq)
    exact va_iast hx hb hK hP hDD hS j t g1 g2 (inB_spec hi) hdg (fun H1 locs1 hP1 hD1 hS1 => HS H1 locs1 cells slots lsA (Dy.set (locs := locs) hK hcov hDD g1 hP1 hD1 hS1 ⟨j, t, cA, List.getElem?_set_self (List.getElem?_eq_some_iff.mp g1).1, g2⟩) hL hc hn)
  · exact False.elim HS
theorem sn_lastore (C : Cx p l R s m args meth cd G E A d M) {pc : Nat} {ls st : List Value} {h : AH} {c n : Nat} (hdg : decode (mB M) pc = .ok (.lastore, 1)) (HS : STr E CR M Q (PS p l e R s m args below meth cd Qw G A M) pc ls h c n (stp TTv E d M pc ls st h .lastore)) : PS p l e R s m args below meth cd Qw G A M pc ls st h c n := by
  intro H locs cells slots lsA hD hL hc hn
  obtain ⟨hx, hb, hml, hown, hts, hE, hA, hR, hini, hlk, htab, hhx, hthr⟩ := C
  simp only [stp] at HS
  split at HS
  · next x i a r =>
    obtain ⟨q, hq, HS⟩ := STr_bind HS
    obtain ⟨hi, HS⟩ := STr_ift HS
    obtain ⟨ws, tys, hP, hK, hDD, hS, hcov⟩ := id hD
    obtain ⟨j, t, cA, g1, g2⟩ := hcov a _ (rwJ_spec hq)
    exact va_last hx hb hK hP hDD hS j t g1 g2 (inB_spec hi) hdg (fun H1 locs1 hP1 hD1 hS1 => HS H1 locs1 cells slots lsA (Dy.set (locs := locs) hK hcov hDD g1 hP1 hD1 hS1 ⟨j, t, cA, List.getElem?_set_self (List.getElem?_eq_some_iff.mp g1).1, g2⟩) hL hc hn)
  · exact False.elim HS
theorem sn_dastore (C : Cx p l R s m args meth cd G E A d M) {pc : Nat} {ls st : List Value} {h : AH} {c n : Nat} (hdg : decode (mB M) pc = .ok (.dastore, 1)) (HS : STr E CR M Q (PS p l e R s m args below meth cd Qw G A M) pc ls h c n (stp TTv E d M pc ls st h .dastore)) : PS p l e R s m args below meth cd Qw G A M pc ls st h c n := by
  intro H locs cells slots lsA hD hL hc hn
  obtain ⟨hx, hb, hml, hown, hts, hE, hA, hR, hini, hlk, htab, hhx, hthr⟩ := C
  simp only [stp] at HS
  split at HS
  · next x i a r =>
    obtain ⟨q, hq, HS⟩ := STr_bind HS
    obtain ⟨hi, HS⟩ := STr_ift HS
    obtain ⟨ws, tys, hP, hK, hDD, hS, hcov⟩ := id hD
    obtain ⟨j, t, cA, g1, g2⟩ := hcov a _ (rwD_spec hq)
    exact va_dast hx hb hK hP hDD hS j t g1 g2 (inB_spec hi) hdg (fun H1 locs1 hP1 hD1 hS1 => HS H1 locs1 cells slots lsA (Dy.set (locs := locs) hK hcov hDD g1 hP1 hD1 hS1 ⟨j, t, cA, List.getElem?_set_self (List.getElem?_eq_some_iff.mp g1).1, g2⟩) hL hc hn)
  · exact False.elim HS
theorem sn_bastore (C : Cx p l R s m args meth cd G E A d M) {pc : Nat} {ls st : List Value} {h : AH} {c n : Nat} (hdg : decode (mB M) pc = .ok (.bastore, 1)) (HS : STr E CR M Q (PS p l e R s m args below meth cd Qw G A M) pc ls h c n (stp TTv E d M pc ls st h .bastore)) : PS p l e R s m args below meth cd Qw G A M pc ls st h c n := by
  intro H locs cells slots lsA hD hL hc hn
  obtain ⟨hx, hb, hml, hown, hts, hE, hA, hR, hini, hlk, htab, hhx, hthr⟩ := C
  simp only [stp] at HS
  split at HS
  · next x i a r =>
    obtain ⟨q, hq, HS⟩ := STr_bind HS
    obtain ⟨⟨hi, h01⟩, HS⟩ := STr_ift HS
    obtain ⟨ws, tys, hP, hK, hDD, hS, hcov⟩ := id hD
    obtain ⟨j, t, cA, g1, g2⟩ := hcov a _ (rwI_spec hq)
    have hz : vp_nar .boolean x = x := by
      have h2 : (x == 0 || x == 1) = true := h01
      rcases (by simpa using h2 : x = 0 ∨ x = 1) with rfl | rfl <;> rfl
    refine va_zast hx hb hK hP hDD hS j t g1 g2 (inB_spec hi) hdg (fun H1 locs1 hP1 hD1 hS1 => ?_)
    rw [hz] at hP1 hD1
    exact HS H1 locs1 cells slots lsA (Dy.set (locs := locs) hK hcov hDD g1 hP1 hD1 hS1 ⟨j, t, cA, List.getElem?_set_self (List.getElem?_eq_some_iff.mp g1).1, g2⟩) hL hc hn
  · exact False.elim HS
theorem sn_castore (C : Cx p l R s m args meth cd G E A d M) {pc : Nat} {ls st : List Value} {h : AH} {c n : Nat} (hdg : decode (mB M) pc = .ok (.castore, 1)) (HS : STr E CR M Q (PS p l e R s m args below meth cd Qw G A M) pc ls h c n (stp TTv E d M pc ls st h .castore)) : PS p l e R s m args below meth cd Qw G A M pc ls st h c n := by
  intro H locs cells slots lsA hD hL hc hn
  obtain ⟨hx, hb, hml, hown, hts, hE, hA, hR, hini, hlk, htab, hhx, hthr⟩ := C
  simp only [stp] at HS
  split at HS
  · next x i a r =>
    obtain ⟨q, hq, HS⟩ := STr_bind HS
    obtain ⟨⟨hi, h16⟩, HS⟩ := STr_ift HS
    obtain ⟨ws, tys, hP, hK, hDD, hS, hcov⟩ := id hD
    obtain ⟨j, t, cA, g1, g2⟩ := hcov a _ (rwI_spec hq)
    have hz : vp_nar .char x = x := by
      unfold vp_nar
      rw [(okF_spec (t := .char) (v := .int x) h16).1]
    refine va_cast hx hb hK hP hDD hS j t g1 g2 (inB_spec hi) hdg (fun H1 locs1 hP1 hD1 hS1 => ?_)
    rw [hz] at hP1 hD1
    exact HS H1 locs1 cells slots lsA (Dy.set (locs := locs) hK hcov hDD g1 hP1 hD1 hS1 ⟨j, t, cA, List.getElem?_set_self (List.getElem?_eq_some_iff.mp g1).1, g2⟩) hL hc hn
  · exact False.elim HS
theorem castO : ∀ {ci : Nat}, ci < 6 → Cond.castable (oN ci) "java/lang/Object" ∈ lw_D := by
  have h : ∀ ci, ci < 6 → Cond.castable (oN ci) "java/lang/Object" ∈ lw_D := by decide +kernel
  exact fun {ci} h1 => h ci h1
theorem ci_lt {H : Heap} {ws : va_W} (hP : va_P G vwCl ws H) {j a ci : Nat} {fs : List Value} (hj : ws[j]? = some (a, .inr (ci, fs))) : ci < 6 := by
  obtain ⟨r, h1, -⟩ := hP j _ hj
  exact (List.getElem?_eq_some_iff.mp h1).1
theorem sn_aastore (C : Cx p l R s m args meth cd G E A d M) {pc : Nat} {ls st : List Value} {h : AH} {c n : Nat} (hdg : decode (mB M) pc = .ok (.aastore, 1)) (HS : STr E CR M Q (PS p l e R s m args below meth cd Qw G A M) pc ls h c n (stp TTv E d M pc ls st h .aastore)) : PS p l e R s m args below meth cd Qw G A M pc ls st h c n := by
  intro H locs cells slots lsA hD hL hc hn
  obtain ⟨hx, hb, hml, hown, hts, hE, hA, hR, hini, hlk, htab, hhx, hthr⟩ := C
  simp only [stp] at HS
  split at HS
  · next v i a r =>
    obtain ⟨q, hq, HS⟩ := STr_bind HS
    obtain ⟨⟨hi, ho⟩, HS⟩ := STr_ift HS
    obtain ⟨ws, tys, hP, hK, hDD, hS, hcov⟩ := id hD
    obtain ⟨j, t, cA, g1, g2⟩ := hcov a _ (rdA_spec hq)
    obtain ⟨⟨ci, fs⟩, hv⟩ := isO_spec ho
    obtain ⟨k, hk⟩ := hcov v _ hv
    have h7 := ci_lt hP hk
    exact va_astqO hx hb hK hP hDD hS j t k ci g1 g2 (hE.2.2.2.2.2.2.1 _ (castO h7)) hk (cl_at h7) (inB_spec hi) hdg (fun H1 locs1 hP1 hD1 hS1 => HS H1 locs1 cells slots lsA (Dy.set (locs := locs) hK hcov hDD g1 hP1 hD1 hS1 ⟨j, t, cA, List.getElem?_set_self (List.getElem?_eq_some_iff.mp g1).1, g2⟩) hL hc hn)
  · next i a r =>
    obtain ⟨q, hq, HS⟩ := STr_bind HS
    obtain ⟨hi, HS⟩ := STr_ift HS
    obtain ⟨ws, tys, hP, hK, hDD, hS, hcov⟩ := id hD
    obtain ⟨j, t, cA, g1, g2⟩ := hcov a _ (rdA_spec hq)
    exact va_astqN hx hb hK hP hDD hS j t g1 g2 (inB_spec hi) hdg (fun H1 locs1 hP1 hD1 hS1 => HS H1 locs1 cells slots lsA (Dy.set (locs := locs) hK hcov hDD g1 hP1 hD1 hS1 ⟨j, t, cA, List.getElem?_set_self (List.getElem?_eq_some_iff.mp g1).1, g2⟩) hL hc hn)
  · exact False.elim HS
theorem sn_arraylength (C : Cx p l R s m args meth cd G E A d M) {pc : Nat} {ls st : List Value} {h : AH} {c n : Nat} (hdg : decode (mB M) pc = .ok (.arraylength, 1)) (HS : STr E CR M Q (PS p l e R s m args below meth cd Qw G A M) pc ls h c n (stp TTv E d M pc ls st h .arraylength)) : PS p l e R s m args below meth cd Qw G A M pc ls st h c n := by
  intro H locs cells slots lsA hD hL hc hn
  obtain ⟨hx, hb, hml, hown, hts, hE, hA, hR, hini, hlk, htab, hhx, hthr⟩ := C
  simp only [stp] at HS
  split at HS
  · next a r =>
    obtain ⟨N, hN, HS⟩ := STr_bind HS
    unfold rdN at hN
    split at hN
    · next k x e =>
      cases hN
      rcases rd_in hE hD e with ⟨ws, tys, hP, hK, j, t, cA, g1, g2⟩ | ⟨hna, hro⟩
      · exact va_alen hx hb hK hP j t g1 g2 rfl hdg (HS H locs cells slots lsA hD hL hc hn)
      · obtain ⟨_, _, _, _, _, hS, _⟩ := id hD
        rcases RO_len hro with ⟨f, hf⟩ | ⟨cell, h1, h2, h3⟩
        · exact va_slen hx hb hf hro.lt hna hS hdg (HS H locs cells slots lsA hD hL hc hn)
        · exact W.alen (n := Int32.ofNat x.1) hx hb (by rw [hS.2.1 a hro.lt hna]; exact h1) h2 h3 rfl rfl hdg (HS H locs cells slots lsA hD hL hc hn)
    · cases hN
  · exact False.elim HS
theorem wa0 : Cond.arrayClass .int ∈ lw_G := lw_in 97 (by decide +kernel) (by decide +kernel)
theorem wa5 : Cond.arrayClass .char ∈ lw_G := lw_in 844 (by decide +kernel) (by decide +kernel)

theorem sn_newarray (C : Cx p l R s m args meth cd G E A d M) {pc : Nat} {ls st : List Value} {h : AH} {c n : Nat} {t : ArrayType} (hdg : decode (mB M) pc = .ok ((.newarray t), 2)) (HS : STr E CR M Q (PS p l e R s m args below meth cd Qw G A M) pc ls h c n (stp TTv E d M pc ls st h (.newarray t))) : PS p l e R s m args below meth cd Qw G A M pc ls st h c n := by
  intro H locs cells slots lsA hD hL hc hn
  obtain ⟨hx, hb, hml, hown, hts, hE, hA, hR, hini, hlk, htab, hhx, hthr⟩ := C
  simp only [stp] at HS
  split at HS
  · next i r =>
    obtain ⟨z, hz, HS⟩ := STr_bind HS
    obtain ⟨⟨hi, hle⟩, HS⟩ := STr_ift HS
    obtain ⟨h1c, h2n, HS⟩ := HS
    dsimp only at h2n HS
    obtain ⟨ws, tys, hP, hK, hDD, hS, hcov⟩ := id hD
    have go : ∀ (ty : FieldType) (x : vp_A) (hzz : z.2 i.toNatClampNeg = x) (hty : kT z.1 = ty) (q : Nat) (cA : ClassId) (H1 : Heap), va_K G vwCl (tys ++ [(cA, ty)]) s → va_P G vwCl (ws ++ [(q, .inl (cA, x))]) H1 → va_D A (ws ++ [(q, .inl (cA, x))]) → va_S A s.heap H1 locs → W p l e R s m args below meth cd H1 locs (cells + 1) (slots + i.toNatClampNeg) Qw (F0 m (pc + 2) lsA (.ref q :: r)) := by
      intro ty x hzz hty q cA H1 hK1 hP1 hD1 hS1
      refine HS q (Dy.fresh (H1 := H1) hcov hD1) (Dy.freshE (H1 := H1) hE hD1) H1 locs (cells + 1) (slots + i.toNatClampNeg) lsA (Dy.push hK1 hcov hP1 hD1 hS1 ⟨ws.length, tys.length, cA, ?_, ?_⟩) hL (by omega) (by omega)
      · rw [hzz]; simp
      · rw [← hty]; simp
    unfold zer at hz
    cases t with
    | int => cases hz; exact va_newa (atype := .int) (ty := .int) hx hb (hts _ wa0) rfl hK hP hDD hS hA (a0 := (i.toNatClampNeg, .inl (fun _ => 0))) (fun cA => rfl) hi rfl (by show _ * 4 ≤ _; omega) (by omega) (by omega) hdg (go .int _ rfl rfl)
    | char => cases hz; exact va_newa (atype := .char) (ty := .char) hx hb (hts _ wa5) rfl hK hP hDD hS hA (a0 := (i.toNatClampNeg, .inl (fun _ => 0))) (fun cA => rfl) hi rfl (by show _ * 2 ≤ _; omega) (by omega) (by omega) hdg (go .char _ rfl rfl)
    | _ => cases hz
  · exact False.elim HS
theorem wob {M : MD} {ix : Nat} (h : (mO M = 0 ∧ ix = 7) ∨ (mO M = 8 ∧ ix = 2)) : Cond.classLink (oN (mO M)) ix "java/lang/Object" ∈ lw_G := by
  rcases h with ⟨h1, h2⟩ | ⟨h1, h2⟩
  · rw [h1, h2]; exact lw_in 321 (by decide +kernel) (by decide +kernel)
  · rw [h1, h2]; exact lw_in 313 (by decide +kernel) (by decide +kernel)
theorem sn_anewarray (C : Cx p l R s m args meth cd G E A d M) {pc : Nat} {ls st : List Value} {h : AH} {c n : Nat} {ix : Nat} (hdg : decode (mB M) pc = .ok ((.anewarray ix), 3)) (HS : STr E CR M Q (PS p l e R s m args below meth cd Qw G A M) pc ls h c n (stp TTv E d M pc ls st h (.anewarray ix))) : PS p l e R s m args below meth cd Qw G A M pc ls st h c n := by
  intro H locs cells slots lsA hD hL hc hn
  obtain ⟨hx, hb, hml, hown, hts, hE, hA, hR, hini, hlk, htab, hhx, hthr⟩ := C
  simp only [stp] at HS
  split at HS
  · next i r =>
    obtain ⟨⟨⟨hi, hle⟩, ho⟩, HS⟩ := STr_ift HS
    obtain ⟨h1c, h2n, HS⟩ := HS
    dsimp only at h2n HS
    obtain ⟨ws, tys, hP, hK, hDD, hS, hcov⟩ := id hD
    refine va_newq hx hb hown (C := "java/lang/Object") (hts _ (wob ho)) hE.2.2.2.2.2.2.2.1 hK hP hDD hS hA hi rfl (by omega) (by omega) (by omega) hdg (fun q cA H1 hK1 hP1 hD1 hS1 => ?_)
    refine HS q (Dy.fresh (H1 := H1) hcov hD1) (Dy.freshE (H1 := H1) hE hD1) H1 locs (cells + 1) (slots + i.toNatClampNeg) lsA (Dy.push hK1 hcov hP1 hD1 hS1 ⟨ws.length, tys.length, cA, by simp, by simp [kT]⟩) hL (by omega) (by omega)
  · exact False.elim HS
theorem sn_checkcast (C : Cx p l R s m args meth cd G E A d M) {pc : Nat} {ls st : List Value} {h : AH} {c n : Nat} {i : Nat} (hdg : decode (mB M) pc = .ok ((.checkcast i), 3)) (HS : STr E CR M Q (PS p l e R s m args below meth cd Qw G A M) pc ls h c n (stp TTv E d M pc ls st h (.checkcast i))) : PS p l e R s m args below meth cd Qw G A M pc ls st h c n := by
  intro H locs cells slots lsA hD hL hc hn
  obtain ⟨hx, hb, hml, hown, hts, hE, hA, hR, hini, hlk, htab, hhx, hthr⟩ := C
  simp only [stp] at HS
  split at HS
  · next a r =>
    obtain ⟨ci, hq, HS⟩ := STr_bind HS
    obtain ⟨fs, hf, HS⟩ := STr_bind HS
    obtain ⟨h7, hl⟩ := nwT_ok hq
    obtain ⟨ws, tys, hP, hK, hDD, hS, hcov⟩ := id hD
    obtain ⟨j, hj⟩ := hcov a _ (ob_spec hf)
    exact va_castS hx hb hown (hts _ hl) (hK.1 ci _ (cl_at h7)).2 (va_recv hK hP (cl_at h7) hj) hdg (HS H locs cells slots lsA hD hL hc hn)
  · exact False.elim HS
end SND
