def ilen (i : Instr) : Nat := match i with
  | .aload _ => 2
  | .iload _ => 2
  | .fload _ => 2
  | .lload _ => 2
  | .lstore _ => 2
  | .ldc2_w _ => 3
  | .istore _ => 2
  | .fstore _ => 2
  | .astore _ => 2
  | .bipush _ => 2
  | .sipush _ => 3
  | .ifCond _ _ => 3
  | .if_icmp _ _ => 3
  | .if_acmp _ _ => 3
  | .ifnull _ => 3
  | .ifnonnull _ => 3
  | .goto _ => 3
  | .iinc _ _ => 3
  | .getfield _ => 3
  | .putfield _ => 3
  | .getstatic _ => 3
  | .ldc _ => 2
  | .newarray _ => 2
  | .anewarray _ => 3
  | .new _ => 3
  | .checkcast _ => 3
  | .invokevirtual _ => 3
  | .invokespecial _ => 3
  | .invokestatic _ => 3
  | _ => 1
def lenOK (i : Instr) (len : Nat) : Bool := match i with
  | .tableswitch _ _ _ _ => true
  | i => Nat.beq (ilen i) len
abbrev PT : Type := Nat → List Value → List Value → AH → Nat → Nat → Prop
abbrev CT : Type := MD → List Value → AH → Nat → Nat → (Out → AH → Prop) → Prop
/-- the handler of M at pc that takes the exception X -/
def hdl (M : MD) (pc X : Nat) : Option Nat := ((mH M).find? (fun x => decide (x.1 ≤ pc) && decide (pc < x.2.1) && Nat.beq x.2.2.2 X)).map (fun x => x.2.2.1)
def Aft (P : PT) (Q : Out → AH → Prop) (M : MD) (ini : Bool) (pc : Nat) (ls st : List Value) (o : Out) (h : AH) (c n : Nat) : Prop := match o with
  | .inl v => P (pc + 3) ls (v.toList ++ st) h c n
  | .inr X => ini = false ∧ match hdl M pc X with
    | some t => ∀ q, P t ls [.ref q] h c n
    | none => Q (.inr X) h
def STr (E : EN) (CR : CT) (M : MD) (Q : Out → AH → Prop) (P : PT) (pc : Nat) (ls : List Value) (h : AH) (c n : Nat) (r : Option RES) : Prop := match r with
  | none => False
  | some (.inl x) => P x.1 x.2.1 x.2.2.1 x.2.2.2 c n
  | some (.inr (.inl x)) => 1 ≤ c ∧ x.1 ≤ n ∧ ∀ q, h q = none → E.1 q = none → P (x.2 q).1 (x.2 q).2.1 (x.2 q).2.2.1 (x.2 q).2.2.2 (c - 1) (n - x.1)
  | some (.inr (.inr (.inl x))) => ∃ c' n', c' ≤ c ∧ n' ≤ n ∧ CR x.1 x.2.1 h c' n' (fun o h' => Aft P Q M (mI x.1) pc ls x.2.2 o h' (c - c') (n - n'))
  | some (.inr (.inr (.inr (.inl v)))) => Q (.inl v) h
  | some (.inr (.inr (.inr (.inr X)))) => 1 ≤ c ∧ 6 ≤ n ∧ Q (.inr X) h
def ST (TT : TAB) (E : EN) (d : Nat) (CR : CT) (M : MD) (Q : Out → AH → Prop) (P : PT) (pc : Nat) (ls st : List Value) (h : AH) (c n : Nat) : Prop := match decode (mB M) pc with
  | .ok x => lenOK x.1 x.2 = true ∧ STr E CR M Q P pc ls h c n (stp TT E d M pc ls st h x.1)
  | .error _ => False
def LF (TT : TAB) (E : EN) (d : Nat) (CR : CT) (M : MD) (Q : Out → AH → Prop) (pc : Nat) (ls st : List Value) (h : AH) (c n : Nat) : Prop :=
  ∀ P : PT, (∀ pc ls st h c n, ST TT E d CR M Q P pc ls st h c n → P pc ls st h c n) → P pc ls st h c n
def ent (M : MD) (as : List Value) : List Value := as ++ List.replicate (mL M - as.length) (.retAddr 0)
def argOK (M : MD) (as : List Value) : Bool := decide (as.length ≤ mL M) && as.all is1
def EvR (TT : TAB) (E : EN) : Nat → MD → (Out → AH → Prop) → PT
  | 0 => fun M Q pc ls st h c n => LF TT E 0 (fun _ _ _ _ _ _ => False) M Q pc ls st h c n
  | d + 1 => fun M Q pc ls st h c n => LF TT E (d + 1) (fun M' as h c n K => argOK M' as = true ∧ EvR TT E d M' K 0 (ent M' as) [] h c n) M Q pc ls st h c n
def CRd (TT : TAB) (E : EN) (d : Nat) : CT := match d with
  | 0 => fun _ _ _ _ _ _ => False
  | d + 1 => fun M' as h c n K => argOK M' as = true ∧ EvR TT E d M' K 0 (ent M' as) [] h c n
theorem EvR_eq (TT : TAB) (E : EN) (d : Nat) (M : MD) (Q : Out → AH → Prop) (pc : Nat) (ls st : List Value) (h : AH) (c n : Nat) : EvR TT E d M Q pc ls st h c n = LF TT E d (CRd TT E d) M Q pc ls st h c n := by
  cases d <;> rfl
def CM (CR : CT) : Prop := ∀ M as h c n (K K' : Out → AH → Prop), (∀ o h, K o h → K' o h) → CR M as h c n K → CR M as h c n K'
theorem Aft_mono {P P' : PT} {Q Q' : Out → AH → Prop} (hp : ∀ pc ls st h c n, P pc ls st h c n → P' pc ls st h c n) (hq : ∀ o h, Q o h → Q' o h) {M : MD} {ini : Bool} {pc : Nat} {ls st : List Value} {o : Out} {h : AH} {c n : Nat} (H : Aft P Q M ini pc ls st o h c n) : Aft P' Q' M ini pc ls st o h c n := by
  unfold Aft at H ⊢
  cases o with
  | inl v => exact hp _ _ _ _ _ _ H
  | inr X =>
    dsimp only at H ⊢
    refine ⟨H.1, ?_⟩
    have H := H.2
    cases hh : hdl M pc X with
    | some t => rw [hh] at H; exact fun q => hp _ _ _ _ _ _ (H q)
    | none => rw [hh] at H; exact hq _ _ H
theorem STr_mono {E : EN} {CR : CT} (hc : CM CR) {M : MD} {Q Q' : Out → AH → Prop} {P P' : PT} (hp : ∀ pc ls st h c n, P pc ls st h c n → P' pc ls st h c n) (hq : ∀ o h, Q o h → Q' o h) {pc : Nat} {ls : List Value} {h : AH} {c n : Nat} {r : Option RES} (H : STr E CR M Q P pc ls h c n r) : STr E CR M Q' P' pc ls h c n r := by
  unfold STr at H ⊢
  match r with
  | none => exact H
  | some (.inl x) => exact hp _ _ _ _ _ _ H
  | some (.inr (.inl x)) => exact ⟨H.1, H.2.1, fun q h1 h2 => hp _ _ _ _ _ _ (H.2.2 q h1 h2)⟩
  | some (.inr (.inr (.inl x))) =>
    obtain ⟨c', n', h1, h2, h3⟩ := H
    exact ⟨c', n', h1, h2, hc _ _ _ _ _ _ _ (fun o h' => Aft_mono hp hq) h3⟩
  | some (.inr (.inr (.inr (.inl v)))) => exact hq _ _ H
  | some (.inr (.inr (.inr (.inr X)))) => exact ⟨H.1, H.2.1, hq _ _ H.2.2⟩
theorem ST_mono {TT : TAB} {E : EN} {d : Nat} {CR : CT} (hc : CM CR) {M : MD} {Q Q' : Out → AH → Prop} {P P' : PT} (hp : ∀ pc ls st h c n, P pc ls st h c n → P' pc ls st h c n) (hq : ∀ o h, Q o h → Q' o h) {pc : Nat} {ls st : List Value} {h : AH} {c n : Nat} (H : ST TT E d CR M Q P pc ls st h c n) : ST TT E d CR M Q' P' pc ls st h c n := by
  unfold ST at H ⊢
  cases hd : decode (mB M) pc with
  | ok x => rw [hd] at H; exact ⟨H.1, STr_mono hc hp hq H.2⟩
  | error z => rw [hd] at H; exact H
theorem LF_iff {TT : TAB} {E : EN} {d : Nat} {CR : CT} (hc : CM CR) {M : MD} {Q : Out → AH → Prop} {pc : Nat} {ls st : List Value} {h : AH} {c n : Nat} : LF TT E d CR M Q pc ls st h c n ↔ ST TT E d CR M Q (LF TT E d CR M Q) pc ls st h c n := by
  have fold : ∀ pc ls st h c n, ST TT E d CR M Q (LF TT E d CR M Q) pc ls st h c n → LF TT E d CR M Q pc ls st h c n := fun pc ls st h c n H P hP => hP _ _ _ _ _ _ (ST_mono hc (fun pc ls st h c n H => H P hP) (fun _ _ q => q) H)
  exact ⟨fun H => H (ST TT E d CR M Q (LF TT E d CR M Q)) (fun pc ls st h c n H => ST_mono hc fold (fun _ _ q => q) H), fold _ _ _ _ _ _⟩
theorem LF_mono {TT : TAB} {E : EN} {d : Nat} {CR : CT} (hc : CM CR) {M : MD} {Q Q' : Out → AH → Prop} (hq : ∀ o h, Q o h → Q' o h) {pc : Nat} {ls st : List Value} {h : AH} {c n : Nat} (H : LF TT E d CR M Q pc ls st h c n) : LF TT E d CR M Q' pc ls st h c n :=
  fun P hP => H P (fun pc ls st h c n H => hP _ _ _ _ _ _ (ST_mono hc (fun _ _ _ _ _ _ q => q) hq H))
theorem CRd_mono (TT : TAB) (E : EN) : ∀ d, CM (CRd TT E d)
  | 0 => fun _ _ _ _ _ _ _ _ H => H
  | d + 1 => fun M as h c n K K' hk H => by
    have H : argOK M as = true ∧ EvR TT E d M K 0 (ent M as) [] h c n := H
    refine (⟨H.1, ?_⟩ : argOK M as = true ∧ EvR TT E d M K' 0 (ent M as) [] h c n)
    have H := H.2
    rw [EvR_eq] at H ⊢
    exact LF_mono (CRd_mono TT E d) hk H
theorem Ev_iff {TT : TAB} {E : EN} {d : Nat} {M : MD} {Q : Out → AH → Prop} {pc : Nat} {ls st : List Value} {h : AH} {c n : Nat} : EvR TT E d M Q pc ls st h c n ↔ ST TT E d (CRd TT E d) M Q (EvR TT E d M Q) pc ls st h c n := by
  have e : EvR TT E d M Q = LF TT E d (CRd TT E d) M Q := by
    funext pc ls st h c n
    exact EvR_eq _ _ _ _ _ _ _ _ _ _ _
  rw [e]
  exact LF_iff (CRd_mono TT E d)
theorem Ev_mono {TT : TAB} {E : EN} {d : Nat} {M : MD} {Q Q' : Out → AH → Prop} (hq : ∀ o h, Q o h → Q' o h) {pc : Nat} {ls st : List Value} {h : AH} {c n : Nat} (H : EvR TT E d M Q pc ls st h c n) : EvR TT E d M Q' pc ls st h c n := by
  rw [EvR_eq] at H ⊢
  exact LF_mono (CRd_mono TT E d) hq H
theorem Ev_at {TT : TAB} {E : EN} {d : Nat} {M : MD} {Q : Out → AH → Prop} {pc : Nat} {ls st : List Value} {h : AH} {c n : Nat} {cc : ByteArray} {i : Instr} {len : Nat} (hM : mB M = cc) (hd : decode cc pc = .ok (i, len)) (hl : lenOK i len = true) : EvR TT E d M Q pc ls st h c n ↔ STr E (CRd TT E d) M Q (EvR TT E d M Q) pc ls h c n (stp TT E d M pc ls st h i) := by
  rw [Ev_iff]
  unfold ST
  rw [hM, hd]
  exact ⟨fun H => H.2, fun H => ⟨hl, H⟩⟩
section ROWS
variable {TT : TAB} {E : EN} {d : Nat} {M : MD} {Q : Out → AH → Prop} {pc : Nat} {ls st : List Value} {h : AH} {c n : Nat} {cc : ByteArray} {i : Instr} {len : Nat}
/-- straight on -/
theorem r_nx (hM : mB M = cc) (hd : decode cc pc = .ok (i, len)) (hl : lenOK i len = true) {x : CF} (hs : stp TT E d M pc ls st h i = some (.inl x)) : EvR TT E d M Q pc ls st h c n ↔ EvR TT E d M Q x.1 x.2.1 x.2.2.1 x.2.2.2 c n := by
  rw [Ev_at hM hd hl, hs]; exact Iff.rfl
theorem r_if (hM : mB M = cc) (hd : decode cc pc = .ok (i, len)) (hl : lenOK i len = true) {x : CF} {b : Prop} [Decidable b] (hs : stp TT E d M pc ls st h i = ift b (some (.inl x))) : EvR TT E d M Q pc ls st h c n ↔ b ∧ EvR TT E d M Q x.1 x.2.1 x.2.2.1 x.2.2.2 c n := by
  rw [Ev_at hM hd hl, hs]
  unfold ift
  by_cases hb : b
  · rw [if_pos hb]; exact ⟨fun H => ⟨hb, H⟩, fun H => H.2⟩
  · rw [if_neg hb]; exact ⟨fun H => H.elim, fun H => absurd H.1 hb⟩
theorem r_br (hM : mB M = cc) (hd : decode cc pc = .ok (i, len)) (hl : lenOK i len = true) {x y : CF} {b : Prop} [Decidable b] (hs : stp TT E d M pc ls st h i = if b then some (.inl x) else some (.inl y)) : EvR TT E d M Q pc ls st h c n ↔ if b then EvR TT E d M Q x.1 x.2.1 x.2.2.1 x.2.2.2 c n else EvR TT E d M Q y.1 y.2.1 y.2.2.1 y.2.2.2 c n := by
  rw [Ev_at hM hd hl, hs]
  by_cases hb : b
  · rw [if_pos hb, if_pos hb]; exact Iff.rfl
  · rw [if_neg hb, if_neg hb]; exact Iff.rfl
theorem r_ifbr (hM : mB M = cc) (hd : decode cc pc = .ok (i, len)) (hl : lenOK i len = true) {x y : CF} {a b : Prop} [Decidable a] [Decidable b] (hs : stp TT E d M pc ls st h i = ift a (if b then some (.inl x) else some (.inl y))) : EvR TT E d M Q pc ls st h c n ↔ a ∧ if b then EvR TT E d M Q x.1 x.2.1 x.2.2.1 x.2.2.2 c n else EvR TT E d M Q y.1 y.2.1 y.2.2.1 y.2.2.2 c n := by
  rw [Ev_at hM hd hl, hs]
  unfold ift
  by_cases ha : a
  · rw [if_pos ha]
    by_cases hb : b
    · rw [if_pos hb, if_pos hb]; exact ⟨fun H => ⟨ha, H⟩, fun H => H.2⟩
    · rw [if_neg hb, if_neg hb]; exact ⟨fun H => ⟨ha, H⟩, fun H => H.2⟩
  · rw [if_neg ha]; exact ⟨fun H => H.elim, fun H => absurd H.1 ha⟩
/-- a read -/
theorem r_bd (hM : mB M = cc) (hd : decode cc pc = .ok (i, len)) (hl : lenOK i len = true) {α : Type} {o : Option α} {x : α → CF} (hs : stp TT E d M pc ls st h i = o.bind fun z => some (.inl (x z))) : EvR TT E d M Q pc ls st h c n ↔ ∃ z, o = some z ∧ EvR TT E d M Q (x z).1 (x z).2.1 (x z).2.2.1 (x z).2.2.2 c n := by
  rw [Ev_at hM hd hl, hs]
  cases o with
  | none => exact ⟨fun H => H.elim, fun ⟨z, hz, _⟩ => nomatch hz⟩
  | some z => exact ⟨fun H => ⟨z, rfl, H⟩, fun ⟨z', hz, H⟩ => by cases hz; exact H⟩
/-- a read with a test -/
theorem r_bi (hM : mB M = cc) (hd : decode cc pc = .ok (i, len)) (hl : lenOK i len = true) {α : Type} {o : Option α} {b : α → Prop} [∀ z, Decidable (b z)] {x : α → CF} (hs : stp TT E d M pc ls st h i = o.bind fun z => ift (b z) (some (.inl (x z)))) : EvR TT E d M Q pc ls st h c n ↔ ∃ z, o = some z ∧ b z ∧ EvR TT E d M Q (x z).1 (x z).2.1 (x z).2.2.1 (x z).2.2.2 c n := by
  rw [Ev_at hM hd hl, hs]
  cases o with
  | none => exact ⟨fun H => H.elim, fun ⟨z, hz, _⟩ => nomatch hz⟩
  | some z =>
    show STr E _ M Q _ pc ls h c n (ift (b z) _) ↔ _
    unfold ift
    by_cases hb : b z
    · rw [if_pos hb]; exact ⟨fun H => ⟨z, rfl, hb, H⟩, fun ⟨z', hz, _, H⟩ => by cases hz; exact H⟩
    · rw [if_neg hb]; exact ⟨fun H => H.elim, fun ⟨z', hz, h2, _⟩ => by cases hz; exact absurd h2 hb⟩
/-- two reads -/
theorem r_bb (hM : mB M = cc) (hd : decode cc pc = .ok (i, len)) (hl : lenOK i len = true) {α β : Type} {o : Option α} {o2 : α → Option β} {x : α → β → CF} (hs : stp TT E d M pc ls st h i = o.bind fun z => (o2 z).bind fun w => some (.inl (x z w))) : EvR TT E d M Q pc ls st h c n ↔ ∃ z, o = some z ∧ ∃ w, o2 z = some w ∧ EvR TT E d M Q (x z w).1 (x z w).2.1 (x z w).2.2.1 (x z w).2.2.2 c n := by
  rw [Ev_at hM hd hl, hs]
  cases o with
  | none => exact ⟨fun H => H.elim, fun ⟨z, hz, _⟩ => nomatch hz⟩
  | some z =>
    show STr E _ M Q _ pc ls h c n ((o2 z).bind _) ↔ _
    cases h2 : o2 z with
    | none => exact ⟨fun H => H.elim, fun ⟨z', hz, w, hw, _⟩ => by cases hz; rw [h2] at hw; cases hw⟩
    | some w => exact ⟨fun H => ⟨z, rfl, w, h2, H⟩, fun ⟨z', hz, w', hw, H⟩ => by cases hz; rw [h2] at hw; cases hw; exact H⟩
/-- two reads and a test -/
theorem r_bbi (hM : mB M = cc) (hd : decode cc pc = .ok (i, len)) (hl : lenOK i len = true) {α β : Type} {o : Option α} {o2 : α → Option β} {b : α → β → Prop} [∀ z w, Decidable (b z w)] {x : α → β → CF} (hs : stp TT E d M pc ls st h i = o.bind fun z => (o2 z).bind fun w => ift (b z w) (some (.inl (x z w)))) : EvR TT E d M Q pc ls st h c n ↔ ∃ z, o = some z ∧ ∃ w, o2 z = some w ∧ b z w ∧ EvR TT E d M Q (x z w).1 (x z w).2.1 (x z w).2.2.1 (x z w).2.2.2 c n := by
  rw [Ev_at hM hd hl, hs]
  cases o with
  | none => exact ⟨fun H => H.elim, fun ⟨z, hz, _⟩ => nomatch hz⟩
  | some z =>
    show STr E _ M Q _ pc ls h c n ((o2 z).bind _) ↔ _
    cases h2 : o2 z with
    | none => exact ⟨fun H => H.elim, fun ⟨z', hz, w, hw, _⟩ => by cases hz; rw [h2] at hw; cases hw⟩
    | some w =>
      show STr E _ M Q _ pc ls h c n (ift (b z w) _) ↔ _
      unfold ift
      by_cases hb : b z w
      · rw [if_pos hb]; exact ⟨fun H => ⟨z, rfl, w, h2, hb, H⟩, fun ⟨z', hz, w', hw, _, H⟩ => by cases hz; rw [h2] at hw; cases hw; exact H⟩
      · rw [if_neg hb]; exact ⟨fun H => H.elim, fun ⟨z', hz, w', hw, hb2, _⟩ => by cases hz; rw [h2] at hw; cases hw; exact absurd hb2 hb⟩
/-- something new -/
theorem r_new (hM : mB M = cc) (hd : decode cc pc = .ok (i, len)) (hl : lenOK i len = true) {k : Nat} {x : Nat → CF} (hs : stp TT E d M pc ls st h i = some (.inr (.inl (k, x)))) : EvR TT E d M Q pc ls st h c n ↔ 1 ≤ c ∧ k ≤ n ∧ ∀ q, h q = none → E.1 q = none → EvR TT E d M Q (x q).1 (x q).2.1 (x q).2.2.1 (x q).2.2.2 (c - 1) (n - k) := by
  rw [Ev_at hM hd hl, hs]; exact Iff.rfl
theorem r_newi (hM : mB M = cc) (hd : decode cc pc = .ok (i, len)) (hl : lenOK i len = true) {k : Nat} {b : Prop} [Decidable b] {x : Nat → CF} (hs : stp TT E d M pc ls st h i = ift b (some (.inr (.inl (k, x))))) : EvR TT E d M Q pc ls st h c n ↔ b ∧ 1 ≤ c ∧ k ≤ n ∧ ∀ q, h q = none → E.1 q = none → EvR TT E d M Q (x q).1 (x q).2.1 (x q).2.2.1 (x q).2.2.2 (c - 1) (n - k) := by
  rw [Ev_at hM hd hl, hs]
  unfold ift
  by_cases hb : b
  · rw [if_pos hb]; exact ⟨fun H => ⟨hb, H⟩, fun H => H.2⟩
  · rw [if_neg hb]; exact ⟨fun H => H.elim, fun H => absurd H.1 hb⟩
theorem r_ret (hM : mB M = cc) (hd : decode cc pc = .ok (i, len)) (hl : lenOK i len = true) {v : Option Value} {b : Prop} [Decidable b] (hs : stp TT E d M pc ls st h i = ift b (some (.inr (.inr (.inr (.inl v)))))) : EvR TT E d M Q pc ls st h c n ↔ b ∧ Q (.inl v) h := by
  rw [Ev_at hM hd hl, hs]
  unfold ift
  by_cases hb : b
  · rw [if_pos hb]; exact ⟨fun H => ⟨hb, H⟩, fun H => H.2⟩
  · rw [if_neg hb]; exact ⟨fun H => H.elim, fun H => absurd H.1 hb⟩
theorem r_thr (hM : mB M = cc) (hd : decode cc pc = .ok (i, len)) (hl : lenOK i len = true) {X : Nat} {b : Prop} [Decidable b] (hs : stp TT E d M pc ls st h i = ift b (some (.inr (.inr (.inr (.inr X)))))) : EvR TT E d M Q pc ls st h c n ↔ b ∧ 1 ≤ c ∧ 6 ≤ n ∧ Q (.inr X) h := by
  rw [Ev_at hM hd hl, hs]
  unfold ift
  by_cases hb : b
  · rw [if_pos hb]; exact ⟨fun H => ⟨hb, H⟩, fun H => H.2⟩
  · rw [if_neg hb]; exact ⟨fun H => H.elim, fun H => absurd H.1 hb⟩
/-- what a call owes: some room for it, its contract, and what comes behind -/
def Inv (TT : TAB) (E : EN) (d : Nat) (M M' : MD) (Q : Out → AH → Prop) (pc : Nat) (ls st as : List Value) (h : AH) (c n : Nat) : Prop := ∃ c' n', c' ≤ c ∧ n' ≤ n ∧ CRd TT E d M' as h c' n' (fun o h' => Aft (EvR TT E d M Q) Q M (mI M') pc ls st o h' (c - c') (n - n'))
theorem r_call (hM : mB M = cc) (hd : decode cc pc = .ok (i, len)) (hl : lenOK i len = true) {M' : MD} {as r : List Value} {b : Prop} [Decidable b] (hs : stp TT E d M pc ls st h i = ift b (some (.inr (.inr (.inl (M', as, r)))))) : EvR TT E d M Q pc ls st h c n ↔ b ∧ Inv TT E d M M' Q pc ls r as h c n := by
  rw [Ev_at hM hd hl, hs]
  unfold ift
  by_cases hb : b
  · rw [if_pos hb]; exact ⟨fun H => ⟨hb, H⟩, fun H => H.2⟩
  · rw [if_neg hb]; exact ⟨fun H => H.elim, fun H => absurd H.1 hb⟩
theorem r_callb (hM : mB M = cc) (hd : decode cc pc = .ok (i, len)) (hl : lenOK i len = true) {α : Type} {o : Option α} {M' : MD} {as r : List Value} {b : Prop} [Decidable b] (hs : stp TT E d M pc ls st h i = o.bind fun _ => ift b (some (.inr (.inr (.inl (M', as, r)))))) : EvR TT E d M Q pc ls st h c n ↔ (∃ z, o = some z) ∧ b ∧ Inv TT E d M M' Q pc ls r as h c n := by
  rw [Ev_at hM hd hl, hs]
  cases o with
  | none => exact ⟨fun H => H.elim, fun ⟨⟨z, hz⟩, _⟩ => nomatch hz⟩
  | some z =>
    show STr E _ M Q _ pc ls h c n (ift b _) ↔ _
    unfold ift
    by_cases hb : b
    · rw [if_pos hb]; exact ⟨fun H => ⟨⟨z, rfl⟩, hb, H⟩, fun H => H.2.2⟩
    · rw [if_neg hb]; exact ⟨fun H => H.elim, fun H => absurd H.2.1 hb⟩
theorem r_put (hM : mB M = cc) (hd : decode cc pc = .ok (i, len)) (hl : lenOK i len = true) {α : Type} {o : Option α} {b : α → Prop} {f : Prop} [∀ z, Decidable (b z)] [Decidable f] {x : α → CF} (hs : stp TT E d M pc ls st h i = o.bind fun z => ift (b z ∧ f) (some (.inl (x z)))) (hf : f) : EvR TT E d M Q pc ls st h c n ↔ ∃ z, o = some z ∧ b z ∧ EvR TT E d M Q (x z).1 (x z).2.1 (x z).2.2.1 (x z).2.2.2 c n := by
  rw [r_bi (b := fun z => b z ∧ f) hM hd hl hs]
  exact ⟨fun ⟨z, h1, h2, h3⟩ => ⟨z, h1, h2.1, h3⟩, fun ⟨z, h1, h2, h3⟩ => ⟨z, h1, ⟨h2, hf⟩, h3⟩⟩
theorem r_callv (hM : mB M = cc) (hd : decode cc pc = .ok (i, len)) (hl : lenOK i len = true) {α : Type} {o : Option α} {M' : MD} {as r : List Value} {p b : Prop} [Decidable p] [Decidable b] (hs : stp TT E d M pc ls st h i = o.bind fun _ => ift (p ∧ b) (some (.inr (.inr (.inl (M', as, r)))))) (hp : p) : EvR TT E d M Q pc ls st h c n ↔ (∃ z, o = some z) ∧ b ∧ Inv TT E d M M' Q pc ls r as h c n := by
  rw [r_callb hM hd hl hs]
  exact ⟨fun H => ⟨H.1, H.2.1.2, H.2.2⟩, fun H => ⟨H.1, ⟨hp, H.2.1⟩, H.2.2⟩⟩
theorem r_callp (hM : mB M = cc) (hd : decode cc pc = .ok (i, len)) (hl : lenOK i len = true) {M' : MD} {as r : List Value} {p b : Prop} [Decidable p] [Decidable b] (hs : stp TT E d M pc ls st h i = ift (p ∧ b) (some (.inr (.inr (.inl (M', as, r)))))) (hp : p) : EvR TT E d M Q pc ls st h c n ↔ b ∧ Inv TT E d M M' Q pc ls r as h c n := by
  rw [r_call hM hd hl hs]
  exact ⟨fun H => ⟨H.1.2, H.2⟩, fun H => ⟨⟨hp, H.1⟩, H.2⟩⟩
theorem r_retp (hM : mB M = cc) (hd : decode cc pc = .ok (i, len)) (hl : lenOK i len = true) {v : Option Value} {b : Prop} [Decidable b] (hs : stp TT E d M pc ls st h i = ift b (some (.inr (.inr (.inr (.inl v)))))) (hb : b) : EvR TT E d M Q pc ls st h c n ↔ Q (.inl v) h := by
  rw [r_ret hM hd hl hs]
  exact ⟨fun H => H.2, fun H => ⟨hb, H⟩⟩
theorem r_ret2 (hM : mB M = cc) (hd : decode cc pc = .ok (i, len)) (hl : lenOK i len = true) {v : Option Value} {a b : Prop} [Decidable a] [Decidable b] (hs : stp TT E d M pc ls st h i = ift (a ∧ b) (some (.inr (.inr (.inr (.inl v)))))) (hb : b) : EvR TT E d M Q pc ls st h c n ↔ a ∧ Q (.inl v) h := by
  rw [r_ret hM hd hl hs]
  exact ⟨fun H => ⟨H.1.1, H.2⟩, fun H => ⟨⟨H.1, hb⟩, H.2⟩⟩
end ROWS
