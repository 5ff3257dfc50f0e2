/-! the law's heap: the class, the model, the two rows for answers -/
def LPp (mo : Nat) (ad : Nat → Nat) (ou oD : Nat) : Nat → Prop := fun q => q = mo ∨ (∃ k, k < 15 ∧ q = ad k) ∨ q = ou ∨ q = oD
def LD (mo : Nat) (ad : Nat → Nat) (ou oD : Nat) : Prop := ADok mo ad ∧ (∀ k, k < 15 → ad k ≠ ou ∧ ad k ≠ oD) ∧ ou ≠ mo ∧ oD ≠ mo ∧ ou ≠ oD
abbrev acL (f : Nat → Int64) : AC := .inl (2, 1, .inr (.inl f))
abbrev acD (f : Nat → UInt64) : AC := .inl (3, 1, .inr (.inr (.inr (.inl f))))
def LJ (E : EN) (x mo : Nat) (ad : Nat → Nat) (ou oD : Nat) (σc σm : Sg) (th : Nat) (v : Int64) (w : UInt64) (H : AH) : Prop := CW E (LPp mo ad ou oD) H x σc H ∧ (∃ M, RM σm th M ∧ mv H mo ad M = H) ∧ (∃ f, H ou = some (acL f) ∧ f 0 = v) ∧ (∃ f, H oD = some (acD f) ∧ f 0 = w)
theorem crdm {E : EN} {d : Nat} {m : MD} {as : List Value} {H : AH} {mo : Nat} {ad : Nat → Nat} {M : MS} {c n : Nat} {K : Out → AH → Prop} (e : mv H mo ad M = H) (h : CRd TTv E d m as (mv H mo ad M) c n K) : CRd TTv E d m as H c n K := by
  rw [e] at h; exact h
theorem mv_at {H : AH} {mo : Nat} {ad : Nat → Nat} {M : MS} (e : mv H mo ad M = H) : H mo = some (.inr (6, mfs M ad)) := by
  rw [← e]
  unfold mv
  exact if_pos rfl
theorem mv_mv {H : AH} {mo : Nat} {ad : Nat → Nat} {M : MS} : mv (mv H mo ad M) mo ad M = mv H mo ad M := by
  funext q
  unfold mv
  by_cases hq : q = mo
  · rw [if_pos hq]; simp only [if_pos hq]
  · rw [if_neg hq]
    cases hf : (List.range 15).find? (fun i => Nat.beq (ad i) q) with
    | some k => simp only [if_neg hq, hf]
    | none => simp only [if_neg hq, hf]
theorem mv_out {H : AH} {mo : Nat} {ad : Nat → Nat} {M : MS} {y : Nat} (h1 : y ≠ mo) (h2 : ∀ k, k < 15 → y ≠ ad k) : mv H mo ad M y = H y := by
  unfold mv
  rw [if_neg h1]
  cases hf : (List.range 15).find? (fun i => Nat.beq (ad i) y) with
  | none => rfl
  | some i =>
    have e1 := Nat.eq_of_beq_eq_true (List.find?_some (p := fun i => Nat.beq (ad i) y) hf)
    have e2 := List.mem_range.mp (List.mem_of_find?_eq_some hf)
    exact absurd e1.symm (h2 i e2)
theorem mv_some {H : AH} {mo : Nat} {ad : Nat → Nat} {M : MS} {y : Nat} (h : H y ≠ none) : mv H mo ad M y ≠ none := by
  unfold mv
  split
  · simp
  · split
    · simp
    · exact h
theorem ou_0 {l : List Nat} {p : SP} (h : p.1 = 0) : ou l p = .inl (some (.int p.2.1)) := if_pos h
theorem ou_k {l : List Nat} {p : SP} {k : Nat} (h : p.1 = k + 1) : ou l p = .inr (l.getD k 0) := by
  unfold ou
  rw [if_neg (by omega), h]; rfl
section LAW1
variable {E : EN} {P : Nat → Prop} {H0 : AH} {x mo : Nat} {ad : Nat → Nat} {ou oD : Nat} {σ σc σm : Sg} {th : Nat} {v : Int64} {w : UInt64} {H : AH}
theorem CX.reP {A : AD} {Z : Nat → Nat} {X : XX} {ho : Nat → Option Nat} {wr : Nat → Bool} {P' : Nat → Prop} {H' : AH} (C : CX E P H0 A Z X σ ho wr H) (h1 : ∀ y, ¬ P' y → H y ≠ none → H' y = H y) (h2 : ∀ y, P' y → H' y ≠ none ∧ (P y ∨ H y = none)) (h3 : ∀ q, E.1 q ≠ none → H' q = none) : CX E P' H' A Z X σ ho wr H' := by
  have np : ∀ k i, lv (x_cap X) (s_nS σ) (s_nJ σ) k i → ¬ P' (adr A Z k i) := fun k i hl hp => by
    rcases (h2 _ hp).2 with h | h
    · exact C.2.2.1 k i hl h
    · rw [C.1 k i hl] at h; cases h
  exact ⟨fun k i hl => by rw [h1 _ (np k i hl) (by rw [C.1 k i hl]; simp)]; exact C.1 k i hl, C.2.1, np, C.rl, C.wl, fun q hq => ⟨rfl, (h2 q hq).1⟩, h3, C.ea⟩
theorem CW.reP {P' : Nat → Prop} {H' : AH} (C : CW E P H0 x σ H) (h1 : ∀ y, ¬ P' y → H y ≠ none → H' y = H y) (h2 : ∀ y, P' y → H' y ≠ none ∧ (P y ∨ H y = none)) (h3 : ∀ q, E.1 q ≠ none → H' q = none) : CW E P' H' x σ H' := by
  obtain ⟨A, wr, e, Z, X, C, ec⟩ := C
  exact ⟨A, wr, e, Z, X, C.reP h1 h2 h3, ec⟩
theorem CW.fr (C : CW E P H0 x σ H) : Fr E P H0 H := by
  obtain ⟨A, wr, e, C⟩ := C
  exact C.fr
theorem CW.xo (C : CW E P H0 x σ H) : ∃ z, ob H x 5 = some z := by
  obtain ⟨A, wr, rfl, C⟩ := C
  exact C.oT
theorem LJ.fE (J : LJ E x mo ad ou oD σc σm th v w H) : ∀ q, E.1 q ≠ none → H q = none := J.1.fr.2.1
theorem LJ.cls {σ' : Sg} {H' : AH} (D : LD mo ad ou oD) (J : LJ E x mo ad ou oD σc σm th v w H) (C : CW E (LPp mo ad ou oD) H x σ' H') : LJ E x mo ad ou oD σ' σm th v w H' := by
  obtain ⟨j1, ⟨M, R, e⟩, ⟨f, j3, j4⟩, ⟨g, j5, j6⟩⟩ := J
  have hf := C.fr
  have eq : ∀ y, LPp mo ad ou oD y → H' y = H y := fun y hy => (hf.1 y hy).1
  refine ⟨C.reP (fun y _ _ => rfl) (fun y hy => ⟨by rw [eq y hy]; exact (hf.1 y hy).2, Or.inl hy⟩) hf.2.1, ⟨M, R, ?_⟩, ⟨f, ?_, j4⟩, ⟨g, ?_, j6⟩⟩
  · refine mv_self ?_ (fun k hk => ?_)
    · rw [eq mo (Or.inl rfl)]; exact mv_at e
    · rw [eq (ad k) (Or.inr (Or.inl ⟨k, hk, rfl⟩)), ← e]; exact mv_ad D.1 hk
  · rw [eq ou (Or.inr (Or.inr (Or.inl rfl)))]; exact j3
  · rw [eq oD (Or.inr (Or.inr (Or.inr rfl)))]; exact j5
theorem LJ.putA {H' : AH} {v' : Int64} {w' : UInt64} (D : LD mo ad ou oD) (J : LJ E x mo ad ou oD σc σm th v w H) (h1 : ∀ y, y ≠ ou → y ≠ oD → H' y = H y) (h2 : ∃ f, H' ou = some (acL f) ∧ f 0 = v') (h3 : ∃ f, H' oD = some (acD f) ∧ f 0 = w') : LJ E x mo ad ou oD σc σm th v' w' H' := by
  obtain ⟨j1, ⟨M, R, e⟩, ⟨f, j3, j4⟩, ⟨g, j5, j6⟩⟩ := J
  have hE := j1.fr.2.1
  refine ⟨j1.reP (fun y hy _ => h1 y (fun e => hy (Or.inr (Or.inr (Or.inl e)))) (fun e => hy (Or.inr (Or.inr (Or.inr e))))) (fun y hy => ⟨?_, Or.inl hy⟩) (fun q hq => ?_), ⟨M, R, ?_⟩, h2, h3⟩
  · by_cases y1 : y = ou
    · subst y1; obtain ⟨f, h, -⟩ := h2; rw [h]; simp
    · by_cases y2 : y = oD
      · subst y2; obtain ⟨f, h, -⟩ := h3; rw [h]; simp
      · rw [h1 y y1 y2]
        have := (j1.fr.1 y hy).2
        exact this
  · rw [h1 q (fun e => by have := hE q hq; rw [e, j3] at this; cases this) (fun e => by have := hE q hq; rw [e, j5] at this; cases this)]
    exact hE q hq
  · refine mv_self ?_ (fun k hk => ?_)
    · rw [h1 mo D.2.2.1.symm D.2.2.2.1.symm]; exact mv_at e
    · rw [h1 (ad k) (D.2.1 k hk).1 (D.2.1 k hk).2, ← e]; exact mv_ad D.1 hk
theorem LJ.out {v' : Int64} {f : Nat → Int64} (D : LD mo ad ou oD) (J : LJ E x mo ad ou oD σc σm th v w H) (h : f 0 = v') : LJ E x mo ad ou oD σc σm th v' w (hset H ou (acL f)) :=
  J.putA D (fun y h1 _ => hs_n h1) ⟨f, hs_e, h⟩ (by rw [hs_n D.2.2.2.2.symm]; exact J.2.2.2)
theorem LJ.outD {w' : UInt64} {f : Nat → UInt64} (D : LD mo ad ou oD) (J : LJ E x mo ad ou oD σc σm th v w H) (h : f 0 = w') : LJ E x mo ad ou oD σc σm th v w' (hset H oD (acD f)) :=
  J.putA D (fun y _ h1 => hs_n h1) (by rw [hs_n D.2.2.2.2]; exact J.2.2.1) ⟨f, hs_e, h⟩
theorem LJ.mod {M' : MS} {σm' : Sg} {th' : Nat} (D : LD mo ad ou oD) (J : LJ E x mo ad ou oD σc σm th v w H) (R' : RM σm' th' M') : LJ E x mo ad ou oD σc σm' th' v w (mv H mo ad M') := by
  obtain ⟨j1, ⟨M, R, e⟩, ⟨f, j3, j4⟩, ⟨g, j5, j6⟩⟩ := J
  have hE := j1.fr.2.1
  have nP : ∀ y, ¬ LPp mo ad ou oD y → mv H mo ad M' y = H y := fun y hy => mv_out (fun e => hy (Or.inl e)) (fun k hk e => hy (Or.inr (Or.inl ⟨k, hk, e⟩)))
  refine ⟨j1.reP (fun y hy _ => nP y hy) (fun y hy => ⟨mv_some (j1.fr.1 y hy).2, Or.inl hy⟩) (fun q hq => ?_), ⟨M', R', mv_mv⟩, ⟨f, ?_, j4⟩, ⟨g, ?_, j6⟩⟩
  · rw [nP q (fun hp => (j1.fr.1 q hp).2 (hE q hq))]
    exact hE q hq
  · rw [mv_out D.2.2.1 (fun k hk => (D.2.1 k hk).1.symm)]; exact j3
  · rw [mv_out D.2.2.2.1 (fun k hk => (D.2.1 k hk).2.symm)]; exact j5
theorem LJ.mob (J : LJ E x mo ad ou oD σc σm th v w H) : ∃ z, ob H mo 6 = some z := by
  obtain ⟨-, ⟨M, R, e⟩, -⟩ := J
  exact ⟨_, ob_of (mv_at e)⟩
theorem rwJ_of {h : AH} {a : Nat} {f : Nat → Int64} (e : h a = some (acL f)) : rwJ h a = some (1, f) := by unfold rwJ; rw [e]; rfl
theorem rdJ_of {h : AH} {a : Nat} {f : Nat → Int64} (e : h a = some (acL f)) : rdJ E h a = some (1, f) := by unfold rdJ; rw [rd_of e]; rfl
theorem rwD_of {h : AH} {a : Nat} {f : Nat → UInt64} (e : h a = some (acD f)) : rwD h a = some (1, f) := by unfold rwD; rw [e]; rfl
theorem rdD_of {h : AH} {a : Nat} {f : Nat → UInt64} (e : h a = some (acD f)) : rdD E h a = some (1, f) := by unfold rdD; rw [rd_of e]; rfl
theorem rdI_E {h : AH} {b L : Nat} {xs : Nat → Int32} (e : h b = none) (e2 : E.1 b = some (arI L xs)) : rdI E h b 0 = some (L, xs) := by
  unfold rdI rd
  rw [e]
  dsimp only
  rw [e2]
  exact if_pos rfl
theorem aft_h {P : PT} {Q : Out → AH → Prop} {M : MD} {ini : Bool} {pc t : Nat} {ls st : List Value} {X : Nat} {h : AH} {c n : Nat} (hi : ini = false) (hh : hdl M pc X = some t) (hq : ∀ q, P t ls [.ref q] h c n) : Aft P Q M ini pc ls st (.inr X) h c n := by
  unfold Aft
  refine ⟨hi, ?_⟩
  rw [hh]; exact hq
theorem lg_self {a : Int64} : lg_cmp a a = 0 := by
  unfold lg_cmp
  simp
end LAW1
def sw_t : List Nat := [200, 272, 363, 419, 475, 538, 594, 662, 675, 731, 811, 931, 987, 1043, 1099, 1155, 1211, 1274, 1330, 1400, 1456, 1512, 1575, 1588, 1644, 1700, 1756, 1812, 1868, 1938, 1994, 2007, 2063, 2119, 2133]
theorem sw_j : ∀ k : Fin 64, (if (nI k.1).toInt < 0 ∨ 34 < (nI k.1).toInt then jmp 45 2154 else ((#[155, 227, 318, 374, 430, 493, 549, 617, 630, 686, 766, 886, 942, 998, 1054, 1110, 1166, 1229, 1285, 1355, 1411, 1467, 1530, 1543, 1599, 1655, 1711, 1767, 1823, 1893, 1949, 1962, 2018, 2074, 2088] : Array Int)[((nI k.1).toInt - 0).toNat]?).bind fun o => jmp 45 o) = some (sw_t.getD k.1 2199) := by decide +kernel
theorem L_sw {E : EN} {d : Nat} {Q : Out → AH → Prop} {ls st : List Value} {h : AH} {c n k : Nat} (hk : k < 64) : Ev E d mL_law Q 45 ls (.int (nI k) :: st) h c n ↔ Ev E d mL_law Q (sw_t.getD k 2199) ls st h c n := by
  refine r_nx (x := (sw_t.getD k 2199, ls, st, h)) bL_law dL_law_45 rfl ?_
  have e := sw_j ⟨k, hk⟩
  show (Option.bind (if (nI k).toInt < 0 ∨ 34 < (nI k).toInt then jmp 45 2154 else ((#[155, 227, 318, 374, 430, 493, 549, 617, 630, 686, 766, 886, 942, 998, 1054, 1110, 1166, 1229, 1285, 1355, 1411, 1467, 1530, 1543, 1599, 1655, 1711, 1767, 1823, 1893, 1949, 1962, 2018, 2074, 2088] : Array Int)[((nI k).toInt - 0).toNat]?).bind fun o => jmp 45 o) (fun t => nx t ls st h)) = _
  rw [e]
  rfl
theorem and_63 (v : Int32) : ∃ k, k < 64 ∧ v &&& 63 = nI k := by
  obtain ⟨n, rfl⟩ := nI_sur v
  refine ⟨n &&& 63, ?_, ?_⟩
  · have : n &&& 63 ≤ 63 := Nat.and_le_right
    omega
  · exact fa_and n 63
