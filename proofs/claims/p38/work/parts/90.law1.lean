/-! the law's heap: the class beside cells of the law (P: which; H0: what they hold) -/
def hx (l : List Int32) (p : SP) : Int32 := if p.1 = 0 then p.2.1 else l.getD (p.1 - 1) 0
theorem hx_0 {l : List Int32} {p : SP} (h : p.1 = 0) : hx l p = p.2.1 := if_pos h
theorem hx_k {l : List Int32} {p : SP} {k : Nat} (h : p.1 = k + 1) : hx l p = l.getD k 0 := by
  unfold hx
  rw [if_neg (by omega), h]; rfl
theorem ou_0 {l : List Nat} {p : SP} (h : p.1 = 0) : ou l p = .inl (some (.int p.2.1)) := if_pos h
theorem ou_k {l : List Nat} {p : SP} {k : Nat} (h : p.1 = k + 1) : ou l p = .inr (l.getD k 0) := by
  unfold ou
  rw [if_neg (by omega), h]; rfl
theorem aft_h {P : PT} {Q : Out → AH → Prop} {M : MD} {ini : Bool} {pc t : Nat} {ls st : List Value} {X : Nat} {h : AH} {c n : Nat} (hi : ini = false) (hh : hdl M pc X = some t) (hq : ∀ q, P t ls [.ref q] h c n) : Aft P Q M ini pc ls st (.inr X) h c n := by
  unfold Aft
  refine ⟨hi, ?_⟩
  rw [hh]; exact hq
section LAW1
variable {E : EN} {P : Nat → Prop} {H0 : AH} {x : Nat} {σ : Sg} {H : AH}
theorem CX.reP {A : AD} {Z : Nat → Nat} {X : XX} {ho : Nat → Option Nat} {wr : Nat → Bool} {P' : Nat → Prop} {H' : AH} (C : CX E P H0 A Z X σ ho wr H) (h1 : ∀ y, ¬ P' y → H y ≠ none → H' y = H y) (h2 : ∀ y, P' y → H' y ≠ none ∧ (P y ∨ H y = none)) (h3 : ∀ q, E.1 q ≠ none → H' q = none) : CX E P' H' A Z X σ ho wr H' := by
  have np : ∀ k i, lv (x_cap X) (s_nS σ) (s_nJ σ) k i → ¬ P' (adr A Z k i) := fun k i hl hp => by
    rcases (h2 _ hp).2 with h | h
    · exact C.2.2.1 k i hl h
    · rw [C.1 k i hl] at h; cases h
  exact ⟨fun k i hl => by rw [h1 _ (np k i hl) (by rw [C.1 k i hl]; simp)]; exact C.1 k i hl, C.2.1, np, C.rl, C.wl, fun q hq => ⟨rfl, (h2 q hq).1⟩, h3, C.ea⟩
theorem CW.reP {P' : Nat → Prop} {H' : AH} (C : CW E P H0 x σ H) (h1 : ∀ y, ¬ P' y → H y ≠ none → H' y = H y) (h2 : ∀ y, P' y → H' y ≠ none ∧ (P y ∨ H y = none)) (h3 : ∀ q, E.1 q ≠ none → H' q = none) : CW E P' H' x σ H' := by
  obtain ⟨A, wr, e, Z, X, C, ec⟩ := C
  exact ⟨A, wr, e, Z, X, C.reP h1 h2 h3, ec⟩
theorem CW.fr (C : CW E P H0 x σ H) : Fr E P H0 H := by
  obtain ⟨A, wr, e, C⟩ := C
  exact C.fr
theorem CW.xo (C : CW E P H0 x σ H) : ∃ z, ob H x 5 = some z := by
  obtain ⟨A, wr, rfl, C⟩ := C
  exact C.oT
/-- a cell of the law's -/
theorem CW.at (C : CW E P H0 x σ H) {q : Nat} (hq : P q) : H q = H0 q := (C.fr.1 q hq).1
/-- a cell of the law's is written -/
theorem CW.put (C : CW E P H0 x σ H) {q : Nat} {y : AC} (hq : P q) : CW E P (hset H q y) x σ (hset H q y) := by
  refine C.reP (fun z hz _ => hs_n (fun e => hz (by rw [e]; exact hq))) (fun z hz => ⟨?_, Or.inl hz⟩) (fun z hz => ?_)
  · by_cases e : z = q
    · rw [e, hs_e]; simp
    · rw [hs_n e, (C.fr.1 z hz).1]; exact (C.fr.1 z hz).2
  · have h1 := C.fr.2.1 z hz
    by_cases e : z = q
    · exfalso
      rw [e, (C.fr.1 q hq).1] at h1
      exact (C.fr.1 q hq).2 h1
    · rw [hs_n e]; exact h1
/-- a new cell of the law's -/
theorem CW.new (C : CW E P H0 x σ H) {q : Nat} {y : AC} (h1 : H q = none) (h2 : E.1 q = none) : CW E (fun z => P z ∨ z = q) (hset H q y) x σ (hset H q y) := by
  refine C.reP (fun z hz _ => hs_n (fun e => hz (Or.inr e))) (fun z hz => ?_) (fun z hz => ?_)
  · by_cases e : z = q
    · rw [e, hs_e]; exact ⟨by simp, Or.inr h1⟩
    · have hp := hz.resolve_right e
      rw [hs_n e, (C.fr.1 z hp).1]; exact ⟨(C.fr.1 z hp).2, Or.inl hp⟩
  · have h3 := C.fr.2.1 z hz
    by_cases e : z = q
    · rw [e] at hz; exact absurd h2 hz
    · rw [hs_n e]; exact h3
theorem rdI_H {k : Nat} {h : AH} {b L : Nat} {xs : Nat → Int32} (e : h b = some (.inl (k, L, .inl xs))) : rdI E h b k = some (L, xs) := by
  unfold rdI rd
  rw [e]
  exact if_pos rfl
theorem rwI_H {k : Nat} {h : AH} {b L : Nat} {xs : Nat → Int32} (e : h b = some (.inl (k, L, .inl xs))) : rwI h b k = some (L, xs) := by
  unfold rwI
  rw [e]
  exact if_pos rfl
theorem rdI_E {h : AH} {b L : Nat} {xs : Nat → Int32} (e : h b = none) (e2 : E.1 b = some (arI L xs)) : rdI E h b 0 = some (L, xs) := by
  unfold rdI rd
  rw [e]
  dsimp only
  rw [e2]
  exact if_pos rfl
theorem rdN_E2 {h : AH} {b L : Nat} {xs : Nat → Int32} (e : h b = none) (e2 : E.1 b = some (arI L xs)) : rdN E h b = some L := by
  unfold rdN rd
  rw [e]
  dsimp only
  rw [e2]
theorem lg_self {a : Int64} : lg_cmp a a = 0 := by
  unfold lg_cmp
  simp
end LAW1
theorem n_114_114 : (nI 114 = (114 : Int32)) = True := eq_true (by decide)
theorem n_114_119 : (nI 114 = (119 : Int32)) = False := eq_false (by decide)
theorem n_114_115 : (nI 114 = (115 : Int32)) = False := eq_false (by decide)
theorem n_114_100 : (nI 114 = (100 : Int32)) = False := eq_false (by decide)
theorem n_114_107 : (nI 114 = (107 : Int32)) = False := eq_false (by decide)
theorem n_114_0 : (nI 114 = (0 : Int32)) = False := eq_false (by decide)
theorem n_114_103 : (nI 114 = (103 : Int32)) = False := eq_false (by decide)
theorem n_119_114 : (nI 119 = (114 : Int32)) = False := eq_false (by decide)
theorem n_119_119 : (nI 119 = (119 : Int32)) = True := eq_true (by decide)
theorem n_119_115 : (nI 119 = (115 : Int32)) = False := eq_false (by decide)
theorem n_119_100 : (nI 119 = (100 : Int32)) = False := eq_false (by decide)
theorem n_119_107 : (nI 119 = (107 : Int32)) = False := eq_false (by decide)
theorem n_119_0 : (nI 119 = (0 : Int32)) = False := eq_false (by decide)
theorem n_119_103 : (nI 119 = (103 : Int32)) = False := eq_false (by decide)
theorem n_115_114 : (nI 115 = (114 : Int32)) = False := eq_false (by decide)
theorem n_115_119 : (nI 115 = (119 : Int32)) = False := eq_false (by decide)
theorem n_115_115 : (nI 115 = (115 : Int32)) = True := eq_true (by decide)
theorem n_115_100 : (nI 115 = (100 : Int32)) = False := eq_false (by decide)
theorem n_115_107 : (nI 115 = (107 : Int32)) = False := eq_false (by decide)
theorem n_115_0 : (nI 115 = (0 : Int32)) = False := eq_false (by decide)
theorem n_115_103 : (nI 115 = (103 : Int32)) = False := eq_false (by decide)
theorem n_100_114 : (nI 100 = (114 : Int32)) = False := eq_false (by decide)
theorem n_100_119 : (nI 100 = (119 : Int32)) = False := eq_false (by decide)
theorem n_100_115 : (nI 100 = (115 : Int32)) = False := eq_false (by decide)
theorem n_100_100 : (nI 100 = (100 : Int32)) = True := eq_true (by decide)
theorem n_100_107 : (nI 100 = (107 : Int32)) = False := eq_false (by decide)
theorem n_100_0 : (nI 100 = (0 : Int32)) = False := eq_false (by decide)
theorem n_100_103 : (nI 100 = (103 : Int32)) = False := eq_false (by decide)
theorem n_107_114 : (nI 107 = (114 : Int32)) = False := eq_false (by decide)
theorem n_107_119 : (nI 107 = (119 : Int32)) = False := eq_false (by decide)
theorem n_107_115 : (nI 107 = (115 : Int32)) = False := eq_false (by decide)
theorem n_107_100 : (nI 107 = (100 : Int32)) = False := eq_false (by decide)
theorem n_107_107 : (nI 107 = (107 : Int32)) = True := eq_true (by decide)
theorem n_107_0 : (nI 107 = (0 : Int32)) = False := eq_false (by decide)
theorem n_107_103 : (nI 107 = (103 : Int32)) = False := eq_false (by decide)
theorem b2_01 {b : Bool} : b2 b = 0 ∨ b2 b = 1 := by cases b <;> simp [b2]
