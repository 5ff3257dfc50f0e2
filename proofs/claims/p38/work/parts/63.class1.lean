/-! the class's cells: keys (kind, number), their addresses and contents; CX: a heap that holds the class in the state σ -/
abbrev XX : Type := (Nat → Nat) × (Nat → Int32) × (Nat → Nat → Int32) × (Nat → Nat → Option Nat)
abbrev AD : Type := Nat → Nat → Nat
def x_cap (X : XX) : Nat → Nat := X.1
def x_mod (X : XX) : Nat → Int32 := X.2.1
def x_G (X : XX) : Nat → Nat → Int32 := X.2.2.1
def x_F (X : XX) : Nat → Nat → Option Nat := X.2.2.2
def jcap : Nat → Nat
  | 0 => 64
  | n + 1 => if jcap n ≤ n then 2 * jcap n else jcap n
def hfs (a k : Nat) : List Value := [.ref a, .int (nI k)]
def nfs (a b k : Nat) : List Value := [.ref a, .ref b, .int (nI k)]
def ofs (A : AD) (w : Int64) : List Value := [.ref (A 1 0), .ref (A 2 0), .ref (A 3 0), .ref (A 4 0), .ref (A 5 0), .ref (A 7 0), .long w]
def jrf (A : AD) (o : Option Nat) : Value := va_rf (o.map (fun j => A 16 j))
def sfs (A : AD) (σ : Sg) (s : Nat) : List Value := [.int (nI s), .ref (A 14 s), .int (b2 (s_pv σ s)), .int (b2 (!s_dr σ s)), jrf A (s_fr σ s), jrf A (s_pk σ s)]
def jfs (A : AD) (σ : Sg) (wr : Nat → Bool) (j : Nat) : List Value := [.int (nI j), .ref (A 13 (s_se σ j)), .int (nI (s_nd σ j)), .int (nI (s_lf σ j)), .int (nI (s_st σ j)), .int (b2 (s_hl σ j)), .int (b2 (wr j))]
def clA (A : AD) (Z : Nat → Nat) (X : XX) (σ : Sg) : Nat → AC
  | 0 => .inr (5, ofs A (s_wk σ))
  | 1 => .inr (0, lfs (x_mod X 1) (Z 8) (s_nS σ))
  | 2 => .inr (0, lfs (x_mod X 2) (Z 9) (s_nJ σ))
  | 3 => .inr (0, lfs (x_mod X 3) (Z 10) (s_od σ).length)
  | 4 => arI 6 (x_G X 4)
  | 5 => .inr (1, hfs (A 6 0) (s_cm σ).length)
  | 6 => arI 12 (x_G X 6)
  | 7 => .inr (3, nfs (Z 11) (Z 12) (s_jn σ).length)
  | 8 => arR (x_cap X 8) (x_F X 8)
  | 9 => arR (x_cap X 9) (x_F X 9)
  | 10 => arR (x_cap X 10) (x_F X 10)
  | 11 => arI (x_cap X 11) (x_G X 11)
  | _ => arI (x_cap X 12) (x_G X 12)
def clS (A : AD) (X : XX) (σ : Sg) : Nat → Nat → AC
  | 13, s => .inr (4, sfs A σ s)
  | 14, s => .inr (1, hfs (A 15 s) (s_hi σ s).length)
  | _, s => arI 8 (x_G X (s + 20))
def cl (A : AD) (Z : Nat → Nat) (X : XX) (σ : Sg) (wr : Nat → Bool) (k i : Nat) : AC := match Nat.ble k 12 with
  | true => clA A Z X σ k
  | false => match Nat.ble k 15 with
    | true => clS A X σ k i
    | false => .inr (2, jfs A σ wr i)
def lv (cap : Nat → Nat) (nS nJ k i : Nat) : Prop := match Nat.ble k 12 with
  | true => i = 0 ∧ (8 ≤ k → k ≤ 10 → cap k ≠ 0)
  | false => match Nat.ble k 15 with
    | true => i < nS
    | false => k = 16 ∧ i < nJ
def adr (A : AD) (Z : Nat → Nat) (k i : Nat) : Nat := if 8 ≤ k ∧ k ≤ 12 then Z k else A k i
/-- what is kept of a state -/
def Wl (σ : Sg) : Prop := s_nS σ ≤ 4 ∧ s_nJ σ ≤ 30 ∧ (∀ j, j < s_nJ σ → s_se σ j < s_nS σ ∧ s_nd σ j ≤ 63 ∧ stOK (s_st σ j)) ∧ (s_od σ).Nodup ∧ (∀ j ∈ s_od σ, j < s_nJ σ)
/-- contents of the rows -/
def Rl (E : EN) (A : AD) (Z : Nat → Nat) (X : XX) (σ : Sg) (ho : Nat → Option Nat) : Prop :=
  (∀ l, l < 6 → x_G X 4 l = o2 (ho l)) ∧
  (∀ i, i < (s_cm σ).length → x_G X 6 i = nI ((s_cm σ).getD i 0)) ∧
  (∀ i, i < (s_jn σ).length → x_G X 11 i = nI ((s_jn σ).getD i (0, 0)).1 ∧ x_G X 12 i = nI ((s_jn σ).getD i (0, 0)).2) ∧
  (∀ s, s < s_nS σ → ∀ i, i < (s_hi σ s).length → x_G X (s + 20) i = nI ((s_hi σ s).getD i 0)) ∧
  ((∀ i, i < s_nS σ → x_F X 8 i = some (A 13 i)) ∧ (∀ i, i < s_nJ σ → x_F X 9 i = some (A 16 i)) ∧ (∀ i, i < (s_od σ).length → x_F X 10 i = some (A 16 ((s_od σ).getD i 0)))) ∧
  ((s_nS σ ≤ x_cap X 8 ∧ x_cap X 8 ≤ 1000) ∧ (s_nJ σ ≤ x_cap X 9 ∧ x_cap X 9 ≤ 1000) ∧ ((s_od σ).length ≤ x_cap X 10 ∧ x_cap X 10 ≤ 1000)) ∧
  (∀ k, 8 ≤ k → k ≤ 10 → x_cap X k = 0 → Z k = E.2.1)
def Fr (E : EN) (P : Nat → Prop) (H0 : AH) (H : AH) : Prop := (∀ q, P q → H q = H0 q ∧ H0 q ≠ none) ∧ (∀ q, E.1 q ≠ none → H q = none) ∧ EA E
def CX (E : EN) (P : Nat → Prop) (H0 : AH) (A : AD) (Z : Nat → Nat) (X : XX) (σ : Sg) (ho : Nat → Option Nat) (wr : Nat → Bool) (H : AH) : Prop :=
  (∀ k i, lv (x_cap X) (s_nS σ) (s_nJ σ) k i → H (adr A Z k i) = some (cl A Z X σ wr k i)) ∧
  (∀ k i k' i', lv (x_cap X) (s_nS σ) (s_nJ σ) k i → lv (x_cap X) (s_nS σ) (s_nJ σ) k' i' → adr A Z k i = adr A Z k' i' → k = k' ∧ i = i') ∧
  (∀ k i, lv (x_cap X) (s_nS σ) (s_nJ σ) k i → ¬ P (adr A Z k i)) ∧ Rl E A Z X σ ho ∧ Wl σ ∧ Fr E P H0 H
/-- between two methods -/
def CV (E : EN) (P : Nat → Prop) (H0 : AH) (A : AD) (σ : Sg) (ho : Nat → Option Nat) (wr : Nat → Bool) (H : AH) : Prop := ∃ Z X, CX E P H0 A Z X σ ho wr H ∧ x_cap X 11 = jcap (s_jn σ).length ∧ x_cap X 12 = jcap (s_jn σ).length
theorem lv_A {cap : Nat → Nat} {nS nJ k : Nat} (h : k ≤ 12) (h2 : 8 ≤ k → k ≤ 10 → cap k ≠ 0) : lv cap nS nJ k 0 := by
  unfold lv
  rw [Nat.ble_eq_true_of_le h]
  exact ⟨rfl, h2⟩
theorem lv_S {cap : Nat → Nat} {nS nJ k s : Nat} (h1 : 13 ≤ k) (h : k ≤ 15) (h2 : s < nS) : lv cap nS nJ k s := by
  unfold lv
  have e : Nat.ble k 12 = false := by rw [← Bool.not_eq_true, Nat.ble_eq]; omega
  rw [e, Nat.ble_eq_true_of_le h]
  exact h2
theorem lv_J {cap : Nat → Nat} {nS nJ j : Nat} (h2 : j < nJ) : lv cap nS nJ 16 j := ⟨rfl, h2⟩
theorem lv_cs {cap : Nat → Nat} {nS nJ k i : Nat} (h : lv cap nS nJ k i) : (k ≤ 12 ∧ i = 0 ∧ (8 ≤ k → k ≤ 10 → cap k ≠ 0)) ∨ (13 ≤ k ∧ k ≤ 15 ∧ i < nS) ∨ (k = 16 ∧ i < nJ) := by
  unfold lv at h
  by_cases h1 : k ≤ 12
  · rw [Nat.ble_eq_true_of_le h1] at h
    exact Or.inl ⟨h1, h.1, h.2⟩
  · have e : Nat.ble k 12 = false := by rw [← Bool.not_eq_true, Nat.ble_eq]; exact h1
    rw [e] at h
    by_cases h2 : k ≤ 15
    · rw [Nat.ble_eq_true_of_le h2] at h
      exact Or.inr (Or.inl ⟨by omega, h2, h⟩)
    · have e : Nat.ble k 15 = false := by rw [← Bool.not_eq_true, Nat.ble_eq]; exact h2
      rw [e] at h
      exact Or.inr (Or.inr h)
section CL1
variable {A A' : AD} {Z Z' : Nat → Nat} {X X' : XX} {σ σ' : Sg} {wr wr' : Nat → Bool} {k i : Nat}
theorem cl_A (h : k ≤ 12) : cl A Z X σ wr k i = clA A Z X σ k := by
  unfold cl; rw [Nat.ble_eq_true_of_le h]
theorem cl_S (h1 : 13 ≤ k) (h : k ≤ 15) : cl A Z X σ wr k i = clS A X σ k i := by
  unfold cl
  have e : Nat.ble k 12 = false := by rw [← Bool.not_eq_true, Nat.ble_eq]; omega
  rw [e, Nat.ble_eq_true_of_le h]
theorem cl_J : cl A Z X σ wr 16 i = .inr (2, jfs A σ wr i) := rfl
end CL1
section CX1
variable {E : EN} {P : Nat → Prop} {H0 : AH} {A : AD} {Z : Nat → Nat} {X : XX} {σ : Sg} {ho : Nat → Option Nat} {wr : Nat → Bool} {H : AH}
theorem CX.rl (C : CX E P H0 A Z X σ ho wr H) : Rl E A Z X σ ho := C.2.2.2.1
theorem CX.wl (C : CX E P H0 A Z X σ ho wr H) : Wl σ := C.2.2.2.2.1
theorem CX.fr (C : CX E P H0 A Z X σ ho wr H) : Fr E P H0 H := C.2.2.2.2.2
theorem CX.ea (C : CX E P H0 A Z X σ ho wr H) : EA E := C.fr.2.2
theorem CX.S4 (C : CX E P H0 A Z X σ ho wr H) : s_nS σ ≤ 4 := C.wl.1
theorem CX.J30 (C : CX E P H0 A Z X σ ho wr H) : s_nJ σ ≤ 30 := C.wl.2.1
theorem CX.od30 (C : CX E P H0 A Z X σ ho wr H) : (s_od σ).length ≤ 30 := Nat.le_trans (nodup_len C.wl.2.2.2.1 C.wl.2.2.2.2) C.J30
theorem CX.top (C : CX E P H0 A Z X σ ho wr H) : H (A 0 0) = some (.inr (5, ofs A (s_wk σ))) := C.1 0 0 (lv_A (by omega) (by omega))
theorem CX.hol (C : CX E P H0 A Z X σ ho wr H) : H (A 4 0) = some (arI 6 (x_G X 4)) := C.1 4 0 (lv_A (by omega) (by omega))
theorem CX.com (C : CX E P H0 A Z X σ ho wr H) : H (A 5 0) = some (.inr (1, hfs (A 6 0) (s_cm σ).length)) := C.1 5 0 (lv_A (by omega) (by omega))
theorem CX.car (C : CX E P H0 A Z X σ ho wr H) : H (A 6 0) = some (arI 12 (x_G X 6)) := C.1 6 0 (lv_A (by omega) (by omega))
theorem CX.jou (C : CX E P H0 A Z X σ ho wr H) : H (A 7 0) = some (.inr (3, nfs (Z 11) (Z 12) (s_jn σ).length)) := C.1 7 0 (lv_A (by omega) (by omega))
theorem CX.jar (C : CX E P H0 A Z X σ ho wr H) : H (Z 11) = some (arI (x_cap X 11) (x_G X 11)) := C.1 11 0 (lv_A (by omega) (by omega))
theorem CX.kar (C : CX E P H0 A Z X σ ho wr H) : H (Z 12) = some (arI (x_cap X 12) (x_G X 12)) := C.1 12 0 (lv_A (by omega) (by omega))
theorem CX.job (C : CX E P H0 A Z X σ ho wr H) {j : Nat} (hj : j < s_nJ σ) : H (A 16 j) = some (.inr (2, jfs A σ wr j)) := C.1 16 j (lv_J hj)
theorem CX.ses (C : CX E P H0 A Z X σ ho wr H) {s : Nat} (hs : s < s_nS σ) : H (A 13 s) = some (.inr (4, sfs A σ s)) := C.1 13 s (lv_S (by omega) (by omega) hs)
theorem CX.his (C : CX E P H0 A Z X σ ho wr H) {s : Nat} (hs : s < s_nS σ) : H (A 14 s) = some (.inr (1, hfs (A 15 s) (s_hi σ s).length)) := C.1 14 s (lv_S (by omega) (by omega) hs)
theorem CX.har (C : CX E P H0 A Z X σ ho wr H) {s : Nat} (hs : s < s_nS σ) : H (A 15 s) = some (arI 8 (x_G X (s + 20))) := C.1 15 s (lv_S (by omega) (by omega) hs)
theorem CX.lsS (C : CX E P H0 A Z X σ ho wr H) : LLs E H (A 1 0) (x_mod X 1) (Z 8) (s_nS σ) (x_cap X 8) (x_F X 8) := by
  have R := C.rl.2.2.2.2
  refine ⟨C.1 1 0 (lv_A (by omega) (by omega)), R.2.1.1.1, R.2.1.1.2, ?_, fun i hi => ⟨_, R.1.1 i hi, isO_of (C.ses hi)⟩⟩
  by_cases h : x_cap X 8 = 0
  · have e := R.2.2 8 (by omega) (by omega) h
    refine Or.inl ⟨h, e, ?_⟩
    rw [e]
    exact C.fr.2.1 _ (by rw [C.ea]; simp)
  · exact Or.inr ⟨by omega, C.1 8 0 (lv_A (by omega) (fun _ _ => h))⟩
theorem CX.lsJ (C : CX E P H0 A Z X σ ho wr H) : LLs E H (A 2 0) (x_mod X 2) (Z 9) (s_nJ σ) (x_cap X 9) (x_F X 9) := by
  have R := C.rl.2.2.2.2
  refine ⟨C.1 2 0 (lv_A (by omega) (by omega)), R.2.1.2.1.1, R.2.1.2.1.2, ?_, fun i hi => ⟨_, R.1.2.1 i hi, isO_of (C.job hi)⟩⟩
  by_cases h : x_cap X 9 = 0
  · have e := R.2.2 9 (by omega) (by omega) h
    refine Or.inl ⟨h, e, ?_⟩
    rw [e]
    exact C.fr.2.1 _ (by rw [C.ea]; simp)
  · exact Or.inr ⟨by omega, C.1 9 0 (lv_A (by omega) (fun _ _ => h))⟩
theorem CX.odj (C : CX E P H0 A Z X σ ho wr H) {i : Nat} (hi : i < (s_od σ).length) : (s_od σ).getD i 0 < s_nJ σ := by
  refine C.wl.2.2.2.2 _ ?_
  rw [List.getD_eq_getElem?_getD, List.getElem?_eq_getElem hi]
  exact List.getElem_mem hi
theorem CX.lsO (C : CX E P H0 A Z X σ ho wr H) : LLs E H (A 3 0) (x_mod X 3) (Z 10) (s_od σ).length (x_cap X 10) (x_F X 10) := by
  have R := C.rl.2.2.2.2
  refine ⟨C.1 3 0 (lv_A (by omega) (by omega)), R.2.1.2.2.1, R.2.1.2.2.2, ?_, fun i hi => ⟨_, R.1.2.2 i hi, isO_of (C.job (C.odj hi))⟩⟩
  by_cases h : x_cap X 10 = 0
  · have e := R.2.2 10 (by omega) (by omega) h
    refine Or.inl ⟨h, e, ?_⟩
    rw [e]
    exact C.fr.2.1 _ (by rw [C.ea]; simp)
  · exact Or.inr ⟨by omega, C.1 10 0 (lv_A (by omega) (fun _ _ => h))⟩
/-- some cells anew (S tells which), some of them made -/
theorem CX.re (C : CX E P H0 A Z X σ ho wr H) {A' : AD} {Z' : Nat → Nat} {X' : XX} {σ' : Sg} {ho' : Nat → Option Nat} {wr' : Nat → Bool} {H' : AH} (S : Nat → Nat → Prop)
    (hS : ∀ k i, lv (x_cap X') (s_nS σ') (s_nJ σ') k i → S k i → H' (adr A' Z' k i) = some (cl A' Z' X' σ' wr' k i) ∧ ((lv (x_cap X) (s_nS σ) (s_nJ σ) k i ∧ adr A' Z' k i = adr A Z k i) ∨ (H (adr A' Z' k i) = none ∧ E.1 (adr A' Z' k i) = none)))
    (hN : ∀ k i, lv (x_cap X') (s_nS σ') (s_nJ σ') k i → ¬ S k i → lv (x_cap X) (s_nS σ) (s_nJ σ) k i ∧ adr A' Z' k i = adr A Z k i ∧ cl A' Z' X' σ' wr' k i = cl A Z X σ wr k i)
    (hF : ∀ q, (∀ k i, lv (x_cap X') (s_nS σ') (s_nJ σ') k i → S k i → q ≠ adr A' Z' k i) → H' q = H q)
    (hI : ∀ k i k' i', lv (x_cap X') (s_nS σ') (s_nJ σ') k i → lv (x_cap X') (s_nS σ') (s_nJ σ') k' i' → S k i → S k' i' → H (adr A' Z' k i) = none → H (adr A' Z' k' i') = none → adr A' Z' k i = adr A' Z' k' i' → k = k' ∧ i = i')
    (hR : Rl E A' Z' X' σ' ho') (hW : Wl σ') : CX E P H0 A' Z' X' σ' ho' wr' H' := by
  have old : ∀ k i, lv (x_cap X') (s_nS σ') (s_nJ σ') k i → (lv (x_cap X) (s_nS σ) (s_nJ σ) k i ∧ adr A' Z' k i = adr A Z k i) ∨ (S k i ∧ H (adr A' Z' k i) = none ∧ E.1 (adr A' Z' k i) = none) := by
    intro k i hl
    by_cases h : S k i
    · rcases (hS k i hl h).2 with h2 | h2
      · exact Or.inl h2
      · exact Or.inr ⟨h, h2⟩
    · exact Or.inl ⟨(hN k i hl h).1, (hN k i hl h).2.1⟩
  have inj : ∀ k i k' i', lv (x_cap X') (s_nS σ') (s_nJ σ') k i → lv (x_cap X') (s_nS σ') (s_nJ σ') k' i' → adr A' Z' k i = adr A' Z' k' i' → k = k' ∧ i = i' := by
    intro k i k' i' h1 h2 he
    rcases old k i h1 with ⟨g1, g2⟩ | ⟨g1, g2, g3⟩
    · rcases old k' i' h2 with ⟨g4, g5⟩ | ⟨g4, g5, g6⟩
      · exact C.2.1 k i k' i' g1 g4 (by rw [← g2, ← g5]; exact he)
      · rw [← he, g2, C.1 k i g1] at g5; cases g5
    · rcases old k' i' h2 with ⟨g4, g5⟩ | ⟨g4, g5, g6⟩
      · rw [he, g5, C.1 k' i' g4] at g2; cases g2
      · exact hI k i k' i' h1 h2 g1 g4 g2 g5 he
  refine ⟨fun k i hl => ?_, inj, fun k i hl hp => ?_, hR, hW, fun q hq => ?_, fun q hq => ?_, C.ea⟩
  · by_cases h : S k i
    · exact (hS k i hl h).1
    · obtain ⟨g1, g2, g3⟩ := hN k i hl h
      rw [hF _ (fun k' i' h1 h2 he => by
        obtain ⟨rfl, rfl⟩ := inj _ _ _ _ hl h1 he
        exact h h2), g2, g3]
      exact C.1 k i g1
  · rcases old k i hl with ⟨g1, g2⟩ | ⟨g1, g2, g3⟩
    · rw [g2] at hp; exact C.2.2.1 k i g1 hp
    · exact (C.fr.1 _ hp).2 (by rw [← (C.fr.1 _ hp).1]; exact g2)
  · refine ⟨?_, (C.fr.1 q hq).2⟩
    rw [hF q (fun k i h1 h2 he => ?_)]
    · exact (C.fr.1 q hq).1
    · subst he
      rcases old k i h1 with ⟨g1, g2⟩ | ⟨g1, g2, g3⟩
      · rw [g2] at hq; exact C.2.2.1 k i g1 hq
      · exact (C.fr.1 _ hq).2 (by rw [← (C.fr.1 _ hq).1]; exact g2)
  · rw [hF q (fun k i h1 h2 he => ?_)]
    · exact C.fr.2.1 q hq
    · subst he
      rcases old k i h1 with ⟨g1, g2⟩ | ⟨g1, g2, g3⟩
      · have := C.fr.2.1 _ hq
        rw [g2, C.1 k i g1] at this; cases this
      · exact hq g3
/-- one cell anew -/
theorem CX.put (C : CX E P H0 A Z X σ ho wr H) {X' : XX} {σ' : Sg} {ho' : Nat → Option Nat} {wr' : Nat → Bool} {k i : Nat} {x : AC} (hl : lv (x_cap X) (s_nS σ) (s_nJ σ) k i) (ec : x_cap X' = x_cap X) (eS : s_nS σ' = s_nS σ) (eJ : s_nJ σ' = s_nJ σ) (hx : cl A Z X' σ' wr' k i = x)
    (hs : ∀ k' i', lv (x_cap X) (s_nS σ) (s_nJ σ) k' i' → ¬ (k' = k ∧ i' = i) → cl A Z X' σ' wr' k' i' = cl A Z X σ wr k' i') (hR : Rl E A Z X' σ' ho') (hW : Wl σ') : CX E P H0 A Z X' σ' ho' wr' (hset H (adr A Z k i) x) := by
  refine C.re (fun k' i' => k' = k ∧ i' = i) (fun k' i' h1 h2 => ?_) (fun k' i' h1 h2 => ?_) (fun q hq => ?_) (fun k1 i1 k2 i2 h1 h2 h3 h4 _ _ _ => ⟨h3.1.trans h4.1.symm, h3.2.trans h4.2.symm⟩) hR hW
  · obtain ⟨rfl, rfl⟩ := h2
    exact ⟨by rw [hs_e, hx], Or.inl ⟨hl, rfl⟩⟩
  · rw [ec, eS, eJ] at h1
    exact ⟨h1, rfl, hs k' i' h1 h2⟩
  · refine hs_n (hq k i ?_ ⟨rfl, rfl⟩)
    rw [ec, eS, eJ]; exact hl
end CX1
