/-! locks taken, jobs that wait, shares: what areJobs adds up -/
def wtF (σ : Sg) (i : Nat) : Bool := s_st σ i == 119
def tkN (σ : Sg) : Nat → Nat
  | 0 => 0
  | j + 1 => if s_hl σ j = true then tkN σ j ||| s_nd σ j else tkN σ j
theorem tk_bit {σ : Sg} {l : Nat} : ∀ {j : Nat}, (tkN σ j).testBit l = true ↔ ∃ i, i < j ∧ s_hl σ i = true ∧ (s_nd σ i).testBit l = true
  | 0 => by
    show (0 : Nat).testBit l = true ↔ _
    rw [Nat.zero_testBit]
    exact ⟨fun h => Bool.noConfusion h, fun ⟨i, h, _⟩ => absurd h (Nat.not_lt_zero _)⟩
  | j + 1 => by
    have ih := tk_bit (σ := σ) (l := l) (j := j)
    show (if s_hl σ j = true then tkN σ j ||| s_nd σ j else tkN σ j).testBit l = true ↔ _
    by_cases h : s_hl σ j = true
    · rw [if_pos h, Nat.testBit_or, Bool.or_eq_true, ih]
      constructor
      · rintro (⟨i, h1, h2⟩ | h2)
        · exact ⟨i, by omega, h2⟩
        · exact ⟨j, by omega, h, h2⟩
      · rintro ⟨i, h1, h2, h3⟩
        by_cases hi : i = j
        · rw [hi] at h3; exact Or.inr h3
        · exact Or.inl ⟨i, by omega, h2, h3⟩
    · rw [if_neg h, ih]
      constructor
      · rintro ⟨i, h1, h2⟩
        exact ⟨i, by omega, h2⟩
      · rintro ⟨i, h1, h2, h3⟩
        by_cases hi : i = j
        · rw [hi] at h2; exact absurd h2 h
        · exact ⟨i, by omega, h2, h3⟩
theorem tk_and {σ : Sg} (O : Ok σ) {j : Nat} (hj : s_hl σ j = true) : tkN σ j &&& s_nd σ j = 0 := by
  refine Nat.eq_of_testBit_eq (fun l => ?_)
  rw [Nat.testBit_and, Nat.zero_testBit]
  cases h1 : (tkN σ j).testBit l with
  | false => rfl
  | true =>
    cases h2 : (s_nd σ j).testBit l with
    | false => rfl
    | true =>
      obtain ⟨i, g1, g2, g3⟩ := tk_bit.mp h1
      have h0 := O.2.2.2.2.2.2.1 i j (by omega) g2 hj
      have h9 : (s_nd σ i &&& s_nd σ j).testBit l = true := by rw [Nat.testBit_and, g3, h2]; rfl
      rw [h0, Nat.zero_testBit] at h9
      cases h9
theorem hd_s {σ : Sg} {l h : Nat} (e : hdF σ l = some h) : h < s_nJ σ ∧ s_hl σ h = true ∧ (s_nd σ h).testBit l = true := by
  unfold hdF at e
  have h1 := List.find?_some e
  have h2 := List.mem_range.mp (List.mem_of_find?_eq_some e)
  simp only [Bool.and_eq_true] at h1
  exact ⟨h2, h1.1, h1.2⟩
theorem hd_n {σ : Sg} {l : Nat} (e : hdF σ l = none) : (tkN σ (s_nJ σ)).testBit l = false := by
  cases h : (tkN σ (s_nJ σ)).testBit l with
  | false => rfl
  | true =>
    exfalso
    obtain ⟨i, g1, g2, g3⟩ := tk_bit.mp h
    unfold hdF at e
    have := List.find?_eq_none.mp e i (List.mem_range.mpr g1)
    apply this
    simp only [Bool.and_eq_true]
    exact ⟨g2, g3⟩
theorem hd_t {σ : Sg} {l h : Nat} (e : hdF σ l = some h) : (tkN σ (s_nJ σ)).testBit l = true := tk_bit.mpr ⟨h, hd_s e⟩
theorem od_cnt {σ : Sg} (O : Ok σ) : cN (wtF σ) (s_nJ σ) = (s_od σ).length := by
  unfold cN
  rw [List.countP_eq_length_filter]
  obtain ⟨h1, h2⟩ := O.2.2.1
  have hm : ∀ i, i ∈ (List.range (s_nJ σ)).filter (wtF σ) ↔ i ∈ s_od σ := fun i => by
    rw [List.mem_filter, List.mem_range, h2 i]
    unfold wtF
    simp
  have n1 : ((List.range (s_nJ σ)).filter (wtF σ)).Nodup := List.nodup_range.filter _
  exact Nat.le_antisymm (List.Nodup.length_le_of_subset n1 (fun i hi => (hm i).mp hi)) (List.Nodup.length_le_of_subset h1 (fun i hi => (hm i).mpr hi))
theorem od_le {σ : Sg} (O : Ok σ) : (s_od σ).length ≤ 30 := by
  have h1 := cN_le (p := wtF σ) (n := s_nJ σ)
  rw [od_cnt O] at h1
  have := O.1.2
  omega
theorem cN_pos {p : Nat → Bool} {j : Nat} : ∀ {n : Nat}, j < n → p j = true → 1 ≤ cN p n
  | 0, h, _ => absurd h (Nat.not_lt_zero _)
  | n + 1, h, hp => by
    rw [cN_s]
    by_cases hj : j = n
    · rw [← hj, if_pos hp]; omega
    · have := cN_pos (p := p) (n := n) (show j < n by omega) hp
      omega
theorem bl_od {σ : Sg} (B : Bl σ) {j : Nat} (hj : j ∈ s_od σ) : s_nd σ j &&& tkN σ (s_nJ σ) ≠ 0 ∧ 1 ≤ cN (blk σ j) (s_nJ σ) := by
  obtain ⟨o, h1, h2⟩ := free_f.mp (B j hj)
  refine ⟨fun hz => ?_, cN_pos h1 h2⟩
  unfold blk at h2
  simp only [Bool.and_eq_true, bne_iff_ne, ne_eq] at h2
  apply h2.2
  refine Nat.eq_of_testBit_eq (fun l => ?_)
  rw [Nat.testBit_and, Nat.zero_testBit]
  cases g1 : (s_nd σ o).testBit l with
  | false => rfl
  | true =>
    cases g2 : (s_nd σ j).testBit l with
    | false => rfl
    | true =>
      have g3 : (tkN σ (s_nJ σ)).testBit l = true := tk_bit.mpr ⟨o, h1, h2.1.2, g1⟩
      have g4 : (s_nd σ j &&& tkN σ (s_nJ σ)).testBit l = true := by rw [Nat.testBit_and, g2, g3]; rfl
      rw [hz, Nat.zero_testBit] at g4
      cases g4
theorem and1_01 (x : Int32) : x &&& 1 = 0 ∨ x &&& 1 = 1 := by
  rw [pk_and x 1 (by decide)]
  rcases Nat.mod_two_eq_zero_or_one x.toBitVec.toNat with h | h
  · left; rw [show (2 ^ 1 : Nat) = 2 from rfl, h]; rfl
  · right; rw [show (2 ^ 1 : Nat) = 2 from rfl, h]; rfl
theorem sh_b2 {a j : Nat} (hj : j < 30) : ((nI a >>> (nI j &&& 31)) &&& 1) = b2 (a.testBit j) := by
  cases h : a.testBit j with
  | false => exact (sh_bit hj).mpr h
  | true =>
    refine (and1_01 _).resolve_left (fun z => ?_)
    have := (sh_bit hj).mp z
    rw [h] at this
    cases this
theorem fcmp_all : ∀ a : Fin 31, ∀ b : Fin 31, b.1 = 0 ∨ Op.cmpValue (FP.fcmp (FP.fdiv (FP.i2f (nI a.1)) (FP.i2f (nI b.1))) (FP.fdiv (FP.i2f (nI a.1)) (FP.i2f (nI b.1)))) .l = 0 := by decide +kernel
theorem fcmp_0 : Op.cmpValue (FP.fcmp 3264610304 3264610304) .l = 0 := by decide +kernel
theorem ch_114 : ((nI 114).toUInt32 % 65536).toInt32 = nI 114 := by decide
theorem ch_119 : ((nI 119).toUInt32 % 65536).toInt32 = nI 119 := by decide
theorem ch_115 : ((nI 115).toUInt32 % 65536).toInt32 = nI 115 := by decide
theorem ch_100 : ((nI 100).toUInt32 % 65536).toInt32 = nI 100 := by decide
theorem ch_107 : ((nI 107).toUInt32 % 65536).toInt32 = nI 107 := by decide
theorem i1_0 : ((1 : Int32) = 0) = False := eq_false (by decide)
theorem i0_1 : ((0 : Int32) = 1) = False := eq_false (by decide)
theorem and_11 : (1 : Int32) &&& 1 = 1 := by decide
theorem bt_1 : (b2 true = 1) = True := eq_true rfl
theorem bf_1 : (b2 false = 1) = False := eq_false (by decide)
theorem bt_0 : (b2 true = 0) = False := eq_false (by decide)
theorem bf_0 : (b2 false = 0) = True := eq_true rfl
