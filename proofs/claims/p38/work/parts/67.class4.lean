theorem xc {a : Nat → Nat} {b : Nat → Int32} {c : Nat → Nat → Int32} {d : Nat → Nat → Option Nat} : x_cap (a, b, c, d) = a := rfl
section C4
variable {E : EN} {P : Nat → Prop} {H0 : AH} {A : AD} {Z : Nat → Nat} {X : XX} {σ : Sg} {ho : Nat → Option Nat} {wr : Nat → Bool} {H : AH} {d c n : Nat} {K : Out → AH → Prop}
def JJ (σ : Sg) : Nat := jcap (s_jn σ).length
def HB (ho : Nat → Option Nat) : Prop := ∀ l i, ho l = some i → i < 30
def frL (ho : Nat → Option Nat) (m : Nat) : Bool := (List.range 6).all (fun l => !(bitN m l && (ho l).isSome))
theorem CX.jinj (C : CX E P H0 A Z X σ ho wr H) {i j : Nat} (hi : i < s_nJ σ) (hj : j < s_nJ σ) : (Value.ref (A 16 i) = Value.ref (A 16 j)) = (i = j) := by
  refine propext ⟨fun h => ?_, fun h => by rw [h]⟩
  exact (C.2.1 16 i 16 j (lv_J hi) (lv_J hj) (Value.ref.inj h)).2
theorem CX.sinj (C : CX E P H0 A Z X σ ho wr H) {i j : Nat} (hi : i < s_nS σ) (hj : j < s_nS σ) : (Value.ref (A 13 i) = Value.ref (A 13 j)) = (i = j) := by
  refine propext ⟨fun h => ?_, fun h => by rw [h]⟩
  exact (C.2.1 13 i 13 j (lv_S (by omega) (by omega) hi) (lv_S (by omega) (by omega) hj) (Value.ref.inj h)).2
theorem CX.hoc (C : CX E P H0 A Z X σ ho wr H) {ho' : Nat → Option Nat} (h : ∀ l, l < 6 → ho l = ho' l) : CX E P H0 A Z X σ ho' wr H := by
  obtain ⟨c1, c2, c3, ⟨r1, r2⟩, c5⟩ := C
  exact ⟨c1, c2, c3, ⟨fun l hl => by rw [r1 l hl, h l hl], r2⟩, c5⟩
theorem CV.hoc (C : CV E P H0 A σ ho wr H) {ho' : Nat → Option Nat} (h : ∀ l, l < 6 → ho l = ho' l) : CV E P H0 A σ ho' wr H := by
  obtain ⟨Z, X, C, e⟩ := C
  exact ⟨Z, X, C.hoc h, e⟩
theorem k_needs (C : CX E P H0 A Z X σ ho wr H) {j l : Nat} (hj : j < s_nJ σ) (hl : l < 6) (hK : K (.inl (some (.int (b2 (bitN (s_nd σ j) l))))) H) : CRd TTv E (d + 1) mX1_needs [.ref (A 16 j), .int (nI l)] H c n K := by
  refine crd rfl ?_
  show Ev E d mX1_needs K 0 [.ref (A 16 j), .int (nI l)] [] H c n
  have e := bit_iff (C.wl.2.2.1 j hj).2.1 hl
  cases hb : bitN (s_nd σ j) l
  · have e1 : ((nI (s_nd σ j) >>> (nI l &&& 31)) &&& 1 = 1) = False := by rw [e, hb]; simp
    rw [hb] at hK
    simp only [eX1_needs_0, eX1_needs_1, eX1_needs_4, eX1_needs_5, eX1_needs_6, eX1_needs_7, eX1_needs_8, eX1_needs_9, eX1_needs_12, eX1_needs_13, eX1_needs_16, eX1_needs_17, isA_r, isA_n, isI_i, isF_f, isL_l, is1_i, is1_r, is1_n, is1_f, true_and, and_true, List.length_cons, List.length_nil, Nat.reduceAdd, Nat.reduceLeDiff, Nat.reduceSub, Option.some.injEq, exists_eq_left', aft_s, aft_n, ite_true, ite_false, if_true, if_false, Nat.zero_le, Nat.le_refl, reduceCtorEq, ob_of (C.job hj), jg2, e1, ok01_0]
    exact hK
  · have e1 : ((nI (s_nd σ j) >>> (nI l &&& 31)) &&& 1 = 1) = True := by rw [e, hb]; simp
    rw [hb] at hK
    simp only [eX1_needs_0, eX1_needs_1, eX1_needs_4, eX1_needs_5, eX1_needs_6, eX1_needs_7, eX1_needs_8, eX1_needs_9, eX1_needs_12, eX1_needs_13, eX1_needs_16, eX1_needs_17, isA_r, isA_n, isI_i, isF_f, isL_l, is1_i, is1_r, is1_n, is1_f, true_and, and_true, List.length_cons, List.length_nil, Nat.reduceAdd, Nat.reduceLeDiff, Nat.reduceSub, Option.some.injEq, exists_eq_left', aft_s, aft_n, ite_true, ite_false, if_true, if_false, Nat.zero_le, Nat.le_refl, reduceCtorEq, ob_of (C.job hj), jg2, e1, ok01_1]
    exact hK
theorem frL_f {m l : Nat} (hl : l < 6) (h : (bitN m l && (ho l).isSome) = true) : frL ho m = false := by
  unfold frL
  rw [← Bool.not_eq_true, List.all_eq_true]
  intro hh
  have := hh l (List.mem_range.mpr hl)
  rw [h] at this
  cases this
theorem frL_t {m : Nat} (h : ∀ l, l < 6 → (bitN m l && (ho l).isSome) = false) : frL ho m = true := by
  unfold frL
  rw [List.all_eq_true]
  intro l hl
  rw [h l (List.mem_range.mp hl)]
  rfl
theorem l_free (C : CX E P H0 A Z X σ ho wr H) {j : Nat} (hj : j < s_nJ σ) (hb : HB ho) (hK : K (.inl (some (.int (b2 (frL ho (s_nd σ j)))))) H) : ∀ k l, k + l = 6 → (∀ i, i < l → (bitN (s_nd σ j) i && (ho i).isSome) = false) → Ev E (d + 1) mX4_locksAreFreeFor K 2 [.ref (A 0 0), .ref (A 16 j), .int (nI l)] [] H c n := by
  intro k
  induction k with
  | zero =>
    intro l hk h0
    have e1 : (nI l < 6) = False := eq_false (nI_nlt (b := 6) (by omega) (by omega))
    rw [hX4_locksAreFreeFor_2]
    simp only [eX4_locksAreFreeFor_3, eX4_locksAreFreeFor_5, eX4_locksAreFreeFor_8, eX4_locksAreFreeFor_9, eX4_locksAreFreeFor_10, eX4_locksAreFreeFor_13, eX4_locksAreFreeFor_16, eX4_locksAreFreeFor_17, eX4_locksAreFreeFor_20, eX4_locksAreFreeFor_21, eX4_locksAreFreeFor_22, eX4_locksAreFreeFor_23, eX4_locksAreFreeFor_26, eX4_locksAreFreeFor_27, eX4_locksAreFreeFor_28, eX4_locksAreFreeFor_31, eX4_locksAreFreeFor_34, eX4_locksAreFreeFor_35, isA_r, isA_n, isI_i, isF_f, isL_l, is1_i, is1_r, is1_n, is1_f, true_and, and_true, List.length_cons, List.length_nil, Nat.reduceAdd, Nat.reduceLeDiff, Nat.reduceSub, Option.some.injEq, exists_eq_left', aft_s, aft_n, ite_true, ite_false, if_true, if_false, Nat.zero_le, Nat.le_refl, reduceCtorEq, e1, ok01_1]
    rw [frL_t (fun i hi => h0 i (by omega))] at hK
    exact hK
  | succ k ih =>
    intro l hk h0
    have e1 : (nI l < 6) = True := eq_true (nI_lt (b := 6) (by omega) (by omega))
    rw [hX4_locksAreFreeFor_2]
    simp only [eX4_locksAreFreeFor_3, eX4_locksAreFreeFor_5, eX4_locksAreFreeFor_8, eX4_locksAreFreeFor_9, eX4_locksAreFreeFor_10, eX4_locksAreFreeFor_13, eX4_locksAreFreeFor_16, eX4_locksAreFreeFor_17, eX4_locksAreFreeFor_20, eX4_locksAreFreeFor_21, eX4_locksAreFreeFor_22, eX4_locksAreFreeFor_23, eX4_locksAreFreeFor_26, eX4_locksAreFreeFor_27, eX4_locksAreFreeFor_28, eX4_locksAreFreeFor_31, eX4_locksAreFreeFor_34, eX4_locksAreFreeFor_35, isA_r, isA_n, isI_i, isF_f, isL_l, is1_i, is1_r, is1_n, is1_f, true_and, and_true, List.length_cons, List.length_nil, Nat.reduceAdd, Nat.reduceLeDiff, Nat.reduceSub, Option.some.injEq, exists_eq_left', aft_s, aft_n, ite_true, ite_false, if_true, if_false, Nat.zero_le, Nat.le_refl, reduceCtorEq, e1]
    refine ⟨⟨_, ob_of (C.job hj)⟩, inv0 (k_needs C hj (by omega) ?_)⟩
    cases hbt : bitN (s_nd σ j) l
    · have e2 : (b2 false = 0) = True := eq_true rfl
      simp only [eX4_locksAreFreeFor_3, eX4_locksAreFreeFor_5, eX4_locksAreFreeFor_8, eX4_locksAreFreeFor_9, eX4_locksAreFreeFor_10, eX4_locksAreFreeFor_13, eX4_locksAreFreeFor_16, eX4_locksAreFreeFor_17, eX4_locksAreFreeFor_20, eX4_locksAreFreeFor_21, eX4_locksAreFreeFor_22, eX4_locksAreFreeFor_23, eX4_locksAreFreeFor_26, eX4_locksAreFreeFor_27, eX4_locksAreFreeFor_28, eX4_locksAreFreeFor_31, eX4_locksAreFreeFor_34, eX4_locksAreFreeFor_35, isA_r, isA_n, isI_i, isF_f, isL_l, is1_i, is1_r, is1_n, is1_f, true_and, and_true, List.length_cons, List.length_nil, Nat.reduceAdd, Nat.reduceLeDiff, Nat.reduceSub, Option.some.injEq, exists_eq_left', aft_s, aft_n, ite_true, ite_false, if_true, if_false, Nat.zero_le, Nat.le_refl, reduceCtorEq, e2]
      rw [nI_1]
      refine ih (l + 1) (by omega) (fun i hi => ?_)
      by_cases hil : i = l
      · subst hil; rw [hbt]; rfl
      · exact h0 i (by omega)
    · have e2 : (b2 true = 0) = False := eq_false (by decide)
      have e3 : x_G X 4 l = o2 (ho l) := C.rl.1 l (by omega)
      simp only [eX4_locksAreFreeFor_13, eX4_locksAreFreeFor_16, eX4_locksAreFreeFor_17, eX4_locksAreFreeFor_20, eX4_locksAreFreeFor_21, eX4_locksAreFreeFor_22, isA_r, isA_n, isI_i, isF_f, isL_l, is1_i, is1_r, is1_n, is1_f, true_and, and_true, List.length_cons, List.length_nil, Nat.reduceAdd, Nat.reduceLeDiff, Nat.reduceSub, Option.some.injEq, exists_eq_left', aft_s, aft_n, ite_true, ite_false, if_true, if_false, Nat.zero_le, Nat.le_refl, reduceCtorEq, e2, ob_of C.top, og3, rdI_of C.hol, inB_nI (show l < 6 by omega) (by omega), nI_clamp (show l < 2 ^ 31 by omega), e3]
      have e4 := o2_m1 (x := ho l) (fun i h => hb l i h)
      by_cases hn : ho l = none
      · have e5 : (o2 (ho l) = -1) = True := eq_true (e4.mpr hn)
        simp only [eX4_locksAreFreeFor_23, eX4_locksAreFreeFor_26, eX4_locksAreFreeFor_27, eX4_locksAreFreeFor_28, eX4_locksAreFreeFor_31, eX4_locksAreFreeFor_34, eX4_locksAreFreeFor_35, isA_r, isA_n, isI_i, isF_f, isL_l, is1_i, is1_r, is1_n, is1_f, true_and, and_true, List.length_cons, List.length_nil, Nat.reduceAdd, Nat.reduceLeDiff, Nat.reduceSub, Option.some.injEq, exists_eq_left', aft_s, aft_n, ite_true, ite_false, if_true, if_false, Nat.zero_le, Nat.le_refl, reduceCtorEq, e5]
        rw [nI_1]
        refine ih (l + 1) (by omega) (fun i hi => ?_)
        by_cases hil : i = l
        · subst hil; rw [hn]; simp
        · exact h0 i (by omega)
      · have e5 : (o2 (ho l) = -1) = False := eq_false (fun h => hn (e4.mp h))
        simp only [eX4_locksAreFreeFor_23, eX4_locksAreFreeFor_26, eX4_locksAreFreeFor_27, eX4_locksAreFreeFor_28, eX4_locksAreFreeFor_31, eX4_locksAreFreeFor_34, eX4_locksAreFreeFor_35, isA_r, isA_n, isI_i, isF_f, isL_l, is1_i, is1_r, is1_n, is1_f, true_and, and_true, List.length_cons, List.length_nil, Nat.reduceAdd, Nat.reduceLeDiff, Nat.reduceSub, Option.some.injEq, exists_eq_left', aft_s, aft_n, ite_true, ite_false, if_true, if_false, Nat.zero_le, Nat.le_refl, reduceCtorEq, e5, ok01_0]
        rw [frL_f (l := l) (by omega) (by
          rw [hbt, Bool.true_and]
          cases hh : ho l
          · exact absurd hh hn
          · rfl)] at hK
        exact hK
theorem k_free (C : CX E P H0 A Z X σ ho wr H) {j : Nat} (hj : j < s_nJ σ) (hb : HB ho) (hK : K (.inl (some (.int (b2 (frL ho (s_nd σ j)))))) H) : CRd TTv E (d + 2) mX4_locksAreFreeFor [.ref (A 0 0), .ref (A 16 j)] H c n K := by
  refine crd rfl ?_
  show Ev E (d + 1) mX4_locksAreFreeFor K 0 [.ref (A 0 0), .ref (A 16 j), .retAddr 0] [] H c n
  simp only [eX4_locksAreFreeFor_0, eX4_locksAreFreeFor_1, isA_r, isA_n, isI_i, isF_f, isL_l, is1_i, is1_r, is1_n, is1_f, true_and, and_true, List.length_cons, List.length_nil, Nat.reduceAdd, Nat.reduceLeDiff, Nat.reduceSub, Option.some.injEq, exists_eq_left', aft_s, aft_n, ite_true, ite_false, if_true, if_false, Nat.zero_le, Nat.le_refl, reduceCtorEq]
  exact l_free C hj hb hK 6 0 rfl (fun i hi => absurd hi (by omega))
theorem l_setH {hF ho0 : Nat → Option Nat} {x : Option Nat} {j : Nat} : ∀ k l X ho H, CX E P H0 A Z X σ ho wr H → j < s_nJ σ → (∀ i, i < 6 → hF i = if bitN (s_nd σ j) i = true then x else ho0 i) → k + l = 6 → (∀ i, i < l → ho i = hF i) → (∀ i, l ≤ i → i < 6 → ho i = ho0 i) → (∀ X' H', CX E P H0 A Z X' σ hF wr H' → x_cap X' = x_cap X → K (.inl none) H') → Ev E (d + 1) mX4_setHolder K 2 [.ref (A 0 0), .ref (A 16 j), .int (o2 x), .int (nI l)] [] H c n := by
  intro k
  induction k with
  | zero =>
    intro l X ho H C hj hF' hk h1 h2 hK
    have e1 : (nI l < 6) = False := eq_false (nI_nlt (b := 6) (by omega) (by omega))
    rw [hX4_setHolder_2]
    simp only [eX4_setHolder_3, eX4_setHolder_5, eX4_setHolder_8, eX4_setHolder_9, eX4_setHolder_10, eX4_setHolder_13, eX4_setHolder_16, eX4_setHolder_17, eX4_setHolder_20, eX4_setHolder_21, eX4_setHolder_22, eX4_setHolder_23, eX4_setHolder_26, eX4_setHolder_29, isA_r, isA_n, isI_i, isF_f, isL_l, is1_i, is1_r, is1_n, is1_f, true_and, and_true, List.length_cons, List.length_nil, Nat.reduceAdd, Nat.reduceLeDiff, Nat.reduceSub, Option.some.injEq, exists_eq_left', aft_s, aft_n, ite_true, ite_false, if_true, if_false, Nat.zero_le, Nat.le_refl, reduceCtorEq, e1]
    exact hK X H (C.hoc (fun i hi => h1 i (by omega))) rfl
  | succ k ih =>
    intro l X ho H C hj hF' hk h1 h2 hK
    have e1 : (nI l < 6) = True := eq_true (nI_lt (b := 6) (by omega) (by omega))
    rw [hX4_setHolder_2]
    simp only [eX4_setHolder_3, eX4_setHolder_5, eX4_setHolder_8, eX4_setHolder_9, eX4_setHolder_10, eX4_setHolder_13, eX4_setHolder_16, eX4_setHolder_17, eX4_setHolder_20, eX4_setHolder_21, eX4_setHolder_22, eX4_setHolder_23, eX4_setHolder_26, eX4_setHolder_29, isA_r, isA_n, isI_i, isF_f, isL_l, is1_i, is1_r, is1_n, is1_f, true_and, and_true, List.length_cons, List.length_nil, Nat.reduceAdd, Nat.reduceLeDiff, Nat.reduceSub, Option.some.injEq, exists_eq_left', aft_s, aft_n, ite_true, ite_false, if_true, if_false, Nat.zero_le, Nat.le_refl, reduceCtorEq, e1]
    refine ⟨⟨_, ob_of (C.job hj)⟩, inv0 (k_needs C hj (by omega) ?_)⟩
    cases hbt : bitN (s_nd σ j) l
    · have e2 : (b2 false = 0) = True := eq_true rfl
      simp only [eX4_setHolder_3, eX4_setHolder_5, eX4_setHolder_8, eX4_setHolder_9, eX4_setHolder_10, eX4_setHolder_13, eX4_setHolder_16, eX4_setHolder_17, eX4_setHolder_20, eX4_setHolder_21, eX4_setHolder_22, eX4_setHolder_23, eX4_setHolder_26, eX4_setHolder_29, isA_r, isA_n, isI_i, isF_f, isL_l, is1_i, is1_r, is1_n, is1_f, true_and, and_true, List.length_cons, List.length_nil, Nat.reduceAdd, Nat.reduceLeDiff, Nat.reduceSub, Option.some.injEq, exists_eq_left', aft_s, aft_n, ite_true, ite_false, if_true, if_false, Nat.zero_le, Nat.le_refl, reduceCtorEq, e2]
      rw [nI_1]
      refine ih (l + 1) X ho H C hj hF' (by omega) (fun i hi => ?_) (fun i hi hi2 => h2 i (by omega) hi2) hK
      by_cases hil : i = l
      · subst hil; rw [hF' i (by omega), hbt]; exact h2 i (Nat.le_refl _) (by omega)
      · exact h1 i (by omega)
    · have e2 : (b2 true = 0) = False := eq_false (by decide)
      simp only [eX4_setHolder_13, eX4_setHolder_16, eX4_setHolder_17, eX4_setHolder_20, eX4_setHolder_21, eX4_setHolder_22, eX4_setHolder_23, eX4_setHolder_26, eX4_setHolder_29, isA_r, isA_n, isI_i, isF_f, isL_l, is1_i, is1_r, is1_n, is1_f, true_and, and_true, List.length_cons, List.length_nil, Nat.reduceAdd, Nat.reduceLeDiff, Nat.reduceSub, Option.some.injEq, exists_eq_left', aft_s, aft_n, ite_true, ite_false, if_true, if_false, Nat.zero_le, Nat.le_refl, reduceCtorEq, e2, ob_of C.top, og3, rwI_of C.hol, inB_nI (show l < 6 by omega) (by omega), nI_clamp (show l < 2 ^ 31 by omega)]
      rw [nI_1]
      refine ih (l + 1) _ _ _ (C.pho (l := l) (x := x)) hj hF' (by omega) (fun i hi => ?_) (fun i hi hi2 => ?_) hK
      · by_cases hil : i = l
        · subst hil; rw [upN_s, hF' i (by omega), hbt]; rfl
        · rw [upN_n hil]; exact h1 i (by omega)
      · rw [upN_n (by omega)]; exact h2 i (by omega) hi2
theorem k_setH (C : CX E P H0 A Z X σ ho wr H) {j : Nat} (hj : j < s_nJ σ) {x : Option Nat} (hK : ∀ X' H', CX E P H0 A Z X' σ (fun l => if bitN (s_nd σ j) l = true then x else ho l) wr H' → x_cap X' = x_cap X → K (.inl none) H') : CRd TTv E (d + 2) mX4_setHolder [.ref (A 0 0), .ref (A 16 j), .int (o2 x)] H c n K := by
  refine crd rfl ?_
  show Ev E (d + 1) mX4_setHolder K 0 [.ref (A 0 0), .ref (A 16 j), .int (o2 x), .retAddr 0] [] H c n
  simp only [eX4_setHolder_0, eX4_setHolder_1, isA_r, isA_n, isI_i, isF_f, isL_l, is1_i, is1_r, is1_n, is1_f, true_and, and_true, List.length_cons, List.length_nil, Nat.reduceAdd, Nat.reduceLeDiff, Nat.reduceSub, Option.some.injEq, exists_eq_left', aft_s, aft_n, ite_true, ite_false, if_true, if_false, Nat.zero_le, Nat.le_refl, reduceCtorEq]
  exact l_setH (ho0 := ho) 6 0 X ho H C hj (fun i hi => rfl) rfl (fun i hi => absurd hi (by omega)) (fun i _ _ => rfl) hK
theorem k_comeInto (C : CV E P H0 A σ ho wr H) {j ch : Nat} (hj : j < s_nJ σ) (hch : stOK ch) (hlen : (s_jn σ).length < 16384) (hc : JJ (comesF σ j ch) ≤ JJ σ + c) (hn : 4 * JJ (comesF σ j ch) ≤ 4 * JJ σ + n) (hK : ∀ H', CV E P H0 A (comesF σ j ch) ho wr H' → K (.inl none) H') : CRd TTv E (d + 5) mX4_comeInto [.ref (A 0 0), .ref (A 16 j), .int (nI ch)] H c n K := by
  refine crd rfl ?_
  show Ev E (d + 4) mX4_comeInto K 0 [.ref (A 0 0), .ref (A 16 j), .int (nI ch)] [] H c n
  obtain ⟨Z, X, C, ec1, ec2⟩ := C
  have C2 := C.pst hj hch
  have hj2 : j < s_nJ (w_st σ (upN (s_st σ) j ch)) := hj
  simp only [eX4_comeInto_0, eX4_comeInto_1, eX4_comeInto_2, eX4_comeInto_5, eX4_comeInto_6, eX4_comeInto_9, eX4_comeInto_10, eX4_comeInto_13, eX4_comeInto_14, eX4_comeInto_17, isA_r, isA_n, isI_i, isF_f, isL_l, is1_i, is1_r, is1_n, is1_f, true_and, and_true, List.length_cons, List.length_nil, Nat.reduceAdd, Nat.reduceLeDiff, Nat.reduceSub, Option.some.injEq, exists_eq_left', aft_s, aft_n, ite_true, ite_false, if_true, if_false, Nat.zero_le, Nat.le_refl, reduceCtorEq, ob_of (C.job hj), jf_st, jgl, Nat.reduceLT, (st_ch hch).2.2, ob_of C2.top, og5, ob_of (C2.job hj2), jg0]
  have eJ : JJ (comesF σ j ch) = jcap ((s_jn σ).length + 1) := by
    unfold JJ
    show jcap (s_jn σ ++ [(j, ch)]).length = _
    rw [List.length_append]; rfl
  have eJ0 : JJ σ = jcap (s_jn σ).length := rfl
  rw [eJ, eJ0, jcap_s] at hc hn
  obtain ⟨b1, b2⟩ := jcap_ok (s_jn σ).length (by omega)
  have hz : Z 11 ≠ Z 12 := fun e => by
    have := (C2.2.1 11 0 12 0 (lv_A (by omega) (by omega)) (lv_A (by omega) (by omega)) e).1
    omega
  have hja : (hset H (A 16 j) (.inr (2, jfs A (w_st σ (upN (s_st σ) j ch)) wr j))) (Z 11) = some (arI (jcap (s_jn σ).length) (x_G X 11)) := by rw [C2.jar, ec1]
  have hka : (hset H (A 16 j) (.inr (2, jfs A (w_st σ (upN (s_st σ) j ch)) wr j))) (Z 12) = some (arI (jcap (s_jn σ).length) (x_G X 12)) := by rw [C2.kar, ec2]
  have hjo : (hset H (A 16 j) (.inr (2, jfs A (w_st σ (upN (s_st σ) j ch)) wr j))) (A 7 0) = some (.inr (3, nfs (Z 11) (Z 12) (s_jn σ).length)) := C2.jou
  refine ⟨⟨_, ob_of hjo⟩, invk c n (Nat.le_refl _) (Nat.le_refl _) (c_write hjo hja hka hz b2 hlen (by omega) (by omega) (by omega) (fun h => by rw [if_pos h] at hc hn; omega) (fun H' z1 z2 f g l1 l2 l3 l4 l5 l6 l7 l8 => ?_))⟩
  simp only [eX4_comeInto_0, eX4_comeInto_1, eX4_comeInto_2, eX4_comeInto_5, eX4_comeInto_6, eX4_comeInto_9, eX4_comeInto_10, eX4_comeInto_13, eX4_comeInto_14, eX4_comeInto_17, isA_r, isA_n, isI_i, isF_f, isL_l, is1_i, is1_r, is1_n, is1_f, true_and, and_true, List.length_cons, List.length_nil, Nat.reduceAdd, Nat.reduceLeDiff, Nat.reduceSub, Option.some.injEq, exists_eq_left', aft_s, aft_n, ite_true, ite_false, if_true, if_false, Nat.zero_le, Nat.le_refl, reduceCtorEq]
  refine hK H' ⟨_, _, C2.jn l1 l2 l3 l4 l5 l6 l7 l8, ?_, ?_⟩
  · rw [xc, upN_n (show 11 ≠ 12 by omega), upN_s]; exact jcap_s.symm.trans eJ.symm
  · rw [xc, upN_s]; exact jcap_s.symm.trans eJ.symm
theorem k_oRemove (C : CV E P H0 A σ ho wr H) {r : Nat} (hr : r < (s_od σ).length) (hK : ∀ H', CV E P H0 A (w_od σ ((s_od σ).eraseIdx r)) ho wr H' → K (.inl (some (.ref (A 16 ((s_od σ).getD r 0))))) H') : CRd TTv E (d + 4) mJx4a65c_remove_915e3 [.ref (A 3 0), .int (nI r)] H c n K := by
  obtain ⟨Z, X, C, ec⟩ := C
  have hF := C.rl.2.2.2.2.1.2.2
  refine L_remove C.lsO hr (fun H' m' f' l1 l2 l3 => ?_)
  rw [hF r hr]
  have hlen : (s_od σ).length - 1 = ((s_od σ).eraseIdx r).length := by rw [List.length_eraseIdx_of_lt hr]
  rw [hlen] at l1 l2
  have hpos : 0 < x_cap X 10 := by have := C.lsO.2.1; omega
  refine hK H' ⟨_, _, C.od l1 (fun i hi => ?_) (Or.inl ⟨rfl, hpos, rfl⟩) hpos l3 (C.wl.2.2.2.1.eraseIdx r) (fun x hx => C.wl.2.2.2.2 x (List.mem_of_mem_eraseIdx hx)), ?_⟩
  · rw [l2 i hi, gD_e]
    split
    · exact hF i (by omega)
    · exact hF (i + 1) (by omega)
  · rw [xc, upN_n (show 11 ≠ 10 by omega), upN_n (show 12 ≠ 10 by omega)]; exact ec
theorem k_oAdd (C : CV E P H0 A σ ho wr H) {j : Nat} (hj : j < s_nJ σ) (hnj : j ∉ s_od σ) (hc : 1 ≤ c) (hn : 43 ≤ n) (hK : ∀ H', CV E P H0 A (w_od σ (s_od σ ++ [j])) ho wr H' → K (.inl (some (.int 1))) H') : CRd TTv E (d + 8) mJx4a65c_add_9ea2d [.ref (A 3 0), .ref (A 16 j)] H c n K := by
  obtain ⟨Z, X, C, ec⟩ := C
  have hF := C.rl.2.2.2.2.1.2.2
  have hnd : (s_od σ ++ [j]).Nodup := by
    rw [List.nodup_append]
    exact ⟨C.wl.2.2.2.1, by simp, fun a ha b hb => by rw [List.mem_singleton] at hb; rintro rfl; subst hb; exact hnj ha⟩
  have hm : ∀ i ∈ s_od σ ++ [j], i < s_nJ σ := fun i hi => by
    rcases List.mem_append.mp hi with h | h
    · exact C.wl.2.2.2.2 i h
    · rw [List.mem_singleton] at h; omega
  have hlen : (s_od σ).length < 30 := by
    have := nodup_len hnd hm
    rw [List.length_append] at this
    have h2 := C.J30
    simp only [List.length_cons, List.length_nil] at this
    omega
  refine L_add C.lsO C.ea (isO_of (C.job hj)) hlen hc hn (fun H' m' z' cap' f' l1 l2 l3 l4 l5 l6 => ?_)
  have e : (s_od σ).length + 1 = (s_od σ ++ [j]).length := by rw [List.length_append]; rfl
  rw [e] at l1
  refine hK H' ⟨_, _, C.od l1 (fun i hi => ?_) l4 l5 l6 hnd hm, ?_⟩
  · rw [← e] at hi
    by_cases h : i < (s_od σ).length
    · rw [l3 i h, gD_l h]; exact hF i h
    · have : i = (s_od σ).length := by omega
      subst this
      rw [l2, gD_r]
  · rw [xc, upN_n (show 11 ≠ 10 by omega), upN_n (show 12 ≠ 10 by omega)]; exact ec
end C4
