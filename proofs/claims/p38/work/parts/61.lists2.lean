theorem shr_all : ∀ j : Fin 30, nI j.1 >>> ((1 : Int32) &&& 31) = nI (j.1 / 2) := by decide +kernel
theorem shr_1 {j : Nat} (h : j < 30) : nI j >>> ((1 : Int32) &&& 31) = nI (j / 2) := shr_all ⟨j, h⟩
theorem sub_all : ∀ j : Fin 30, nI (j.1 + 1) - nI j.1 = 1 := by decide +kernel
theorem sub_1 {j : Nat} (h : j < 30) : nI (j + 1) - nI j = 1 := sub_all ⟨j, h⟩
def nl (k : Nat) : Nat := k + (if 1 < k / 2 then k / 2 else 1)
theorem nl_all : ∀ j : Fin 30, (nI j.1 + (if (1 : Int32) < nI (j.1 / 2) then nI (j.1 / 2) else 1) = nI (nl j.1)) ∧ ((0 : Int32) < nI (nl j.1)) ∧ ¬ ((2147483639 : Int32) < nI (nl j.1)) ∧ nl j.1 ≤ 43 ∧ j.1 < nl j.1 ∧ (j.1 = 0 ∨ (0 : Int32) < nI j.1) := by decide +kernel
theorem nl_1 {j : Nat} (h : j < 30) : (nI j + (if (1 : Int32) < nI (j / 2) then nI (j / 2) else 1) = nI (nl j)) ∧ ((0 : Int32) < nI (nl j)) ∧ ¬ ((2147483639 : Int32) < nI (nl j)) ∧ nl j ≤ 43 ∧ j < nl j ∧ (j = 0 ∨ (0 : Int32) < nI j) := nl_all ⟨j, h⟩
theorem cpOK_of {h : AH} {f : Nat → Option Nat} {i x : Nat} (e : f i = some x) (e2 : isO h x = true) : cpOK h (f i) = true := by
  rw [e]; exact e2
section LST2
variable {E : EN} {d : Nat} {c n : Nat} {K : Out → AH → Prop} {H : AH} {a z k cap : Nat} {m : Int32} {f : Nat → Option Nat}
theorem c_newLength (hk : k < 30) (hK : K (.inl (some (.int (nI (nl k))))) H) : CRd TTv E (d + 2) mJ8_newLength_cabcc [.int (nI k), .int 1, .int (nI (k / 2))] H c n K := by
  refine crd rfl ?_
  show Ev E (d + 1) mJ8_newLength_cabcc K 0 [.int (nI k), .int 1, .int (nI (k / 2)), .retAddr 0] [] H c n
  obtain ⟨g1, g2, g3, g4, -⟩ := nl_1 hk
  simp only [eJ8_newLength_cabcc_0, eJ8_newLength_cabcc_1, eJ8_newLength_cabcc_2, eJ8_newLength_cabcc_3, eJ8_newLength_cabcc_6, eJ8_newLength_cabcc_7, eJ8_newLength_cabcc_8, eJ8_newLength_cabcc_9, eJ8_newLength_cabcc_10, eJ8_newLength_cabcc_13, eJ8_newLength_cabcc_14, eJ8_newLength_cabcc_16, eJ8_newLength_cabcc_19, eJ8_newLength_cabcc_20, eJ8_newLength_cabcc_21, eJ8_newLength_cabcc_22, eJ8_newLength_cabcc_23, eJ8_newLength_cabcc_26, isA_r, isA_n, isI_i, isF_f, isL_l, is1_i, is1_r, is1_n, is1_f, true_and, and_true, List.length_cons, List.length_nil, Nat.reduceAdd, Nat.reduceLeDiff, Nat.reduceSub, Option.some.injEq, exists_eq_left', aft_s, aft_n, ite_true, ite_false, if_true, if_false, Nat.zero_le, Nat.le_refl, reduceCtorEq, Nat.le_add_left, g1, g2, g3, okR]
  exact hK
theorem c_copy64 {L : Nat} (hz : H z = some (arR cap f)) (hO : ∀ i, i < cap → ∃ x, f i = some x ∧ isO H x = true) (hL : cap ≤ L) (hL2 : L ≤ 1000) (hc : 1 ≤ c) (hn : L ≤ n) (hK : ∀ q g, H q = none → E.1 q = none → (∀ i, i < cap → g i = f i) → K (.inl (some (.ref q))) (hset H q (arR L g))) : CRd TTv E (d + 3) mJ7_copyOf_6403c [.ref z, .int (nI L), .ref E.2.2] H c n K := by
  refine crd rfl ?_
  show Ev E (d + 2) mJ7_copyOf_6403c K 0 [.ref z, .int (nI L), .ref E.2.2, .retAddr 0] [] H c n
  simp only [eJ7_copyOf_6403c_0, eJ7_copyOf_6403c_1, eJ7_copyOf_6403c_3, eJ7_copyOf_6403c_6, eJ7_copyOf_6403c_7, eJ7_copyOf_6403c_10, eJ7_copyOf_6403c_13, eJ7_copyOf_6403c_17, eJ7_copyOf_6403c_24, eJ7_copyOf_6403c_25, eJ7_copyOf_6403c_26, eJ7_copyOf_6403c_27, eJ7_copyOf_6403c_28, eJ7_copyOf_6403c_29, eJ7_copyOf_6403c_30, eJ7_copyOf_6403c_31, eJ7_copyOf_6403c_32, eJ7_copyOf_6403c_35, eJ7_copyOf_6403c_38, eJ7_copyOf_6403c_39, isA_r, isA_n, isI_i, isF_f, isL_l, is1_i, is1_r, is1_n, is1_f, true_and, and_true, List.length_cons, List.length_nil, Nat.reduceAdd, Nat.reduceLeDiff, Nat.reduceSub, Option.some.injEq, exists_eq_left', aft_s, aft_n, ite_true, ite_false, if_true, if_false, Nat.zero_le, Nat.le_refl, reduceCtorEq, nI_pos (show L < 2 ^ 31 by omega), nI_clamp (show L < 2 ^ 31 by omega), not_false_eq_true]
  refine ⟨⟨by omega, Or.inr rfl⟩, hc, hn, fun q hq hq2 => ?_⟩
  have hqz : z ≠ q := by rintro rfl; rw [hz] at hq; cases hq
  have e0 : (if nI L < nI cap then nI L else nI cap) = nI cap := if_neg (nI_nlt hL (by omega))
  simp only [eJ7_copyOf_6403c_0, eJ7_copyOf_6403c_1, eJ7_copyOf_6403c_3, eJ7_copyOf_6403c_6, eJ7_copyOf_6403c_7, eJ7_copyOf_6403c_10, eJ7_copyOf_6403c_13, eJ7_copyOf_6403c_17, eJ7_copyOf_6403c_24, eJ7_copyOf_6403c_25, eJ7_copyOf_6403c_26, eJ7_copyOf_6403c_27, eJ7_copyOf_6403c_28, eJ7_copyOf_6403c_29, eJ7_copyOf_6403c_30, eJ7_copyOf_6403c_31, eJ7_copyOf_6403c_32, eJ7_copyOf_6403c_35, eJ7_copyOf_6403c_38, eJ7_copyOf_6403c_39, isA_r, isA_n, isI_i, isF_f, isL_l, is1_i, is1_r, is1_n, is1_f, true_and, and_true, List.length_cons, List.length_nil, Nat.reduceAdd, Nat.reduceLeDiff, Nat.reduceSub, Option.some.injEq, exists_eq_left', aft_s, aft_n, ite_true, ite_false, if_true, if_false, Nat.zero_le, Nat.le_refl, reduceCtorEq, rdN_n hqz, rdN_of hz, rdA_n hqz, rdA_of hz, rdA_e, Nat.le_add_left, Int32.lt_irrefl]
  have e0 : (if nI L < Int32.ofNat cap then nI L else Int32.ofNat cap) = nI cap := if_neg (nI_nlt hL (by omega))
  rw [e0]
  have ec := nI_clamp (show cap < 2 ^ 31 by omega)
  have e1 : (0 : Int32).toNatClampNeg = 0 := rfl
  refine ⟨⟨⟨by decide, by decide, nI_pos (by omega), ?_, ?_⟩, ?_⟩, ?_⟩
  · rw [ec, e1]; show 0 + cap ≤ cap; omega
  · rw [ec, e1]; show 0 + cap ≤ L; omega
  · intro i hi
    rw [ec] at hi
    rw [e1, Nat.zero_add]
    obtain ⟨x, hx1, hx2⟩ := hO i hi
    rw [hx1]
    show isO _ x = true
    rw [isO_n (isO_no hx2 hq)]
    exact hx2
  · rw [hs_hs, ec, e1]
    exact hK q _ hq hq2 (fun i hi => by
      rw [pk_cpy_in (Nat.zero_le _) (by omega)]
      simp)
theorem c_copy19 {L : Nat} (hz : H z = some (arR cap f)) (hO : ∀ i, i < cap → ∃ x, f i = some x ∧ isO H x = true) (hL : cap ≤ L) (hL2 : L ≤ 1000) (hc : 1 ≤ c) (hn : L ≤ n) (hK : ∀ q g, H q = none → E.1 q = none → (∀ i, i < cap → g i = f i) → K (.inl (some (.ref q))) (hset H q (arR L g))) : CRd TTv E (d + 4) mJ7_copyOf_1904c [.ref z, .int (nI L)] H c n K := by
  refine crd rfl ?_
  show Ev E (d + 3) mJ7_copyOf_1904c K 0 [.ref z, .int (nI L)] [] H c n
  simp only [eJ7_copyOf_1904c_0, eJ7_copyOf_1904c_1, eJ7_copyOf_1904c_2, eJ7_copyOf_1904c_3, eJ7_copyOf_1904c_6, eJ7_copyOf_1904c_9, isA_r, isA_n, isI_i, isF_f, isL_l, is1_i, is1_r, is1_n, is1_f, true_and, and_true, List.length_cons, List.length_nil, Nat.reduceAdd, Nat.reduceLeDiff, Nat.reduceSub, Option.some.injEq, exists_eq_left', aft_s, aft_n, ite_true, ite_false, if_true, if_false, Nat.zero_le, Nat.le_refl, reduceCtorEq, rdA_of hz, Nat.le_add_left]
  refine invk c n (Nat.le_refl _) (Nat.le_refl _) (c_copy64 hz hO hL hL2 hc hn (fun q g hq hq2 hg => ?_))
  simp only [eJ7_copyOf_1904c_0, eJ7_copyOf_1904c_1, eJ7_copyOf_1904c_2, eJ7_copyOf_1904c_3, eJ7_copyOf_1904c_6, eJ7_copyOf_1904c_9, isA_r, isA_n, isI_i, isF_f, isL_l, is1_i, is1_r, is1_n, is1_f, true_and, and_true, List.length_cons, List.length_nil, Nat.reduceAdd, Nat.reduceLeDiff, Nat.reduceSub, Option.some.injEq, exists_eq_left', aft_s, aft_n, ite_true, ite_false, if_true, if_false, Nat.zero_le, Nat.le_refl, reduceCtorEq]
  exact hK q g hq hq2 hg
/-- what growing gives -/
theorem c_grow9 (L : LLs E H a m z k cap f) (hE : EA E) (hcap : k = cap) (hk : k < 30) (hc : 1 ≤ c) (hn : 43 ≤ n) (hK : ∀ q g L, H q = none → E.1 q = none → (∀ i, i < k → g i = f i) → k < L → L ≤ 43 → K (.inl (some (.ref q))) (hset (hset H q (arR L g)) a (.inr (0, lfs m q k)))) : CRd TTv E (d + 5) mJx4a65c_grow_92f84 [.ref a, .int (nI (k + 1))] H c n K := by
  refine crd rfl ?_
  show Ev E (d + 4) mJx4a65c_grow_92f84 K 0 [.ref a, .int (nI (k + 1)), .retAddr 0, .retAddr 0] [] H c n
  obtain ⟨g1, g2, g3, g4, g5, g6⟩ := nl_1 hk
  have L' := L
  obtain ⟨h1, h2, h3, h4, h5⟩ := L'
  rcases h4 with ⟨h0, hz, hz0⟩ | ⟨h0, hz⟩
  · have k0 : k = 0 := by omega
    have e1 : ¬ (0 : Int32) < Int32.ofNat emA.1 := by decide
    subst hz
    simp only [eJx4a65c_grow_92f84_0, eJx4a65c_grow_92f84_1, eJx4a65c_grow_92f84_4, eJx4a65c_grow_92f84_5, eJx4a65c_grow_92f84_6, eJx4a65c_grow_92f84_7, eJx4a65c_grow_92f84_10, eJx4a65c_grow_92f84_11, eJx4a65c_grow_92f84_14, eJx4a65c_grow_92f84_17, eJx4a65c_grow_92f84_20, eJx4a65c_grow_92f84_21, eJx4a65c_grow_92f84_22, eJx4a65c_grow_92f84_23, eJx4a65c_grow_92f84_24, eJx4a65c_grow_92f84_25, eJx4a65c_grow_92f84_26, eJx4a65c_grow_92f84_27, eJx4a65c_grow_92f84_30, eJx4a65c_grow_92f84_31, eJx4a65c_grow_92f84_32, eJx4a65c_grow_92f84_33, eJx4a65c_grow_92f84_36, eJx4a65c_grow_92f84_37, eJx4a65c_grow_92f84_40, eJx4a65c_grow_92f84_41, eJx4a65c_grow_92f84_44, eJx4a65c_grow_92f84_45, eJx4a65c_grow_92f84_46, eJx4a65c_grow_92f84_48, eJx4a65c_grow_92f84_49, eJx4a65c_grow_92f84_52, eJx4a65c_grow_92f84_55, eJx4a65c_grow_92f84_56, eJx4a65c_grow_92f84_59, isA_r, isA_n, isI_i, isF_f, isL_l, is1_i, is1_r, is1_n, is1_f, true_and, and_true, List.length_cons, List.length_nil, Nat.reduceAdd, Nat.reduceLeDiff, Nat.reduceSub, Option.some.injEq, exists_eq_left', aft_s, aft_n, ite_true, ite_false, if_true, if_false, Nat.zero_le, Nat.le_refl, reduceCtorEq, ob_of h1, lf_g1, rdN_E hz0 hE, e1]
    subst k0
    have e2 : (if nI (0 + 1) < (10 : Int32) then (10 : Int32) else nI (0 + 1)) = nI 10 := by decide
    have e3 : (if (10 : Int32) < nI (0 + 1) then nI (0 + 1) else (10 : Int32)) = nI 10 := by decide
    simp only [eJx4a65c_grow_92f84_0, eJx4a65c_grow_92f84_1, eJx4a65c_grow_92f84_4, eJx4a65c_grow_92f84_5, eJx4a65c_grow_92f84_6, eJx4a65c_grow_92f84_7, eJx4a65c_grow_92f84_10, eJx4a65c_grow_92f84_11, eJx4a65c_grow_92f84_14, eJx4a65c_grow_92f84_17, eJx4a65c_grow_92f84_20, eJx4a65c_grow_92f84_21, eJx4a65c_grow_92f84_22, eJx4a65c_grow_92f84_23, eJx4a65c_grow_92f84_24, eJx4a65c_grow_92f84_25, eJx4a65c_grow_92f84_26, eJx4a65c_grow_92f84_27, eJx4a65c_grow_92f84_30, eJx4a65c_grow_92f84_31, eJx4a65c_grow_92f84_32, eJx4a65c_grow_92f84_33, eJx4a65c_grow_92f84_36, eJx4a65c_grow_92f84_37, eJx4a65c_grow_92f84_40, eJx4a65c_grow_92f84_41, eJx4a65c_grow_92f84_44, eJx4a65c_grow_92f84_45, eJx4a65c_grow_92f84_46, eJx4a65c_grow_92f84_48, eJx4a65c_grow_92f84_49, eJx4a65c_grow_92f84_52, eJx4a65c_grow_92f84_55, eJx4a65c_grow_92f84_56, eJx4a65c_grow_92f84_59, isA_r, isA_n, isI_i, isF_f, isL_l, is1_i, is1_r, is1_n, is1_f, true_and, and_true, List.length_cons, List.length_nil, Nat.reduceAdd, Nat.reduceLeDiff, Nat.reduceSub, Option.some.injEq, exists_eq_left', aft_s, aft_n, ite_true, ite_false, if_true, if_false, Nat.zero_le, Nat.le_refl, reduceCtorEq, Nat.le_add_left, e2, e3, nI_pos (show 10 < 2 ^ 31 by omega), nI_clamp (show 10 < 2 ^ 31 by omega), not_false_eq_true]
    refine ⟨Or.inl rfl, hc, by omega, fun q hq hq2 => ?_⟩
    have hqa : a ≠ q := by rintro rfl; rw [h1] at hq; cases hq
    simp only [eJx4a65c_grow_92f84_0, eJx4a65c_grow_92f84_1, eJx4a65c_grow_92f84_4, eJx4a65c_grow_92f84_5, eJx4a65c_grow_92f84_6, eJx4a65c_grow_92f84_7, eJx4a65c_grow_92f84_10, eJx4a65c_grow_92f84_11, eJx4a65c_grow_92f84_14, eJx4a65c_grow_92f84_17, eJx4a65c_grow_92f84_20, eJx4a65c_grow_92f84_21, eJx4a65c_grow_92f84_22, eJx4a65c_grow_92f84_23, eJx4a65c_grow_92f84_24, eJx4a65c_grow_92f84_25, eJx4a65c_grow_92f84_26, eJx4a65c_grow_92f84_27, eJx4a65c_grow_92f84_30, eJx4a65c_grow_92f84_31, eJx4a65c_grow_92f84_32, eJx4a65c_grow_92f84_33, eJx4a65c_grow_92f84_36, eJx4a65c_grow_92f84_37, eJx4a65c_grow_92f84_40, eJx4a65c_grow_92f84_41, eJx4a65c_grow_92f84_44, eJx4a65c_grow_92f84_45, eJx4a65c_grow_92f84_46, eJx4a65c_grow_92f84_48, eJx4a65c_grow_92f84_49, eJx4a65c_grow_92f84_52, eJx4a65c_grow_92f84_55, eJx4a65c_grow_92f84_56, eJx4a65c_grow_92f84_59, isA_r, isA_n, isI_i, isF_f, isL_l, is1_i, is1_r, is1_n, is1_f, true_and, and_true, List.length_cons, List.length_nil, Nat.reduceAdd, Nat.reduceLeDiff, Nat.reduceSub, Option.some.injEq, exists_eq_left', aft_s, aft_n, ite_true, ite_false, if_true, if_false, Nat.zero_le, Nat.le_refl, reduceCtorEq, ob_n hqa, ob_of h1, lf_s1, lf_l, Nat.reduceLT, okF, tyC]
    exact hK q _ 10 hq hq2 (fun i hi => absurd hi (by omega)) (by omega) (by omega)
  · have hpos : (0 : Int32) < Int32.ofNat cap := by
      have := g6.resolve_left (by omega)
      rw [hcap] at this; exact this
    have e4 : nI (k + 1) - Int32.ofNat cap = 1 := by rw [← hcap]; exact sub_1 hk
    have e5 : Int32.ofNat cap >>> ((1 : Int32) &&& 31) = nI (k / 2) := by rw [← hcap]; exact shr_1 hk
    have e6 : (.int (Int32.ofNat cap) : Value) = .int (nI k) := by rw [hcap]; rfl
    simp only [eJx4a65c_grow_92f84_0, eJx4a65c_grow_92f84_1, eJx4a65c_grow_92f84_4, eJx4a65c_grow_92f84_5, eJx4a65c_grow_92f84_6, eJx4a65c_grow_92f84_7, eJx4a65c_grow_92f84_10, eJx4a65c_grow_92f84_11, eJx4a65c_grow_92f84_14, eJx4a65c_grow_92f84_17, eJx4a65c_grow_92f84_20, eJx4a65c_grow_92f84_21, eJx4a65c_grow_92f84_22, eJx4a65c_grow_92f84_23, eJx4a65c_grow_92f84_24, eJx4a65c_grow_92f84_25, eJx4a65c_grow_92f84_26, eJx4a65c_grow_92f84_27, eJx4a65c_grow_92f84_30, eJx4a65c_grow_92f84_31, eJx4a65c_grow_92f84_32, eJx4a65c_grow_92f84_33, eJx4a65c_grow_92f84_36, eJx4a65c_grow_92f84_37, eJx4a65c_grow_92f84_40, eJx4a65c_grow_92f84_41, eJx4a65c_grow_92f84_44, eJx4a65c_grow_92f84_45, eJx4a65c_grow_92f84_46, eJx4a65c_grow_92f84_48, eJx4a65c_grow_92f84_49, eJx4a65c_grow_92f84_52, eJx4a65c_grow_92f84_55, eJx4a65c_grow_92f84_56, eJx4a65c_grow_92f84_59, isA_r, isA_n, isI_i, isF_f, isL_l, is1_i, is1_r, is1_n, is1_f, true_and, and_true, List.length_cons, List.length_nil, Nat.reduceAdd, Nat.reduceLeDiff, Nat.reduceSub, Option.some.injEq, exists_eq_left', aft_s, aft_n, ite_true, ite_false, if_true, if_false, Nat.zero_le, Nat.le_refl, reduceCtorEq, ob_of h1, lf_g1, rdN_of hz, hpos, e4, e5]
    rw [e6]
    refine inv0 (c_newLength hk ?_)
    simp only [eJx4a65c_grow_92f84_0, eJx4a65c_grow_92f84_1, eJx4a65c_grow_92f84_4, eJx4a65c_grow_92f84_5, eJx4a65c_grow_92f84_6, eJx4a65c_grow_92f84_7, eJx4a65c_grow_92f84_10, eJx4a65c_grow_92f84_11, eJx4a65c_grow_92f84_14, eJx4a65c_grow_92f84_17, eJx4a65c_grow_92f84_20, eJx4a65c_grow_92f84_21, eJx4a65c_grow_92f84_22, eJx4a65c_grow_92f84_23, eJx4a65c_grow_92f84_24, eJx4a65c_grow_92f84_25, eJx4a65c_grow_92f84_26, eJx4a65c_grow_92f84_27, eJx4a65c_grow_92f84_30, eJx4a65c_grow_92f84_31, eJx4a65c_grow_92f84_32, eJx4a65c_grow_92f84_33, eJx4a65c_grow_92f84_36, eJx4a65c_grow_92f84_37, eJx4a65c_grow_92f84_40, eJx4a65c_grow_92f84_41, eJx4a65c_grow_92f84_44, eJx4a65c_grow_92f84_45, eJx4a65c_grow_92f84_46, eJx4a65c_grow_92f84_48, eJx4a65c_grow_92f84_49, eJx4a65c_grow_92f84_52, eJx4a65c_grow_92f84_55, eJx4a65c_grow_92f84_56, eJx4a65c_grow_92f84_59, isA_r, isA_n, isI_i, isF_f, isL_l, is1_i, is1_r, is1_n, is1_f, true_and, and_true, List.length_cons, List.length_nil, Nat.reduceAdd, Nat.reduceLeDiff, Nat.reduceSub, Option.some.injEq, exists_eq_left', aft_s, aft_n, ite_true, ite_false, if_true, if_false, Nat.zero_le, Nat.le_refl, reduceCtorEq, ob_of h1, lf_g1]
    refine invk c n (Nat.le_refl _) (Nat.le_refl _) (c_copy19 hz (fun i hi => h5 i (by omega)) (by omega) (by omega) hc (by omega) (fun q g hq hq2 hg => ?_))
    have hqa : a ≠ q := by rintro rfl; rw [h1] at hq; cases hq
    simp only [eJx4a65c_grow_92f84_0, eJx4a65c_grow_92f84_1, eJx4a65c_grow_92f84_4, eJx4a65c_grow_92f84_5, eJx4a65c_grow_92f84_6, eJx4a65c_grow_92f84_7, eJx4a65c_grow_92f84_10, eJx4a65c_grow_92f84_11, eJx4a65c_grow_92f84_14, eJx4a65c_grow_92f84_17, eJx4a65c_grow_92f84_20, eJx4a65c_grow_92f84_21, eJx4a65c_grow_92f84_22, eJx4a65c_grow_92f84_23, eJx4a65c_grow_92f84_24, eJx4a65c_grow_92f84_25, eJx4a65c_grow_92f84_26, eJx4a65c_grow_92f84_27, eJx4a65c_grow_92f84_30, eJx4a65c_grow_92f84_31, eJx4a65c_grow_92f84_32, eJx4a65c_grow_92f84_33, eJx4a65c_grow_92f84_36, eJx4a65c_grow_92f84_37, eJx4a65c_grow_92f84_40, eJx4a65c_grow_92f84_41, eJx4a65c_grow_92f84_44, eJx4a65c_grow_92f84_45, eJx4a65c_grow_92f84_46, eJx4a65c_grow_92f84_48, eJx4a65c_grow_92f84_49, eJx4a65c_grow_92f84_52, eJx4a65c_grow_92f84_55, eJx4a65c_grow_92f84_56, eJx4a65c_grow_92f84_59, isA_r, isA_n, isI_i, isF_f, isL_l, is1_i, is1_r, is1_n, is1_f, true_and, and_true, List.length_cons, List.length_nil, Nat.reduceAdd, Nat.reduceLeDiff, Nat.reduceSub, Option.some.injEq, exists_eq_left', aft_s, aft_n, ite_true, ite_false, if_true, if_false, Nat.zero_le, Nat.le_refl, reduceCtorEq, ob_n hqa, ob_of h1, lf_s1, lf_l, Nat.reduceLT, okF, tyC]
    exact hK q g (nl k) hq hq2 (fun i hi => hg i (by omega)) g5 g4
theorem c_grow0 (L : LLs E H a m z k cap f) (hE : EA E) (hcap : k = cap) (hk : k < 30) (hc : 1 ≤ c) (hn : 43 ≤ n) (hK : ∀ q g L, H q = none → E.1 q = none → (∀ i, i < k → g i = f i) → k < L → L ≤ 43 → K (.inl (some (.ref q))) (hset (hset H q (arR L g)) a (.inr (0, lfs m q k)))) : CRd TTv E (d + 6) mJx4a65c_grow_d5877 [.ref a] H c n K := by
  refine crd rfl ?_
  show Ev E (d + 5) mJx4a65c_grow_d5877 K 0 [.ref a] [] H c n
  simp only [eJx4a65c_grow_d5877_0, eJx4a65c_grow_d5877_1, eJx4a65c_grow_d5877_2, eJx4a65c_grow_d5877_5, eJx4a65c_grow_d5877_6, eJx4a65c_grow_d5877_7, eJx4a65c_grow_d5877_10, isA_r, isA_n, isI_i, isF_f, isL_l, is1_i, is1_r, is1_n, is1_f, true_and, and_true, List.length_cons, List.length_nil, Nat.reduceAdd, Nat.reduceLeDiff, Nat.reduceSub, Option.some.injEq, exists_eq_left', aft_s, aft_n, ite_true, ite_false, if_true, if_false, Nat.zero_le, Nat.le_refl, reduceCtorEq, ob_of L.1, lf_g2]
  rw [nI_1]
  refine ⟨⟨_, rfl⟩, invk c n (Nat.le_refl _) (Nat.le_refl _) (c_grow9 L hE hcap hk hc hn (fun q g N hq hq2 hg h1 h2 => ?_))⟩
  simp only [eJx4a65c_grow_d5877_0, eJx4a65c_grow_d5877_1, eJx4a65c_grow_d5877_2, eJx4a65c_grow_d5877_5, eJx4a65c_grow_d5877_6, eJx4a65c_grow_d5877_7, eJx4a65c_grow_d5877_10, isA_r, isA_n, isI_i, isF_f, isL_l, is1_i, is1_r, is1_n, is1_f, true_and, and_true, List.length_cons, List.length_nil, Nat.reduceAdd, Nat.reduceLeDiff, Nat.reduceSub, Option.some.injEq, exists_eq_left', aft_s, aft_n, ite_true, ite_false, if_true, if_false, Nat.zero_le, Nat.le_refl, reduceCtorEq]
  exact hK q g N hq hq2 hg h1 h2
/-- add -/
theorem c_add7 (L : LLs E H a m z k cap f) (hE : EA E) {e : Nat} (he : isO H e = true) (hk : k < 30) (hc : 1 ≤ c) (hn : 43 ≤ n) (hK : ∀ H' z' cap' f', LLs E H' a m z' (k + 1) cap' f' → f' k = some e → (∀ i, i < k → f' i = f i) → ((z' = z ∧ 0 < cap ∧ cap' = cap) ∨ (H z' = none ∧ E.1 z' = none)) → 0 < cap' → (∀ q, q ≠ a → q ≠ z' → H' q = H q) → K (.inl none) H') : CRd TTv E (d + 7) mJx4a65c_add_72be8 [.ref a, .ref e, .ref z, .int (nI k)] H c n K := by
  refine crd rfl ?_
  show Ev E (d + 6) mJx4a65c_add_72be8 K 0 [.ref a, .ref e, .ref z, .int (nI k)] [] H c n
  have L' := L
  obtain ⟨h1, h2, h3, h4, h5⟩ := L'
  have hlen : rdN E H z = some cap := by
    rcases h4 with ⟨h0, hz, hz0⟩ | ⟨h0, hz⟩
    · subst hz; rw [rdN_E hz0 hE, h0]; rfl
    · exact rdN_of hz
  have hkI : nI (k + 1) = nI k + 1 := (nI_1 k).symm
  by_cases hcap : k = cap
  · have e1 : (nI k = Int32.ofNat cap) = True := eq_true (by rw [hcap]; rfl)
    simp only [eJx4a65c_add_72be8_0, eJx4a65c_add_72be8_1, eJx4a65c_add_72be8_2, eJx4a65c_add_72be8_3, eJx4a65c_add_72be8_6, eJx4a65c_add_72be8_7, eJx4a65c_add_72be8_10, isA_r, isA_n, isI_i, isF_f, isL_l, is1_i, is1_r, is1_n, is1_f, true_and, and_true, List.length_cons, List.length_nil, Nat.reduceAdd, Nat.reduceLeDiff, Nat.reduceSub, Option.some.injEq, exists_eq_left', aft_s, aft_n, ite_true, ite_false, if_true, if_false, Nat.zero_le, Nat.le_refl, reduceCtorEq, hlen, e1]
    refine ⟨⟨_, ob_of h1⟩, invk c n (Nat.le_refl _) (Nat.le_refl _) (c_grow0 L hE hcap hk hc hn (fun q g N hq hq2 hg h6 h7 => ?_))⟩
    have hqa : q ≠ a := by rintro rfl; rw [h1] at hq; cases hq
    have heq : e ≠ q := isO_no he hq
    have hcl := nI_clamp (show k < 2 ^ 31 by omega)
    have hO : isO (hset (hset H q (arR N g)) a (.inr (0, lfs m q k))) e = true := isO_up (by rw [isO_n heq]; exact he)
    simp only [eJx4a65c_add_72be8_10, eJx4a65c_add_72be8_11, eJx4a65c_add_72be8_12, eJx4a65c_add_72be8_13, eJx4a65c_add_72be8_14, eJx4a65c_add_72be8_15, eJx4a65c_add_72be8_16, eJx4a65c_add_72be8_17, eJx4a65c_add_72be8_18, eJx4a65c_add_72be8_19, eJx4a65c_add_72be8_22, isA_r, isA_n, isI_i, isF_f, isL_l, is1_i, is1_r, is1_n, is1_f, true_and, and_true, List.length_cons, List.length_nil, Nat.reduceAdd, Nat.reduceLeDiff, Nat.reduceSub, Option.some.injEq, exists_eq_left', aft_s, aft_n, ite_true, ite_false, if_true, if_false, Nat.zero_le, Nat.le_refl, reduceCtorEq, rdA_n hqa, rdA_e, inB_nI h6 (by omega), hO, hcl]
    rw [nI_1]
    simp only [eJx4a65c_add_72be8_10, eJx4a65c_add_72be8_11, eJx4a65c_add_72be8_12, eJx4a65c_add_72be8_13, eJx4a65c_add_72be8_14, eJx4a65c_add_72be8_15, eJx4a65c_add_72be8_16, eJx4a65c_add_72be8_17, eJx4a65c_add_72be8_18, eJx4a65c_add_72be8_19, eJx4a65c_add_72be8_22, isA_r, isA_n, isI_i, isF_f, isL_l, is1_i, is1_r, is1_n, is1_f, true_and, and_true, List.length_cons, List.length_nil, Nat.reduceAdd, Nat.reduceLeDiff, Nat.reduceSub, Option.some.injEq, exists_eq_left', aft_s, aft_n, ite_true, ite_false, if_true, if_false, Nat.zero_le, Nat.le_refl, reduceCtorEq, ob_n hqa.symm, ob_e, lf_s2, lf_l, Nat.reduceLT, okF, tyC]
    refine hK _ q N (va_up g k (some e)) ⟨hs_e, by omega, by omega, Or.inr ⟨by omega, by rw [hs_n hqa, hs_e]⟩, fun i hi => ?_⟩ (va_up_self _ _ _) (fun i hi => by rw [va_up_ne _ _ (by omega), hg i hi]) (Or.inr ⟨hq, hq2⟩) (by omega) (fun x hx1 hx2 => by rw [hs_n hx1, hs_n hx2, hs_n hx1, hs_n hx2])
    by_cases hik : i = k
    · subst hik
      exact ⟨e, va_up_self _ _ _, isO_up (by rw [isO_n heq]; exact hO)⟩
    · obtain ⟨x, hx1, hx2⟩ := h5 i (by omega)
      have hxq : x ≠ q := isO_no hx2 hq
      exact ⟨x, by rw [va_up_ne _ _ hik, hg i (by omega)]; exact hx1, isO_up (by rw [isO_n hxq]; exact isO_up (by rw [isO_n hxq]; exact hx2))⟩
  · have e1 : (nI k = Int32.ofNat cap) = False := eq_false (fun h => hcap ((nI_eq (by omega) (by omega)).mp h))
    have hz := L.arr (by omega)
    have hza := L.ne
    have hez : e ≠ z := isO_ne he hz
    have hcl := nI_clamp (show k < 2 ^ 31 by omega)
    simp only [eJx4a65c_add_72be8_0, eJx4a65c_add_72be8_1, eJx4a65c_add_72be8_2, eJx4a65c_add_72be8_3, eJx4a65c_add_72be8_6, eJx4a65c_add_72be8_7, eJx4a65c_add_72be8_10, eJx4a65c_add_72be8_11, eJx4a65c_add_72be8_12, eJx4a65c_add_72be8_13, eJx4a65c_add_72be8_14, eJx4a65c_add_72be8_15, eJx4a65c_add_72be8_16, eJx4a65c_add_72be8_17, eJx4a65c_add_72be8_18, eJx4a65c_add_72be8_19, eJx4a65c_add_72be8_22, isA_r, isA_n, isI_i, isF_f, isL_l, is1_i, is1_r, is1_n, is1_f, true_and, and_true, List.length_cons, List.length_nil, Nat.reduceAdd, Nat.reduceLeDiff, Nat.reduceSub, Option.some.injEq, exists_eq_left', aft_s, aft_n, ite_true, ite_false, if_true, if_false, Nat.zero_le, Nat.le_refl, reduceCtorEq, hlen, e1, rdA_of hz, inB_nI (show k < cap by omega) (by omega), he, hcl]
    rw [nI_1]
    simp only [eJx4a65c_add_72be8_0, eJx4a65c_add_72be8_1, eJx4a65c_add_72be8_2, eJx4a65c_add_72be8_3, eJx4a65c_add_72be8_6, eJx4a65c_add_72be8_7, eJx4a65c_add_72be8_10, eJx4a65c_add_72be8_11, eJx4a65c_add_72be8_12, eJx4a65c_add_72be8_13, eJx4a65c_add_72be8_14, eJx4a65c_add_72be8_15, eJx4a65c_add_72be8_16, eJx4a65c_add_72be8_17, eJx4a65c_add_72be8_18, eJx4a65c_add_72be8_19, eJx4a65c_add_72be8_22, isA_r, isA_n, isI_i, isF_f, isL_l, is1_i, is1_r, is1_n, is1_f, true_and, and_true, List.length_cons, List.length_nil, Nat.reduceAdd, Nat.reduceLeDiff, Nat.reduceSub, Option.some.injEq, exists_eq_left', aft_s, aft_n, ite_true, ite_false, if_true, if_false, Nat.zero_le, Nat.le_refl, reduceCtorEq, ob_n hza.symm, ob_of h1, lf_s2, lf_l, Nat.reduceLT, okF, tyC]
    refine hK _ z cap (va_up f k (some e)) ⟨hs_e, by omega, by omega, Or.inr ⟨by omega, by rw [hs_n hza, hs_e]⟩, fun i hi => ?_⟩ (va_up_self _ _ _) (fun i hi => va_up_ne _ _ (by omega)) (Or.inl ⟨rfl, by omega, rfl⟩) (by omega) (fun x hx1 hx2 => by rw [hs_n hx1, hs_n hx2])
    by_cases hik : i = k
    · subst hik
      exact ⟨e, va_up_self _ _ _, isO_up (by rw [isO_n hez]; exact he)⟩
    · obtain ⟨x, hx1, hx2⟩ := h5 i (by omega)
      exact ⟨x, by rw [va_up_ne _ _ hik]; exact hx1, isO_up (by rw [isO_n (isO_ne hx2 hz)]; exact hx2)⟩
theorem L_add (L : LLs E H a m z k cap f) (hE : EA E) {e : Nat} (he : isO H e = true) (hk : k < 30) (hc : 1 ≤ c) (hn : 43 ≤ n) (hK : ∀ H' m' z' cap' f', LLs E H' a m' z' (k + 1) cap' f' → f' k = some e → (∀ i, i < k → f' i = f i) → ((z' = z ∧ 0 < cap ∧ cap' = cap) ∨ (H z' = none ∧ E.1 z' = none)) → 0 < cap' → (∀ q, q ≠ a → q ≠ z' → H' q = H q) → K (.inl (some (.int 1))) H') : CRd TTv E (d + 8) mJx4a65c_add_9ea2d [.ref a, .ref e] H c n K := by
  refine crd rfl ?_
  show Ev E (d + 7) mJx4a65c_add_9ea2d K 0 [.ref a, .ref e] [] H c n
  have L' := L
  obtain ⟨h1, h2, h3, h4, h5⟩ := L'
  have hza := L.ne
  simp only [eJx4a65c_add_9ea2d_0, eJx4a65c_add_9ea2d_1, eJx4a65c_add_9ea2d_2, eJx4a65c_add_9ea2d_5, eJx4a65c_add_9ea2d_6, eJx4a65c_add_9ea2d_7, eJx4a65c_add_9ea2d_10, eJx4a65c_add_9ea2d_11, eJx4a65c_add_9ea2d_12, eJx4a65c_add_9ea2d_13, eJx4a65c_add_9ea2d_16, eJx4a65c_add_9ea2d_17, eJx4a65c_add_9ea2d_20, eJx4a65c_add_9ea2d_23, eJx4a65c_add_9ea2d_24, isA_r, isA_n, isI_i, isF_f, isL_l, is1_i, is1_r, is1_n, is1_f, true_and, and_true, List.length_cons, List.length_nil, Nat.reduceAdd, Nat.reduceLeDiff, Nat.reduceSub, Option.some.injEq, exists_eq_left', aft_s, aft_n, ite_true, ite_false, if_true, if_false, Nat.zero_le, Nat.le_refl, reduceCtorEq, ob_of h1, lf_g0, lf_s0, lf_l, lf_g1, lf_g2, ob_e, Nat.reduceLT, okF, tyC]
  have L2 : LLs E (hset H a (.inr (0, lfs (m + 1) z k))) a (m + 1) z k cap f := ⟨hs_e, h2, h3, by rw [hs_n hza]; exact h4, fun i hi => by
    obtain ⟨x, hx1, hx2⟩ := h5 i hi
    exact ⟨x, hx1, isO_up hx2⟩⟩
  refine ⟨⟨_, rfl⟩, invk c n (Nat.le_refl _) (Nat.le_refl _) (c_add7 L2 hE (isO_up he) hk hc hn (fun H' z' cap' f' l1 l2 l3 l4 l5 l6 => ?_))⟩
  simp only [eJx4a65c_add_9ea2d_0, eJx4a65c_add_9ea2d_1, eJx4a65c_add_9ea2d_2, eJx4a65c_add_9ea2d_5, eJx4a65c_add_9ea2d_6, eJx4a65c_add_9ea2d_7, eJx4a65c_add_9ea2d_10, eJx4a65c_add_9ea2d_11, eJx4a65c_add_9ea2d_12, eJx4a65c_add_9ea2d_13, eJx4a65c_add_9ea2d_16, eJx4a65c_add_9ea2d_17, eJx4a65c_add_9ea2d_20, eJx4a65c_add_9ea2d_23, eJx4a65c_add_9ea2d_24, isA_r, isA_n, isI_i, isF_f, isL_l, is1_i, is1_r, is1_n, is1_f, true_and, and_true, List.length_cons, List.length_nil, Nat.reduceAdd, Nat.reduceLeDiff, Nat.reduceSub, Option.some.injEq, exists_eq_left', aft_s, aft_n, ite_true, ite_false, if_true, if_false, Nat.zero_le, Nat.le_refl, reduceCtorEq, ok01_1]
  refine hK H' _ z' cap' f' l1 l2 l3 ?_ l5 (fun q hq1 hq2 => by rw [l6 q hq1 hq2, hs_n hq1])
  rcases l4 with l4 | ⟨l4, l7⟩
  · exact Or.inl l4
  · refine Or.inr ⟨?_, l7⟩
    by_cases hq : z' = a
    · subst hq; rw [hs_e] at l4; cases l4
    · rw [hs_n hq] at l4; exact l4
end LST2
