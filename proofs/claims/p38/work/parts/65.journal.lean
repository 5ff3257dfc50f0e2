/-! the journal, and the order -/
theorem jcap_ok : ∀ n, n ≤ 16384 → (jcap n = 64 ∨ jcap n = 128 ∨ jcap n = 256 ∨ jcap n = 512 ∨ jcap n = 1024 ∨ jcap n = 2048 ∨ jcap n = 4096 ∨ jcap n = 8192 ∨ jcap n = 16384) ∧ n ≤ jcap n := by
  intro n
  induction n with
  | zero => intro _; exact ⟨Or.inl rfl, Nat.zero_le _⟩
  | succ n ih =>
    intro h
    obtain ⟨h1, h2⟩ := ih (by omega)
    have e : jcap (n + 1) = if jcap n ≤ n then 2 * jcap n else jcap n := rfl
    rw [e]
    by_cases hc : jcap n ≤ n
    · rw [if_pos hc]; omega
    · rw [if_neg hc]; exact ⟨h1, by omega⟩
theorem jcap_s {n : Nat} : jcap (n + 1) = if jcap n ≤ n then 2 * jcap n else jcap n := rfl
theorem jcap_up {n : Nat} : jcap n ≤ jcap (n + 1) := by
  rw [jcap_s]; split <;> omega
theorem jcap_mono {a b : Nat} (h : a ≤ b) : jcap a ≤ jcap b := by
  induction b with
  | zero => rw [Nat.le_zero.mp h]; exact Nat.le_refl _
  | succ b ih =>
    by_cases hb : a = b + 1
    · subst hb; exact Nat.le_refl _
    · exact Nat.le_trans (ih (by omega)) jcap_up
theorem jcap_top {n : Nat} (h : n ≤ 16384) : jcap n ≤ 16384 := by
  rcases (jcap_ok n h).1 with e | e | e | e | e | e | e | e | e <;> omega
section JW
variable {E : EN} {d : Nat} {c n : Nat} {K : Out → AH → Prop} {H : AH} {a z1 z2 k cap : Nat} {f g : Nat → Int32}
theorem l_write {x y : Int32} (h1 : H a = some (.inr (3, nfs z1 z2 k))) (h2 : H z1 = some (arI cap f)) (h3 : H z2 = some (arI cap g)) (h12 : z1 ≠ z2) (hk : k < cap) (hcap : cap ≤ 16384) {v3 : Value} (hK : ∀ H', H' a = some (.inr (3, nfs z1 z2 (k + 1))) → H' z1 = some (arI cap (upd f k x)) → H' z2 = some (arI cap (upd g k y)) → (∀ q, q ≠ a → q ≠ z1 → q ≠ z2 → H' q = H q) → K (.inl none) H') : Ev E d mX2_write K 61 [.ref a, .int x, .int y, v3] [] H c n := by
  have e1 : z1 ≠ a := by rintro rfl; rw [h1] at h2; cases h2
  have e2 : z2 ≠ a := by rintro rfl; rw [h1] at h3; cases h3
  simp only [eX2_write_61, eX2_write_62, eX2_write_65, eX2_write_66, eX2_write_69, eX2_write_70, eX2_write_71, eX2_write_72, eX2_write_75, eX2_write_76, eX2_write_79, eX2_write_80, eX2_write_81, eX2_write_82, eX2_write_83, eX2_write_86, eX2_write_87, eX2_write_88, eX2_write_91, isA_r, isA_n, isI_i, isF_f, isL_l, is1_i, is1_r, is1_n, is1_f, true_and, and_true, List.length_cons, List.length_nil, Nat.reduceAdd, Nat.reduceLeDiff, Nat.reduceSub, Option.some.injEq, exists_eq_left', aft_s, aft_n, ite_true, ite_false, if_true, if_false, Nat.zero_le, Nat.le_refl, reduceCtorEq, ob_of h1, ng0, ng1, ng2, ngl, rwI_of h2, inB_nI hk (by omega), nI_clamp (show k < 2 ^ 31 by omega), ob_n e1.symm, ob_n e2.symm, rwI_n h12.symm, rwI_of h3]
  rw [nI_1]
  simp only [eX2_write_88, eX2_write_91, isA_r, isA_n, isI_i, isF_f, isL_l, is1_i, is1_r, is1_n, is1_f, true_and, and_true, List.length_cons, List.length_nil, Nat.reduceAdd, Nat.reduceLeDiff, Nat.reduceSub, Option.some.injEq, exists_eq_left', aft_s, aft_n, ite_true, ite_false, if_true, if_false, Nat.zero_le, Nat.le_refl, reduceCtorEq, ob_of h1, nf_s2, ngl, Nat.reduceLT, ob_n e1.symm, ob_n e2.symm, okF, tyC]
  exact hK _ hs_e (by rw [hs_n e1, hs_n h12, hs_e]) (by rw [hs_n e2, hs_e]) (fun q q1 q2 q3 => by rw [hs_n q1, hs_n q3, hs_n q2])
theorem c_write {x y : Int32} (h1 : H a = some (.inr (3, nfs z1 z2 k))) (h2 : H z1 = some (arI cap f)) (h3 : H z2 = some (arI cap g)) (h12 : z1 ≠ z2) (hk : k ≤ cap) (hk2 : k < 16384) (hcap : 64 ≤ cap) (hcap2 : cap ≤ k → 2 * cap ≤ 16384) (hcap3 : cap ≤ 16384) (hroom : cap ≤ k → cap ≤ c ∧ 4 * cap ≤ n)
    (hK : ∀ H' z1' z2' f' g', H' a = some (.inr (3, nfs z1' z2' (k + 1))) → H' z1' = some (arI (if cap ≤ k then 2 * cap else cap) f') → H' z2' = some (arI (if cap ≤ k then 2 * cap else cap) g') → (∀ i, i < k → f' i = f i ∧ g' i = g i) → f' k = x → g' k = y → ((z1' = z1 ∧ z2' = z2) ∨ (H z1' = none ∧ E.1 z1' = none ∧ H z2' = none ∧ E.1 z2' = none ∧ z1' ≠ z2')) → (∀ q, q ≠ a → q ≠ z1' → q ≠ z2' → H' q = H q) → K (.inl none) H') : CRd TTv E (d + 4) mX2_write [.ref a, .int x, .int y] H c n K := by
  refine crd rfl ?_
  show Ev E (d + 3) mX2_write K 0 [.ref a, .int x, .int y, .retAddr 0] [] H c n
  have e1 : z1 ≠ a := by rintro rfl; rw [h1] at h2; cases h2
  have e2 : z2 ≠ a := by rintro rfl; rw [h1] at h3; cases h3
  have e3 : nI k < (16384 : Int32) := nI_lt (b := 16384) hk2 (by omega)
  by_cases hlt : cap ≤ k
  · have e4 : ¬ nI k < Int32.ofNat cap := nI_nlt hlt (by omega)
    obtain ⟨hc, hn⟩ := hroom hlt
    rw [if_pos hlt] at hK
    have hc2 := hcap2 hlt
    have e5 : (2 : Int32) * Int32.ofNat cap = nI (2 * cap) := (Int32.ofNat_mul 2 cap).symm
    have e6 : (if (16384 : Int32) < nI (2 * cap) then (16384 : Int32) else nI (2 * cap)) = nI (2 * cap) := if_neg (nI_nlt (a := 16384) (b := 2 * cap) (by omega) (by omega))
    simp only [eX2_write_0, eX2_write_1, eX2_write_4, eX2_write_7, eX2_write_10, eX2_write_11, eX2_write_12, eX2_write_15, eX2_write_16, eX2_write_19, eX2_write_20, eX2_write_23, eX2_write_24, eX2_write_25, eX2_write_28, eX2_write_29, eX2_write_30, eX2_write_33, eX2_write_36, eX2_write_37, eX2_write_38, eX2_write_39, eX2_write_42, eX2_write_43, isA_r, isA_n, isI_i, isF_f, isL_l, is1_i, is1_r, is1_n, is1_f, true_and, and_true, List.length_cons, List.length_nil, Nat.reduceAdd, Nat.reduceLeDiff, Nat.reduceSub, Option.some.injEq, exists_eq_left', aft_s, aft_n, ite_true, ite_false, if_true, if_false, Nat.zero_le, Nat.le_refl, reduceCtorEq, ob_of h1, ng0, ng1, ng2, e3, rdN_of h3, e4, e5, Nat.le_add_left]
    rw [e6]
    refine invk 1 (2 * cap) (by omega) (by omega) (c_copyI h2 (by omega) (by omega) (Nat.le_refl _) (Nat.le_refl _) (fun q1 g1 hq1 hq1e hg1 => ?_))
    have n1 : a ≠ q1 := by rintro rfl; rw [h1] at hq1; cases hq1
    have n2 : z2 ≠ q1 := by rintro rfl; rw [h3] at hq1; cases hq1
    simp only [eX2_write_46, eX2_write_49, eX2_write_50, eX2_write_51, eX2_write_54, eX2_write_55, isA_r, isA_n, isI_i, isF_f, isL_l, is1_i, is1_r, is1_n, is1_f, true_and, and_true, List.length_cons, List.length_nil, Nat.reduceAdd, Nat.reduceLeDiff, Nat.reduceSub, Option.some.injEq, exists_eq_left', aft_s, aft_n, ite_true, ite_false, if_true, if_false, Nat.zero_le, Nat.le_refl, reduceCtorEq, ob_n n1, ob_of h1, nf_s0, ngl, Nat.reduceLT, okF, tyC, ob_e, ng1]
    refine invk 1 (2 * cap) (by omega) (by omega) (c_copyI (by rw [hs_n e2, hs_n n2]; exact h3) (by omega) (by omega) (Nat.le_refl _) (Nat.le_refl _) (fun q2 g2 hq2 hq2e hg2 => ?_))
    have n3 : a ≠ q2 := by rintro rfl; rw [hs_e] at hq2; cases hq2
    have n4 : q2 ≠ q1 := by rintro rfl; rw [hs_n n1.symm, hs_e] at hq2; cases hq2
    rw [hs_n n3.symm, hs_n n4] at hq2
    simp only [eX2_write_58, isA_r, isA_n, isI_i, isF_f, isL_l, is1_i, is1_r, is1_n, is1_f, true_and, and_true, List.length_cons, List.length_nil, Nat.reduceAdd, Nat.reduceLeDiff, Nat.reduceSub, Option.some.injEq, exists_eq_left', aft_s, aft_n, ite_true, ite_false, if_true, if_false, Nat.zero_le, Nat.le_refl, reduceCtorEq, ob_n n3, ob_e, nf_s1, ngl, Nat.reduceLT, okF, tyC]
    refine l_write (z1 := q1) (z2 := q2) (k := k) (cap := 2 * cap) (f := g1) (g := g2) hs_e (by rw [hs_n n1.symm, hs_n n4.symm, hs_n n1.symm, hs_e]) (by rw [hs_n n3.symm, hs_e]) n4.symm (by omega) (by omega) (fun H' l1 l2 l3 l4 => ?_)
    refine hK H' q1 q2 _ _ l1 l2 l3 (fun i hi => ⟨?_, ?_⟩) (if_pos rfl) (if_pos rfl) (Or.inr ⟨hq1, hq1e, hq2, hq2e, n4.symm⟩) (fun q h5 h6 h7 => by rw [l4 q h5 h6 h7, hs_n h5, hs_n h7, hs_n h5, hs_n h6])
    · show (if i = k then _ else _) = _; rw [if_neg (by omega)]; exact hg1 i (by omega)
    · show (if i = k then _ else _) = _; rw [if_neg (by omega)]; exact hg2 i (by omega)
  · have e4 : nI k < Int32.ofNat cap := nI_lt (b := cap) (by omega) (by omega)
    rw [if_neg hlt] at hK
    simp only [eX2_write_0, eX2_write_1, eX2_write_4, eX2_write_7, eX2_write_10, eX2_write_11, eX2_write_12, eX2_write_15, eX2_write_16, eX2_write_19, eX2_write_20, isA_r, isA_n, isI_i, isF_f, isL_l, is1_i, is1_r, is1_n, is1_f, true_and, and_true, List.length_cons, List.length_nil, Nat.reduceAdd, Nat.reduceLeDiff, Nat.reduceSub, Option.some.injEq, exists_eq_left', aft_s, aft_n, ite_true, ite_false, if_true, if_false, Nat.zero_le, Nat.le_refl, reduceCtorEq, ob_of h1, ng0, ng1, ng2, e3, rdN_of h3, e4]
    refine l_write h1 h2 h3 h12 (by omega) hcap3 (fun H' l1 l2 l3 l4 => ?_)
    refine hK H' z1 z2 _ _ l1 l2 l3 (fun i hi => ⟨?_, ?_⟩) (if_pos rfl) (if_pos rfl) (Or.inl ⟨rfl, rfl⟩) l4
    · show (if i = k then _ else _) = _; rw [if_neg (by omega)]
    · show (if i = k then _ else _) = _; rw [if_neg (by omega)]
end JW
