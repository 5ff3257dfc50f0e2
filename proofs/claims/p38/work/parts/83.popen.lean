/-! what is made in constructors; a new session; open -/
def AL (E : EN) (H : AH) (k : Nat) (ad : Nat → Nat) (ct : Nat → AC) (H' : AH) : Prop := (∀ i, i < k → H' (ad i) = some (ct i)) ∧ (∀ i, i < k → H (ad i) = none ∧ E.1 (ad i) = none) ∧ (∀ i j, i < k → j < k → ad i = ad j → i = j) ∧ (∀ y, (∀ i, i < k → y ≠ ad i) → H' y = H y)
theorem AL.nil {E : EN} {H : AH} {ad : Nat → Nat} {ct : Nat → AC} : AL E H 0 ad ct H := ⟨fun i h => absurd h (by omega), fun i h => absurd h (by omega), fun i j h => absurd h (by omega), fun y _ => rfl⟩
theorem AL.new {E : EN} {H : AH} {k : Nat} {ad : Nat → Nat} {ct : Nat → AC} {H' : AH} (L : AL E H k ad ct H') {q : Nat} {x : AC} (hq : H' q = none) (hqE : E.1 q = none) : AL E H (k + 1) (upN ad k q) (upN ct k x) (hset H' q x) := by
  obtain ⟨l1, l2, l3, l4⟩ := L
  have hne : ∀ i, i < k → ad i ≠ q := fun i hi e => by rw [← e, l1 i hi] at hq; cases hq
  refine ⟨fun i hi => ?_, fun i hi => ?_, fun i j hi hj he => ?_, fun y hy => ?_⟩
  · by_cases hk : i = k
    · subst hk; rw [upN_s, upN_s, hs_e]
    · rw [upN_n hk, upN_n hk, hs_n (hne i (by omega))]; exact l1 i (by omega)
  · by_cases hk : i = k
    · subst hk; rw [upN_s]
      refine ⟨?_, hqE⟩
      rw [← l4 q (fun j hj => (hne j hj).symm)]; exact hq
    · rw [upN_n hk]; exact l2 i (by omega)
  · by_cases hik : i = k
    · by_cases hjk : j = k
      · omega
      · subst hik
        rw [upN_s, upN_n hjk] at he
        exact absurd he.symm (hne j (by omega))
    · by_cases hjk : j = k
      · subst hjk
        rw [upN_s, upN_n hik] at he
        exact absurd he (hne i (by omega))
      · rw [upN_n hik, upN_n hjk] at he
        exact l3 i j (by omega) (by omega) he
  · have h1 := hy k (Nat.lt_succ_self k)
    rw [upN_s] at h1
    rw [hs_n h1]
    refine l4 y (fun i hi => ?_)
    have := hy i (by omega)
    rw [upN_n (by omega)] at this
    exact this
theorem AL.put {E : EN} {H : AH} {k : Nat} {ad : Nat → Nat} {ct : Nat → AC} {H' H2 : AH} (L : AL E H k ad ct H') {i : Nat} {x : AC} (hi : i < k) (h1 : H2 (ad i) = some x) (h2 : ∀ y, y ≠ ad i → H2 y = H' y) : AL E H k ad (upN ct i x) H2 := by
  obtain ⟨l1, l2, l3, l4⟩ := L
  refine ⟨fun j hj => ?_, l2, l3, fun y hy => ?_⟩
  · by_cases hji : j = i
    · subst hji; rw [upN_s]; exact h1
    · rw [upN_n hji, h2 _ (fun e => hji (l3 j i hj hi e))]; exact l1 j hj
  · rw [h2 y (hy i hi)]; exact l4 y hy
theorem AL.set {E : EN} {H : AH} {k : Nat} {ad : Nat → Nat} {ct : Nat → AC} {H' : AH} (L : AL E H k ad ct H') {i : Nat} {x : AC} (hi : i < k) : AL E H k ad (upN ct i x) (hset H' (ad i) x) := L.put hi hs_e (fun y hy => hs_n hy)
section OPN
variable {E : EN} {P : Nat → Prop} {H0 : AH} {A : AD} {Z : Nat → Nat} {X : XX} {σ σ' : Sg} {ho : Nat → Option Nat} {wr : Nat → Bool} {H : AH} {d c n : Nat} {K : Out → AH → Prop}
theorem k_hInit {q N : Nat} (hN : N ≤ 100) (h : H q = some (.inr (1, dfl 1))) (hc : 1 ≤ c) (hn : N ≤ n) (hK : ∀ q2, H q2 = none → E.1 q2 = none → K (.inl none) (hset (hset H q2 (arI N (fun _ => 0))) q (.inr (1, hfs q2 0)))) : CRd TTv E (d + 2) mX0_init [.ref q, .int (nI N)] H c n K := by
  refine crd rfl ?_
  show Ev E (d + 1) mX0_init K 0 [.ref q, .int (nI N)] [] H c n
  have hd : dfl 1 = [.null, .int 0] := rfl
  rw [hd] at h
  have hN1 : (nI N).toNatClampNeg = N := nI_clamp (by omega)
  have hN2 := nI_pos (n := N) (by omega)
  simp only [eX0_init_0, eX0_init_1, eX0_init_4, eX0_init_5, eX0_init_6, eX0_init_8, eX0_init_11, eX0_init_12, eX0_init_13, eX0_init_16, isA_r, isA_n, isI_i, isF_f, isL_l, is1_i, is1_r, is1_n, is1_f, true_and, and_true, List.length_cons, List.length_nil, Nat.reduceAdd, Nat.reduceLeDiff, Nat.reduceSub, Option.some.injEq, exists_eq_left', aft_s, aft_n, ite_true, ite_false, if_true, if_false, Nat.zero_le, Nat.le_refl, reduceCtorEq, Nat.le_add_left, hN1, hN2, not_false_eq_true]
  refine ⟨by omega, hc, hn, fun q2 hq hqE => ?_⟩
  have hne : q ≠ q2 := by rintro rfl; rw [h] at hq; cases hq
  simp only [eX0_init_0, eX0_init_1, eX0_init_4, eX0_init_5, eX0_init_6, eX0_init_8, eX0_init_11, eX0_init_12, eX0_init_13, eX0_init_16, isA_r, isA_n, isI_i, isF_f, isL_l, is1_i, is1_r, is1_n, is1_f, true_and, and_true, List.length_cons, List.length_nil, Nat.reduceAdd, Nat.reduceLeDiff, Nat.reduceSub, Option.some.injEq, exists_eq_left', aft_s, aft_n, ite_true, ite_false, if_true, if_false, Nat.zero_le, Nat.le_refl, reduceCtorEq, ob_n hne, ob_of h, ob_e, hs_hs, List.set, Nat.reduceLT, okF, tyC]
  exact hK q2 hq hqE
theorem k_sInit {q : Nat} {p : Bool} {num : Int32} (h : H q = some (.inr (4, dfl 4))) (hc : 2 ≤ c) (hn : 10 ≤ n) (hK : ∀ q1 q2 H', H q1 = none → E.1 q1 = none → H q2 = none → E.1 q2 = none → q1 ≠ q2 → H' q = some (.inr (4, [.int num, .ref q1, .int (b2 p), .int 1, .null, .null])) → H' q1 = some (.inr (1, hfs q2 0)) → H' q2 = some (arI 8 (fun _ => 0)) → (∀ y, y ≠ q → y ≠ q1 → y ≠ q2 → H' y = H y) → K (.inl none) H') : CRd TTv E (d + 3) mX3_init [.ref q, .int (b2 p), .int num] H c n K := by
  refine crd rfl ?_
  show Ev E (d + 2) mX3_init K 0 [.ref q, .int (b2 p), .int num] [] H c n
  have hd : dfl 4 = [.int 0, .null, .int 0, .int 0, .null, .null] := rfl
  rw [hd] at h
  have hnC : nC 1 = 2 := rfl
  simp only [eX3_init_0, eX3_init_1, eX3_init_4, eX3_init_5, eX3_init_6, eX3_init_9, eX3_init_10, eX3_init_11, eX3_init_14, eX3_init_15, isA_r, isA_n, isI_i, isF_f, isL_l, is1_i, is1_r, is1_n, is1_f, true_and, and_true, List.length_cons, List.length_nil, Nat.reduceAdd, Nat.reduceLeDiff, Nat.reduceSub, Option.some.injEq, exists_eq_left', aft_s, aft_n, ite_true, ite_false, if_true, if_false, Nat.zero_le, Nat.le_refl, reduceCtorEq, Nat.le_add_left, ob_of h, ob_e, hs_hs, List.set, Nat.reduceLT, okF, tyC, ok01_b2, hnC]
  refine ⟨by omega, by omega, fun q1 hq1 hq1E => ?_⟩
  have e1 : q ≠ q1 := by rintro rfl; rw [hs_e] at hq1; cases hq1
  rw [hs_n e1.symm] at hq1
  have e8 : (.int (8 : Int32) : Value) = .int (nI 8) := rfl
  simp only [eX3_init_18, eX3_init_19, isA_r, isA_n, isI_i, isF_f, isL_l, is1_i, is1_r, is1_n, is1_f, true_and, and_true, List.length_cons, List.length_nil, Nat.reduceAdd, Nat.reduceLeDiff, Nat.reduceSub, Option.some.injEq, exists_eq_left', aft_s, aft_n, ite_true, ite_false, if_true, if_false, Nat.zero_le, Nat.le_refl, reduceCtorEq]
  rw [e8]
  simp only [eX3_init_21, isA_r, isA_n, isI_i, isF_f, isL_l, is1_i, is1_r, is1_n, is1_f, true_and, and_true, List.length_cons, List.length_nil, Nat.reduceAdd, Nat.reduceLeDiff, Nat.reduceSub, Option.some.injEq, exists_eq_left', aft_s, aft_n, ite_true, ite_false, if_true, if_false, Nat.zero_le, Nat.le_refl, reduceCtorEq]
  refine invk 1 8 (by omega) (by omega) (k_hInit (by omega) hs_e (Nat.le_refl _) (Nat.le_refl _) (fun q2 hq2 hq2E => ?_))
  have e2 : q2 ≠ q1 := by rintro rfl; rw [hs_e] at hq2; cases hq2
  rw [hs_n e2] at hq2
  have e3 : q2 ≠ q := by rintro rfl; rw [hs_e] at hq2; cases hq2
  rw [hs_n e3] at hq2
  simp only [eX3_init_24, eX3_init_27, eX3_init_28, eX3_init_29, eX3_init_32, eX3_init_33, eX3_init_34, eX3_init_37, eX3_init_38, eX3_init_39, eX3_init_42, isA_r, isA_n, isI_i, isF_f, isL_l, is1_i, is1_r, is1_n, is1_f, true_and, and_true, List.length_cons, List.length_nil, Nat.reduceAdd, Nat.reduceLeDiff, Nat.reduceSub, Option.some.injEq, exists_eq_left', aft_s, aft_n, ite_true, ite_false, if_true, if_false, Nat.zero_le, Nat.le_refl, reduceCtorEq, ob_n e1, ob_n e3.symm, ob_e, hs_hs, List.set, Nat.reduceLT, okF, tyC, ok01_1]
  refine hK q1 q2 _ hq1 hq1E hq2 hq2E e2.symm hs_e ?_ ?_ (fun y y1 y2 y3 => ?_)
  · rw [hs_n e1.symm, hs_e]
  · rw [hs_n e3, hs_n e2, hs_e]
  · rw [hs_n y1, hs_n y2, hs_n y3, hs_n y2, hs_n y1]
theorem CX.newSes (C : CX E P H0 A Z X σ ho wr H) {q q1 q2 : Nat} {p : Bool} (hq : H q = none) (hqE : E.1 q = none) (hq1 : H q1 = none) (hq1E : E.1 q1 = none) (hq2 : H q2 = none) (hq2E : E.1 q2 = none) (e1 : q ≠ q1) (e2 : q ≠ q2) (e3 : q1 ≠ q2) (hS : s_nS σ < 4) (hdr : s_dr σ (s_nS σ) = false) (hhi : s_hi σ (s_nS σ) = [])
    (eS : s_nS σ' = s_nS σ + 1) (eJ : s_nJ σ' = s_nJ σ) (ewk : s_wk σ' = s_wk σ) (epv : s_pv σ' = upN (s_pv σ) (s_nS σ) p) (edr : s_dr σ' = s_dr σ) (efr : s_fr σ' = upN (s_fr σ) (s_nS σ) none) (epk : s_pk σ' = upN (s_pk σ) (s_nS σ) none) (ehi : s_hi σ' = s_hi σ) (ecm : s_cm σ' = s_cm σ) (ese : s_se σ' = s_se σ) (elf : s_lf σ' = s_lf σ) (end_ : s_nd σ' = s_nd σ) (est : s_st σ' = s_st σ) (ehl : s_hl σ' = s_hl σ) (eod : s_od σ' = s_od σ) (ejn : s_jn σ' = s_jn σ)
    {H3 : AH} {m' : Int32} {z' cap' : Nat} {f' : Nat → Option Nat} (L : LLs E H3 (A 1 0) m' z' (s_nS σ + 1) cap' f') (hf : f' (s_nS σ) = some q) (hf2 : ∀ i, i < s_nS σ → f' i = x_F X 8 i) (hz : (z' = Z 8 ∧ 0 < x_cap X 8 ∧ cap' = x_cap X 8) ∨ (H z' = none ∧ z' ≠ q ∧ z' ≠ q1 ∧ z' ≠ q2 ∧ E.1 z' = none)) (hcap : 0 < cap')
    (h3 : H3 q = some (.inr (4, [.int (nI (s_nS σ)), .ref q1, .int (b2 p), .int 1, .null, .null]))) (h31 : H3 q1 = some (.inr (1, hfs q2 0))) (h32 : H3 q2 = some (arI 8 (fun _ => 0))) (hF : ∀ y, y ≠ A 1 0 → y ≠ z' → y ≠ q → y ≠ q1 → y ≠ q2 → H3 y = H y) :
    CX E P H0 (upA (upA (upA A 13 (s_nS σ) q) 14 (s_nS σ) q1) 15 (s_nS σ) q2) (upN Z 8 z') (upN (x_cap X) 8 cap', upN (x_mod X) 1 m', upN (x_G X) (s_nS σ + 20) (fun _ => 0), upN (x_F X) 8 f') σ' ho wr H3 := by
  have aS : upA (upA (upA A 13 (s_nS σ) q) 14 (s_nS σ) q1) 15 (s_nS σ) q2 13 (s_nS σ) = q := by rw [upA_k (by omega), upA_k (by omega), upA_s]
  have aH : upA (upA (upA A 13 (s_nS σ) q) 14 (s_nS σ) q1) 15 (s_nS σ) q2 14 (s_nS σ) = q1 := by rw [upA_k (by omega), upA_s]
  have aR : upA (upA (upA A 13 (s_nS σ) q) 14 (s_nS σ) q1) 15 (s_nS σ) q2 15 (s_nS σ) = q2 := upA_s
  have aN : ∀ k i, ¬ ((k = 13 ∨ k = 14 ∨ k = 15) ∧ i = s_nS σ) → upA (upA (upA A 13 (s_nS σ) q) 14 (s_nS σ) q1) 15 (s_nS σ) q2 k i = A k i := by
    intro k i h
    by_cases hi : i = s_nS σ
    · rw [upA_k (fun e => h ⟨Or.inr (Or.inr e), hi⟩), upA_k (fun e => h ⟨Or.inr (Or.inl e), hi⟩), upA_k (fun e => h ⟨Or.inl e, hi⟩)]
    · by_cases h15 : k = 15
      · subst h15; rw [upA_i hi, upA_k (by omega), upA_k (by omega)]
      · rw [upA_k h15]
        by_cases h14 : k = 14
        · subst h14; rw [upA_i hi, upA_k (by omega)]
        · rw [upA_k h14]
          by_cases h13 : k = 13
          · subst h13; rw [upA_i hi]
          · rw [upA_k h13]
  generalize upA (upA (upA A 13 (s_nS σ) q) 14 (s_nS σ) q1) 15 (s_nS σ) q2 = A' at *
  have a8 : adr A' (upN Z 8 z') 8 0 = z' := by
    show upN Z 8 z' 8 = z'
    rw [upN_s]
  have a1 : adr A' (upN Z 8 z') 1 0 = A 1 0 := aN 1 0 (by omega)
  have a13 : adr A' (upN Z 8 z') 13 (s_nS σ) = q := aS
  have a14 : adr A' (upN Z 8 z') 14 (s_nS σ) = q1 := aH
  have a15 : adr A' (upN Z 8 z') 15 (s_nS σ) = q2 := aR
  have hl8 : lv (upN (x_cap X) 8 cap') (s_nS σ') (s_nJ σ') 8 0 := lv_A (by omega) (fun _ _ => by rw [upN_s]; omega)
  have hl1 : lv (upN (x_cap X) 8 cap') (s_nS σ') (s_nJ σ') 1 0 := lv_A (by omega) (by omega)
  have z0 : ∀ {k i : Nat}, lv (upN (x_cap X) 8 cap') (s_nS σ') (s_nJ σ') k i → k ≤ 12 → i = 0 := fun {k i} h hk => by
    rcases lv_cs h with ⟨g1, g2, g3⟩ | ⟨g1, g2, g3⟩ | ⟨g1, g3⟩ <;> omega
  refine C.re (fun k i => k = 1 ∨ k = 8 ∨ ((k = 13 ∨ k = 14 ∨ k = 15) ∧ i = s_nS σ)) (fun k i h1 h2 => ?_) (fun k i h1 h2 => ?_) (fun y hy => ?_) (fun k i k' i' h1 h2 h3' h4 h5 h6 h7 => ?_) ?_ ?_
  · rcases h2 with rfl | rfl | ⟨rfl | rfl | rfl, rfl⟩
    · have hi := z0 h1 (by omega)
      subst hi
      refine ⟨?_, Or.inl ⟨lv_A (by omega) (by omega), by rw [a1]; rfl⟩⟩
      rw [a1]
      show H3 (A 1 0) = some (.inr (0, lfs (upN (x_mod X) 1 m' 1) (upN Z 8 z' 8) (s_nS σ')))
      rw [upN_s, upN_s, eS]; exact L.1
    · have hi := z0 h1 (by omega)
      subst hi
      refine ⟨?_, ?_⟩
      · rw [a8]
        show H3 z' = some (arR (upN (x_cap X) 8 cap' 8) (upN (x_F X) 8 f' 8))
        rw [upN_s, upN_s]; exact L.arr hcap
      · rw [a8]
        rcases hz with ⟨g1, g2, g3⟩ | ⟨g1, g2, g3, g4, g5⟩
        · exact Or.inl ⟨lv_A (by omega) (fun _ _ => by omega), g1⟩
        · exact Or.inr ⟨g1, g5⟩
    · refine ⟨?_, Or.inr ⟨by rw [a13]; exact hq, by rw [a13]; exact hqE⟩⟩
      rw [a13, h3, cl_S (by omega) (by omega)]
      show _ = some (Sum.inr (4, sfs A' σ' (s_nS σ)) : AC)
      unfold sfs
      rw [epv, edr, efr, epk, upN_s, upN_s, upN_s, hdr, aH]
      rfl
    · refine ⟨?_, Or.inr ⟨by rw [a14]; exact hq1, by rw [a14]; exact hq1E⟩⟩
      rw [a14, h31, cl_S (by omega) (by omega)]
      show _ = some (Sum.inr (1, hfs (A' 15 (s_nS σ)) (s_hi σ' (s_nS σ)).length) : AC)
      rw [ehi, hhi, aR]; rfl
    · refine ⟨?_, Or.inr ⟨by rw [a15]; exact hq2, by rw [a15]; exact hq2E⟩⟩
      rw [a15, h32, cl_S (by omega) (by omega)]
      show _ = some (arI 8 (upN (x_G X) (s_nS σ + 20) (fun _ => 0) (s_nS σ + 20)))
      rw [upN_s]
  · have hl : lv (x_cap X) (s_nS σ) (s_nJ σ) k i := by
      rcases lv_cs h1 with ⟨g1, rfl, g3⟩ | ⟨g1, g2, g3⟩ | ⟨rfl, g3⟩
      · refine lv_A g1 (fun q1 q2 => ?_)
        have := g3 q1 q2
        rw [xc, upN_n (fun e => h2 (Or.inr (Or.inl e)))] at this
        exact this
      · refine lv_S g1 g2 ?_
        have : i ≠ s_nS σ := fun e => h2 (Or.inr (Or.inr ⟨by omega, e⟩))
        omega
      · exact lv_J (by omega)
    refine ⟨hl, ?_, ?_⟩
    · unfold adr
      rw [upN_n (fun e => h2 (Or.inr (Or.inl e))), aN k i (fun e => h2 (Or.inr (Or.inr e)))]
    · rcases lv_cs hl with ⟨g1, g2, -⟩ | ⟨g1, g2, g3⟩ | ⟨rfl, g3⟩
      · rw [cl_A g1, cl_A g1]
        have hk : k = 0 ∨ k = 2 ∨ k = 3 ∨ k = 4 ∨ k = 5 ∨ k = 6 ∨ k = 7 ∨ k = 9 ∨ k = 10 ∨ k = 11 ∨ k = 12 := by omega
        rcases hk with rfl | rfl | rfl | rfl | rfl | rfl | rfl | rfl | rfl | rfl | rfl
        · show (Sum.inr (5, ofs A' (s_wk σ')) : AC) = .inr (5, ofs A (s_wk σ))
          unfold ofs
          rw [ewk, aN 1 0 (by omega), aN 2 0 (by omega), aN 3 0 (by omega), aN 4 0 (by omega), aN 5 0 (by omega), aN 7 0 (by omega)]
        · show (Sum.inr (0, lfs (upN (x_mod X) 1 m' 2) (upN Z 8 z' 9) (s_nJ σ')) : AC) = _
          rw [eJ, upN_n (by omega), upN_n (by omega)]; rfl
        · show (Sum.inr (0, lfs (upN (x_mod X) 1 m' 3) (upN Z 8 z' 10) (s_od σ').length) : AC) = _
          rw [eod, upN_n (by omega), upN_n (by omega)]; rfl
        · show arI 6 (upN (x_G X) (s_nS σ + 20) (fun _ => 0) 4) = _
          rw [upN_n (by omega)]; rfl
        · show (Sum.inr (1, hfs (A' 6 0) (s_cm σ').length) : AC) = _
          rw [ecm, aN 6 0 (by omega)]; rfl
        · show arI 12 (upN (x_G X) (s_nS σ + 20) (fun _ => 0) 6) = _
          rw [upN_n (by omega)]; rfl
        · show (Sum.inr (3, nfs (upN Z 8 z' 11) (upN Z 8 z' 12) (s_jn σ').length) : AC) = _
          rw [ejn, upN_n (by omega), upN_n (by omega)]; rfl
        · show arR (upN (x_cap X) 8 cap' 9) (upN (x_F X) 8 f' 9) = _
          rw [upN_n (by omega), upN_n (by omega)]; rfl
        · show arR (upN (x_cap X) 8 cap' 10) (upN (x_F X) 8 f' 10) = _
          rw [upN_n (by omega), upN_n (by omega)]; rfl
        · show arI (upN (x_cap X) 8 cap' 11) (upN (x_G X) (s_nS σ + 20) (fun _ => 0) 11) = _
          rw [upN_n (by omega), upN_n (by omega)]; rfl
        · show arI (upN (x_cap X) 8 cap' 12) (upN (x_G X) (s_nS σ + 20) (fun _ => 0) 12) = _
          rw [upN_n (by omega), upN_n (by omega)]; rfl
      · have hne : i ≠ s_nS σ := by omega
        rw [cl_S g1 g2, cl_S g1 g2]
        have hk : k = 13 ∨ k = 14 ∨ k = 15 := by omega
        rcases hk with rfl | rfl | rfl
        · show (Sum.inr (4, sfs A' σ' i) : AC) = .inr (4, sfs A σ i)
          have hj : ∀ o, jrf A' o = jrf A o := fun o => by
            cases o with
            | none => rfl
            | some j => show Value.ref (A' 16 j) = .ref (A 16 j); rw [aN 16 j (by omega)]
          unfold sfs
          rw [epv, edr, efr, epk, upN_n hne, upN_n hne, upN_n hne, aN 14 i (fun e => hne e.2), hj, hj]
        · show (Sum.inr (1, hfs (A' 15 i) (s_hi σ' i).length) : AC) = _
          rw [ehi, aN 15 i (fun e => hne e.2)]; rfl
        · show arI 8 (upN (x_G X) (s_nS σ + 20) (fun _ => 0) (i + 20)) = arI 8 (x_G X (i + 20))
          rw [upN_n (by omega)]
      · have hse := (C.wl.2.2.1 i g3).1
        rw [cl_J, cl_J]
        unfold jfs
        rw [ese, end_, elf, est, ehl, aN 13 _ (by omega)]
  · have b1 := hy 1 0 hl1 (Or.inl rfl)
    have b2 := hy 8 0 hl8 (Or.inr (Or.inl rfl))
    have b3 := hy 13 (s_nS σ) (lv_S (by omega) (by omega) (by omega)) (Or.inr (Or.inr ⟨Or.inl rfl, rfl⟩))
    have b4 := hy 14 (s_nS σ) (lv_S (by omega) (by omega) (by omega)) (Or.inr (Or.inr ⟨Or.inr (Or.inl rfl), rfl⟩))
    have b5 := hy 15 (s_nS σ) (lv_S (by omega) (by omega) (by omega)) (Or.inr (Or.inr ⟨Or.inr (Or.inr rfl), rfl⟩))
    rw [a1] at b1
    rw [a8] at b2
    rw [a13] at b3
    rw [a14] at b4
    rw [a15] at b5
    exact hF y b1 b2 b3 b4 b5
  · have n1 : ¬ H (A 1 0) = none := by rw [C.lsS.1]; simp
    have nz : H z' = none → z' ≠ q ∧ z' ≠ q1 ∧ z' ≠ q2 := by
      intro h
      rcases hz with ⟨g1, g2, g3⟩ | ⟨g1, g2, g3, g4, g5⟩
      · subst g1
        have := C.1 8 0 (lv_A (by omega) (fun _ _ => by omega))
        have h8 : H (Z 8) = _ := this
        rw [h] at h8; cases h8
      · exact ⟨g2, g3, g4⟩
    have key : ∀ k i, lv (upN (x_cap X) 8 cap') (s_nS σ') (s_nJ σ') k i → (k = 1 ∨ k = 8 ∨ ((k = 13 ∨ k = 14 ∨ k = 15) ∧ i = s_nS σ)) → H (adr A' (upN Z 8 z') k i) = none → (k = 8 ∧ i = 0 ∧ adr A' (upN Z 8 z') k i = z' ∧ H z' = none) ∨ (k = 13 ∧ i = s_nS σ ∧ adr A' (upN Z 8 z') k i = q) ∨ (k = 14 ∧ i = s_nS σ ∧ adr A' (upN Z 8 z') k i = q1) ∨ (k = 15 ∧ i = s_nS σ ∧ adr A' (upN Z 8 z') k i = q2) := by
      intro k i hl hk hn
      rcases hk with rfl | rfl | ⟨rfl | rfl | rfl, rfl⟩
      · have e := z0 hl (by omega); subst e
        rw [a1] at hn; exact absurd hn n1
      · have e := z0 hl (by omega); subst e
        rw [a8] at hn
        exact Or.inl ⟨rfl, rfl, a8, hn⟩
      · exact Or.inr (Or.inl ⟨rfl, rfl, a13⟩)
      · exact Or.inr (Or.inr (Or.inl ⟨rfl, rfl, a14⟩))
      · exact Or.inr (Or.inr (Or.inr ⟨rfl, rfl, a15⟩))
    rcases key k i h1 h3' h5 with ⟨rfl, rfl, g, gz⟩ | ⟨rfl, rfl, g⟩ | ⟨rfl, rfl, g⟩ | ⟨rfl, rfl, g⟩ <;> rcases key k' i' h2 h4 h6 with ⟨rfl, rfl, g', gz'⟩ | ⟨rfl, rfl, g'⟩ | ⟨rfl, rfl, g'⟩ | ⟨rfl, rfl, g'⟩ <;> have h8 := g.symm.trans (h7.trans g')
    all_goals first | exact ⟨rfl, rfl⟩ | skip
    · exact absurd h8 (nz gz).1
    · exact absurd h8 (nz gz).2.1
    · exact absurd h8 (nz gz).2.2
    · exact absurd h8.symm (nz gz').1
    · exact absurd h8 e1
    · exact absurd h8 e2
    · exact absurd h8.symm (nz gz').2.1
    · exact absurd h8.symm e1
    · exact absurd h8 e3
    · exact absurd h8.symm (nz gz').2.2
    · exact absurd h8.symm e2
    · exact absurd h8.symm e3
  · obtain ⟨r1, r2, r3, r4, ⟨r5, r6, r7⟩, ⟨r8, r9, r10⟩, r11⟩ := C.rl
    refine ⟨fun i hi => ?_, fun i hi => ?_, fun i hi => ?_, fun s hs i hi => ?_, ⟨fun i hi => ?_, fun i hi => ?_, fun i hi => ?_⟩, ⟨?_, ?_, ?_⟩, fun k k1 k2 k3 => ?_⟩
    · show upN (x_G X) (s_nS σ + 20) (fun _ => 0) 4 i = _
      rw [upN_n (by omega)]; exact r1 i hi
    · rw [ecm] at hi ⊢
      show upN (x_G X) (s_nS σ + 20) (fun _ => 0) 6 i = _
      rw [upN_n (by omega)]; exact r2 i hi
    · rw [ejn] at hi ⊢
      show upN (x_G X) (s_nS σ + 20) (fun _ => 0) 11 i = _ ∧ upN (x_G X) (s_nS σ + 20) (fun _ => 0) 12 i = _
      rw [upN_n (by omega), upN_n (by omega)]; exact r3 i hi
    · rw [eS] at hs
      rw [ehi] at hi ⊢
      show upN (x_G X) (s_nS σ + 20) (fun _ => 0) (s + 20) i = _
      by_cases hsn : s = s_nS σ
      · subst hsn; rw [hhi] at hi; simp at hi
      · rw [upN_n (by omega)]; exact r4 s (by omega) i hi
    · rw [eS] at hi
      show upN (x_F X) 8 f' 8 i = some (A' 13 i)
      rw [upN_s]
      by_cases hin : i = s_nS σ
      · subst hin; rw [aS]; exact hf
      · rw [hf2 i (by omega), aN 13 i (fun e => hin e.2)]; exact r5 i (by omega)
    · rw [eJ] at hi
      show upN (x_F X) 8 f' 9 i = some (A' 16 i)
      rw [upN_n (by omega), aN 16 i (by omega)]; exact r6 i hi
    · rw [eod] at hi ⊢
      show upN (x_F X) 8 f' 10 i = some (A' 16 ((s_od σ).getD i 0))
      rw [upN_n (by omega), aN 16 _ (by omega)]; exact r7 i hi
    · rw [eS]
      show _ ≤ upN (x_cap X) 8 cap' 8 ∧ upN (x_cap X) 8 cap' 8 ≤ 1000
      rw [upN_s]; exact ⟨L.2.1, L.2.2.1⟩
    · rw [eJ]
      show _ ≤ upN (x_cap X) 8 cap' 9 ∧ upN (x_cap X) 8 cap' 9 ≤ 1000
      rw [upN_n (by omega)]; exact r9
    · rw [eod]
      show _ ≤ upN (x_cap X) 8 cap' 10 ∧ upN (x_cap X) 8 cap' 10 ≤ 1000
      rw [upN_n (by omega)]; exact r10
    · have k4 : upN (x_cap X) 8 cap' k = 0 := k3
      by_cases hk : k = 8
      · subst hk; rw [upN_s] at k4; omega
      · rw [upN_n hk] at k4 ⊢; exact r11 k k1 k2 k4
  · obtain ⟨w1, w2, w3, w4, w5⟩ := C.wl
    refine ⟨by omega, by omega, fun j hj => ?_, by rw [eod]; exact w4, fun j hj => ?_⟩
    · rw [ese, end_, est, eS]
      have := w3 j (by omega)
      exact ⟨by omega, this.2⟩
    · rw [eod] at hj
      have := w5 j hj
      omega
end OPN
