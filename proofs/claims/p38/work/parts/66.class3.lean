/-! the journal's and the order's cells, in CX; comeInto -/
theorem gD_l {α : Type} {l : List α} {x d : α} {i : Nat} (h : i < l.length) : (l ++ [x]).getD i d = l.getD i d := by
  rw [List.getD_eq_getElem?_getD, List.getD_eq_getElem?_getD, List.getElem?_append_left h]
theorem gD_r {α : Type} {l : List α} {x d : α} : (l ++ [x]).getD l.length d = x := by
  rw [List.getD_eq_getElem?_getD, List.getElem?_append_right (Nat.le_refl _)]; simp
theorem gD_e {l : List Nat} {r i : Nat} : (l.eraseIdx r).getD i 0 = if i < r then l.getD i 0 else l.getD (i + 1) 0 := by
  rw [List.getD_eq_getElem?_getD, List.getElem?_eraseIdx]
  split
  · rw [List.getD_eq_getElem?_getD]
  · rw [List.getD_eq_getElem?_getD]
section CX3
variable {E : EN} {P : Nat → Prop} {H0 : AH} {A : AD} {Z : Nat → Nat} {X : XX} {σ : Sg} {ho : Nat → Option Nat} {wr : Nat → Bool} {H : AH} {d c n : Nat} {K : Out → AH → Prop}
theorem CX.jn (C : CX E P H0 A Z X σ ho wr H) {H' : AH} {z1 z2 cap' j ch : Nat} {f g : Nat → Int32} (h7 : H' (A 7 0) = some (.inr (3, nfs z1 z2 ((s_jn σ).length + 1)))) (h11 : H' z1 = some (arI cap' f)) (h12 : H' z2 = some (arI cap' g)) (hfg : ∀ i, i < (s_jn σ).length → f i = x_G X 11 i ∧ g i = x_G X 12 i) (hf : f (s_jn σ).length = nI j) (hg : g (s_jn σ).length = nI ch)
    (hz : (z1 = Z 11 ∧ z2 = Z 12) ∨ (H z1 = none ∧ E.1 z1 = none ∧ H z2 = none ∧ E.1 z2 = none ∧ z1 ≠ z2)) (hF : ∀ q, q ≠ A 7 0 → q ≠ z1 → q ≠ z2 → H' q = H q) : CX E P H0 A (upN (upN Z 11 z1) 12 z2) (upN (upN (x_cap X) 11 cap') 12 cap', x_mod X, upN (upN (x_G X) 11 f) 12 g, x_F X) (w_jn σ (s_jn σ ++ [(j, ch)])) ho wr H' := by
  have lve : ∀ k i, lv (upN (upN (x_cap X) 11 cap') 12 cap') (s_nS σ) (s_nJ σ) k i → lv (x_cap X) (s_nS σ) (s_nJ σ) k i := by
    intro k i h
    rcases lv_cs h with ⟨g1, rfl, g3⟩ | ⟨g1, g2, g3⟩ | ⟨rfl, g3⟩
    · refine lv_A g1 (fun q1 q2 => ?_)
      have := g3 q1 q2
      rw [upN_n (by omega), upN_n (by omega)] at this
      exact this
    · exact lv_S g1 g2 g3
    · exact lv_J g3
  have lvi : ∀ k i, lv (x_cap X) (s_nS σ) (s_nJ σ) k i → lv (upN (upN (x_cap X) 11 cap') 12 cap') (s_nS σ) (s_nJ σ) k i := by
    intro k i h
    rcases lv_cs h with ⟨g1, rfl, g3⟩ | ⟨g1, g2, g3⟩ | ⟨rfl, g3⟩
    · refine lv_A g1 (fun q1 q2 => ?_)
      rw [upN_n (by omega), upN_n (by omega)]
      exact g3 q1 q2
    · exact lv_S g1 g2 g3
    · exact lv_J g3
  have ad : ∀ k i, k ≠ 11 → k ≠ 12 → adr A (upN (upN Z 11 z1) 12 z2) k i = adr A Z k i := by
    intro k i g1 g2
    unfold adr
    rw [upN_n g2, upN_n g1]
  have a11 : adr A (upN (upN Z 11 z1) 12 z2) 11 0 = z1 := by
    show upN (upN Z 11 z1) 12 z2 11 = z1
    rw [upN_n (by omega), upN_s]
  have a12 : adr A (upN (upN Z 11 z1) 12 z2) 12 0 = z2 := by
    show upN (upN Z 11 z1) 12 z2 12 = z2
    rw [upN_s]
  have z11 : upN (upN Z 11 z1) 12 z2 11 = z1 := a11
  have z12 : upN (upN Z 11 z1) 12 z2 12 = z2 := a12
  refine C.re (fun k i => k = 7 ∨ k = 11 ∨ k = 12) (fun k i h1 h2 => ?_) (fun k i h1 h2 => ?_) (fun q hq => ?_) (fun k i k' i' h1 h2 h3 h4 h5 h6 h7 => ?_) ?_ C.wl
  · have hl := lve k i h1
    have hi : i = 0 := by
      rcases lv_cs hl with ⟨g1, g2, g3⟩ | ⟨g1, g2, g3⟩ | ⟨rfl, g3⟩
      · exact g2
      · omega
      · omega
    subst hi
    rcases h2 with rfl | rfl | rfl
    · refine ⟨?_, Or.inl ⟨hl, rfl⟩⟩
      show H' (A 7 0) = some (.inr (3, nfs (upN (upN Z 11 z1) 12 z2 11) (upN (upN Z 11 z1) 12 z2 12) (s_jn σ ++ [(j, ch)]).length))
      rw [z11, z12, h7, List.length_append]; rfl
    · refine ⟨?_, ?_⟩
      · rw [a11, h11]
        show _ = some (arI (upN (upN (x_cap X) 11 cap') 12 cap' 11) (upN (upN (x_G X) 11 f) 12 g 11))
        rw [upN_n (by omega), upN_s, upN_n (by omega), upN_s]
      · rw [a11]
        rcases hz with ⟨q1, q2⟩ | ⟨q1, q2, q3, q4, q5⟩
        · exact Or.inl ⟨hl, q1⟩
        · exact Or.inr ⟨q1, q2⟩
    · refine ⟨?_, ?_⟩
      · rw [a12, h12]
        show _ = some (arI (upN (upN (x_cap X) 11 cap') 12 cap' 12) (upN (upN (x_G X) 11 f) 12 g 12))
        rw [upN_s, upN_s]
      · rw [a12]
        rcases hz with ⟨q1, q2⟩ | ⟨q1, q2, q3, q4, q5⟩
        · exact Or.inl ⟨hl, q2⟩
        · exact Or.inr ⟨q3, q4⟩
  · have hl := lve k i h1
    refine ⟨hl, ad k i (by omega) (by omega), ?_⟩
    rcases lv_cs hl with ⟨g1, g2, -⟩ | ⟨g1, g2, -⟩ | ⟨rfl, -⟩
    · rw [cl_A g1, cl_A g1]
      have hk : k = 0 ∨ k = 1 ∨ k = 2 ∨ k = 3 ∨ k = 4 ∨ k = 5 ∨ k = 6 ∨ k = 8 ∨ k = 9 ∨ k = 10 := by omega
      rcases hk with rfl | rfl | rfl | rfl | rfl | rfl | rfl | rfl | rfl | rfl <;> rfl
    · rw [cl_S g1 g2, cl_S g1 g2]
      unfold clS; split
      · rfl
      · rfl
      · show arI 8 (upN (upN (x_G X) 11 f) 12 g (i + 20)) = _
        rw [upN_n (by omega), upN_n (by omega)]
    · rfl
  · have b1 := hq 7 0 (lvi _ _ (lv_A (by omega) (by omega))) (Or.inl rfl)
    have b2 := hq 11 0 (lvi _ _ (lv_A (by omega) (by omega))) (Or.inr (Or.inl rfl))
    have b3 := hq 12 0 (lvi _ _ (lv_A (by omega) (by omega))) (Or.inr (Or.inr rfl))
    rw [a11] at b2
    rw [a12] at b3
    exact hF q b1 b2 b3
  · have hl := lve k i h1
    have hl' := lve k' i' h2
    have hi : i = 0 := by
      rcases lv_cs hl with ⟨g1, g2, g3⟩ | ⟨g1, g2, g3⟩ | ⟨rfl, g3⟩ <;> omega
    have hi' : i' = 0 := by
      rcases lv_cs hl' with ⟨g1, g2, g3⟩ | ⟨g1, g2, g3⟩ | ⟨rfl, g3⟩ <;> omega
    subst hi hi'
    have n7 : ¬ H (adr A (upN (upN Z 11 z1) 12 z2) 7 0) = none := by
      show ¬ H (A 7 0) = none
      rw [C.jou]; simp
    have e12 : H z1 = none → H z2 = none → z1 ≠ z2 := by
      intro q1 q2
      rcases hz with ⟨q3, q4⟩ | ⟨q3, q4, q5, q6, q7⟩
      · subst q3; rw [C.jar] at q1; cases q1
      · exact q7
    rcases h3 with rfl | rfl | rfl <;> rcases h4 with rfl | rfl | rfl
    all_goals first | exact ⟨rfl, rfl⟩ | exact absurd h5 n7 | exact absurd h6 n7 | skip
    · rw [a11] at h5 h7; rw [a12] at h6 h7; exact absurd h7 (e12 h5 h6)
    · rw [a12] at h5 h7; rw [a11] at h6 h7; exact absurd h7.symm (e12 h6 h5)
  · obtain ⟨r1, r2, r3, r4, r5, r6, r7⟩ := C.rl
    refine ⟨fun l hl => ?_, fun i hi => ?_, fun i hi => ?_, fun s hs i hi => ?_, r5, ?_, fun k k1 k2 k3 => ?_⟩
    · show upN (upN (x_G X) 11 f) 12 g 4 l = _
      rw [upN_n (by omega), upN_n (by omega)]; exact r1 l hl
    · show upN (upN (x_G X) 11 f) 12 g 6 i = _
      rw [upN_n (by omega), upN_n (by omega)]; exact r2 i hi
    · show upN (upN (x_G X) 11 f) 12 g 11 i = nI ((s_jn σ ++ [(j, ch)]).getD i (0, 0)).1 ∧ upN (upN (x_G X) 11 f) 12 g 12 i = nI ((s_jn σ ++ [(j, ch)]).getD i (0, 0)).2
      have hi2 : i < (s_jn σ ++ [(j, ch)]).length := hi
      rw [List.length_append] at hi2
      have hi3 : i < (s_jn σ).length + 1 := hi2
      rw [upN_s, upN_n (show 11 ≠ 12 by omega), upN_s]
      by_cases hlt : i < (s_jn σ).length
      · rw [gD_l hlt, (hfg i hlt).1, (hfg i hlt).2]; exact r3 i hlt
      · have : i = (s_jn σ).length := by omega
        subst this
        rw [gD_r]; exact ⟨hf, hg⟩
    · show upN (upN (x_G X) 11 f) 12 g (s + 20) i = _
      rw [upN_n (by omega), upN_n (by omega)]; exact r4 s hs i hi
    · show (_ ≤ upN (upN (x_cap X) 11 cap') 12 cap' 8 ∧ upN (upN (x_cap X) 11 cap') 12 cap' 8 ≤ 1000) ∧ (_ ≤ upN (upN (x_cap X) 11 cap') 12 cap' 9 ∧ upN (upN (x_cap X) 11 cap') 12 cap' 9 ≤ 1000) ∧ (_ ≤ upN (upN (x_cap X) 11 cap') 12 cap' 10 ∧ upN (upN (x_cap X) 11 cap') 12 cap' 10 ≤ 1000)
      simp only [upN_n (show 8 ≠ 12 by omega), upN_n (show 8 ≠ 11 by omega), upN_n (show 9 ≠ 12 by omega), upN_n (show 9 ≠ 11 by omega), upN_n (show 10 ≠ 12 by omega), upN_n (show 10 ≠ 11 by omega)]
      exact r6
    · have k4 : upN (upN (x_cap X) 11 cap') 12 cap' k = 0 := k3
      rw [upN_n (by omega), upN_n (by omega)] at k4 ⊢
      exact r7 k k1 k2 k4
/-- the order anew -/
theorem CX.od (C : CX E P H0 A Z X σ ho wr H) {H' : AH} {l : List Nat} {m' : Int32} {z' cap' : Nat} {f' : Nat → Option Nat} (L : LLs E H' (A 3 0) m' z' l.length cap' f') (hf : ∀ i, i < l.length → f' i = some (A 16 (l.getD i 0))) (hz : (z' = Z 10 ∧ 0 < x_cap X 10 ∧ cap' = x_cap X 10) ∨ (H z' = none ∧ E.1 z' = none)) (hcap : 0 < cap') (hF : ∀ q, q ≠ A 3 0 → q ≠ z' → H' q = H q) (hnd : l.Nodup) (hm : ∀ j ∈ l, j < s_nJ σ) :
    CX E P H0 A (upN Z 10 z') (upN (x_cap X) 10 cap', upN (x_mod X) 3 m', x_G X, upN (x_F X) 10 f') (w_od σ l) ho wr H' := by
  have a10 : adr A (upN Z 10 z') 10 0 = z' := by
    show upN Z 10 z' 10 = z'
    rw [upN_s]
  have lve : ∀ k i, lv (upN (x_cap X) 10 cap') (s_nS σ) (s_nJ σ) k i → (k = 10 ∧ i = 0) ∨ lv (x_cap X) (s_nS σ) (s_nJ σ) k i := by
    intro k i h
    rcases lv_cs h with ⟨g1, rfl, g3⟩ | ⟨g1, g2, g3⟩ | ⟨rfl, g3⟩
    · by_cases hk : k = 10
      · exact Or.inl ⟨hk, rfl⟩
      · refine Or.inr (lv_A g1 (fun q1 q2 => ?_))
        have := g3 q1 q2
        rw [upN_n (by omega)] at this
        exact this
    · exact Or.inr (lv_S g1 g2 g3)
    · exact Or.inr (lv_J g3)
  have l10 : lv (upN (x_cap X) 10 cap') (s_nS σ) (s_nJ σ) 10 0 := lv_A (by omega) (fun _ _ => by rw [upN_s]; omega)
  have l3 : lv (upN (x_cap X) 10 cap') (s_nS σ) (s_nJ σ) 3 0 := lv_A (by omega) (by omega)
  refine C.re (fun k i => k = 3 ∨ k = 10) (fun k i h1 h2 => ?_) (fun k i h1 h2 => ?_) (fun q hq => ?_) (fun k i k' i' h1 h2 h3 h4 h5 h6 h7 => ?_) ?_ ?_
  · rcases h2 with rfl | rfl
    · have hi : i = 0 := by
        rcases lv_cs h1 with ⟨g1, g2, g3⟩ | ⟨g1, g2, g3⟩ | ⟨g1, g3⟩ <;> omega
      subst hi
      refine ⟨?_, Or.inl ⟨lv_A (by omega) (by omega), rfl⟩⟩
      show H' (A 3 0) = some (.inr (0, lfs (upN (x_mod X) 3 m' 3) (upN Z 10 z' 10) l.length))
      rw [upN_s, upN_s]; exact L.1
    · have hi : i = 0 := by
        rcases lv_cs h1 with ⟨g1, g2, g3⟩ | ⟨g1, g2, g3⟩ | ⟨g1, g3⟩ <;> omega
      subst hi
      refine ⟨?_, ?_⟩
      · rw [a10]
        show H' z' = some (arR (upN (x_cap X) 10 cap' 10) (upN (x_F X) 10 f' 10))
        rw [upN_s, upN_s]; exact L.arr hcap
      · rw [a10]
        rcases hz with ⟨q1, q2, q3⟩ | q
        · exact Or.inl ⟨lv_A (by omega) (fun _ _ => by omega), q1⟩
        · exact Or.inr q
  · have hl := (lve k i h1).resolve_left (fun e => h2 (Or.inr e.1))
    refine ⟨hl, ?_, ?_⟩
    · unfold adr; rw [upN_n (fun e => h2 (Or.inr e))]
    · rcases lv_cs hl with ⟨g1, g2, -⟩ | ⟨g1, g2, -⟩ | ⟨rfl, -⟩
      · rw [cl_A g1, cl_A g1]
        unfold clA; split
        all_goals first | (exact absurd (Or.inl rfl) h2) | (exact absurd (Or.inr rfl) h2) | rfl
      · rw [cl_S g1 g2, cl_S g1 g2]; rfl
      · rfl
  · have b1 := hq 3 0 l3 (Or.inl rfl)
    have b2 := hq 10 0 l10 (Or.inr rfl)
    rw [a10] at b2
    exact hF q b1 b2
  · have n3 : ¬ H (adr A (upN Z 10 z') 3 0) = none := by
      show ¬ H (A 3 0) = none
      rw [C.lsO.1]; simp
    have hi : i = 0 := by
      rcases lv_cs h1 with ⟨g1, g2, g3⟩ | ⟨g1, g2, g3⟩ | ⟨g1, g3⟩ <;> omega
    have hi' : i' = 0 := by
      rcases lv_cs h2 with ⟨g1, g2, g3⟩ | ⟨g1, g2, g3⟩ | ⟨g1, g3⟩ <;> omega
    subst hi hi'
    rcases h3 with rfl | rfl <;> rcases h4 with rfl | rfl
    all_goals first | exact ⟨rfl, rfl⟩ | exact absurd h5 n3 | exact absurd h6 n3
  · obtain ⟨r1, r2, r3, r4, ⟨r5, r6, r7⟩, ⟨r8, r9, r10⟩, r11⟩ := C.rl
    refine ⟨r1, r2, r3, r4, ⟨fun i hi => ?_, fun i hi => ?_, fun i hi => ?_⟩, ⟨?_, ?_, ?_⟩, fun k k1 k2 k3 => ?_⟩
    · show upN (x_F X) 10 f' 8 i = _
      rw [upN_n (by omega)]; exact r5 i hi
    · show upN (x_F X) 10 f' 9 i = _
      rw [upN_n (by omega)]; exact r6 i hi
    · show upN (x_F X) 10 f' 10 i = _
      rw [upN_s]; exact hf i hi
    · show _ ≤ upN (x_cap X) 10 cap' 8 ∧ upN (x_cap X) 10 cap' 8 ≤ 1000
      rw [upN_n (by omega)]; exact r8
    · show _ ≤ upN (x_cap X) 10 cap' 9 ∧ upN (x_cap X) 10 cap' 9 ≤ 1000
      rw [upN_n (by omega)]; exact r9
    · show _ ≤ upN (x_cap X) 10 cap' 10 ∧ upN (x_cap X) 10 cap' 10 ≤ 1000
      rw [upN_s]; exact ⟨L.2.1, L.2.2.1⟩
    · have k4 : upN (x_cap X) 10 cap' k = 0 := k3
      by_cases hk : k = 10
      · subst hk; rw [upN_s] at k4; omega
      · rw [upN_n hk] at k4 ⊢; exact r11 k k1 k2 k4
  · obtain ⟨w1, w2, w3, w4, w5⟩ := C.wl
    exact ⟨w1, w2, w3, hnd, hm⟩
end CX3
