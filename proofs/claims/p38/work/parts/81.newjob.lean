/-! a new job -/
def upA (A : AD) (kk j q : Nat) : AD := fun k i => match Nat.beq k kk with
  | true => if i = j then q else A k i
  | false => A k i
theorem upA_s {A : AD} {kk j q : Nat} : upA A kk j q kk j = q := by
  unfold upA; rw [Nat.beq_refl]; exact if_pos rfl
theorem upA_i {A : AD} {kk j q i : Nat} (h : i ≠ j) : upA A kk j q kk i = A kk i := by
  unfold upA; rw [Nat.beq_refl]; exact if_neg h
theorem upA_k {A : AD} {kk j q k i : Nat} (h : k ≠ kk) : upA A kk j q k i = A k i := by
  unfold upA
  have : Nat.beq k kk = false := by
    cases hb : Nat.beq k kk with
    | false => rfl
    | true => exact absurd (Nat.eq_of_beq_eq_true hb) h
  rw [this]
theorem jrf_up {A : AD} {j q : Nat} {o : Option Nat} (h : o ≠ some j) : jrf (upA A 16 j q) o = jrf A o := by
  cases o with
  | none => rfl
  | some i =>
    show Value.ref (upA A 16 j q 16 i) = .ref (A 16 i)
    rw [upA_i (fun e => h (by rw [e]))]
theorem hd_nj {σ τ : Sg} (h1 : s_nJ τ = s_nJ σ + 1) (h2 : s_hl τ = s_hl σ) (h3 : s_hl σ (s_nJ σ) = false) (h4 : ∀ i, i < s_nJ σ → s_nd τ i = s_nd σ i) : hdF τ = hdF σ := by
  funext l
  unfold hdF
  rw [h1, h2, List.range_succ, List.find?_append]
  have e : (List.range (s_nJ σ)).find? (fun j => s_hl σ j && bitN (s_nd τ j) l) = (List.range (s_nJ σ)).find? (fun j => s_hl σ j && bitN (s_nd σ j) l) := by
    have : ∀ (L : List Nat), (∀ i ∈ L, i < s_nJ σ) → L.find? (fun j => s_hl σ j && bitN (s_nd τ j) l) = L.find? (fun j => s_hl σ j && bitN (s_nd σ j) l) := by
      intro L
      induction L with
      | nil => intro _; rfl
      | cons a t ih =>
        intro h
        rw [List.find?_cons, List.find?_cons, h4 a (h a List.mem_cons_self), ih (fun i hi => h i (List.mem_cons_of_mem _ hi))]
    exact this _ (fun i hi => List.mem_range.mp hi)
  rw [e]
  have e2 : ([s_nJ σ] : List Nat).find? (fun j => s_hl σ j && bitN (s_nd τ j) l) = none := by
    rw [List.find?_cons, h3]; rfl
  rw [e2, Option.or_none]
section NJ
variable {E : EN} {P : Nat → Prop} {H0 : AH} {A : AD} {Z : Nat → Nat} {X : XX} {σ σ' : Sg} {ho : Nat → Option Nat} {wr : Nat → Bool} {H : AH} {d c n : Nat} {K : Out → AH → Prop}
theorem k_jInit {q ses : Nat} {num w l : Int32} (h : H q = some (.inr (2, dfl 2))) (hK : K (.inl none) (hset H q (.inr (2, [.int num, .ref ses, .int l, .int w, .int 119, .int 0, .int 0])))) : CRd TTv E (d + 2) mX1_init [.ref q, .int num, .ref ses, .int w, .int l] H c n K := by
  refine crd rfl ?_
  show Ev E (d + 1) mX1_init K 0 [.ref q, .int num, .ref ses, .int w, .int l] [] H c n
  have hd : dfl 2 = [.int 0, .null, .int 0, .int 0, .int 0, .int 0, .int 0] := rfl
  rw [hd] at h
  have o16 : ok16 (.int 119) = true := by decide
  simp only [eX1_init_0, eX1_init_1, eX1_init_4, eX1_init_5, eX1_init_6, eX1_init_9, eX1_init_10, eX1_init_11, eX1_init_14, eX1_init_15, eX1_init_17, eX1_init_20, eX1_init_21, eX1_init_22, eX1_init_25, eX1_init_26, eX1_init_28, eX1_init_31, eX1_init_32, eX1_init_33, eX1_init_36, eX1_init_37, eX1_init_38, eX1_init_41, isA_r, isA_n, isI_i, isF_f, isL_l, is1_i, is1_r, is1_n, is1_f, true_and, and_true, List.length_cons, List.length_nil, Nat.reduceAdd, Nat.reduceLeDiff, Nat.reduceSub, Option.some.injEq, exists_eq_left', aft_s, aft_n, ite_true, ite_false, if_true, if_false, Nat.zero_le, Nat.le_refl, reduceCtorEq, Nat.le_add_left, ob_of h, ob_e, hs_hs, List.set, Nat.reduceLT, okF, tyC, ok01_0, o16]
  exact hK
theorem CX.newJob (C : CX E P H0 A Z X σ ho wr H) {q s w l : Nat} (hq : H q = none) (hqE : E.1 q = none) (hs : s < s_nS σ) (hl : l ≤ 63) (hJ : s_nJ σ < 30) (hhl : s_hl σ (s_nJ σ) = false) (hfr : ∀ t i, s_fr σ t = some i → i < s_nJ σ) (hpk : ∀ t i, s_pk σ t = some i → i < s_nJ σ)
    (eS : s_nS σ' = s_nS σ) (eJ : s_nJ σ' = s_nJ σ + 1) (ewk : s_wk σ' = s_wk σ) (epv : s_pv σ' = s_pv σ) (edr : s_dr σ' = s_dr σ) (efr : s_fr σ' = s_fr σ) (epk : s_pk σ' = s_pk σ) (ehi : s_hi σ' = s_hi σ) (ecm : s_cm σ' = s_cm σ) (ese : s_se σ' = upN (s_se σ) (s_nJ σ) s) (elf : s_lf σ' = upN (s_lf σ) (s_nJ σ) w) (end_ : s_nd σ' = upN (s_nd σ) (s_nJ σ) l) (est : s_st σ' = upN (s_st σ) (s_nJ σ) 119) (ehl : s_hl σ' = s_hl σ) (eod : s_od σ' = s_od σ) (ejn : s_jn σ' = s_jn σ)
    {H3 : AH} {m' : Int32} {z' cap' : Nat} {f' : Nat → Option Nat} (L : LLs E H3 (A 2 0) m' z' (s_nJ σ + 1) cap' f') (hf : f' (s_nJ σ) = some q) (hf2 : ∀ i, i < s_nJ σ → f' i = x_F X 9 i) (hz : (z' = Z 9 ∧ 0 < x_cap X 9 ∧ cap' = x_cap X 9) ∨ (H z' = none ∧ z' ≠ q ∧ E.1 z' = none)) (hcap : 0 < cap')
    (hq3 : H3 q = some (.inr (2, [.int (nI (s_nJ σ)), .ref (A 13 s), .int (nI l), .int (nI w), .int 119, .int 0, .int 0]))) (hF : ∀ y, y ≠ A 2 0 → y ≠ z' → y ≠ q → H3 y = H y) :
    CX E P H0 (upA A 16 (s_nJ σ) q) (upN Z 9 z') (upN (x_cap X) 9 cap', upN (x_mod X) 2 m', x_G X, upN (x_F X) 9 f') σ' ho (upN wr (s_nJ σ) false) H3 := by
  have a9 : adr (upA A 16 (s_nJ σ) q) (upN Z 9 z') 9 0 = z' := by
    show upN Z 9 z' 9 = z'
    rw [upN_s]
  have aJ : adr (upA A 16 (s_nJ σ) q) (upN Z 9 z') 16 (s_nJ σ) = q := by
    show upA A 16 (s_nJ σ) q 16 (s_nJ σ) = q
    exact upA_s
  have hl9 : lv (upN (x_cap X) 9 cap') (s_nS σ') (s_nJ σ') 9 0 := lv_A (by omega) (fun _ _ => by rw [upN_s]; omega)
  have hl2 : lv (upN (x_cap X) 9 cap') (s_nS σ') (s_nJ σ') 2 0 := lv_A (by omega) (by omega)
  have hlJ : lv (upN (x_cap X) 9 cap') (s_nS σ') (s_nJ σ') 16 (s_nJ σ) := lv_J (by omega)
  refine C.re (fun k i => k = 2 ∨ k = 9 ∨ (k = 16 ∧ i = s_nJ σ)) (fun k i h1 h2 => ?_) (fun k i h1 h2 => ?_) (fun y hy => ?_) (fun k i k' i' h1 h2 h3 h4 h5 h6 h7 => ?_) ?_ ?_
  · rcases h2 with rfl | rfl | ⟨rfl, rfl⟩
    · have hi : i = 0 := by
        rcases lv_cs h1 with ⟨g1, g2, g3⟩ | ⟨g1, g2, g3⟩ | ⟨g1, g3⟩ <;> omega
      subst hi
      refine ⟨?_, Or.inl ⟨lv_A (by omega) (by omega), rfl⟩⟩
      show H3 (A 2 0) = some (.inr (0, lfs (upN (x_mod X) 2 m' 2) (upN Z 9 z' 9) (s_nJ σ')))
      rw [upN_s, upN_s, eJ]; exact L.1
    · have hi : i = 0 := by
        rcases lv_cs h1 with ⟨g1, g2, g3⟩ | ⟨g1, g2, g3⟩ | ⟨g1, g3⟩ <;> omega
      subst hi
      refine ⟨?_, ?_⟩
      · rw [a9]
        show H3 z' = some (arR (upN (x_cap X) 9 cap' 9) (upN (x_F X) 9 f' 9))
        rw [upN_s, upN_s]; exact L.arr hcap
      · rw [a9]
        rcases hz with ⟨q1, q2, q3⟩ | ⟨q1, q2, q3⟩
        · exact Or.inl ⟨lv_A (by omega) (fun _ _ => by omega), q1⟩
        · exact Or.inr ⟨q1, q3⟩
    · refine ⟨?_, Or.inr ⟨by rw [aJ]; exact hq, by rw [aJ]; exact hqE⟩⟩
      rw [aJ, hq3, cl_J]
      unfold jfs
      rw [ese, end_, elf, est, ehl, upN_s, upN_s, upN_s, upN_s, upN_s, hhl, upA_k (by omega)]
      rfl
  · have hl : lv (x_cap X) (s_nS σ) (s_nJ σ) k i := by
      rcases lv_cs h1 with ⟨g1, rfl, g3⟩ | ⟨g1, g2, g3⟩ | ⟨rfl, g3⟩
      · refine lv_A g1 (fun q1 q2 => ?_)
        have := g3 q1 q2
        rw [show x_cap (upN (x_cap X) 9 cap', upN (x_mod X) 2 m', x_G X, upN (x_F X) 9 f') = upN (x_cap X) 9 cap' from rfl, upN_n (fun e => h2 (Or.inr (Or.inl e)))] at this
        exact this
      · exact lv_S g1 g2 (by omega)
      · refine lv_J ?_
        have : i ≠ s_nJ σ := fun e => h2 (Or.inr (Or.inr ⟨rfl, e⟩))
        omega
    refine ⟨hl, ?_, ?_⟩
    · unfold adr
      rw [upN_n (fun e => h2 (Or.inr (Or.inl e)))]
      by_cases hk : k = 16
      · subst hk
        rw [upA_i (fun e => h2 (Or.inr (Or.inr ⟨rfl, e⟩)))]
      · rw [upA_k hk]
    · rcases lv_cs hl with ⟨g1, g2, -⟩ | ⟨g1, g2, -⟩ | ⟨rfl, g3⟩
      · rw [cl_A g1, cl_A g1]
        have hk : k = 0 ∨ k = 1 ∨ k = 3 ∨ k = 4 ∨ k = 5 ∨ k = 6 ∨ k = 7 ∨ k = 8 ∨ k = 10 ∨ k = 11 ∨ k = 12 := by omega
        rcases hk with rfl | rfl | rfl | rfl | rfl | rfl | rfl | rfl | rfl | rfl | rfl
        · show (Sum.inr (5, ofs (upA A 16 (s_nJ σ) q) (s_wk σ')) : AC) = _
          rw [ewk]; rfl
        · show (Sum.inr (0, lfs (x_mod X 1) (Z 8) (s_nS σ')) : AC) = _
          rw [eS]; rfl
        · show (Sum.inr (0, lfs (x_mod X 3) (Z 10) (s_od σ').length) : AC) = _
          rw [eod]; rfl
        · rfl
        · show (Sum.inr (1, hfs (A 6 0) (s_cm σ').length) : AC) = _
          rw [ecm]; rfl
        · rfl
        · show (Sum.inr (3, nfs (Z 11) (Z 12) (s_jn σ').length) : AC) = _
          rw [ejn]; rfl
        · rfl
        · rfl
        · rfl
        · rfl
      · rw [cl_S g1 g2, cl_S g1 g2]
        have hk : k = 13 ∨ k = 14 ∨ k = 15 := by omega
        rcases hk with rfl | rfl | rfl
        · show (Sum.inr (4, sfs (upA A 16 (s_nJ σ) q) σ' i) : AC) = .inr (4, sfs A σ i)
          unfold sfs
          rw [epv, edr, efr, epk, jrf_up (fun h => by have := hfr _ _ h; omega), jrf_up (fun h => by have := hpk _ _ h; omega)]
          rfl
        · show (Sum.inr (1, hfs (A 15 i) (s_hi σ' i).length) : AC) = _
          rw [ehi]; rfl
        · rfl
      · rw [cl_J, cl_J]
        have hne : i ≠ s_nJ σ := by omega
        unfold jfs
        rw [ese, end_, elf, est, ehl, upN_n hne, upN_n hne, upN_n hne, upN_n hne, upN_n hne]
        rfl
  · have b1 := hy 2 0 hl2 (Or.inl rfl)
    have b2 := hy 9 0 hl9 (Or.inr (Or.inl rfl))
    have b3 := hy 16 (s_nJ σ) hlJ (Or.inr (Or.inr ⟨rfl, rfl⟩))
    rw [a9] at b2
    rw [aJ] at b3
    exact hF y b1 b2 b3
  · have n2 : ¬ H (adr (upA A 16 (s_nJ σ) q) (upN Z 9 z') 2 0) = none := by
      show ¬ H (A 2 0) = none
      rw [C.lsJ.1]; simp
    have nz : H z' = none → z' ≠ q := by
      intro h
      rcases hz with ⟨q1, q2, q3⟩ | ⟨q1, q2, q3⟩
      · subst q1
        rw [C.1 9 0 (lv_A (by omega) (fun _ _ => by omega)) |> fun (e : H (Z 9) = some _) => e] at h
        cases h
      · exact q2
    have z0 : ∀ {k i : Nat}, lv (x_cap (upN (x_cap X) 9 cap', upN (x_mod X) 2 m', x_G X, upN (x_F X) 9 f')) (s_nS σ') (s_nJ σ') k i → k ≤ 12 → i = 0 := fun {k i} h hk => by
      rcases lv_cs h with ⟨g1, g2, g3⟩ | ⟨g1, g2, g3⟩ | ⟨g1, g3⟩ <;> omega
    rcases h3 with rfl | rfl | ⟨rfl, rfl⟩ <;> rcases h4 with rfl | rfl | ⟨rfl, rfl⟩
    · exact ⟨rfl, (z0 h1 (by omega)).trans (z0 h2 (by omega)).symm⟩
    · have e := z0 h1 (by omega); subst e; exact absurd h5 n2
    · have e := z0 h1 (by omega); subst e; exact absurd h5 n2
    · have e := z0 h2 (by omega); subst e; exact absurd h6 n2
    · exact ⟨rfl, (z0 h1 (by omega)).trans (z0 h2 (by omega)).symm⟩
    · have e := z0 h1 (by omega); subst e
      rw [a9] at h5 h7; rw [aJ] at h7
      exact absurd h7 (nz h5)
    · have e := z0 h2 (by omega); subst e; exact absurd h6 n2
    · have e := z0 h2 (by omega); subst e
      rw [a9] at h6 h7; rw [aJ] at h7
      exact absurd h7.symm (nz h6)
    · exact ⟨rfl, rfl⟩
  · obtain ⟨r1, r2, r3, r4, ⟨r5, r6, r7⟩, ⟨r8, r9, r10⟩, r11⟩ := C.rl
    refine ⟨r1, ?_, ?_, ?_, ⟨fun i hi => ?_, fun i hi => ?_, fun i hi => ?_⟩, ⟨?_, ?_, ?_⟩, fun k k1 k2 k3 => ?_⟩
    · rw [ecm]; exact r2
    · rw [ejn]; exact r3
    · rw [eS, ehi]; exact r4
    · rw [eS] at hi
      show upN (x_F X) 9 f' 8 i = some (upA A 16 (s_nJ σ) q 13 i)
      rw [upN_n (by omega), upA_k (by omega)]; exact r5 i hi
    · rw [eJ] at hi
      show upN (x_F X) 9 f' 9 i = some (upA A 16 (s_nJ σ) q 16 i)
      rw [upN_s]
      by_cases hij : i = s_nJ σ
      · subst hij; rw [upA_s]; exact hf
      · rw [upA_i hij, hf2 i (by omega)]; exact r6 i (by omega)
    · rw [eod] at hi ⊢
      show upN (x_F X) 9 f' 10 i = some (upA A 16 (s_nJ σ) q 16 ((s_od σ).getD i 0))
      have := C.odj hi
      rw [upN_n (by omega), upA_i (by omega)]; exact r7 i hi
    · rw [eS]
      show _ ≤ upN (x_cap X) 9 cap' 8 ∧ upN (x_cap X) 9 cap' 8 ≤ 1000
      rw [upN_n (by omega)]; exact r8
    · rw [eJ]
      show _ ≤ upN (x_cap X) 9 cap' 9 ∧ upN (x_cap X) 9 cap' 9 ≤ 1000
      rw [upN_s]; exact ⟨L.2.1, L.2.2.1⟩
    · rw [eod]
      show _ ≤ upN (x_cap X) 9 cap' 10 ∧ upN (x_cap X) 9 cap' 10 ≤ 1000
      rw [upN_n (by omega)]; exact r10
    · have k4 : upN (x_cap X) 9 cap' k = 0 := k3
      by_cases hk : k = 9
      · subst hk; rw [upN_s] at k4; omega
      · rw [upN_n hk] at k4 ⊢; exact r11 k k1 k2 k4
  · obtain ⟨w1, w2, w3, w4, w5⟩ := C.wl
    refine ⟨by omega, by omega, fun j hj => ?_, by rw [eod]; exact w4, fun j hj => ?_⟩
    · rw [ese, end_, est, eS]
      by_cases hjn : j = s_nJ σ
      · subst hjn
        rw [upN_s, upN_s, upN_s]
        exact ⟨hs, hl, Or.inr (Or.inl rfl)⟩
      · rw [upN_n hjn, upN_n hjn, upN_n hjn]
        exact w3 j (by omega)
    · rw [eod] at hj
      have := w5 j hj
      omega
end NJ
