theorem upN_upN {α : Type} {f : Nat → α} {s : Nat} {a b : α} : upN (upN f s a) s b = upN f s b := by
  funext j
  unfold upN
  split <;> rfl
theorem putHi_putHi {σ : Sg} {s : Nat} {a b : List Nat} : putHi (putHi σ s a) s b = putHi σ s b := by
  unfold putHi
  rw [g_hi_hi, upN_upN]
  rfl
theorem putHi_hi {σ : Sg} {s : Nat} {a : List Nat} : s_hi (putHi σ s a) s = a := by
  unfold putHi
  rw [g_hi_hi, upN_s]
theorem putHi_cm {σ : Sg} {s : Nat} {a : List Nat} : s_cm (putHi σ s a) = s_cm σ := rfl
theorem putHi_pv {σ : Sg} {s : Nat} {a : List Nat} : s_pv (putHi σ s a) = s_pv σ := rfl
def start0 (σ : Sg) (s w l : Nat) : Sg := w_nd (w_lf (w_se (w_nJ σ (s_nJ σ + 1)) (upN (s_se σ) (s_nJ σ) s)) (upN (s_lf σ) (s_nJ σ) w)) (upN (s_nd σ) (s_nJ σ) l)
def startF (σ : Sg) (s w l : Nat) (f : Bool) : Sg := if f = false then start0 σ s w l else w_fr (start0 σ s w l) (upN (s_fr σ) s (some (s_nJ σ)))
def started (σ : Sg) (s x w l : Nat) (f : Bool) : Sg :=
  looksF (comesF (w_od (rememberF (startF σ s w l f) s x) (s_od σ ++ [s_nJ σ])) (s_nJ σ) 119)
def a_start (σ : Sg) (v x w l : Int32) (f : Bool) : SP := match ix v (s_nS σ) with
  | none => (1, 0, σ)
  | some s => match ix x 100 with
    | none => (2, 0, σ)
    | some x => if w < 1 ∨ 50 < w then (2, 0, σ) else match ix l 64 with
      | none => (2, 0, σ)
      | some l => if f = true ∧ s_dr σ s = true then (3, 0, σ) else if s_nJ σ = 30 then (4, 0, σ) else (0, nI (s_nJ σ), started σ s x w.toNatClampNeg l f)
section MD12
variable {E : EN} {d : Nat} {h : AH} {c n : Nat} {K : Out → AH → Prop} {mo : Nat} {ad : Nat → Nat} {M : MS} {σ : Sg} {th : Nat}
theorem l_rem0 (A : ADok mo ad) (R : RM σ th M) {s x : Nat} (hs : s < 4) (hlen : ∀ i, (s_hi σ i).length ≤ 8) (hl8 : (s_hi σ s).length = 8) (hC : (s_cm σ).length ≤ 12) (hx100 : ∀ y ∈ s_cm σ, y < 100) (hx : x < 100) (hk : ∀ M', RM (rememberF σ s x) th M' → K (.inl none) (mv h mo ad M')) {a4 : Value} : ∀ k i (g : Nat → Int32), k + i = 8 → 1 ≤ i → (∀ r t, r < 4 → r ≠ s → t < 8 → g (8 * r + t) = M.2.2 5 (8 * r + t)) → (∀ t, t + 1 < i → g (8 * s + t) = nI ((s_hi σ s).getD (t + 1) 0)) → (∀ t, i ≤ t → t < 8 → g (8 * s + t) = nI ((s_hi σ s).getD t 0)) →
    Ev E d mX5_remembers K 13 [.ref mo, .int (nI s), .int (nI x), .int (nI i), a4] [] (mv h mo ad (M.1, M.2.1, va_up M.2.2 5 g)) c n := by
  have x0 : (8 : Int32) * nI s = nI (8 * s) := pk_mul 8 s
  have es : (nI s).toNatClampNeg = s := nI_clamp (by omega)
  have b4 := R.2.2.2.2.2.1 s hs
  rw [hl8] at b4
  intro k
  induction k with
  | zero =>
    intro i g hi hi1 h0 h1 h2
    have hi : i = 8 := by omega
    subst hi
    have h88 : ¬ nI 8 < (8 : Int32) := by decide
    have h87 : nI 8 - 1 = nI 7 := by decide
    have htl : (s_hi σ s).tail.length = 7 := by rw [List.length_tail, hl8]
    have R1 := R.hi (s := s) (l := (s_hi σ s).tail) (g := g) hs hlen h0 (fun k hk => by
      rw [getD_tail]
      exact h1 k (by omega))
    rw [htl] at R1
    have hcomm : (M.1, M.2.1, va_up (va_up M.2.2 5 g) 4 (upd (M.2.2 4) s (nI 7))) = ((M.1, M.2.1, va_up (va_up M.2.2 4 (upd (M.2.2 4) s (nI 7))) 5 g) : MS) := by
      congr 2
      funext k
      simp only [va_up]
      by_cases h5 : k = 5
      · simp [h5]
      · by_cases h4 : k = 4
        · simp [h4]
        · simp [h4, h5]
    rw [← hcomm] at R1
    have hl1 : ∀ i, (s_hi (putHi σ s (s_hi σ s).tail) i).length ≤ 8 := fun i => by
      show (upN (s_hi σ) s (s_hi σ s).tail i).length ≤ 8
      unfold upN
      split
      · omega
      · exact hlen i
    have := l_rem1 (E := E) (d := d) (c := c) (n := n) (K := K) (h := h) (a3 := .int (nI 8)) (a4 := a4) A R1 hs hl1 (x := x) (by rw [putHi_hi, htl]; exact Nat.le_refl 7) hC hx100 hx (fun M' R' => hk M' (by
      rw [putHi_hi, putHi_putHi, putHi_pv] at R'
      unfold rememberF
      rw [show fitHi (s_hi σ s) = (s_hi σ s).tail from if_pos hl8]
      exact R'))
    rw [hX5_remembers_13]
    simp only [eX5_remembers_14, eX5_remembers_16, eX5_remembers_19, eX5_remembers_20, eX5_remembers_23, eX5_remembers_25, eX5_remembers_26, eX5_remembers_27, eX5_remembers_28, eX5_remembers_29, eX5_remembers_30, eX5_remembers_31, eX5_remembers_32, eX5_remembers_35, eX5_remembers_37, eX5_remembers_38, eX5_remembers_39, eX5_remembers_40, eX5_remembers_41, eX5_remembers_42, eX5_remembers_43, eX5_remembers_46, eX5_remembers_49, eX5_remembers_50, eX5_remembers_53, eX5_remembers_54, eX5_remembers_55, eX5_remembers_56, eX5_remembers_57, eX5_remembers_58, isA_r, isA_n, isI_i, isF_f, isL_l, is1_i, is1_r, is1_n, is1_f, true_and, and_true, List.length_cons, List.length_nil, Nat.reduceAdd, Nat.reduceLeDiff, Nat.reduceSub, Option.some.injEq, exists_eq_left', aft_s, aft_n, ite_true, ite_false, if_true, if_false, Nat.zero_le, Nat.le_refl, reduceCtorEq, mv_ob, mr0 A, mw0 A, ms0 A, mr1 A, mw1 A, ms1 A, mr2 A, mw2 A, ms2 A, mr3 A, mw3 A, ms3 A, mr4 A, mw4 A, ms4 A, mr5 A, mw5 A, ms5 A, mr6 A, mw6 A, ms6 A, mr7 A, mw7 A, ms7 A, mr8 A, mw8 A, ms8 A, mr9 A, mw9 A, ms9 A, mr10 A, mw10 A, ms10 A, mr11 A, mw11 A, ms11 A, mr12 A, mw12 A, ms12 A, mr13 A, mw13 A, ms13 A, mr14 A, mw14 A, ms14 A, mf0, mf1, mf2, mf3, mf4, mf5, mf6, mg0, mg1, mg2, mg3, mg4, mg5, mg6, mg7, mg8, mg9, mg10, mg11, mg12, mg13, mg14, mg15, mg16, mg17, mg18, mg19, mg20, mg21, mgl, Nat.reduceLT, va_up_self, if_neg h88, inB_nI hs (by decide), es, va_up, Nat.reduceEqDiff, reduceIte, b4, h87]
    simpa only [va_up, Nat.reduceEqDiff, reduceIte] using this
  | succ k ih =>
    intro i g hi hi1 h0 h1 h2
    have e1 : (nI i).toNatClampNeg = i := nI_clamp (by omega)
    have h8 : nI i < (8 : Int32) := nI_lt (show i < 8 by omega) (by decide)
    have x1 : nI (8 * s + i) - 1 = nI (8 * s + (i - 1)) := by
      rw [show (1 : Int32) = nI 1 from rfl, pk_sub (by omega)]
      congr 1
      omega
    have e2 : (nI (8 * s + i)).toNatClampNeg = 8 * s + i := nI_clamp (by omega)
    have e3 : (nI (8 * s + (i - 1))).toNatClampNeg = 8 * s + (i - 1) := nI_clamp (by omega)
    rw [hX5_remembers_13]
    simp only [eX5_remembers_14, eX5_remembers_16, eX5_remembers_19, eX5_remembers_20, eX5_remembers_23, eX5_remembers_25, eX5_remembers_26, eX5_remembers_27, eX5_remembers_28, eX5_remembers_29, eX5_remembers_30, eX5_remembers_31, eX5_remembers_32, eX5_remembers_35, eX5_remembers_37, eX5_remembers_38, eX5_remembers_39, eX5_remembers_40, eX5_remembers_41, eX5_remembers_42, eX5_remembers_43, eX5_remembers_46, eX5_remembers_49, eX5_remembers_50, eX5_remembers_53, eX5_remembers_54, eX5_remembers_55, eX5_remembers_56, eX5_remembers_57, eX5_remembers_58, isA_r, isA_n, isI_i, isF_f, isL_l, is1_i, is1_r, is1_n, is1_f, true_and, and_true, List.length_cons, List.length_nil, Nat.reduceAdd, Nat.reduceLeDiff, Nat.reduceSub, Option.some.injEq, exists_eq_left', aft_s, aft_n, ite_true, ite_false, if_true, if_false, Nat.zero_le, Nat.le_refl, reduceCtorEq, mv_ob, mr0 A, mw0 A, ms0 A, mr1 A, mw1 A, ms1 A, mr2 A, mw2 A, ms2 A, mr3 A, mw3 A, ms3 A, mr4 A, mw4 A, ms4 A, mr5 A, mw5 A, ms5 A, mr6 A, mw6 A, ms6 A, mr7 A, mw7 A, ms7 A, mr8 A, mw8 A, ms8 A, mr9 A, mw9 A, ms9 A, mr10 A, mw10 A, ms10 A, mr11 A, mw11 A, ms11 A, mr12 A, mw12 A, ms12 A, mr13 A, mw13 A, ms13 A, mr14 A, mw14 A, ms14 A, mf0, mf1, mf2, mf3, mf4, mf5, mf6, mg0, mg1, mg2, mg3, mg4, mg5, mg6, mg7, mg8, mg9, mg10, mg11, mg12, mg13, mg14, mg15, mg16, mg17, mg18, mg19, mg20, mg21, mgl, Nat.reduceLT, va_up_self, if_pos h8, x0, nI_add, x1, e2, e3, inB_nI (show 8 * s + i < 32 by omega) (by decide), inB_nI (show 8 * s + (i - 1) < 32 by omega) (by decide), nI_1, bx_uu]
    have := ih (i + 1) (upd g (8 * s + (i - 1)) (g (8 * s + i))) (by omega) (by omega) (fun r t hr hrs ht => by
      unfold upd
      rw [if_neg (by omega)]
      exact h0 r t hr hrs ht) (fun t ht => by
      unfold upd
      by_cases hz : t = i - 1
      · rw [if_pos (by omega), h2 i (Nat.le_refl i) (by omega), hz]
        congr 2
        omega
      · rw [if_neg (by omega)]; exact h1 t (by omega)) (fun t ht ht2 => by
      unfold upd
      rw [if_neg (by omega)]
      exact h2 t (by omega) ht2)
    exact this
theorem c_remembers (A : ADok mo ad) (R : RM σ th M) {s x : Nat} (hs : s < 4) (hlen : ∀ i, (s_hi σ i).length ≤ 8) (hC : (s_cm σ).length ≤ 12) (hx100 : ∀ y ∈ s_cm σ, y < 100) (hx : x < 100) (hk : ∀ M', RM (rememberF σ s x) th M' → K (.inl none) (mv h mo ad M')) : CRd TTv E (d + 1) mX5_remembers [.ref mo, .int (nI s), .int (nI x)] (mv h mo ad M) c n K := by
  refine crd rfl ?_
  show Ev E d mX5_remembers K 0 [.ref mo, .int (nI s), .int (nI x), .retAddr 0, .retAddr 0] [] _ c n
  have es : (nI s).toNatClampNeg = s := nI_clamp (by omega)
  have b4 := R.2.2.2.2.2.1 s hs
  have hl := hlen s
  have h8 : (nI (s_hi σ s).length = 8) ↔ (s_hi σ s).length = 8 := nI_eq (by omega) (by decide)
  simp only [eX5_remembers_0, eX5_remembers_1, eX5_remembers_4, eX5_remembers_5, eX5_remembers_6, eX5_remembers_8, eX5_remembers_11, eX5_remembers_12, isA_r, isA_n, isI_i, isF_f, isL_l, is1_i, is1_r, is1_n, is1_f, true_and, and_true, List.length_cons, List.length_nil, Nat.reduceAdd, Nat.reduceLeDiff, Nat.reduceSub, Option.some.injEq, exists_eq_left', aft_s, aft_n, ite_true, ite_false, if_true, if_false, Nat.zero_le, Nat.le_refl, reduceCtorEq, mv_ob, mr0 A, mw0 A, ms0 A, mr1 A, mw1 A, ms1 A, mr2 A, mw2 A, ms2 A, mr3 A, mw3 A, ms3 A, mr4 A, mw4 A, ms4 A, mr5 A, mw5 A, ms5 A, mr6 A, mw6 A, ms6 A, mr7 A, mw7 A, ms7 A, mr8 A, mw8 A, ms8 A, mr9 A, mw9 A, ms9 A, mr10 A, mw10 A, ms10 A, mr11 A, mw11 A, ms11 A, mr12 A, mw12 A, ms12 A, mr13 A, mw13 A, ms13 A, mr14 A, mw14 A, ms14 A, mf0, mf1, mf2, mf3, mf4, mf5, mf6, mg0, mg1, mg2, mg3, mg4, mg5, mg6, mg7, mg8, mg9, mg10, mg11, mg12, mg13, mg14, mg15, mg16, mg17, mg18, mg19, mg20, mg21, mgl, Nat.reduceLT, va_up_self, inB_nI hs (by decide), es, b4, h8]
  by_cases hz : (s_hi σ s).length = 8
  · rw [if_pos hz]
    have := l_rem0 (E := E) (d := d) (c := c) (n := n) (K := K) (h := h) (a4 := .retAddr 0) A R hs hlen hz hC hx100 hx hk 7 1 (M.2.2 5) (by decide) (Nat.le_refl 1) (fun r t _ _ _ => rfl) (fun t ht => absurd ht (by omega)) (fun t _ ht => R.2.2.2.2.2.2.1 s hs t (by omega))
    rw [va_same] at this
    exact this
  · rw [if_neg hz]
    refine l_rem1 A R hs hlen (by omega) hC hx100 hx (fun M' R' => hk M' ?_)
    unfold rememberF
    rw [show fitHi (s_hi σ s) = s_hi σ s from if_neg hz]
    exact R'
end MD12
