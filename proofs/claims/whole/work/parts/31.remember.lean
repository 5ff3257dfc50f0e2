def putHi (σ : Sg) (s : Nat) (l : List Nat) : Sg := w_hi σ (upN (s_hi σ) s l)
def fitHi (l : List Nat) : List Nat := if l.length = 8 then l.tail else l
def fitCm (l : List Nat) : List Nat := if l.length = 12 then l.tail else l
def cutCm (σ : Sg) (x : Nat) : List Nat := (s_cm σ).filter (fun y => y != x)
def rememberF (σ : Sg) (s x : Nat) : Sg :=
  if s_pv σ s = false then w_cm (putHi σ s (fitHi (s_hi σ s) ++ [x])) (fitCm (cutCm σ x) ++ [x]) else putHi σ s (fitHi (s_hi σ s) ++ [x])
theorem getD_app {l : List Nat} {x k : Nat} (h : k < l.length) : (l ++ [x]).getD k 0 = l.getD k 0 := by
  rw [List.getD_eq_getElem?_getD, List.getD_eq_getElem?_getD, List.getElem?_append_left h]
theorem getD_last {l : List Nat} {x : Nat} : (l ++ [x]).getD l.length 0 = x := by
  rw [List.getD_eq_getElem?_getD]; simp
theorem getD_tail {l : List Nat} {k : Nat} : l.tail.getD k 0 = l.getD (k + 1) 0 := by
  cases l with
  | nil => rfl
  | cons a t => rfl
theorem RM.hi {M : MS} {σ : Sg} {th : Nat} (R : RM σ th M) {s : Nat} {l : List Nat} {g : Nat → Int32} (hs : s < 4) (hlen : ∀ i, (s_hi σ i).length ≤ 8) (h1 : ∀ i k, i < 4 → i ≠ s → k < 8 → g (8 * i + k) = M.2.2 5 (8 * i + k)) (h2 : ∀ k, k < l.length → g (8 * s + k) = nI (l.getD k 0)) : RM (putHi σ s l) th (M.1, M.2.1, va_up (va_up M.2.2 4 (upd (M.2.2 4) s (nI l.length))) 5 g) := by
  obtain ⟨⟨a0, a1, a2, a3, a4, a5, a6⟩, b0, b1, b2q, b3, b4, b5, b6, b7, b8, b9, b10, b11, b12, b13, b14⟩ := R
  refine ⟨⟨a0, a1, a2, a3, a4, a5, a6⟩, b0, b1, b2q, b3, ?_, ?_, b6, b7, b8, b9, b10, b11, b12, b13, b14⟩
  · intro i hi
    show va_up (va_up M.2.2 4 (upd (M.2.2 4) s (nI l.length))) 5 g 4 i = nI (upN (s_hi σ) s l i).length
    simp only [va_up, Nat.reduceEqDiff, reduceIte, upd, upN]
    by_cases h : i = s
    · simp only [h, if_true, reduceIte]
    · simp only [h, if_false, reduceIte]; exact b4 i hi
  · intro i hi k hk
    have hk : k < (upN (s_hi σ) s l i).length := hk
    show va_up (va_up M.2.2 4 (upd (M.2.2 4) s (nI l.length))) 5 g 5 (8 * i + k) = nI ((upN (s_hi σ) s l i).getD k 0)
    simp only [va_up, Nat.reduceEqDiff, reduceIte, upN] at hk ⊢
    by_cases h : i = s
    · simp only [h, if_true, reduceIte] at hk ⊢; exact h2 k hk
    · simp only [h, if_false, reduceIte] at hk ⊢
      have := hlen i
      rw [h1 i k hi h (by omega)]; exact b5 i hi k hk
theorem RM.cm {M : MS} {σ : Sg} {th : Nat} (R : RM σ th M) {l : List Nat} {f : Nat → Int32} (hf : ∀ k, k < l.length → f k = nI (l.getD k 0)) : RM (w_cm σ l) th (va_up M.1 4 (nI l.length), M.2.1, va_up M.2.2 6 f) := by
  obtain ⟨⟨a0, a1, a2, a3, a4, a5, a6⟩, b0, b1, b2q, b3, b4, b5, b6, b7, b8, b9, b10, b11, b12, b13, b14⟩ := R
  exact ⟨⟨a0, a1, a2, a3, (by show va_up M.1 4 (nI l.length) 4 = _; exact va_up_self _ _ _), a5, a6⟩, b0, b1, b2q, b3, b4, b5, (fun k hk => by show va_up M.2.2 6 f 6 k = _; rw [va_up_self]; exact hf k hk), b7, b8, b9, b10, b11, b12, b13, b14⟩
section MD11
variable {E : EN} {d : Nat} {h : AH} {c n : Nat} {K : Out → AH → Prop} {mo : Nat} {ad : Nat → Nat} {M : MS} {σ : Sg} {th : Nat}
/-- the third loop: the common list is shifted, and on to the end -/
theorem l_rem3 (A : ADok mo ad) (R : RM σ th M) {s x : Nat} {v1 : Value} {l : List Nat} (hl : l.length = 12) (hk : ∀ M', RM (w_cm σ (l.tail ++ [x])) th M' → K (.inl none) (mv h mo ad M')) : ∀ k i (f : Nat → Int32), k + i = 12 → 1 ≤ i → (∀ t, t + 1 < i → f t = nI (l.getD (t + 1) 0)) → (∀ t, i ≤ t → t < 12 → f t = nI (l.getD t 0)) →
    Ev E d mX5_remembers K 157 [.ref mo, v1, .int (nI x), .int (nI 12), .int (nI i)] [] (mv h mo ad (M.1, M.2.1, va_up M.2.2 6 f)) c n := by
  intro k
  induction k with
  | zero =>
    intro i f hi hi1 h1 h2
    have hi : i = 12 := by omega
    subst hi
    have hx : nI 12 + (-1) = nI 11 := pk_m1 11
    have e1 : (nI 11).toNatClampNeg = 11 := nI_clamp (by decide)
    rw [hX5_remembers_157]
    simp only [eX5_remembers_159, eX5_remembers_160, eX5_remembers_163, eX5_remembers_164, eX5_remembers_167, eX5_remembers_169, eX5_remembers_170, eX5_remembers_171, eX5_remembers_172, eX5_remembers_175, eX5_remembers_177, eX5_remembers_178, eX5_remembers_179, eX5_remembers_182, eX5_remembers_185, eX5_remembers_188, eX5_remembers_189, eX5_remembers_192, eX5_remembers_193, eX5_remembers_194, eX5_remembers_195, eX5_remembers_196, eX5_remembers_197, eX5_remembers_198, eX5_remembers_199, eX5_remembers_202, isA_r, isA_n, isI_i, isF_f, isL_l, is1_i, is1_r, is1_n, is1_f, true_and, and_true, List.length_cons, List.length_nil, Nat.reduceAdd, Nat.reduceLeDiff, Nat.reduceSub, Option.some.injEq, exists_eq_left', aft_s, aft_n, ite_true, ite_false, if_true, if_false, Nat.zero_le, Nat.le_refl, reduceCtorEq, mv_ob, mr0 A, mw0 A, ms0 A, mr1 A, mw1 A, ms1 A, mr2 A, mw2 A, ms2 A, mr3 A, mw3 A, ms3 A, mr4 A, mw4 A, ms4 A, mr5 A, mw5 A, ms5 A, mr6 A, mw6 A, ms6 A, mr7 A, mw7 A, ms7 A, mr8 A, mw8 A, ms8 A, mr9 A, mw9 A, ms9 A, mr10 A, mw10 A, ms10 A, mr11 A, mw11 A, ms11 A, mr12 A, mw12 A, ms12 A, mr13 A, mw13 A, ms13 A, mr14 A, mw14 A, ms14 A, mf0, mf1, mf2, mf3, mf4, mf5, mf6, mg0, mg1, mg2, mg3, mg4, mg5, mg6, mg7, mg8, mg9, mg10, mg11, mg12, mg13, mg14, mg15, mg16, mg17, mg18, mg19, mg20, mg21, mgl, Nat.reduceLT, va_up_self, if_neg (nI_nlt (show 12 ≤ 12 by decide) (by decide)), hx, e1, inB_nI (show 11 < 13 by decide) (by decide), nI_1]
    have := R.cm (l := l.tail ++ [x]) (f := upd f 11 (nI x)) (fun k hk => by
      rw [List.length_append, List.length_tail, hl] at hk
      have hk : k < 12 := hk
      unfold upd
      by_cases hz : k = 11
      · rw [if_pos hz, hz, List.getD_eq_getElem?_getD]
        have : l.tail.length = 11 := by rw [List.length_tail, hl]
        rw [List.getElem?_append_right (by omega), this]
        rfl
      · rw [if_neg hz, getD_app (by rw [List.length_tail, hl]; omega), getD_tail]
        exact h1 k (by omega))
    have hll : (l.tail ++ [x]).length = 12 := by rw [List.length_append, List.length_tail, hl]; rfl
    rw [hll] at this
    exact hk _ (by simpa only [bx_uu] using this)
  | succ k ih =>
    intro i f hi hi1 h1 h2
    have e1 : (nI i).toNatClampNeg = i := nI_clamp (by omega)
    have hx : nI i - 1 = nI (i - 1) := by rw [show (1 : Int32) = nI 1 from rfl]; exact pk_sub hi1
    have e2 : (nI (i - 1)).toNatClampNeg = i - 1 := nI_clamp (by omega)
    rw [hX5_remembers_157]
    simp only [eX5_remembers_159, eX5_remembers_160, eX5_remembers_163, eX5_remembers_164, eX5_remembers_167, eX5_remembers_169, eX5_remembers_170, eX5_remembers_171, eX5_remembers_172, eX5_remembers_175, eX5_remembers_177, eX5_remembers_178, eX5_remembers_179, eX5_remembers_182, eX5_remembers_185, eX5_remembers_188, eX5_remembers_189, eX5_remembers_192, eX5_remembers_193, eX5_remembers_194, eX5_remembers_195, eX5_remembers_196, eX5_remembers_197, eX5_remembers_198, eX5_remembers_199, eX5_remembers_202, isA_r, isA_n, isI_i, isF_f, isL_l, is1_i, is1_r, is1_n, is1_f, true_and, and_true, List.length_cons, List.length_nil, Nat.reduceAdd, Nat.reduceLeDiff, Nat.reduceSub, Option.some.injEq, exists_eq_left', aft_s, aft_n, ite_true, ite_false, if_true, if_false, Nat.zero_le, Nat.le_refl, reduceCtorEq, mv_ob, mr0 A, mw0 A, ms0 A, mr1 A, mw1 A, ms1 A, mr2 A, mw2 A, ms2 A, mr3 A, mw3 A, ms3 A, mr4 A, mw4 A, ms4 A, mr5 A, mw5 A, ms5 A, mr6 A, mw6 A, ms6 A, mr7 A, mw7 A, ms7 A, mr8 A, mw8 A, ms8 A, mr9 A, mw9 A, ms9 A, mr10 A, mw10 A, ms10 A, mr11 A, mw11 A, ms11 A, mr12 A, mw12 A, ms12 A, mr13 A, mw13 A, ms13 A, mr14 A, mw14 A, ms14 A, mf0, mf1, mf2, mf3, mf4, mf5, mf6, mg0, mg1, mg2, mg3, mg4, mg5, mg6, mg7, mg8, mg9, mg10, mg11, mg12, mg13, mg14, mg15, mg16, mg17, mg18, mg19, mg20, mg21, mgl, Nat.reduceLT, va_up_self, if_pos (nI_lt (show i < 12 by omega) (by decide)), hx, e1, e2, inB_nI (show i - 1 < 13 by omega) (by decide), inB_nI (show i < 13 by omega) (by decide), nI_1, bx_uu]
    have := ih (i + 1) (upd f (i - 1) (f i)) (by omega) (by omega) (fun t ht => by
      unfold upd
      by_cases hz : t = i - 1
      · rw [if_pos hz, h2 i (Nat.le_refl i) (by omega), hz]
        congr 2
        omega
      · rw [if_neg hz]; exact h1 t (by omega)) (fun t ht ht2 => by
      unfold upd
      rw [if_neg (by omega)]
      exact h2 t (by omega) ht2)
    exact this
/-- the second loop: the command is taken out of the common list -/
theorem l_rem2 (A : ADok mo ad) (R : RM σ th M) (hC : (s_cm σ).length ≤ 12) (hx100 : ∀ y ∈ s_cm σ, y < 100) {x : Nat} (hx : x < 100) {v1 : Value} (hk : ∀ M', RM (w_cm σ (fitCm (cutCm σ x) ++ [x])) th M' → K (.inl none) (mv h mo ad M')) : ∀ k i (f : Nat → Int32), k + i = (s_cm σ).length → (∀ t, t < (((s_cm σ).take i).filter (fun y => y != x)).length → f t = nI ((((s_cm σ).take i).filter (fun y => y != x)).getD t 0)) → (∀ t, i ≤ t → t < (s_cm σ).length → f t = nI ((s_cm σ).getD t 0)) →
    Ev E d mX5_remembers K 101 [.ref mo, v1, .int (nI x), .int (nI (((s_cm σ).take i).filter (fun y => y != x)).length), .int (nI i)] [] (mv h mo ad (M.1, M.2.1, va_up M.2.2 6 f)) c n := by
  intro k
  induction k with
  | zero =>
    intro i f hi h1 h2
    have ht : (s_cm σ).take i = s_cm σ := List.take_of_length_le (by omega)
    rw [ht] at h1 ⊢
    change Ev E d mX5_remembers K 101 [.ref mo, v1, .int (nI x), .int (nI (cutCm σ x).length), .int (nI i)] [] _ c n
    change ∀ t, t < (cutCm σ x).length → f t = nI ((cutCm σ x).getD t 0) at h1
    have hlen : (cutCm σ x).length ≤ 12 := Nat.le_trans (List.length_filter_le _ _) hC
    generalize hl : cutCm σ x = l at h1 hlen hk
    have h12 : (nI l.length = 12) ↔ l.length = 12 := nI_eq (by omega) (by decide)
    have e1 : (nI l.length).toNatClampNeg = l.length := nI_clamp (by omega)
    rw [hX5_remembers_101]
    simp only [eX5_remembers_103, eX5_remembers_104, eX5_remembers_107, eX5_remembers_110, eX5_remembers_111, eX5_remembers_114, eX5_remembers_115, eX5_remembers_116, eX5_remembers_119, eX5_remembers_121, eX5_remembers_122, eX5_remembers_123, eX5_remembers_124, eX5_remembers_125, eX5_remembers_128, eX5_remembers_130, eX5_remembers_131, eX5_remembers_132, eX5_remembers_135, eX5_remembers_136, eX5_remembers_139, eX5_remembers_140, eX5_remembers_141, eX5_remembers_142, eX5_remembers_145, eX5_remembers_148, eX5_remembers_149, eX5_remembers_151, eX5_remembers_154, eX5_remembers_155, eX5_remembers_188, eX5_remembers_189, eX5_remembers_192, eX5_remembers_193, eX5_remembers_194, eX5_remembers_195, eX5_remembers_196, eX5_remembers_197, eX5_remembers_198, eX5_remembers_199, eX5_remembers_202, isA_r, isA_n, isI_i, isF_f, isL_l, is1_i, is1_r, is1_n, is1_f, true_and, and_true, List.length_cons, List.length_nil, Nat.reduceAdd, Nat.reduceLeDiff, Nat.reduceSub, Option.some.injEq, exists_eq_left', aft_s, aft_n, ite_true, ite_false, if_true, if_false, Nat.zero_le, Nat.le_refl, reduceCtorEq, mv_ob, mr0 A, mw0 A, ms0 A, mr1 A, mw1 A, ms1 A, mr2 A, mw2 A, ms2 A, mr3 A, mw3 A, ms3 A, mr4 A, mw4 A, ms4 A, mr5 A, mw5 A, ms5 A, mr6 A, mw6 A, ms6 A, mr7 A, mw7 A, ms7 A, mr8 A, mw8 A, ms8 A, mr9 A, mw9 A, ms9 A, mr10 A, mw10 A, ms10 A, mr11 A, mw11 A, ms11 A, mr12 A, mw12 A, ms12 A, mr13 A, mw13 A, ms13 A, mr14 A, mw14 A, ms14 A, mf0, mf1, mf2, mf3, mf4, mf5, mf6, mg0, mg1, mg2, mg3, mg4, mg5, mg6, mg7, mg8, mg9, mg10, mg11, mg12, mg13, mg14, mg15, mg16, mg17, mg18, mg19, mg20, mg21, mgl, Nat.reduceLT, va_up_self, R.1.2.2.2.2.1, if_neg (nI_nlt (show (s_cm σ).length ≤ i by omega) (by omega)), h12, e1, inB_nI (show l.length < 13 by omega) (by decide), nI_1]
    by_cases hz : l.length = 12
    · rw [if_pos hz]
      have hf : fitCm l = l.tail := if_pos hz
      rw [hf] at hk
      rw [hz]
      exact l_rem3 A R (s := 0) hz hk 11 1 f (by decide) (Nat.le_refl 1) (fun t ht => absurd ht (by omega)) (fun t _ ht => h1 t (by omega))
    · rw [if_neg hz]
      have hf : fitCm l = l := if_neg hz
      rw [hf] at hk
      have := R.cm (l := l ++ [x]) (f := upd f l.length (nI x)) (fun k hk => by
        rw [List.length_append] at hk
        have hk : k < l.length + 1 := hk
        unfold upd
        by_cases hz : k = l.length
        · rw [if_pos hz, hz, getD_last]
        · rw [if_neg hz, getD_app (by omega)]; exact h1 k (by omega))
      have hll : (l ++ [x]).length = l.length + 1 := by rw [List.length_append]; rfl
      rw [hll] at this
      exact hk _ (by simpa only [bx_uu] using this)
  | succ k ih =>
    intro i f hi h1 h2
    have hil : i < (s_cm σ).length := by omega
    have hnle : (((s_cm σ).take i).filter (fun y => y != x)).length ≤ i := Nat.le_trans (List.length_filter_le _ _) (by rw [List.length_take]; omega)
    have e1 : (nI i).toNatClampNeg = i := nI_clamp (by omega)
    have e2 : (nI (((s_cm σ).take i).filter (fun y => y != x)).length).toNatClampNeg = (((s_cm σ).take i).filter (fun y => y != x)).length := nI_clamp (by omega)
    have hfi := h2 i (Nat.le_refl i) hil
    have hread : upd f (((s_cm σ).take i).filter (fun y => y != x)).length (f i) i = nI ((s_cm σ).getD i 0) := by
      unfold upd
      by_cases hz : i = (((s_cm σ).take i).filter (fun y => y != x)).length
      · rw [if_pos hz]; exact hfi
      · rw [if_neg hz]; exact hfi
    have hmem : (s_cm σ).getD i 0 ∈ s_cm σ := by rw [List.getD_eq_getElem?_getD, List.getElem?_eq_getElem hil]; exact List.getElem_mem hil
    have hlt100 := hx100 _ hmem
    have heq : (nI ((s_cm σ).getD i 0) = nI x) ↔ (s_cm σ).getD i 0 = x := nI_eq (by omega) (by omega)
    have htk : (s_cm σ).take (i + 1) = (s_cm σ).take i ++ [(s_cm σ).getD i 0] := by
      rw [List.take_succ, List.getElem?_eq_getElem hil, List.getD_eq_getElem?_getD, List.getElem?_eq_getElem hil]
      rfl
    rw [hX5_remembers_101]
    simp only [eX5_remembers_103, eX5_remembers_104, eX5_remembers_107, eX5_remembers_110, eX5_remembers_111, eX5_remembers_114, eX5_remembers_115, eX5_remembers_116, eX5_remembers_119, eX5_remembers_121, eX5_remembers_122, eX5_remembers_123, eX5_remembers_124, eX5_remembers_125, eX5_remembers_128, eX5_remembers_130, eX5_remembers_131, eX5_remembers_132, eX5_remembers_135, eX5_remembers_136, eX5_remembers_139, eX5_remembers_140, eX5_remembers_141, eX5_remembers_142, eX5_remembers_145, isA_r, isA_n, isI_i, isF_f, isL_l, is1_i, is1_r, is1_n, is1_f, true_and, and_true, List.length_cons, List.length_nil, Nat.reduceAdd, Nat.reduceLeDiff, Nat.reduceSub, Option.some.injEq, exists_eq_left', aft_s, aft_n, ite_true, ite_false, if_true, if_false, Nat.zero_le, Nat.le_refl, reduceCtorEq, mv_ob, mr0 A, mw0 A, ms0 A, mr1 A, mw1 A, ms1 A, mr2 A, mw2 A, ms2 A, mr3 A, mw3 A, ms3 A, mr4 A, mw4 A, ms4 A, mr5 A, mw5 A, ms5 A, mr6 A, mw6 A, ms6 A, mr7 A, mw7 A, ms7 A, mr8 A, mw8 A, ms8 A, mr9 A, mw9 A, ms9 A, mr10 A, mw10 A, ms10 A, mr11 A, mw11 A, ms11 A, mr12 A, mw12 A, ms12 A, mr13 A, mw13 A, ms13 A, mr14 A, mw14 A, ms14 A, mf0, mf1, mf2, mf3, mf4, mf5, mf6, mg0, mg1, mg2, mg3, mg4, mg5, mg6, mg7, mg8, mg9, mg10, mg11, mg12, mg13, mg14, mg15, mg16, mg17, mg18, mg19, mg20, mg21, mgl, Nat.reduceLT, va_up_self, R.1.2.2.2.2.1, if_pos (nI_lt hil (by omega)), inB_nI (show i < 13 by omega) (by decide), inB_nI (show (((s_cm σ).take i).filter (fun y => y != x)).length < 13 by omega) (by decide), e1, e2, bx_uu, hread, heq, nI_1]
    have h2' : ∀ t, i + 1 ≤ t → t < (s_cm σ).length → upd f (((s_cm σ).take i).filter (fun y => y != x)).length (f i) t = nI ((s_cm σ).getD t 0) := by
      intro t ht ht2
      unfold upd
      rw [if_neg (by omega)]
      exact h2 t (by omega) ht2
    by_cases hj2 : (s_cm σ).getD i 0 = x
    · rw [if_pos hj2]
      have hfl : ((s_cm σ).take (i + 1)).filter (fun y => y != x) = ((s_cm σ).take i).filter (fun y => y != x) := by
        rw [htk, List.filter_append, List.filter_cons]
        have hj3 := hj2
        rw [List.getD_eq_getElem?_getD] at hj3
        simp [hj3]
      have := ih (i + 1) (upd f (((s_cm σ).take i).filter (fun y => y != x)).length (f i)) (by omega) (by
        rw [hfl]
        intro t ht
        unfold upd
        rw [if_neg (by omega)]
        exact h1 t ht) h2'
      rw [hfl] at this
      simpa only [Int32.add_zero] using this
    · rw [if_neg hj2]
      have hfl : ((s_cm σ).take (i + 1)).filter (fun y => y != x) = ((s_cm σ).take i).filter (fun y => y != x) ++ [(s_cm σ).getD i 0] := by
        rw [htk, List.filter_append, List.filter_cons]
        have hj3 := hj2
        rw [List.getD_eq_getElem?_getD] at hj3
        simp [hj3]
      have := ih (i + 1) (upd f (((s_cm σ).take i).filter (fun y => y != x)).length (f i)) (by omega) (by
        rw [hfl]
        intro t ht
        rw [List.length_append] at ht
        unfold upd
        by_cases hz : t = (((s_cm σ).take i).filter (fun y => y != x)).length
        · rw [if_pos hz, hfi, hz, getD_last]
        · have ht : t < (((s_cm σ).take i).filter (fun y => y != x)).length + 1 := ht
          rw [if_neg hz, h1 t (by omega), getD_app (by omega)]) h2'
      rw [hfl, List.length_append] at this
      exact this
theorem va_same {M : MS} {k : Nat} : va_up M.2.2 k (M.2.2 k) = M.2.2 := by
  funext i
  unfold va_up
  split
  · next hz => rw [hz]
  · rfl
/-- behind the first loop -/
theorem l_rem1 (A : ADok mo ad) (R : RM σ th M) {s x : Nat} (hs : s < 4) (hlen : ∀ i, (s_hi σ i).length ≤ 8) (hl7 : (s_hi σ s).length ≤ 7) (hC : (s_cm σ).length ≤ 12) (hx100 : ∀ y ∈ s_cm σ, y < 100) (hx : x < 100) (hk : ∀ M', RM (if s_pv σ s = false then w_cm (putHi σ s (s_hi σ s ++ [x])) (fitCm (cutCm σ x) ++ [x]) else putHi σ s (s_hi σ s ++ [x])) th M' → K (.inl none) (mv h mo ad M')) {a3 a4 : Value} :
    Ev E d mX5_remembers K 59 [.ref mo, .int (nI s), .int (nI x), a3, a4] [] (mv h mo ad M) c n := by
  have e1 : (nI s).toNatClampNeg = s := nI_clamp (by omega)
  have b4 := R.2.2.2.2.2.1 s hs
  have b0 := R.2.1 s hs
  have x0 : (8 : Int32) * nI s = nI (8 * s) := pk_mul 8 s
  have e2 : (nI (8 * s + (s_hi σ s).length)).toNatClampNeg = 8 * s + (s_hi σ s).length := nI_clamp (by omega)
  have R1 := R.hi (s := s) (l := s_hi σ s ++ [x]) (g := upd (M.2.2 5) (8 * s + (s_hi σ s).length) (nI x)) hs hlen (fun i k hi his hk => by
      unfold upd
      rw [if_neg (by omega)]) (fun k hk => by
      rw [List.length_append] at hk
      have hk : k < (s_hi σ s).length + 1 := hk
      unfold upd
      by_cases hz : k = (s_hi σ s).length
      · rw [if_pos (by omega), hz, getD_last]
      · rw [if_neg (by omega), getD_app (by omega)]
        exact R.2.2.2.2.2.2.1 s hs k (by omega))
  have hll : (s_hi σ s ++ [x]).length = (s_hi σ s).length + 1 := by rw [List.length_append]; rfl
  rw [hll] at R1
  simp only [eX5_remembers_59, eX5_remembers_60, eX5_remembers_63, eX5_remembers_65, eX5_remembers_66, eX5_remembers_67, eX5_remembers_68, eX5_remembers_71, eX5_remembers_72, eX5_remembers_73, eX5_remembers_74, eX5_remembers_75, eX5_remembers_76, eX5_remembers_77, eX5_remembers_80, eX5_remembers_81, eX5_remembers_82, eX5_remembers_83, eX5_remembers_84, eX5_remembers_85, eX5_remembers_86, eX5_remembers_87, eX5_remembers_90, eX5_remembers_91, eX5_remembers_92, eX5_remembers_95, eX5_remembers_96, eX5_remembers_97, eX5_remembers_98, eX5_remembers_99, isA_r, isA_n, isI_i, isF_f, isL_l, is1_i, is1_r, is1_n, is1_f, true_and, and_true, List.length_cons, List.length_nil, Nat.reduceAdd, Nat.reduceLeDiff, Nat.reduceSub, Option.some.injEq, exists_eq_left', aft_s, aft_n, ite_true, ite_false, if_true, if_false, Nat.zero_le, Nat.le_refl, reduceCtorEq, mv_ob, mr0 A, mw0 A, ms0 A, mr1 A, mw1 A, ms1 A, mr2 A, mw2 A, ms2 A, mr3 A, mw3 A, ms3 A, mr4 A, mw4 A, ms4 A, mr5 A, mw5 A, ms5 A, mr6 A, mw6 A, ms6 A, mr7 A, mw7 A, ms7 A, mr8 A, mw8 A, ms8 A, mr9 A, mw9 A, ms9 A, mr10 A, mw10 A, ms10 A, mr11 A, mw11 A, ms11 A, mr12 A, mw12 A, ms12 A, mr13 A, mw13 A, ms13 A, mr14 A, mw14 A, ms14 A, mf0, mf1, mf2, mf3, mf4, mf5, mf6, mg0, mg1, mg2, mg3, mg4, mg5, mg6, mg7, mg8, mg9, mg10, mg11, mg12, mg13, mg14, mg15, mg16, mg17, mg18, mg19, mg20, mg21, mgl, Nat.reduceLT, va_up_self, inB_nI hs (by decide), e1, b4, x0, nI_add, e2, inB_nI (show 8 * s + (s_hi σ s).length < 32 by omega) (by decide), nI_1, va_up, Nat.reduceEqDiff, reduceIte, b0, b2_0]
  have hcomm : (M.1, M.2.1, va_up (va_up M.2.2 5 (upd (M.2.2 5) (8 * s + (s_hi σ s).length) (nI x))) 4 (upd (M.2.2 4) s (nI ((s_hi σ s).length + 1)))) = ((M.1, M.2.1, va_up (va_up M.2.2 4 (upd (M.2.2 4) s (nI ((s_hi σ s).length + 1)))) 5 (upd (M.2.2 5) (8 * s + (s_hi σ s).length) (nI x))) : MS) := by
    congr 2
    funext k
    simp only [va_up]
    by_cases h5 : k = 5
    · simp [h5]
    · by_cases h4 : k = 4
      · simp [h4]
      · simp [h4, h5]
  have goal : ∀ M1, RM (putHi σ s (s_hi σ s ++ [x])) th M1 → (if s_pv σ s = false then Ev E d mX5_remembers K 101 [.ref mo, .int (nI s), .int (nI x), .int 0, .int 0] [] (mv h mo ad M1) c n else K (.inl none) (mv h mo ad M1)) := by
    intro M1 R1
    by_cases hp : s_pv σ s = false
    · rw [if_pos hp]
      rw [if_pos hp] at hk
      have := l_rem2 (E := E) (d := d) (c := c) (n := n) (K := K) (h := h) (v1 := .int (nI s)) A R1 hC hx100 hx hk (s_cm σ).length 0 (M1.2.2 6) (by rfl) (fun t ht => absurd ht (by simp)) (fun t _ ht => R1.2.2.2.2.2.2.2.1 t ht)
      rw [va_same] at this
      exact this
    · rw [if_neg hp]
      rw [if_neg hp] at hk
      exact hk _ R1
  have := goal _ (hcomm ▸ R1)
  simpa only [va_up, Nat.reduceEqDiff, reduceIte] using this
end MD11
