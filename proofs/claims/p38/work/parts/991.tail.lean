/-! the law's loop: its frame, its end of a step -/
theorem rm_2 {m : Nat} (hm : m < 1000) : nI m - nI m / (2 : Int32) * 2 = nI (m % 2) := pk_rem (a := m) (d := 2) (by omega) (by omega) (by omega)
theorem nz_2 : ((2 : Int32) = 0) = False := eq_false (by decide)
theorem rm_3 {m : Nat} (hm : m < 1000) : nI m - nI m / (3 : Int32) * 3 = nI (m % 3) := pk_rem (a := m) (d := 3) (by omega) (by omega) (by omega)
theorem nz_3 : ((3 : Int32) = 0) = False := eq_false (by decide)
theorem rm_4 {m : Nat} (hm : m < 1000) : nI m - nI m / (4 : Int32) * 4 = nI (m % 4) := pk_rem (a := m) (d := 4) (by omega) (by omega) (by omega)
theorem nz_4 : ((4 : Int32) = 0) = False := eq_false (by decide)
theorem rm_6 {m : Nat} (hm : m < 1000) : nI m - nI m / (6 : Int32) * 6 = nI (m % 6) := pk_rem (a := m) (d := 6) (by omega) (by omega) (by omega)
theorem nz_6 : ((6 : Int32) = 0) = False := eq_false (by decide)
theorem rm_8 {m : Nat} (hm : m < 1000) : nI m - nI m / (8 : Int32) * 8 = nI (m % 8) := pk_rem (a := m) (d := 8) (by omega) (by omega) (by omega)
theorem nz_8 : ((8 : Int32) = 0) = False := eq_false (by decide)
theorem rm_11 {m : Nat} (hm : m < 1000) : nI m - nI m / (11 : Int32) * 11 = nI (m % 11) := pk_rem (a := m) (d := 11) (by omega) (by omega) (by omega)
theorem nz_11 : ((11 : Int32) = 0) = False := eq_false (by decide)
theorem rm_23 {m : Nat} (hm : m < 1000) : nI m - nI m / (23 : Int32) * 23 = nI (m % 23) := pk_rem (a := m) (d := 23) (by omega) (by omega) (by omega)
theorem nz_23 : ((23 : Int32) = 0) = False := eq_false (by decide)
theorem rm_29 {m : Nat} (hm : m < 1000) : nI m - nI m / (29 : Int32) * 29 = nI (m % 29) := pk_rem (a := m) (d := 29) (by omega) (by omega) (by omega)
theorem nz_29 : ((29 : Int32) = 0) = False := eq_false (by decide)
theorem rm_31 {m : Nat} (hm : m < 1000) : nI m - nI m / (31 : Int32) * 31 = nI (m % 31) := pk_rem (a := m) (d := 31) (by omega) (by omega) (by omega)
theorem nz_31 : ((31 : Int32) = 0) = False := eq_false (by decide)
theorem rm_41 {m : Nat} (hm : m < 1000) : nI m - nI m / (41 : Int32) * 41 = nI (m % 41) := pk_rem (a := m) (d := 41) (by omega) (by omega) (by omega)
theorem nz_41 : ((41 : Int32) = 0) = False := eq_false (by decide)
theorem JJ_top {σ : Sg} {T : Nat} (G : Good σ T) (h : T + 60 ≤ 16384) : JJ σ ≤ 16384 := jcap_top (Nat.le_trans (G.2.1.len G.1.J) h)
theorem ar38 {a b c n X Y : Nat} (y : a ≤ b) (hb : b ≤ 16384) (hX : 82000 ≤ X) (hY : 459000 ≤ Y) (hc : X + 2390 ≤ a + c) (hn : Y + 14900 ≤ 4 * a + n) : (b - a + 400 ≤ c) ∧ (4 * (b - a + 400) ≤ n) ∧ (b + 400 ≤ a + (b - a + 400)) ∧ (4 * b + 1600 ≤ 4 * a + 4 * (b - a + 400)) ∧ (X + 1990 ≤ b + (c - (b - a + 400))) ∧ (Y + 13300 ≤ 4 * b + (n - 4 * (b - a + 400))) := by omega
abbrev lwF (b x aw al ao S J k i : Nat) (a10 a11 a12 a13 a14 a15 a16 a17 a18 a19 : Value) : List Value := [.ref b, .ref x, .ref aw, .ref al, .ref ao, .int (nI S), .int (nI J), .int 1, .int (nI k), .int (nI i), a10, a11, a12, a13, a14, a15, a16, a17, a18, a19]
def GI (E : EN) (P : Nat → Prop) (H0 : AH) (x aw al ao : Nat) (σ : Sg) (T : Nat) (fw : Nat → Nat) (fW fL fO : Nat → Int32) (H : AH) : Prop := CW E P H0 x σ H ∧ Good σ T ∧ Iv σ fw ∧ AJ P H0 aw al σ fw fW fL ∧ AF P H0 ao σ fO ∧ 2 ≤ s_nS σ
def NX (E : EN) (P : Nat → Prop) (d : Nat) (K : Out → AH → Prop) (b x aw al ao k i T X Y : Nat) (bf : Int64) : Prop := ∀ (σ : Sg) (fw : Nat → Nat) (fW fL fO : Nat → Int32) (H0 H : AH) (c n : Nat) (t : Int32) (a12 a13 a14 a15 a17 a18 a19 : Value), GI E P H0 x aw al ao σ (T + 30) fw fW fL fO H → (t = 0 ∨ (t = 1 ∧ sumF σ (s_nS σ) = bf)) → X + 1600 ≤ JJ σ + c → Y + 9500 ≤ 4 * JJ σ + n → Ev E (d + 14) mL_law K 1219 (lwF b x aw al ao (s_nS σ) (s_nJ σ) k i (.long bf) (.retAddr 0) a12 a13 a14 a15 (.int t) a17 a18 a19) [] H c n
section TAIL
variable {E : EN} {P : Nat → Prop} {H0 : AH} {b x aw al ao k i T X Y : Nat} {bf : Int64} {σ τ : Sg} {fw : Nat → Nat} {fW fL fO : Nat → Int32} {H : AH} {d c n : Nat} {K : Out → AH → Prop}
theorem NX.go (nx : NX E P d K b x aw al ao k i T X Y bf) {S J : Nat} {t : Int32} {a12 a13 a14 a15 a17 a18 a19 : Value} (g : GI E P H0 x aw al ao τ (T + 30) fw fW fL fO H) (e1 : s_nS τ = S) (e2 : s_nJ τ = J) (ht : t = 0 ∨ (t = 1 ∧ sumF τ (s_nS τ) = bf)) (hc : X + 1600 ≤ JJ τ + c) (hn : Y + 9500 ≤ 4 * JJ τ + n) : Ev E (d + 14) mL_law K 1219 (lwF b x aw al ao S J k i (.long bf) (.retAddr 0) a12 a13 a14 a15 (.int t) a17 a18 a19) [] H c n := by
  subst e1 e2
  exact nx τ fw fW fL fO H0 H c n t a12 a13 a14 a15 a17 a18 a19 g ht hc hn
theorem AJ.sm (A : AJ P H0 aw al σ fw fW fL) (S : Sm σ τ) : AJ P H0 aw al τ fw fW fL := ⟨A.1, A.2.1, by rw [S.2.1, S.2.2.2]; exact A.2.2⟩
theorem AF.sm (A : AF P H0 ao σ fO) (S : Sm σ τ) : AF P H0 ao τ fO := ⟨A.1, by rw [S.2.1, S.2.2.1]; exact A.2⟩
theorem GI.sm {H' : AH} (g : GI E P H0 x aw al ao σ T fw fW fL fO H) (S : Sm σ τ) (C : CW E P H0 x τ H') (G : Good τ (T + 30)) (I : Iv τ fw) : GI E P H0 x aw al ao τ (T + 30) fw fW fL fO H' := ⟨C, G, I, g.2.2.2.1.sm S, g.2.2.2.2.1.sm S, by rw [S.1]; exact g.2.2.2.2.2⟩
theorem i_4 (k : Nat) : nI k + 4 = nI (k + 4) := nI_add k 4
theorem k_tail (hT : T + 30 + 60 ≤ 16384) (hX : 82000 ≤ X) (hY : 459000 ≤ Y)
    (hd : ∀ (σ : Sg) (fw : Nat → Nat) (fW fL fO : Nat → Int32) (H0 H : AH) (c n : Nat) (a10 a11 a12 a13 a14 a15 a16 a17 a18 a19 : Value), GI E P H0 x aw al ao σ (T + 30) fw fW fL fO H → X ≤ JJ σ + c → Y ≤ 4 * JJ σ + n → Ev E (d + 14) mL_law K 60 (lwF b x aw al ao (s_nS σ) (s_nJ σ) (k + 4) (i + 1) a10 a11 a12 a13 a14 a15 a16 a17 a18 a19) [] H c n) : NX E P d K b x aw al ao k i T X Y bf := by
  intro σ fw fW fL fO H0 H c n t a12 a13 a14 a15 a17 a18 a19 g ht hc hn
  obtain ⟨C, G, I, A, F, h2⟩ := g
  have O := G.1
  have hJ1 := JJ_top G hT
  have hjn : (s_jn σ).length ≤ 16384 := Nat.le_trans (G.2.1.len O.J) hT
  have go : ∀ (H1 : AH) (c1 n1 : Nat), CW E P H0 x σ H1 → X + 1500 ≤ JJ σ + c1 → Y + 9000 ≤ 4 * JJ σ + n1 → Ev E (d + 14) mL_law K 1241 (lwF b x aw al ao (s_nS σ) (s_nJ σ) (k + 4) i (.long bf) (.retAddr 0) a12 a13 a14 a15 (.int t) a17 a18 a19) [.int 1] H1 c1 n1 := by
    intro H1 c1 n1 C1 hc1 hn1
    simp only [eL_law_1241, eL_law_1242, eL_law_1245, eL_law_1246, eL_law_1247, eL_law_1249, eL_law_1251, eL_law_1252, eL_law_1254, eL_law_1255, eL_law_1256, isA_r, isA_n, isI_i, isF_f, isL_l, is1_i, is1_r, is1_n, is1_f, true_and, and_true, List.length_cons, List.length_nil, Nat.reduceAdd, Nat.reduceLeDiff, Nat.reduceSub, Option.some.injEq, exists_eq_left', aft_s, aft_n, ite_true, ite_false, if_true, if_false, Nat.zero_le, Nat.le_refl, reduceCtorEq, and_11]
    refine invk 700 4200 (by omega) (by omega) (k_areJobs C1 O A I hjn (by omega) (by omega) (fun H2 C2 => ?_))
    simp only [eL_law_1259, eL_law_1262, eL_law_1263, eL_law_1265, eL_law_1267, eL_law_1269, isA_r, isA_n, isI_i, isF_f, isL_l, is1_i, is1_r, is1_n, is1_f, true_and, and_true, List.length_cons, List.length_nil, Nat.reduceAdd, Nat.reduceLeDiff, Nat.reduceSub, Option.some.injEq, exists_eq_left', aft_s, aft_n, ite_true, ite_false, if_true, if_false, Nat.zero_le, Nat.le_refl, reduceCtorEq, i1_0]
    refine invk 700 4200 (by omega) (by omega) (k_areFronts C2 O F I.1.2.2.1 (by omega) (by omega) (fun H3 C3 => ?_))
    simp only [eL_law_1272, eL_law_1275, eL_law_1276, eL_law_1279, eL_law_1280, eL_law_1281, eL_law_1283, eL_law_1286, isA_r, isA_n, isI_i, isF_f, isL_l, is1_i, is1_r, is1_n, is1_f, true_and, and_true, List.length_cons, List.length_nil, Nat.reduceAdd, Nat.reduceLeDiff, Nat.reduceSub, Option.some.injEq, exists_eq_left', aft_s, aft_n, ite_true, ite_false, if_true, if_false, Nat.zero_le, Nat.le_refl, reduceCtorEq, i1_0, and_11, nI_1]
    exact hd σ fw fW fL fO H0 H3 _ _ _ _ _ _ _ _ _ _ _ _ ⟨C3, G, I, A, F, h2⟩ (by omega) (by omega)
  rcases ht with rfl | ⟨rfl, hs⟩
  · have e0 : ((0 : Int32) = 0) = True := eq_true rfl
    simp only [eL_law_1219, eL_law_1222, eL_law_1224, eL_law_1226, isA_r, isA_n, isI_i, isF_f, isL_l, is1_i, is1_r, is1_n, is1_f, true_and, and_true, List.length_cons, List.length_nil, Nat.reduceAdd, Nat.reduceLeDiff, Nat.reduceSub, Option.some.injEq, exists_eq_left', aft_s, aft_n, ite_true, ite_false, if_true, if_false, Nat.zero_le, Nat.le_refl, reduceCtorEq, e0, i_4]
    exact go H c n C (by omega) (by omega)
  · simp only [eL_law_1219, eL_law_1222, eL_law_1224, eL_law_1226, eL_law_1229, eL_law_1230, eL_law_1232, isA_r, isA_n, isI_i, isF_f, isL_l, is1_i, is1_r, is1_n, is1_f, true_and, and_true, List.length_cons, List.length_nil, Nat.reduceAdd, Nat.reduceLeDiff, Nat.reduceSub, Option.some.injEq, exists_eq_left', aft_s, aft_n, ite_true, ite_false, if_true, if_false, Nat.zero_le, Nat.le_refl, reduceCtorEq, i1_0, i_4]
    refine invk 60 400 (by omega) (by omega) (k_sum C O (Nat.le_refl _) (by omega) (by omega) (fun H1 C1 => ?_))
    rw [hs]
    simp only [eL_law_1235, eL_law_1237, eL_law_1238, isA_r, isA_n, isI_i, isF_f, isL_l, is1_i, is1_r, is1_n, is1_f, true_and, and_true, List.length_cons, List.length_nil, Nat.reduceAdd, Nat.reduceLeDiff, Nat.reduceSub, Option.some.injEq, exists_eq_left', aft_s, aft_n, ite_true, ite_false, if_true, if_false, Nat.zero_le, Nat.le_refl, reduceCtorEq, lg_self, eq_self]
    exact go H1 _ _ C1 (by omega) (by omega)
end TAIL
