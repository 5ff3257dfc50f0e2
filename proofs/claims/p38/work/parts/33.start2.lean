theorem nI_sur (v : Int32) : ∃ n, v = nI n := by
  refine ⟨v.toBitVec.toNat, ?_⟩
  apply Int32.toBitVec_inj.1
  show v.toBitVec = BitVec.ofNat 32 v.toBitVec.toNat
  simp
theorem rem_st {Y : Sg} {g : Nat → Nat} {s x : Nat} : rememberF (w_st Y g) s x = w_st (rememberF Y s x) g := by
  unfold rememberF
  rw [show s_pv (w_st Y g) = s_pv Y from rfl]
  split <;> rfl
theorem com_st {X : Sg} {j v0 : Nat} {f : Nat → Nat} (hf : s_st X = f) : comesF (w_st X (upN f j v0)) j 119 = comesF X j 119 := by
  unfold comesF
  rw [g_st_st, g_jn_st, upN_upN, hf]
  rfl
theorem od_st {X : Sg} {g : Nat → Nat} {l : List Nat} : w_od (w_st X g) l = w_st (w_od X l) g := by
  obtain ⟨x0, x1, x2, x3, x4, x5, x6, x7, x8, x9, x10, x11, x12, x13, x14, x15⟩ := X
  simp only [w_od, w_st, s_nS, s_nJ, s_wk, s_pv, s_dr, s_fr, s_pk, s_hi, s_cm, s_se, s_lf, s_nd, s_st, s_hl, s_od, s_jn]
theorem rem_keep {Y : Sg} {s x : Nat} : s_nJ (rememberF Y s x) = s_nJ Y ∧ s_nd (rememberF Y s x) = s_nd Y ∧ s_od (rememberF Y s x) = s_od Y ∧ s_jn (rememberF Y s x) = s_jn Y ∧ s_st (rememberF Y s x) = s_st Y := by
  unfold rememberF
  split <;> exact ⟨rfl, rfl, rfl, rfl, rfl⟩
theorem sta_keep {σ : Sg} {s w l : Nat} {f : Bool} : s_nJ (startF σ s w l f) = s_nJ σ + 1 ∧ s_nd (startF σ s w l f) = upN (s_nd σ) (s_nJ σ) l ∧ s_od (startF σ s w l f) = s_od σ ∧ s_jn (startF σ s w l f) = s_jn σ ∧ s_st (startF σ s w l f) = s_st σ ∧ s_hi (startF σ s w l f) = s_hi σ ∧ s_cm (startF σ s w l f) = s_cm σ ∧ s_pv (startF σ s w l f) = s_pv σ := by
  unfold startF
  split <;> exact ⟨rfl, rfl, rfl, rfl, rfl, rfl, rfl, rfl⟩
theorem w_in {w : Int32} (h1 : ¬ w < 1) (h2 : ¬ 50 < w) : ∃ k : Nat, k ≤ 50 ∧ 1 ≤ k ∧ w = nI k := by
  rw [Int32.lt_iff_toInt_lt] at h1 h2
  have e1 : (1 : Int32).toInt = 1 := by decide
  have e2 : (50 : Int32).toInt = 50 := by decide
  rw [e1] at h1
  rw [e2] at h2
  obtain ⟨k, hk, he⟩ := nI_of (x := w) (by rw [Int32.lt_iff_toInt_lt]; have : (0 : Int32).toInt = 0 := by decide
                                           omega)
  subst he
  rw [nI_toInt hk] at h1 h2
  exact ⟨k, by omega, by omega, rfl⟩
section MD13
variable {E : EN} {d : Nat} {h : AH} {c n : Nat} {K : Out → AH → Prop} {mo : Nat} {ad : Nat → Nat} {M : MS} {σ : Sg} {th : Nat}
end MD13
