theorem upN_upN {α : Type} {f : Nat → α} {s : Nat} {a b : α} : upN (upN f s a) s b = upN f s b := by
  funext j
  unfold upN
  split <;> rfl
theorem putHi_putHi {σ : Sg} {s : Nat} {a b : List Nat} : putHi (putHi σ s a) s b = putHi σ s b := by
  unfold putHi
  rw [g_hi_hi, upN_upN]
  rfl
theorem putHi_hi {σ : Sg} {s : Nat} {a : List Nat} : s_hi (putHi σ s a) s = a := by
  unfold putHi
  rw [g_hi_hi, upN_s]
theorem putHi_cm {σ : Sg} {s : Nat} {a : List Nat} : s_cm (putHi σ s a) = s_cm σ := rfl
theorem putHi_pv {σ : Sg} {s : Nat} {a : List Nat} : s_pv (putHi σ s a) = s_pv σ := rfl
def start0 (σ : Sg) (s w l : Nat) : Sg := w_nd (w_lf (w_se (w_nJ σ (s_nJ σ + 1)) (upN (s_se σ) (s_nJ σ) s)) (upN (s_lf σ) (s_nJ σ) w)) (upN (s_nd σ) (s_nJ σ) l)
def startF (σ : Sg) (s w l : Nat) (f : Bool) : Sg := if f = false then start0 σ s w l else w_fr (start0 σ s w l) (upN (s_fr σ) s (some (s_nJ σ)))
def started (σ : Sg) (s x w l : Nat) (f : Bool) : Sg :=
  looksF (comesF (w_od (rememberF (startF σ s w l f) s x) (s_od σ ++ [s_nJ σ])) (s_nJ σ) 119)
def a_start (σ : Sg) (v x w l : Int32) (f : Bool) : SP := match ix v (s_nS σ) with
  | none => (1, 0, σ)
  | some s => match ix x 100 with
    | none => (2, 0, σ)
    | some x => if w < 1 ∨ 50 < w then (2, 0, σ) else match ix l 64 with
      | none => (2, 0, σ)
      | some l => if f = true ∧ s_dr σ s = true then (3, 0, σ) else if s_nJ σ = 30 then (4, 0, σ) else (0, nI (s_nJ σ), started σ s x w.toNatClampNeg l f)
section MD12
variable {E : EN} {d : Nat} {h : AH} {c n : Nat} {K : Out → AH → Prop} {mo : Nat} {ad : Nat → Nat} {M : MS} {σ : Sg} {th : Nat}
end MD12
