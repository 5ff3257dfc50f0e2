theorem Wf.congr {σ τ : Sg} {B : Nat} (W : Wf σ B) (h1 : s_nJ τ = s_nJ σ) (h2 : s_nd τ = s_nd σ) (h3 : s_od τ = s_od σ) (h4 : s_jn τ = s_jn σ) : Wf τ B := by
  unfold Wf
  rw [h1, h2, h3, h4]
  exact W
def a_stop (σ : Sg) (v : Int32) : SP := match ix v (s_nJ σ) with
  | none => (1, 0, σ)
  | some j => if cstop σ j = false then (2, 0, σ) else (0, nI (s_od (stopsF σ j)).length, stopsF σ j)
def a_goOn (σ : Sg) (v : Int32) : SP := match ix v (s_nJ σ) with
  | none => (1, 0, σ)
  | some j => if s_st σ j = 115 then (0, nI (s_od (goesOnF σ j)).length, goesOnF σ j) else (2, 0, σ)
def a_end (σ : Sg) (v : Int32) : SP := match ix v (s_nJ σ) with
  | none => (1, 0, σ)
  | some j => if over σ j = false then (0, nI (s_od (endsF σ j 107)).length, endsF σ j 107) else (2, 0, σ)
def attF (σ : Sg) (s : Nat) (b : Bool) : Sg := w_dr σ (upN (s_dr σ) s b)
def parkF (σ : Sg) (s : Nat) (x : Option Nat) : Sg := w_pk σ (upN (s_pk σ) s x)
def a_drop (σ : Sg) (v : Int32) : SP := match ix v (s_nS σ) with
  | none => (1, 0, σ)
  | some s => if s_dr σ s = false then (match s_fr σ s with
    | none => (0, -1, attF σ s true)
    | some j => if cstop σ j = false then (0, -1, attF σ s true) else (0, nI j, parkF (stopsF (attF σ s true) j) s (some j))) else (2, 0, σ)
def a_takeUp (σ : Sg) (v : Int32) : SP := match ix v (s_nS σ) with
  | none => (1, 0, σ)
  | some s => if s_dr σ s = false then (2, 0, σ) else (match s_pk σ s with
    | none => (0, -1, parkF (attF σ s false) s none)
    | some j => if s_st σ j = 115 then (0, nI j, goesOnF (parkF (attF σ s false) s none) j) else (0, -1, parkF (attF σ s false) s none))
def a_toFront (σ : Sg) (v : Int32) : SP := match ix v (s_nJ σ) with
  | none => (1, 0, σ)
  | some j => if s_fr σ (s_se σ j) = some j then (2, 0, σ) else if s_dr σ (s_se σ j) = false then (if over σ j = false then (0, b2 (s_fr σ (s_se σ j)).isSome, w_fr σ (upN (s_fr σ) (s_se σ j) (some j))) else (3, 0, σ)) else (2, 0, σ)
def openF (σ : Sg) (p : Bool) : Sg := w_nS (w_pk (w_fr (w_pv σ (upN (s_pv σ) (s_nS σ) p)) (upN (s_fr σ) (s_nS σ) none)) (upN (s_pk σ) (s_nS σ) none)) (s_nS σ + 1)
def a_open (σ : Sg) (p : Bool) : SP := if s_nS σ = 4 then (1, 0, σ) else (0, nI (s_nS σ), openF σ p)
section MD8
variable {E : EN} {d : Nat} {h : AH} {c n : Nat} {K : Out → AH → Prop} {mo : Nat} {ad : Nat → Nat} {M : MS} {σ : Sg} {th : Nat}
end MD8
