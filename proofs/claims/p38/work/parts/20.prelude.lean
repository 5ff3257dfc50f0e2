/-! the pure part: small facts, the mathematical state, the model's cells as an overlay of the heap -/
abbrev Sg : Type := Nat × Nat × Int64 × (Nat → Bool) × (Nat → Bool) × (Nat → Option Nat) × (Nat → Option Nat) × (Nat → List Nat) × List Nat × (Nat → Nat) × (Nat → Nat) × (Nat → Nat) × (Nat → Nat) × (Nat → Bool) × List Nat × List (Nat × Nat)
def s_nS (σ : Sg) : Nat := σ.1
def s_nJ (σ : Sg) : Nat := σ.2.1
def s_wk (σ : Sg) : Int64 := σ.2.2.1
def s_pv (σ : Sg) : Nat → Bool := σ.2.2.2.1
def s_dr (σ : Sg) : Nat → Bool := σ.2.2.2.2.1
def s_fr (σ : Sg) : Nat → Option Nat := σ.2.2.2.2.2.1
def s_pk (σ : Sg) : Nat → Option Nat := σ.2.2.2.2.2.2.1
def s_hi (σ : Sg) : Nat → List Nat := σ.2.2.2.2.2.2.2.1
def s_cm (σ : Sg) : List Nat := σ.2.2.2.2.2.2.2.2.1
def s_se (σ : Sg) : Nat → Nat := σ.2.2.2.2.2.2.2.2.2.1
def s_lf (σ : Sg) : Nat → Nat := σ.2.2.2.2.2.2.2.2.2.2.1
def s_nd (σ : Sg) : Nat → Nat := σ.2.2.2.2.2.2.2.2.2.2.2.1
def s_st (σ : Sg) : Nat → Nat := σ.2.2.2.2.2.2.2.2.2.2.2.2.1
def s_hl (σ : Sg) : Nat → Bool := σ.2.2.2.2.2.2.2.2.2.2.2.2.2.1
def s_od (σ : Sg) : List Nat := σ.2.2.2.2.2.2.2.2.2.2.2.2.2.2.1
def s_jn (σ : Sg) : List (Nat × Nat) := σ.2.2.2.2.2.2.2.2.2.2.2.2.2.2.2
def w_nS (σ : Sg) (x : Nat) : Sg := (x, s_nJ σ, s_wk σ, s_pv σ, s_dr σ, s_fr σ, s_pk σ, s_hi σ, s_cm σ, s_se σ, s_lf σ, s_nd σ, s_st σ, s_hl σ, s_od σ, s_jn σ)
def w_nJ (σ : Sg) (x : Nat) : Sg := (s_nS σ, x, s_wk σ, s_pv σ, s_dr σ, s_fr σ, s_pk σ, s_hi σ, s_cm σ, s_se σ, s_lf σ, s_nd σ, s_st σ, s_hl σ, s_od σ, s_jn σ)
def w_wk (σ : Sg) (x : Int64) : Sg := (s_nS σ, s_nJ σ, x, s_pv σ, s_dr σ, s_fr σ, s_pk σ, s_hi σ, s_cm σ, s_se σ, s_lf σ, s_nd σ, s_st σ, s_hl σ, s_od σ, s_jn σ)
def w_pv (σ : Sg) (x : Nat → Bool) : Sg := (s_nS σ, s_nJ σ, s_wk σ, x, s_dr σ, s_fr σ, s_pk σ, s_hi σ, s_cm σ, s_se σ, s_lf σ, s_nd σ, s_st σ, s_hl σ, s_od σ, s_jn σ)
def w_dr (σ : Sg) (x : Nat → Bool) : Sg := (s_nS σ, s_nJ σ, s_wk σ, s_pv σ, x, s_fr σ, s_pk σ, s_hi σ, s_cm σ, s_se σ, s_lf σ, s_nd σ, s_st σ, s_hl σ, s_od σ, s_jn σ)
def w_fr (σ : Sg) (x : Nat → Option Nat) : Sg := (s_nS σ, s_nJ σ, s_wk σ, s_pv σ, s_dr σ, x, s_pk σ, s_hi σ, s_cm σ, s_se σ, s_lf σ, s_nd σ, s_st σ, s_hl σ, s_od σ, s_jn σ)
def w_pk (σ : Sg) (x : Nat → Option Nat) : Sg := (s_nS σ, s_nJ σ, s_wk σ, s_pv σ, s_dr σ, s_fr σ, x, s_hi σ, s_cm σ, s_se σ, s_lf σ, s_nd σ, s_st σ, s_hl σ, s_od σ, s_jn σ)
def w_hi (σ : Sg) (x : Nat → List Nat) : Sg := (s_nS σ, s_nJ σ, s_wk σ, s_pv σ, s_dr σ, s_fr σ, s_pk σ, x, s_cm σ, s_se σ, s_lf σ, s_nd σ, s_st σ, s_hl σ, s_od σ, s_jn σ)
def w_cm (σ : Sg) (x : List Nat) : Sg := (s_nS σ, s_nJ σ, s_wk σ, s_pv σ, s_dr σ, s_fr σ, s_pk σ, s_hi σ, x, s_se σ, s_lf σ, s_nd σ, s_st σ, s_hl σ, s_od σ, s_jn σ)
def w_se (σ : Sg) (x : Nat → Nat) : Sg := (s_nS σ, s_nJ σ, s_wk σ, s_pv σ, s_dr σ, s_fr σ, s_pk σ, s_hi σ, s_cm σ, x, s_lf σ, s_nd σ, s_st σ, s_hl σ, s_od σ, s_jn σ)
def w_lf (σ : Sg) (x : Nat → Nat) : Sg := (s_nS σ, s_nJ σ, s_wk σ, s_pv σ, s_dr σ, s_fr σ, s_pk σ, s_hi σ, s_cm σ, s_se σ, x, s_nd σ, s_st σ, s_hl σ, s_od σ, s_jn σ)
def w_nd (σ : Sg) (x : Nat → Nat) : Sg := (s_nS σ, s_nJ σ, s_wk σ, s_pv σ, s_dr σ, s_fr σ, s_pk σ, s_hi σ, s_cm σ, s_se σ, s_lf σ, x, s_st σ, s_hl σ, s_od σ, s_jn σ)
def w_st (σ : Sg) (x : Nat → Nat) : Sg := (s_nS σ, s_nJ σ, s_wk σ, s_pv σ, s_dr σ, s_fr σ, s_pk σ, s_hi σ, s_cm σ, s_se σ, s_lf σ, s_nd σ, x, s_hl σ, s_od σ, s_jn σ)
def w_hl (σ : Sg) (x : Nat → Bool) : Sg := (s_nS σ, s_nJ σ, s_wk σ, s_pv σ, s_dr σ, s_fr σ, s_pk σ, s_hi σ, s_cm σ, s_se σ, s_lf σ, s_nd σ, s_st σ, x, s_od σ, s_jn σ)
def w_od (σ : Sg) (x : List Nat) : Sg := (s_nS σ, s_nJ σ, s_wk σ, s_pv σ, s_dr σ, s_fr σ, s_pk σ, s_hi σ, s_cm σ, s_se σ, s_lf σ, s_nd σ, s_st σ, s_hl σ, x, s_jn σ)
def w_jn (σ : Sg) (x : List (Nat × Nat)) : Sg := (s_nS σ, s_nJ σ, s_wk σ, s_pv σ, s_dr σ, s_fr σ, s_pk σ, s_hi σ, s_cm σ, s_se σ, s_lf σ, s_nd σ, s_st σ, s_hl σ, s_od σ, x)
theorem g_nS_nS {σ : Sg} {x : Nat} : s_nS (w_nS σ x) = x := rfl
theorem g_nS_nJ {σ : Sg} {x : Nat} : s_nS (w_nJ σ x) = s_nS σ := rfl
theorem g_nS_wk {σ : Sg} {x : Int64} : s_nS (w_wk σ x) = s_nS σ := rfl
theorem g_nS_pv {σ : Sg} {x : Nat → Bool} : s_nS (w_pv σ x) = s_nS σ := rfl
theorem g_nS_dr {σ : Sg} {x : Nat → Bool} : s_nS (w_dr σ x) = s_nS σ := rfl
theorem g_nS_fr {σ : Sg} {x : Nat → Option Nat} : s_nS (w_fr σ x) = s_nS σ := rfl
theorem g_nS_pk {σ : Sg} {x : Nat → Option Nat} : s_nS (w_pk σ x) = s_nS σ := rfl
theorem g_nS_hi {σ : Sg} {x : Nat → List Nat} : s_nS (w_hi σ x) = s_nS σ := rfl
theorem g_nS_cm {σ : Sg} {x : List Nat} : s_nS (w_cm σ x) = s_nS σ := rfl
theorem g_nS_se {σ : Sg} {x : Nat → Nat} : s_nS (w_se σ x) = s_nS σ := rfl
theorem g_nS_lf {σ : Sg} {x : Nat → Nat} : s_nS (w_lf σ x) = s_nS σ := rfl
theorem g_nS_nd {σ : Sg} {x : Nat → Nat} : s_nS (w_nd σ x) = s_nS σ := rfl
theorem g_nS_st {σ : Sg} {x : Nat → Nat} : s_nS (w_st σ x) = s_nS σ := rfl
theorem g_nS_hl {σ : Sg} {x : Nat → Bool} : s_nS (w_hl σ x) = s_nS σ := rfl
theorem g_nS_od {σ : Sg} {x : List Nat} : s_nS (w_od σ x) = s_nS σ := rfl
theorem g_nS_jn {σ : Sg} {x : List (Nat × Nat)} : s_nS (w_jn σ x) = s_nS σ := rfl
theorem g_nJ_nS {σ : Sg} {x : Nat} : s_nJ (w_nS σ x) = s_nJ σ := rfl
theorem g_nJ_nJ {σ : Sg} {x : Nat} : s_nJ (w_nJ σ x) = x := rfl
theorem g_nJ_wk {σ : Sg} {x : Int64} : s_nJ (w_wk σ x) = s_nJ σ := rfl
theorem g_nJ_pv {σ : Sg} {x : Nat → Bool} : s_nJ (w_pv σ x) = s_nJ σ := rfl
theorem g_nJ_dr {σ : Sg} {x : Nat → Bool} : s_nJ (w_dr σ x) = s_nJ σ := rfl
theorem g_nJ_fr {σ : Sg} {x : Nat → Option Nat} : s_nJ (w_fr σ x) = s_nJ σ := rfl
theorem g_nJ_pk {σ : Sg} {x : Nat → Option Nat} : s_nJ (w_pk σ x) = s_nJ σ := rfl
theorem g_nJ_hi {σ : Sg} {x : Nat → List Nat} : s_nJ (w_hi σ x) = s_nJ σ := rfl
theorem g_nJ_cm {σ : Sg} {x : List Nat} : s_nJ (w_cm σ x) = s_nJ σ := rfl
theorem g_nJ_se {σ : Sg} {x : Nat → Nat} : s_nJ (w_se σ x) = s_nJ σ := rfl
theorem g_nJ_lf {σ : Sg} {x : Nat → Nat} : s_nJ (w_lf σ x) = s_nJ σ := rfl
theorem g_nJ_nd {σ : Sg} {x : Nat → Nat} : s_nJ (w_nd σ x) = s_nJ σ := rfl
theorem g_nJ_st {σ : Sg} {x : Nat → Nat} : s_nJ (w_st σ x) = s_nJ σ := rfl
theorem g_nJ_hl {σ : Sg} {x : Nat → Bool} : s_nJ (w_hl σ x) = s_nJ σ := rfl
theorem g_nJ_od {σ : Sg} {x : List Nat} : s_nJ (w_od σ x) = s_nJ σ := rfl
theorem g_nJ_jn {σ : Sg} {x : List (Nat × Nat)} : s_nJ (w_jn σ x) = s_nJ σ := rfl
theorem g_wk_nS {σ : Sg} {x : Nat} : s_wk (w_nS σ x) = s_wk σ := rfl
theorem g_wk_nJ {σ : Sg} {x : Nat} : s_wk (w_nJ σ x) = s_wk σ := rfl
theorem g_wk_wk {σ : Sg} {x : Int64} : s_wk (w_wk σ x) = x := rfl
theorem g_wk_pv {σ : Sg} {x : Nat → Bool} : s_wk (w_pv σ x) = s_wk σ := rfl
theorem g_wk_dr {σ : Sg} {x : Nat → Bool} : s_wk (w_dr σ x) = s_wk σ := rfl
theorem g_wk_fr {σ : Sg} {x : Nat → Option Nat} : s_wk (w_fr σ x) = s_wk σ := rfl
theorem g_wk_pk {σ : Sg} {x : Nat → Option Nat} : s_wk (w_pk σ x) = s_wk σ := rfl
theorem g_wk_hi {σ : Sg} {x : Nat → List Nat} : s_wk (w_hi σ x) = s_wk σ := rfl
theorem g_wk_cm {σ : Sg} {x : List Nat} : s_wk (w_cm σ x) = s_wk σ := rfl
theorem g_wk_se {σ : Sg} {x : Nat → Nat} : s_wk (w_se σ x) = s_wk σ := rfl
theorem g_wk_lf {σ : Sg} {x : Nat → Nat} : s_wk (w_lf σ x) = s_wk σ := rfl
theorem g_wk_nd {σ : Sg} {x : Nat → Nat} : s_wk (w_nd σ x) = s_wk σ := rfl
theorem g_wk_st {σ : Sg} {x : Nat → Nat} : s_wk (w_st σ x) = s_wk σ := rfl
theorem g_wk_hl {σ : Sg} {x : Nat → Bool} : s_wk (w_hl σ x) = s_wk σ := rfl
theorem g_wk_od {σ : Sg} {x : List Nat} : s_wk (w_od σ x) = s_wk σ := rfl
theorem g_wk_jn {σ : Sg} {x : List (Nat × Nat)} : s_wk (w_jn σ x) = s_wk σ := rfl
theorem g_pv_nS {σ : Sg} {x : Nat} : s_pv (w_nS σ x) = s_pv σ := rfl
theorem g_pv_nJ {σ : Sg} {x : Nat} : s_pv (w_nJ σ x) = s_pv σ := rfl
theorem g_pv_wk {σ : Sg} {x : Int64} : s_pv (w_wk σ x) = s_pv σ := rfl
theorem g_pv_pv {σ : Sg} {x : Nat → Bool} : s_pv (w_pv σ x) = x := rfl
theorem g_pv_dr {σ : Sg} {x : Nat → Bool} : s_pv (w_dr σ x) = s_pv σ := rfl
theorem g_pv_fr {σ : Sg} {x : Nat → Option Nat} : s_pv (w_fr σ x) = s_pv σ := rfl
theorem g_pv_pk {σ : Sg} {x : Nat → Option Nat} : s_pv (w_pk σ x) = s_pv σ := rfl
theorem g_pv_hi {σ : Sg} {x : Nat → List Nat} : s_pv (w_hi σ x) = s_pv σ := rfl
theorem g_pv_cm {σ : Sg} {x : List Nat} : s_pv (w_cm σ x) = s_pv σ := rfl
theorem g_pv_se {σ : Sg} {x : Nat → Nat} : s_pv (w_se σ x) = s_pv σ := rfl
theorem g_pv_lf {σ : Sg} {x : Nat → Nat} : s_pv (w_lf σ x) = s_pv σ := rfl
theorem g_pv_nd {σ : Sg} {x : Nat → Nat} : s_pv (w_nd σ x) = s_pv σ := rfl
theorem g_pv_st {σ : Sg} {x : Nat → Nat} : s_pv (w_st σ x) = s_pv σ := rfl
theorem g_pv_hl {σ : Sg} {x : Nat → Bool} : s_pv (w_hl σ x) = s_pv σ := rfl
theorem g_pv_od {σ : Sg} {x : List Nat} : s_pv (w_od σ x) = s_pv σ := rfl
theorem g_pv_jn {σ : Sg} {x : List (Nat × Nat)} : s_pv (w_jn σ x) = s_pv σ := rfl
theorem g_dr_nS {σ : Sg} {x : Nat} : s_dr (w_nS σ x) = s_dr σ := rfl
theorem g_dr_nJ {σ : Sg} {x : Nat} : s_dr (w_nJ σ x) = s_dr σ := rfl
theorem g_dr_wk {σ : Sg} {x : Int64} : s_dr (w_wk σ x) = s_dr σ := rfl
theorem g_dr_pv {σ : Sg} {x : Nat → Bool} : s_dr (w_pv σ x) = s_dr σ := rfl
theorem g_dr_dr {σ : Sg} {x : Nat → Bool} : s_dr (w_dr σ x) = x := rfl
theorem g_dr_fr {σ : Sg} {x : Nat → Option Nat} : s_dr (w_fr σ x) = s_dr σ := rfl
theorem g_dr_pk {σ : Sg} {x : Nat → Option Nat} : s_dr (w_pk σ x) = s_dr σ := rfl
theorem g_dr_hi {σ : Sg} {x : Nat → List Nat} : s_dr (w_hi σ x) = s_dr σ := rfl
theorem g_dr_cm {σ : Sg} {x : List Nat} : s_dr (w_cm σ x) = s_dr σ := rfl
theorem g_dr_se {σ : Sg} {x : Nat → Nat} : s_dr (w_se σ x) = s_dr σ := rfl
theorem g_dr_lf {σ : Sg} {x : Nat → Nat} : s_dr (w_lf σ x) = s_dr σ := rfl
theorem g_dr_nd {σ : Sg} {x : Nat → Nat} : s_dr (w_nd σ x) = s_dr σ := rfl
theorem g_dr_st {σ : Sg} {x : Nat → Nat} : s_dr (w_st σ x) = s_dr σ := rfl
theorem g_dr_hl {σ : Sg} {x : Nat → Bool} : s_dr (w_hl σ x) = s_dr σ := rfl
theorem g_dr_od {σ : Sg} {x : List Nat} : s_dr (w_od σ x) = s_dr σ := rfl
theorem g_dr_jn {σ : Sg} {x : List (Nat × Nat)} : s_dr (w_jn σ x) = s_dr σ := rfl
theorem g_fr_nS {σ : Sg} {x : Nat} : s_fr (w_nS σ x) = s_fr σ := rfl
theorem g_fr_nJ {σ : Sg} {x : Nat} : s_fr (w_nJ σ x) = s_fr σ := rfl
theorem g_fr_wk {σ : Sg} {x : Int64} : s_fr (w_wk σ x) = s_fr σ := rfl
theorem g_fr_pv {σ : Sg} {x : Nat → Bool} : s_fr (w_pv σ x) = s_fr σ := rfl
theorem g_fr_dr {σ : Sg} {x : Nat → Bool} : s_fr (w_dr σ x) = s_fr σ := rfl
theorem g_fr_fr {σ : Sg} {x : Nat → Option Nat} : s_fr (w_fr σ x) = x := rfl
theorem g_fr_pk {σ : Sg} {x : Nat → Option Nat} : s_fr (w_pk σ x) = s_fr σ := rfl
theorem g_fr_hi {σ : Sg} {x : Nat → List Nat} : s_fr (w_hi σ x) = s_fr σ := rfl
theorem g_fr_cm {σ : Sg} {x : List Nat} : s_fr (w_cm σ x) = s_fr σ := rfl
theorem g_fr_se {σ : Sg} {x : Nat → Nat} : s_fr (w_se σ x) = s_fr σ := rfl
theorem g_fr_lf {σ : Sg} {x : Nat → Nat} : s_fr (w_lf σ x) = s_fr σ := rfl
theorem g_fr_nd {σ : Sg} {x : Nat → Nat} : s_fr (w_nd σ x) = s_fr σ := rfl
theorem g_fr_st {σ : Sg} {x : Nat → Nat} : s_fr (w_st σ x) = s_fr σ := rfl
theorem g_fr_hl {σ : Sg} {x : Nat → Bool} : s_fr (w_hl σ x) = s_fr σ := rfl
theorem g_fr_od {σ : Sg} {x : List Nat} : s_fr (w_od σ x) = s_fr σ := rfl
theorem g_fr_jn {σ : Sg} {x : List (Nat × Nat)} : s_fr (w_jn σ x) = s_fr σ := rfl
theorem g_pk_nS {σ : Sg} {x : Nat} : s_pk (w_nS σ x) = s_pk σ := rfl
theorem g_pk_nJ {σ : Sg} {x : Nat} : s_pk (w_nJ σ x) = s_pk σ := rfl
theorem g_pk_wk {σ : Sg} {x : Int64} : s_pk (w_wk σ x) = s_pk σ := rfl
theorem g_pk_pv {σ : Sg} {x : Nat → Bool} : s_pk (w_pv σ x) = s_pk σ := rfl
theorem g_pk_dr {σ : Sg} {x : Nat → Bool} : s_pk (w_dr σ x) = s_pk σ := rfl
theorem g_pk_fr {σ : Sg} {x : Nat → Option Nat} : s_pk (w_fr σ x) = s_pk σ := rfl
theorem g_pk_pk {σ : Sg} {x : Nat → Option Nat} : s_pk (w_pk σ x) = x := rfl
theorem g_pk_hi {σ : Sg} {x : Nat → List Nat} : s_pk (w_hi σ x) = s_pk σ := rfl
theorem g_pk_cm {σ : Sg} {x : List Nat} : s_pk (w_cm σ x) = s_pk σ := rfl
theorem g_pk_se {σ : Sg} {x : Nat → Nat} : s_pk (w_se σ x) = s_pk σ := rfl
theorem g_pk_lf {σ : Sg} {x : Nat → Nat} : s_pk (w_lf σ x) = s_pk σ := rfl
theorem g_pk_nd {σ : Sg} {x : Nat → Nat} : s_pk (w_nd σ x) = s_pk σ := rfl
theorem g_pk_st {σ : Sg} {x : Nat → Nat} : s_pk (w_st σ x) = s_pk σ := rfl
theorem g_pk_hl {σ : Sg} {x : Nat → Bool} : s_pk (w_hl σ x) = s_pk σ := rfl
theorem g_pk_od {σ : Sg} {x : List Nat} : s_pk (w_od σ x) = s_pk σ := rfl
theorem g_pk_jn {σ : Sg} {x : List (Nat × Nat)} : s_pk (w_jn σ x) = s_pk σ := rfl
theorem g_hi_nS {σ : Sg} {x : Nat} : s_hi (w_nS σ x) = s_hi σ := rfl
theorem g_hi_nJ {σ : Sg} {x : Nat} : s_hi (w_nJ σ x) = s_hi σ := rfl
theorem g_hi_wk {σ : Sg} {x : Int64} : s_hi (w_wk σ x) = s_hi σ := rfl
theorem g_hi_pv {σ : Sg} {x : Nat → Bool} : s_hi (w_pv σ x) = s_hi σ := rfl
theorem g_hi_dr {σ : Sg} {x : Nat → Bool} : s_hi (w_dr σ x) = s_hi σ := rfl
theorem g_hi_fr {σ : Sg} {x : Nat → Option Nat} : s_hi (w_fr σ x) = s_hi σ := rfl
theorem g_hi_pk {σ : Sg} {x : Nat → Option Nat} : s_hi (w_pk σ x) = s_hi σ := rfl
theorem g_hi_hi {σ : Sg} {x : Nat → List Nat} : s_hi (w_hi σ x) = x := rfl
theorem g_hi_cm {σ : Sg} {x : List Nat} : s_hi (w_cm σ x) = s_hi σ := rfl
theorem g_hi_se {σ : Sg} {x : Nat → Nat} : s_hi (w_se σ x) = s_hi σ := rfl
theorem g_hi_lf {σ : Sg} {x : Nat → Nat} : s_hi (w_lf σ x) = s_hi σ := rfl
theorem g_hi_nd {σ : Sg} {x : Nat → Nat} : s_hi (w_nd σ x) = s_hi σ := rfl
theorem g_hi_st {σ : Sg} {x : Nat → Nat} : s_hi (w_st σ x) = s_hi σ := rfl
theorem g_hi_hl {σ : Sg} {x : Nat → Bool} : s_hi (w_hl σ x) = s_hi σ := rfl
theorem g_hi_od {σ : Sg} {x : List Nat} : s_hi (w_od σ x) = s_hi σ := rfl
theorem g_hi_jn {σ : Sg} {x : List (Nat × Nat)} : s_hi (w_jn σ x) = s_hi σ := rfl
theorem g_cm_nS {σ : Sg} {x : Nat} : s_cm (w_nS σ x) = s_cm σ := rfl
theorem g_cm_nJ {σ : Sg} {x : Nat} : s_cm (w_nJ σ x) = s_cm σ := rfl
theorem g_cm_wk {σ : Sg} {x : Int64} : s_cm (w_wk σ x) = s_cm σ := rfl
theorem g_cm_pv {σ : Sg} {x : Nat → Bool} : s_cm (w_pv σ x) = s_cm σ := rfl
theorem g_cm_dr {σ : Sg} {x : Nat → Bool} : s_cm (w_dr σ x) = s_cm σ := rfl
theorem g_cm_fr {σ : Sg} {x : Nat → Option Nat} : s_cm (w_fr σ x) = s_cm σ := rfl
theorem g_cm_pk {σ : Sg} {x : Nat → Option Nat} : s_cm (w_pk σ x) = s_cm σ := rfl
theorem g_cm_hi {σ : Sg} {x : Nat → List Nat} : s_cm (w_hi σ x) = s_cm σ := rfl
theorem g_cm_cm {σ : Sg} {x : List Nat} : s_cm (w_cm σ x) = x := rfl
theorem g_cm_se {σ : Sg} {x : Nat → Nat} : s_cm (w_se σ x) = s_cm σ := rfl
theorem g_cm_lf {σ : Sg} {x : Nat → Nat} : s_cm (w_lf σ x) = s_cm σ := rfl
theorem g_cm_nd {σ : Sg} {x : Nat → Nat} : s_cm (w_nd σ x) = s_cm σ := rfl
theorem g_cm_st {σ : Sg} {x : Nat → Nat} : s_cm (w_st σ x) = s_cm σ := rfl
theorem g_cm_hl {σ : Sg} {x : Nat → Bool} : s_cm (w_hl σ x) = s_cm σ := rfl
theorem g_cm_od {σ : Sg} {x : List Nat} : s_cm (w_od σ x) = s_cm σ := rfl
theorem g_cm_jn {σ : Sg} {x : List (Nat × Nat)} : s_cm (w_jn σ x) = s_cm σ := rfl
theorem g_se_nS {σ : Sg} {x : Nat} : s_se (w_nS σ x) = s_se σ := rfl
theorem g_se_nJ {σ : Sg} {x : Nat} : s_se (w_nJ σ x) = s_se σ := rfl
theorem g_se_wk {σ : Sg} {x : Int64} : s_se (w_wk σ x) = s_se σ := rfl
theorem g_se_pv {σ : Sg} {x : Nat → Bool} : s_se (w_pv σ x) = s_se σ := rfl
theorem g_se_dr {σ : Sg} {x : Nat → Bool} : s_se (w_dr σ x) = s_se σ := rfl
theorem g_se_fr {σ : Sg} {x : Nat → Option Nat} : s_se (w_fr σ x) = s_se σ := rfl
theorem g_se_pk {σ : Sg} {x : Nat → Option Nat} : s_se (w_pk σ x) = s_se σ := rfl
theorem g_se_hi {σ : Sg} {x : Nat → List Nat} : s_se (w_hi σ x) = s_se σ := rfl
theorem g_se_cm {σ : Sg} {x : List Nat} : s_se (w_cm σ x) = s_se σ := rfl
theorem g_se_se {σ : Sg} {x : Nat → Nat} : s_se (w_se σ x) = x := rfl
theorem g_se_lf {σ : Sg} {x : Nat → Nat} : s_se (w_lf σ x) = s_se σ := rfl
theorem g_se_nd {σ : Sg} {x : Nat → Nat} : s_se (w_nd σ x) = s_se σ := rfl
theorem g_se_st {σ : Sg} {x : Nat → Nat} : s_se (w_st σ x) = s_se σ := rfl
theorem g_se_hl {σ : Sg} {x : Nat → Bool} : s_se (w_hl σ x) = s_se σ := rfl
theorem g_se_od {σ : Sg} {x : List Nat} : s_se (w_od σ x) = s_se σ := rfl
theorem g_se_jn {σ : Sg} {x : List (Nat × Nat)} : s_se (w_jn σ x) = s_se σ := rfl
theorem g_lf_nS {σ : Sg} {x : Nat} : s_lf (w_nS σ x) = s_lf σ := rfl
theorem g_lf_nJ {σ : Sg} {x : Nat} : s_lf (w_nJ σ x) = s_lf σ := rfl
theorem g_lf_wk {σ : Sg} {x : Int64} : s_lf (w_wk σ x) = s_lf σ := rfl
theorem g_lf_pv {σ : Sg} {x : Nat → Bool} : s_lf (w_pv σ x) = s_lf σ := rfl
theorem g_lf_dr {σ : Sg} {x : Nat → Bool} : s_lf (w_dr σ x) = s_lf σ := rfl
theorem g_lf_fr {σ : Sg} {x : Nat → Option Nat} : s_lf (w_fr σ x) = s_lf σ := rfl
theorem g_lf_pk {σ : Sg} {x : Nat → Option Nat} : s_lf (w_pk σ x) = s_lf σ := rfl
theorem g_lf_hi {σ : Sg} {x : Nat → List Nat} : s_lf (w_hi σ x) = s_lf σ := rfl
theorem g_lf_cm {σ : Sg} {x : List Nat} : s_lf (w_cm σ x) = s_lf σ := rfl
theorem g_lf_se {σ : Sg} {x : Nat → Nat} : s_lf (w_se σ x) = s_lf σ := rfl
theorem g_lf_lf {σ : Sg} {x : Nat → Nat} : s_lf (w_lf σ x) = x := rfl
theorem g_lf_nd {σ : Sg} {x : Nat → Nat} : s_lf (w_nd σ x) = s_lf σ := rfl
theorem g_lf_st {σ : Sg} {x : Nat → Nat} : s_lf (w_st σ x) = s_lf σ := rfl
theorem g_lf_hl {σ : Sg} {x : Nat → Bool} : s_lf (w_hl σ x) = s_lf σ := rfl
theorem g_lf_od {σ : Sg} {x : List Nat} : s_lf (w_od σ x) = s_lf σ := rfl
theorem g_lf_jn {σ : Sg} {x : List (Nat × Nat)} : s_lf (w_jn σ x) = s_lf σ := rfl
theorem g_nd_nS {σ : Sg} {x : Nat} : s_nd (w_nS σ x) = s_nd σ := rfl
theorem g_nd_nJ {σ : Sg} {x : Nat} : s_nd (w_nJ σ x) = s_nd σ := rfl
theorem g_nd_wk {σ : Sg} {x : Int64} : s_nd (w_wk σ x) = s_nd σ := rfl
theorem g_nd_pv {σ : Sg} {x : Nat → Bool} : s_nd (w_pv σ x) = s_nd σ := rfl
theorem g_nd_dr {σ : Sg} {x : Nat → Bool} : s_nd (w_dr σ x) = s_nd σ := rfl
theorem g_nd_fr {σ : Sg} {x : Nat → Option Nat} : s_nd (w_fr σ x) = s_nd σ := rfl
theorem g_nd_pk {σ : Sg} {x : Nat → Option Nat} : s_nd (w_pk σ x) = s_nd σ := rfl
theorem g_nd_hi {σ : Sg} {x : Nat → List Nat} : s_nd (w_hi σ x) = s_nd σ := rfl
theorem g_nd_cm {σ : Sg} {x : List Nat} : s_nd (w_cm σ x) = s_nd σ := rfl
theorem g_nd_se {σ : Sg} {x : Nat → Nat} : s_nd (w_se σ x) = s_nd σ := rfl
theorem g_nd_lf {σ : Sg} {x : Nat → Nat} : s_nd (w_lf σ x) = s_nd σ := rfl
theorem g_nd_nd {σ : Sg} {x : Nat → Nat} : s_nd (w_nd σ x) = x := rfl
theorem g_nd_st {σ : Sg} {x : Nat → Nat} : s_nd (w_st σ x) = s_nd σ := rfl
theorem g_nd_hl {σ : Sg} {x : Nat → Bool} : s_nd (w_hl σ x) = s_nd σ := rfl
theorem g_nd_od {σ : Sg} {x : List Nat} : s_nd (w_od σ x) = s_nd σ := rfl
theorem g_nd_jn {σ : Sg} {x : List (Nat × Nat)} : s_nd (w_jn σ x) = s_nd σ := rfl
theorem g_st_nS {σ : Sg} {x : Nat} : s_st (w_nS σ x) = s_st σ := rfl
theorem g_st_nJ {σ : Sg} {x : Nat} : s_st (w_nJ σ x) = s_st σ := rfl
theorem g_st_wk {σ : Sg} {x : Int64} : s_st (w_wk σ x) = s_st σ := rfl
theorem g_st_pv {σ : Sg} {x : Nat → Bool} : s_st (w_pv σ x) = s_st σ := rfl
theorem g_st_dr {σ : Sg} {x : Nat → Bool} : s_st (w_dr σ x) = s_st σ := rfl
theorem g_st_fr {σ : Sg} {x : Nat → Option Nat} : s_st (w_fr σ x) = s_st σ := rfl
theorem g_st_pk {σ : Sg} {x : Nat → Option Nat} : s_st (w_pk σ x) = s_st σ := rfl
theorem g_st_hi {σ : Sg} {x : Nat → List Nat} : s_st (w_hi σ x) = s_st σ := rfl
theorem g_st_cm {σ : Sg} {x : List Nat} : s_st (w_cm σ x) = s_st σ := rfl
theorem g_st_se {σ : Sg} {x : Nat → Nat} : s_st (w_se σ x) = s_st σ := rfl
theorem g_st_lf {σ : Sg} {x : Nat → Nat} : s_st (w_lf σ x) = s_st σ := rfl
theorem g_st_nd {σ : Sg} {x : Nat → Nat} : s_st (w_nd σ x) = s_st σ := rfl
theorem g_st_st {σ : Sg} {x : Nat → Nat} : s_st (w_st σ x) = x := rfl
theorem g_st_hl {σ : Sg} {x : Nat → Bool} : s_st (w_hl σ x) = s_st σ := rfl
theorem g_st_od {σ : Sg} {x : List Nat} : s_st (w_od σ x) = s_st σ := rfl
theorem g_st_jn {σ : Sg} {x : List (Nat × Nat)} : s_st (w_jn σ x) = s_st σ := rfl
theorem g_hl_nS {σ : Sg} {x : Nat} : s_hl (w_nS σ x) = s_hl σ := rfl
theorem g_hl_nJ {σ : Sg} {x : Nat} : s_hl (w_nJ σ x) = s_hl σ := rfl
theorem g_hl_wk {σ : Sg} {x : Int64} : s_hl (w_wk σ x) = s_hl σ := rfl
theorem g_hl_pv {σ : Sg} {x : Nat → Bool} : s_hl (w_pv σ x) = s_hl σ := rfl
theorem g_hl_dr {σ : Sg} {x : Nat → Bool} : s_hl (w_dr σ x) = s_hl σ := rfl
theorem g_hl_fr {σ : Sg} {x : Nat → Option Nat} : s_hl (w_fr σ x) = s_hl σ := rfl
theorem g_hl_pk {σ : Sg} {x : Nat → Option Nat} : s_hl (w_pk σ x) = s_hl σ := rfl
theorem g_hl_hi {σ : Sg} {x : Nat → List Nat} : s_hl (w_hi σ x) = s_hl σ := rfl
theorem g_hl_cm {σ : Sg} {x : List Nat} : s_hl (w_cm σ x) = s_hl σ := rfl
theorem g_hl_se {σ : Sg} {x : Nat → Nat} : s_hl (w_se σ x) = s_hl σ := rfl
theorem g_hl_lf {σ : Sg} {x : Nat → Nat} : s_hl (w_lf σ x) = s_hl σ := rfl
theorem g_hl_nd {σ : Sg} {x : Nat → Nat} : s_hl (w_nd σ x) = s_hl σ := rfl
theorem g_hl_st {σ : Sg} {x : Nat → Nat} : s_hl (w_st σ x) = s_hl σ := rfl
theorem g_hl_hl {σ : Sg} {x : Nat → Bool} : s_hl (w_hl σ x) = x := rfl
theorem g_hl_od {σ : Sg} {x : List Nat} : s_hl (w_od σ x) = s_hl σ := rfl
theorem g_hl_jn {σ : Sg} {x : List (Nat × Nat)} : s_hl (w_jn σ x) = s_hl σ := rfl
theorem g_od_nS {σ : Sg} {x : Nat} : s_od (w_nS σ x) = s_od σ := rfl
theorem g_od_nJ {σ : Sg} {x : Nat} : s_od (w_nJ σ x) = s_od σ := rfl
theorem g_od_wk {σ : Sg} {x : Int64} : s_od (w_wk σ x) = s_od σ := rfl
theorem g_od_pv {σ : Sg} {x : Nat → Bool} : s_od (w_pv σ x) = s_od σ := rfl
theorem g_od_dr {σ : Sg} {x : Nat → Bool} : s_od (w_dr σ x) = s_od σ := rfl
theorem g_od_fr {σ : Sg} {x : Nat → Option Nat} : s_od (w_fr σ x) = s_od σ := rfl
theorem g_od_pk {σ : Sg} {x : Nat → Option Nat} : s_od (w_pk σ x) = s_od σ := rfl
theorem g_od_hi {σ : Sg} {x : Nat → List Nat} : s_od (w_hi σ x) = s_od σ := rfl
theorem g_od_cm {σ : Sg} {x : List Nat} : s_od (w_cm σ x) = s_od σ := rfl
theorem g_od_se {σ : Sg} {x : Nat → Nat} : s_od (w_se σ x) = s_od σ := rfl
theorem g_od_lf {σ : Sg} {x : Nat → Nat} : s_od (w_lf σ x) = s_od σ := rfl
theorem g_od_nd {σ : Sg} {x : Nat → Nat} : s_od (w_nd σ x) = s_od σ := rfl
theorem g_od_st {σ : Sg} {x : Nat → Nat} : s_od (w_st σ x) = s_od σ := rfl
theorem g_od_hl {σ : Sg} {x : Nat → Bool} : s_od (w_hl σ x) = s_od σ := rfl
theorem g_od_od {σ : Sg} {x : List Nat} : s_od (w_od σ x) = x := rfl
theorem g_od_jn {σ : Sg} {x : List (Nat × Nat)} : s_od (w_jn σ x) = s_od σ := rfl
theorem g_jn_nS {σ : Sg} {x : Nat} : s_jn (w_nS σ x) = s_jn σ := rfl
theorem g_jn_nJ {σ : Sg} {x : Nat} : s_jn (w_nJ σ x) = s_jn σ := rfl
theorem g_jn_wk {σ : Sg} {x : Int64} : s_jn (w_wk σ x) = s_jn σ := rfl
theorem g_jn_pv {σ : Sg} {x : Nat → Bool} : s_jn (w_pv σ x) = s_jn σ := rfl
theorem g_jn_dr {σ : Sg} {x : Nat → Bool} : s_jn (w_dr σ x) = s_jn σ := rfl
theorem g_jn_fr {σ : Sg} {x : Nat → Option Nat} : s_jn (w_fr σ x) = s_jn σ := rfl
theorem g_jn_pk {σ : Sg} {x : Nat → Option Nat} : s_jn (w_pk σ x) = s_jn σ := rfl
theorem g_jn_hi {σ : Sg} {x : Nat → List Nat} : s_jn (w_hi σ x) = s_jn σ := rfl
theorem g_jn_cm {σ : Sg} {x : List Nat} : s_jn (w_cm σ x) = s_jn σ := rfl
theorem g_jn_se {σ : Sg} {x : Nat → Nat} : s_jn (w_se σ x) = s_jn σ := rfl
theorem g_jn_lf {σ : Sg} {x : Nat → Nat} : s_jn (w_lf σ x) = s_jn σ := rfl
theorem g_jn_nd {σ : Sg} {x : Nat → Nat} : s_jn (w_nd σ x) = s_jn σ := rfl
theorem g_jn_st {σ : Sg} {x : Nat → Nat} : s_jn (w_st σ x) = s_jn σ := rfl
theorem g_jn_hl {σ : Sg} {x : Nat → Bool} : s_jn (w_hl σ x) = s_jn σ := rfl
theorem g_jn_od {σ : Sg} {x : List Nat} : s_jn (w_od σ x) = s_jn σ := rfl
theorem g_jn_jn {σ : Sg} {x : List (Nat × Nat)} : s_jn (w_jn σ x) = x := rfl
theorem isA_r {a : Nat} : isA (.ref a) = true := rfl
theorem isA_n : isA .null = true := rfl
theorem isI_i {x : Int32} : isI (.int x) = true := rfl
theorem isF_f {x : UInt32} : isF (.float x) = true := rfl
theorem isL_l {x : Int64} : isL (.long x) = true := rfl
theorem is1_i {x : Int32} : is1 (.int x) = true := rfl
theorem is1_r {a : Nat} : is1 (.ref a) = true := rfl
theorem is1_n : is1 .null = true := rfl
theorem is1_f {x : UInt32} : is1 (.float x) = true := rfl
theorem isA_rf2 {o : Option Nat} : isA (va_rf o) = true := by cases o <;> rfl
theorem is1_rf {o : Option Nat} : is1 (va_rf o) = true := by cases o <;> rfl
theorem aft_s {P : PT} {Q : Out → AH → Prop} {M : MD} {ini : Bool} {pc : Nat} {ls st : List Value} {v : Value} {h : AH} {c n : Nat} : Aft P Q M ini pc ls st (.inl (some v)) h c n = P (pc + 3) ls (v :: st) h c n := rfl
theorem aft_n {P : PT} {Q : Out → AH → Prop} {M : MD} {ini : Bool} {pc : Nat} {ls st : List Value} {h : AH} {c n : Nat} : Aft P Q M ini pc ls st (.inl none) h c n = P (pc + 3) ls st h c n := rfl
theorem inv0 {TT : TAB} {E : EN} {d : Nat} {M M' : MD} {Q : Out → AH → Prop} {pc : Nat} {ls st as : List Value} {h : AH} {c n : Nat} (H : CRd TT E d M' as h 0 0 (fun o h' => Aft (EvR TT E d M Q) Q M (mI M') pc ls st o h' c n)) : Inv TT E d M M' Q pc ls st as h c n := ⟨0, 0, Nat.zero_le _, Nat.zero_le _, H⟩
theorem invk {TT : TAB} {E : EN} {d : Nat} {M M' : MD} {Q : Out → AH → Prop} {pc : Nat} {ls st as : List Value} {h : AH} {c n : Nat} (c' n' : Nat) (h1 : c' ≤ c) (h2 : n' ≤ n) (H : CRd TT E d M' as h c' n' (fun o h' => Aft (EvR TT E d M Q) Q M (mI M') pc ls st o h' (c - c') (n - n'))) : Inv TT E d M M' Q pc ls st as h c n := ⟨c', n', h1, h2, H⟩
/-- a contract out of the run of a body -/
theorem crd {E : EN} {d : Nat} {M : MD} {as : List Value} {h : AH} {c n : Nat} {K : Out → AH → Prop} (h1 : argOK M as = true) (h2 : Ev E d M K 0 (ent M as) [] h c n) : CRd TTv E (d + 1) M as h c n K := ⟨h1, h2⟩
theorem inB_nI {j N : Nat} (h : j < N) (hN : N < 2 ^ 31) : inB (nI j) N = true := by
  unfold inB
  exact decide_eq_true (vp_in_nI h hN)
def b2 (b : Bool) : Int32 := if b then 1 else 0
def o2 (o : Option Nat) : Int32 := match o with
  | none => -1
  | some j => nI j
theorem ok01_b2 {b : Bool} : ok01 (.int (b2 b)) = true := by cases b <;> rfl
theorem b2_0 {b : Bool} : b2 b = 0 ↔ b = false := by cases b <;> simp [b2]
abbrev MS : Type := (Nat → Int32) × Int64 × (Nat → Nat → Int32)
def upN {α : Type} (f : Nat → α) (k : Nat) (x : α) : Nat → α := fun j => if j = k then x else f j
theorem upN_s {α : Type} {f : Nat → α} {k : Nat} {x : α} : upN f k x k = x := by simp [upN]
theorem upN_n {α : Type} {f : Nat → α} {k j : Nat} {x : α} (h : j ≠ k) : upN f k x j = f j := by simp [upN, h]
