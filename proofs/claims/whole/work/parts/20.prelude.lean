/-! the pure part: small facts, the mathematical state, the model's cells as an overlay of the heap -/
abbrev Sg : Type := Nat × Nat × Int64 × (Nat → Bool) × (Nat → Bool) × (Nat → Option Nat) × (Nat → Option Nat) × (Nat → List Nat) × List Nat × (Nat → Nat) × (Nat → Nat) × (Nat → Nat) × (Nat → Nat) × (Nat → Bool) × List Nat × List (Nat × Nat)
def s_nS (σ : Sg) : Nat := σ.1
def s_nJ (σ : Sg) : Nat := σ.2.1
def s_wk (σ : Sg) : Int64 := σ.2.2.1
def s_pv (σ : Sg) : Nat → Bool := σ.2.2.2.1
def s_dr (σ : Sg) : Nat → Bool := σ.2.2.2.2.1
def s_fr (σ : Sg) : Nat → Option Nat := σ.2.2.2.2.2.1
def s_pk (σ : Sg) : Nat → Option Nat := σ.2.2.2.2.2.2.1
def s_hi (σ : Sg) : Nat → List Nat := σ.2.2.2.2.2.2.2.1
def s_cm (σ : Sg) : List Nat := σ.2.2.2.2.2.2.2.2.1
def s_se (σ : Sg) : Nat → Nat := σ.2.2.2.2.2.2.2.2.2.1
def s_lf (σ : Sg) : Nat → Nat := σ.2.2.2.2.2.2.2.2.2.2.1
def s_nd (σ : Sg) : Nat → Nat := σ.2.2.2.2.2.2.2.2.2.2.2.1
def s_st (σ : Sg) : Nat → Nat := σ.2.2.2.2.2.2.2.2.2.2.2.2.1
def s_hl (σ : Sg) : Nat → Bool := σ.2.2.2.2.2.2.2.2.2.2.2.2.2.1
def s_od (σ : Sg) : List Nat := σ.2.2.2.2.2.2.2.2.2.2.2.2.2.2.1
def s_jn (σ : Sg) : List (Nat × Nat) := σ.2.2.2.2.2.2.2.2.2.2.2.2.2.2.2
def w_nS (σ : Sg) (x : Nat) : Sg := (x, s_nJ σ, s_wk σ, s_pv σ, s_dr σ, s_fr σ, s_pk σ, s_hi σ, s_cm σ, s_se σ, s_lf σ, s_nd σ, s_st σ, s_hl σ, s_od σ, s_jn σ)
def w_nJ (σ : Sg) (x : Nat) : Sg := (s_nS σ, x, s_wk σ, s_pv σ, s_dr σ, s_fr σ, s_pk σ, s_hi σ, s_cm σ, s_se σ, s_lf σ, s_nd σ, s_st σ, s_hl σ, s_od σ, s_jn σ)
def w_wk (σ : Sg) (x : Int64) : Sg := (s_nS σ, s_nJ σ, x, s_pv σ, s_dr σ, s_fr σ, s_pk σ, s_hi σ, s_cm σ, s_se σ, s_lf σ, s_nd σ, s_st σ, s_hl σ, s_od σ, s_jn σ)
def w_pv (σ : Sg) (x : Nat → Bool) : Sg := (s_nS σ, s_nJ σ, s_wk σ, x, s_dr σ, s_fr σ, s_pk σ, s_hi σ, s_cm σ, s_se σ, s_lf σ, s_nd σ, s_st σ, s_hl σ, s_od σ, s_jn σ)
def w_dr (σ : Sg) (x : Nat → Bool) : Sg := (s_nS σ, s_nJ σ, s_wk σ, s_pv σ, x, s_fr σ, s_pk σ, s_hi σ, s_cm σ, s_se σ, s_lf σ, s_nd σ, s_st σ, s_hl σ, s_od σ, s_jn σ)
def w_fr (σ : Sg) (x : Nat → Option Nat) : Sg := (s_nS σ, s_nJ σ, s_wk σ, s_pv σ, s_dr σ, x, s_pk σ, s_hi σ, s_cm σ, s_se σ, s_lf σ, s_nd σ, s_st σ, s_hl σ, s_od σ, s_jn σ)
def w_pk (σ : Sg) (x : Nat → Option Nat) : Sg := (s_nS σ, s_nJ σ, s_wk σ, s_pv σ, s_dr σ, s_fr σ, x, s_hi σ, s_cm σ, s_se σ, s_lf σ, s_nd σ, s_st σ, s_hl σ, s_od σ, s_jn σ)
def w_hi (σ : Sg) (x : Nat → List Nat) : Sg := (s_nS σ, s_nJ σ, s_wk σ, s_pv σ, s_dr σ, s_fr σ, s_pk σ, x, s_cm σ, s_se σ, s_lf σ, s_nd σ, s_st σ, s_hl σ, s_od σ, s_jn σ)
def w_cm (σ : Sg) (x : List Nat) : Sg := (s_nS σ, s_nJ σ, s_wk σ, s_pv σ, s_dr σ, s_fr σ, s_pk σ, s_hi σ, x, s_se σ, s_lf σ, s_nd σ, s_st σ, s_hl σ, s_od σ, s_jn σ)
def w_se (σ : Sg) (x : Nat → Nat) : Sg := (s_nS σ, s_nJ σ, s_wk σ, s_pv σ, s_dr σ, s_fr σ, s_pk σ, s_hi σ, s_cm σ, x, s_lf σ, s_nd σ, s_st σ, s_hl σ, s_od σ, s_jn σ)
def w_lf (σ : Sg) (x : Nat → Nat) : Sg := (s_nS σ, s_nJ σ, s_wk σ, s_pv σ, s_dr σ, s_fr σ, s_pk σ, s_hi σ, s_cm σ, s_se σ, x, s_nd σ, s_st σ, s_hl σ, s_od σ, s_jn σ)
def w_nd (σ : Sg) (x : Nat → Nat) : Sg := (s_nS σ, s_nJ σ, s_wk σ, s_pv σ, s_dr σ, s_fr σ, s_pk σ, s_hi σ, s_cm σ, s_se σ, s_lf σ, x, s_st σ, s_hl σ, s_od σ, s_jn σ)
def w_st (σ : Sg) (x : Nat → Nat) : Sg := (s_nS σ, s_nJ σ, s_wk σ, s_pv σ, s_dr σ, s_fr σ, s_pk σ, s_hi σ, s_cm σ, s_se σ, s_lf σ, s_nd σ, x, s_hl σ, s_od σ, s_jn σ)
def w_hl (σ : Sg) (x : Nat → Bool) : Sg := (s_nS σ, s_nJ σ, s_wk σ, s_pv σ, s_dr σ, s_fr σ, s_pk σ, s_hi σ, s_cm σ, s_se σ, s_lf σ, s_nd σ, s_st σ, x, s_od σ, s_jn σ)
def w_od (σ : Sg) (x : List Nat) : Sg := (s_nS σ, s_nJ σ, s_wk σ, s_pv σ, s_dr σ, s_fr σ, s_pk σ, s_hi σ, s_cm σ, s_se σ, s_lf σ, s_nd σ, s_st σ, s_hl σ, x, s_jn σ)
def w_jn (σ : Sg) (x : List (Nat × Nat)) : Sg := (s_nS σ, s_nJ σ, s_wk σ, s_pv σ, s_dr σ, s_fr σ, s_pk σ, s_hi σ, s_cm σ, s_se σ, s_lf σ, s_nd σ, s_st σ, s_hl σ, s_od σ, x)
theorem g_nS_nS {σ : Sg} {x : Nat} : s_nS (w_nS σ x) = x := rfl
theorem g_nS_nJ {σ : Sg} {x : Nat} : s_nS (w_nJ σ x) = s_nS σ := rfl
theorem g_nS_wk {σ : Sg} {x : Int64} : s_nS (w_wk σ x) = s_nS σ := rfl
theorem g_nS_pv {σ : Sg} {x : Nat → Bool} : s_nS (w_pv σ x) = s_nS σ := rfl
theorem g_nS_dr {σ : Sg} {x : Nat → Bool} : s_nS (w_dr σ x) = s_nS σ := rfl
theorem g_nS_fr {σ : Sg} {x : Nat → Option Nat} : s_nS (w_fr σ x) = s_nS σ := rfl
theorem g_nS_pk {σ : Sg} {x : Nat → Option Nat} : s_nS (w_pk σ x) = s_nS σ := rfl
theorem g_nS_hi {σ : Sg} {x : Nat → List Nat} : s_nS (w_hi σ x) = s_nS σ := rfl
theorem g_nS_cm {σ : Sg} {x : List Nat} : s_nS (w_cm σ x) = s_nS σ := rfl
theorem g_nS_se {σ : Sg} {x : Nat → Nat} : s_nS (w_se σ x) = s_nS σ := rfl
theorem g_nS_lf {σ : Sg} {x : Nat → Nat} : s_nS (w_lf σ x) = s_nS σ := rfl
theorem g_nS_nd {σ : Sg} {x : Nat → Nat} : s_nS (w_nd σ x) = s_nS σ := rfl
theorem g_nS_st {σ : Sg} {x : Nat → Nat} : s_nS (w_st σ x) = s_nS σ := rfl
theorem g_nS_hl {σ : Sg} {x : Nat → Bool} : s_nS (w_hl σ x) = s_nS σ := rfl
theorem g_nS_od {σ : Sg} {x : List Nat} : s_nS (w_od σ x) = s_nS σ := rfl
theorem g_nS_jn {σ : Sg} {x : List (Nat × Nat)} : s_nS (w_jn σ x) = s_nS σ := rfl
theorem g_nJ_nS {σ : Sg} {x : Nat} : s_nJ (w_nS σ x) = s_nJ σ := rfl
theorem g_nJ_nJ {σ : Sg} {x : Nat} : s_nJ (w_nJ σ x) = x := rfl
theorem g_nJ_wk {σ : Sg} {x : Int64} : s_nJ (w_wk σ x) = s_nJ σ := rfl
theorem g_nJ_pv {σ : Sg} {x : Nat → Bool} : s_nJ (w_pv σ x) = s_nJ σ := rfl
theorem g_nJ_dr {σ : Sg} {x : Nat → Bool} : s_nJ (w_dr σ x) = s_nJ σ := rfl
theorem g_nJ_fr {σ : Sg} {x : Nat → Option Nat} : s_nJ (w_fr σ x) = s_nJ σ := rfl
theorem g_nJ_pk {σ : Sg} {x : Nat → Option Nat} : s_nJ (w_pk σ x) = s_nJ σ := rfl
theorem g_nJ_hi {σ : Sg} {x : Nat → List Nat} : s_nJ (w_hi σ x) = s_nJ σ := rfl
theorem g_nJ_cm {σ : Sg} {x : List Nat} : s_nJ (w_cm σ x) = s_nJ σ := rfl
theorem g_nJ_se {σ : Sg} {x : Nat → Nat} : s_nJ (w_se σ x) = s_nJ σ := rfl
theorem g_nJ_lf {σ : Sg} {x : Nat → Nat} : s_nJ (w_lf σ x) = s_nJ σ := rfl
theorem g_nJ_nd {σ : Sg} {x : Nat → Nat} : s_nJ (w_nd σ x) = s_nJ σ := rfl
theorem g_nJ_st {σ : Sg} {x : Nat → Nat} : s_nJ (w_st σ x) = s_nJ σ := rfl
theorem g_nJ_hl {σ : Sg} {x : Nat → Bool} : s_nJ (w_hl σ x) = s_nJ σ := rfl
theorem g_nJ_od {σ : Sg} {x : List Nat} : s_nJ (w_od σ x) = s_nJ σ := rfl
theorem g_nJ_jn {σ : Sg} {x : List (Nat × Nat)} : s_nJ (w_jn σ x) = s_nJ σ := rfl
theorem g_wk_nS {σ : Sg} {x : Nat} : s_wk (w_nS σ x) = s_wk σ := rfl
theorem g_wk_nJ {σ : Sg} {x : Nat} : s_wk (w_nJ σ x) = s_wk σ := rfl
theorem g_wk_wk {σ : Sg} {x : Int64} : s_wk (w_wk σ x) = x := rfl
theorem g_wk_pv {σ : Sg} {x : Nat → Bool} : s_wk (w_pv σ x) = s_wk σ := rfl
theorem g_wk_dr {σ : Sg} {x : Nat → Bool} : s_wk (w_dr σ x) = s_wk σ := rfl
theorem g_wk_fr {σ : Sg} {x : Nat → Option Nat} : s_wk (w_fr σ x) = s_wk σ := rfl
theorem g_wk_pk {σ : Sg} {x : Nat → Option Nat} : s_wk (w_pk σ x) = s_wk σ := rfl
theorem g_wk_hi {σ : Sg} {x : Nat → List Nat} : s_wk (w_hi σ x) = s_wk σ := rfl
theorem g_wk_cm {σ : Sg} {x : List Nat} : s_wk (w_cm σ x) = s_wk σ := rfl
theorem g_wk_se {σ : Sg} {x : Nat → Nat} : s_wk (w_se σ x) = s_wk σ := rfl
theorem g_wk_lf {σ : Sg} {x : Nat → Nat} : s_wk (w_lf σ x) = s_wk σ := rfl
theorem g_wk_nd {σ : Sg} {x : Nat → Nat} : s_wk (w_nd σ x) = s_wk σ := rfl
theorem g_wk_st {σ : Sg} {x : Nat → Nat} : s_wk (w_st σ x) = s_wk σ := rfl
theorem g_wk_hl {σ : Sg} {x : Nat → Bool} : s_wk (w_hl σ x) = s_wk σ := rfl
theorem g_wk_od {σ : Sg} {x : List Nat} : s_wk (w_od σ x) = s_wk σ := rfl
theorem g_wk_jn {σ : Sg} {x : List (Nat × Nat)} : s_wk (w_jn σ x) = s_wk σ := rfl
theorem g_pv_nS {σ : Sg} {x : Nat} : s_pv (w_nS σ x) = s_pv σ := rfl
theorem g_pv_nJ {σ : Sg} {x : Nat} : s_pv (w_nJ σ x) = s_pv σ := rfl
theorem g_pv_wk {σ : Sg} {x : Int64} : s_pv (w_wk σ x) = s_pv σ := rfl
theorem g_pv_pv {σ : Sg} {x : Nat → Bool} : s_pv (w_pv σ x) = x := rfl
theorem g_pv_dr {σ : Sg} {x : Nat → Bool} : s_pv (w_dr σ x) = s_pv σ := rfl
theorem g_pv_fr {σ : Sg} {x : Nat → Option Nat} : s_pv (w_fr σ x) = s_pv σ := rfl
theorem g_pv_pk {σ : Sg} {x : Nat → Option Nat} : s_pv (w_pk σ x) = s_pv σ := rfl
theorem g_pv_hi {σ : Sg} {x : Nat → List Nat} : s_pv (w_hi σ x) = s_pv σ := rfl
theorem g_pv_cm {σ : Sg} {x : List Nat} : s_pv (w_cm σ x) = s_pv σ := rfl
theorem g_pv_se {σ : Sg} {x : Nat → Nat} : s_pv (w_se σ x) = s_pv σ := rfl
theorem g_pv_lf {σ : Sg} {x : Nat → Nat} : s_pv (w_lf σ x) = s_pv σ := rfl
theorem g_pv_nd {σ : Sg} {x : Nat → Nat} : s_pv (w_nd σ x) = s_pv σ := rfl
theorem g_pv_st {σ : Sg} {x : Nat → Nat} : s_pv (w_st σ x) = s_pv σ := rfl
theorem g_pv_hl {σ : Sg} {x : Nat → Bool} : s_pv (w_hl σ x) = s_pv σ := rfl
theorem g_pv_od {σ : Sg} {x : List Nat} : s_pv (w_od σ x) = s_pv σ := rfl
theorem g_pv_jn {σ : Sg} {x : List (Nat × Nat)} : s_pv (w_jn σ x) = s_pv σ := rfl
theorem g_dr_nS {σ : Sg} {x : Nat} : s_dr (w_nS σ x) = s_dr σ := rfl
theorem g_dr_nJ {σ : Sg} {x : Nat} : s_dr (w_nJ σ x) = s_dr σ := rfl
theorem g_dr_wk {σ : Sg} {x : Int64} : s_dr (w_wk σ x) = s_dr σ := rfl
theorem g_dr_pv {σ : Sg} {x : Nat → Bool} : s_dr (w_pv σ x) = s_dr σ := rfl
theorem g_dr_dr {σ : Sg} {x : Nat → Bool} : s_dr (w_dr σ x) = x := rfl
theorem g_dr_fr {σ : Sg} {x : Nat → Option Nat} : s_dr (w_fr σ x) = s_dr σ := rfl
theorem g_dr_pk {σ : Sg} {x : Nat → Option Nat} : s_dr (w_pk σ x) = s_dr σ := rfl
theorem g_dr_hi {σ : Sg} {x : Nat → List Nat} : s_dr (w_hi σ x) = s_dr σ := rfl
theorem g_dr_cm {σ : Sg} {x : List Nat} : s_dr (w_cm σ x) = s_dr σ := rfl
theorem g_dr_se {σ : Sg} {x : Nat → Nat} : s_dr (w_se σ x) = s_dr σ := rfl
theorem g_dr_lf {σ : Sg} {x : Nat → Nat} : s_dr (w_lf σ x) = s_dr σ := rfl
theorem g_dr_nd {σ : Sg} {x : Nat → Nat} : s_dr (w_nd σ x) = s_dr σ := rfl
theorem g_dr_st {σ : Sg} {x : Nat → Nat} : s_dr (w_st σ x) = s_dr σ := rfl
theorem g_dr_hl {σ : Sg} {x : Nat → Bool} : s_dr (w_hl σ x) = s_dr σ := rfl
theorem g_dr_od {σ : Sg} {x : List Nat} : s_dr (w_od σ x) = s_dr σ := rfl
theorem g_dr_jn {σ : Sg} {x : List (Nat × Nat)} : s_dr (w_jn σ x) = s_dr σ := rfl
theorem g_fr_nS {σ : Sg} {x : Nat} : s_fr (w_nS σ x) = s_fr σ := rfl
theorem g_fr_nJ {σ : Sg} {x : Nat} : s_fr (w_nJ σ x) = s_fr σ := rfl
theorem g_fr_wk {σ : Sg} {x : Int64} : s_fr (w_wk σ x) = s_fr σ := rfl
theorem g_fr_pv {σ : Sg} {x : Nat → Bool} : s_fr (w_pv σ x) = s_fr σ := rfl
theorem g_fr_dr {σ : Sg} {x : Nat → Bool} : s_fr (w_dr σ x) = s_fr σ := rfl
theorem g_fr_fr {σ : Sg} {x : Nat → Option Nat} : s_fr (w_fr σ x) = x := rfl
theorem g_fr_pk {σ : Sg} {x : Nat → Option Nat} : s_fr (w_pk σ x) = s_fr σ := rfl
theorem g_fr_hi {σ : Sg} {x : Nat → List Nat} : s_fr (w_hi σ x) = s_fr σ := rfl
theorem g_fr_cm {σ : Sg} {x : List Nat} : s_fr (w_cm σ x) = s_fr σ := rfl
theorem g_fr_se {σ : Sg} {x : Nat → Nat} : s_fr (w_se σ x) = s_fr σ := rfl
theorem g_fr_lf {σ : Sg} {x : Nat → Nat} : s_fr (w_lf σ x) = s_fr σ := rfl
theorem g_fr_nd {σ : Sg} {x : Nat → Nat} : s_fr (w_nd σ x) = s_fr σ := rfl
theorem g_fr_st {σ : Sg} {x : Nat → Nat} : s_fr (w_st σ x) = s_fr σ := rfl
theorem g_fr_hl {σ : Sg} {x : Nat → Bool} : s_fr (w_hl σ x) = s_fr σ := rfl
theorem g_fr_od {σ : Sg} {x : List Nat} : s_fr (w_od σ x) = s_fr σ := rfl
theorem g_fr_jn {σ : Sg} {x : List (Nat × Nat)} : s_fr (w_jn σ x) = s_fr σ := rfl
theorem g_pk_nS {σ : Sg} {x : Nat} : s_pk (w_nS σ x) = s_pk σ := rfl
theorem g_pk_nJ {σ : Sg} {x : Nat} : s_pk (w_nJ σ x) = s_pk σ := rfl
theorem g_pk_wk {σ : Sg} {x : Int64} : s_pk (w_wk σ x) = s_pk σ := rfl
theorem g_pk_pv {σ : Sg} {x : Nat → Bool} : s_pk (w_pv σ x) = s_pk σ := rfl
theorem g_pk_dr {σ : Sg} {x : Nat → Bool} : s_pk (w_dr σ x) = s_pk σ := rfl
theorem g_pk_fr {σ : Sg} {x : Nat → Option Nat} : s_pk (w_fr σ x) = s_pk σ := rfl
theorem g_pk_pk {σ : Sg} {x : Nat → Option Nat} : s_pk (w_pk σ x) = x := rfl
theorem g_pk_hi {σ : Sg} {x : Nat → List Nat} : s_pk (w_hi σ x) = s_pk σ := rfl
theorem g_pk_cm {σ : Sg} {x : List Nat} : s_pk (w_cm σ x) = s_pk σ := rfl
theorem g_pk_se {σ : Sg} {x : Nat → Nat} : s_pk (w_se σ x) = s_pk σ := rfl
theorem g_pk_lf {σ : Sg} {x : Nat → Nat} : s_pk (w_lf σ x) = s_pk σ := rfl
theorem g_pk_nd {σ : Sg} {x : Nat → Nat} : s_pk (w_nd σ x) = s_pk σ := rfl
theorem g_pk_st {σ : Sg} {x : Nat → Nat} : s_pk (w_st σ x) = s_pk σ := rfl
theorem g_pk_hl {σ : Sg} {x : Nat → Bool} : s_pk (w_hl σ x) = s_pk σ := rfl
theorem g_pk_od {σ : Sg} {x : List Nat} : s_pk (w_od σ x) = s_pk σ := rfl
theorem g_pk_jn {σ : Sg} {x : List (Nat × Nat)} : s_pk (w_jn σ x) = s_pk σ := rfl
theorem g_hi_nS {σ : Sg} {x : Nat} : s_hi (w_nS σ x) = s_hi σ := rfl
theorem g_hi_nJ {σ : Sg} {x : Nat} : s_hi (w_nJ σ x) = s_hi σ := rfl
theorem g_hi_wk {σ : Sg} {x : Int64} : s_hi (w_wk σ x) = s_hi σ := rfl
theorem g_hi_pv {σ : Sg} {x : Nat → Bool} : s_hi (w_pv σ x) = s_hi σ := rfl
theorem g_hi_dr {σ : Sg} {x : Nat → Bool} : s_hi (w_dr σ x) = s_hi σ := rfl
theorem g_hi_fr {σ : Sg} {x : Nat → Option Nat} : s_hi (w_fr σ x) = s_hi σ := rfl
theorem g_hi_pk {σ : Sg} {x : Nat → Option Nat} : s_hi (w_pk σ x) = s_hi σ := rfl
theorem g_hi_hi {σ : Sg} {x : Nat → List Nat} : s_hi (w_hi σ x) = x := rfl
theorem g_hi_cm {σ : Sg} {x : List Nat} : s_hi (w_cm σ x) = s_hi σ := rfl
theorem g_hi_se {σ : Sg} {x : Nat → Nat} : s_hi (w_se σ x) = s_hi σ := rfl
theorem g_hi_lf {σ : Sg} {x : Nat → Nat} : s_hi (w_lf σ x) = s_hi σ := rfl
theorem g_hi_nd {σ : Sg} {x : Nat → Nat} : s_hi (w_nd σ x) = s_hi σ := rfl
theorem g_hi_st {σ : Sg} {x : Nat → Nat} : s_hi (w_st σ x) = s_hi σ := rfl
theorem g_hi_hl {σ : Sg} {x : Nat → Bool} : s_hi (w_hl σ x) = s_hi σ := rfl
theorem g_hi_od {σ : Sg} {x : List Nat} : s_hi (w_od σ x) = s_hi σ := rfl
theorem g_hi_jn {σ : Sg} {x : List (Nat × Nat)} : s_hi (w_jn σ x) = s_hi σ := rfl
theorem g_cm_nS {σ : Sg} {x : Nat} : s_cm (w_nS σ x) = s_cm σ := rfl
theorem g_cm_nJ {σ : Sg} {x : Nat} : s_cm (w_nJ σ x) = s_cm σ := rfl
theorem g_cm_wk {σ : Sg} {x : Int64} : s_cm (w_wk σ x) = s_cm σ := rfl
theorem g_cm_pv {σ : Sg} {x : Nat → Bool} : s_cm (w_pv σ x) = s_cm σ := rfl
theorem g_cm_dr {σ : Sg} {x : Nat → Bool} : s_cm (w_dr σ x) = s_cm σ := rfl
theorem g_cm_fr {σ : Sg} {x : Nat → Option Nat} : s_cm (w_fr σ x) = s_cm σ := rfl
theorem g_cm_pk {σ : Sg} {x : Nat → Option Nat} : s_cm (w_pk σ x) = s_cm σ := rfl
theorem g_cm_hi {σ : Sg} {x : Nat → List Nat} : s_cm (w_hi σ x) = s_cm σ := rfl
theorem g_cm_cm {σ : Sg} {x : List Nat} : s_cm (w_cm σ x) = x := rfl
theorem g_cm_se {σ : Sg} {x : Nat → Nat} : s_cm (w_se σ x) = s_cm σ := rfl
theorem g_cm_lf {σ : Sg} {x : Nat → Nat} : s_cm (w_lf σ x) = s_cm σ := rfl
theorem g_cm_nd {σ : Sg} {x : Nat → Nat} : s_cm (w_nd σ x) = s_cm σ := rfl
theorem g_cm_st {σ : Sg} {x : Nat → Nat} : s_cm (w_st σ x) = s_cm σ := rfl
theorem g_cm_hl {σ : Sg} {x : Nat → Bool} : s_cm (w_hl σ x) = s_cm σ := rfl
theorem g_cm_od {σ : Sg} {x : List Nat} : s_cm (w_od σ x) = s_cm σ := rfl
theorem g_cm_jn {σ : Sg} {x : List (Nat × Nat)} : s_cm (w_jn σ x) = s_cm σ := rfl
theorem g_se_nS {σ : Sg} {x : Nat} : s_se (w_nS σ x) = s_se σ := rfl
theorem g_se_nJ {σ : Sg} {x : Nat} : s_se (w_nJ σ x) = s_se σ := rfl
theorem g_se_wk {σ : Sg} {x : Int64} : s_se (w_wk σ x) = s_se σ := rfl
theorem g_se_pv {σ : Sg} {x : Nat → Bool} : s_se (w_pv σ x) = s_se σ := rfl
theorem g_se_dr {σ : Sg} {x : Nat → Bool} : s_se (w_dr σ x) = s_se σ := rfl
theorem g_se_fr {σ : Sg} {x : Nat → Option Nat} : s_se (w_fr σ x) = s_se σ := rfl
theorem g_se_pk {σ : Sg} {x : Nat → Option Nat} : s_se (w_pk σ x) = s_se σ := rfl
theorem g_se_hi {σ : Sg} {x : Nat → List Nat} : s_se (w_hi σ x) = s_se σ := rfl
theorem g_se_cm {σ : Sg} {x : List Nat} : s_se (w_cm σ x) = s_se σ := rfl
theorem g_se_se {σ : Sg} {x : Nat → Nat} : s_se (w_se σ x) = x := rfl
theorem g_se_lf {σ : Sg} {x : Nat → Nat} : s_se (w_lf σ x) = s_se σ := rfl
theorem g_se_nd {σ : Sg} {x : Nat → Nat} : s_se (w_nd σ x) = s_se σ := rfl
theorem g_se_st {σ : Sg} {x : Nat → Nat} : s_se (w_st σ x) = s_se σ := rfl
theorem g_se_hl {σ : Sg} {x : Nat → Bool} : s_se (w_hl σ x) = s_se σ := rfl
theorem g_se_od {σ : Sg} {x : List Nat} : s_se (w_od σ x) = s_se σ := rfl
theorem g_se_jn {σ : Sg} {x : List (Nat × Nat)} : s_se (w_jn σ x) = s_se σ := rfl
theorem g_lf_nS {σ : Sg} {x : Nat} : s_lf (w_nS σ x) = s_lf σ := rfl
theorem g_lf_nJ {σ : Sg} {x : Nat} : s_lf (w_nJ σ x) = s_lf σ := rfl
theorem g_lf_wk {σ : Sg} {x : Int64} : s_lf (w_wk σ x) = s_lf σ := rfl
theorem g_lf_pv {σ : Sg} {x : Nat → Bool} : s_lf (w_pv σ x) = s_lf σ := rfl
theorem g_lf_dr {σ : Sg} {x : Nat → Bool} : s_lf (w_dr σ x) = s_lf σ := rfl
theorem g_lf_fr {σ : Sg} {x : Nat → Option Nat} : s_lf (w_fr σ x) = s_lf σ := rfl
theorem g_lf_pk {σ : Sg} {x : Nat → Option Nat} : s_lf (w_pk σ x) = s_lf σ := rfl
theorem g_lf_hi {σ : Sg} {x : Nat → List Nat} : s_lf (w_hi σ x) = s_lf σ := rfl
theorem g_lf_cm {σ : Sg} {x : List Nat} : s_lf (w_cm σ x) = s_lf σ := rfl
theorem g_lf_se {σ : Sg} {x : Nat → Nat} : s_lf (w_se σ x) = s_lf σ := rfl
theorem g_lf_lf {σ : Sg} {x : Nat → Nat} : s_lf (w_lf σ x) = x := rfl
theorem g_lf_nd {σ : Sg} {x : Nat → Nat} : s_lf (w_nd σ x) = s_lf σ := rfl
theorem g_lf_st {σ : Sg} {x : Nat → Nat} : s_lf (w_st σ x) = s_lf σ := rfl
theorem g_lf_hl {σ : Sg} {x : Nat → Bool} : s_lf (w_hl σ x) = s_lf σ := rfl
theorem g_lf_od {σ : Sg} {x : List Nat} : s_lf (w_od σ x) = s_lf σ := rfl
theorem g_lf_jn {σ : Sg} {x : List (Nat × Nat)} : s_lf (w_jn σ x) = s_lf σ := rfl
theorem g_nd_nS {σ : Sg} {x : Nat} : s_nd (w_nS σ x) = s_nd σ := rfl
theorem g_nd_nJ {σ : Sg} {x : Nat} : s_nd (w_nJ σ x) = s_nd σ := rfl
theorem g_nd_wk {σ : Sg} {x : Int64} : s_nd (w_wk σ x) = s_nd σ := rfl
theorem g_nd_pv {σ : Sg} {x : Nat → Bool} : s_nd (w_pv σ x) = s_nd σ := rfl
theorem g_nd_dr {σ : Sg} {x : Nat → Bool} : s_nd (w_dr σ x) = s_nd σ := rfl
theorem g_nd_fr {σ : Sg} {x : Nat → Option Nat} : s_nd (w_fr σ x) = s_nd σ := rfl
theorem g_nd_pk {σ : Sg} {x : Nat → Option Nat} : s_nd (w_pk σ x) = s_nd σ := rfl
theorem g_nd_hi {σ : Sg} {x : Nat → List Nat} : s_nd (w_hi σ x) = s_nd σ := rfl
theorem g_nd_cm {σ : Sg} {x : List Nat} : s_nd (w_cm σ x) = s_nd σ := rfl
theorem g_nd_se {σ : Sg} {x : Nat → Nat} : s_nd (w_se σ x) = s_nd σ := rfl
theorem g_nd_lf {σ : Sg} {x : Nat → Nat} : s_nd (w_lf σ x) = s_nd σ := rfl
theorem g_nd_nd {σ : Sg} {x : Nat → Nat} : s_nd (w_nd σ x) = x := rfl
theorem g_nd_st {σ : Sg} {x : Nat → Nat} : s_nd (w_st σ x) = s_nd σ := rfl
theorem g_nd_hl {σ : Sg} {x : Nat → Bool} : s_nd (w_hl σ x) = s_nd σ := rfl
theorem g_nd_od {σ : Sg} {x : List Nat} : s_nd (w_od σ x) = s_nd σ := rfl
theorem g_nd_jn {σ : Sg} {x : List (Nat × Nat)} : s_nd (w_jn σ x) = s_nd σ := rfl
theorem g_st_nS {σ : Sg} {x : Nat} : s_st (w_nS σ x) = s_st σ := rfl
theorem g_st_nJ {σ : Sg} {x : Nat} : s_st (w_nJ σ x) = s_st σ := rfl
theorem g_st_wk {σ : Sg} {x : Int64} : s_st (w_wk σ x) = s_st σ := rfl
theorem g_st_pv {σ : Sg} {x : Nat → Bool} : s_st (w_pv σ x) = s_st σ := rfl
theorem g_st_dr {σ : Sg} {x : Nat → Bool} : s_st (w_dr σ x) = s_st σ := rfl
theorem g_st_fr {σ : Sg} {x : Nat → Option Nat} : s_st (w_fr σ x) = s_st σ := rfl
theorem g_st_pk {σ : Sg} {x : Nat → Option Nat} : s_st (w_pk σ x) = s_st σ := rfl
theorem g_st_hi {σ : Sg} {x : Nat → List Nat} : s_st (w_hi σ x) = s_st σ := rfl
theorem g_st_cm {σ : Sg} {x : List Nat} : s_st (w_cm σ x) = s_st σ := rfl
theorem g_st_se {σ : Sg} {x : Nat → Nat} : s_st (w_se σ x) = s_st σ := rfl
theorem g_st_lf {σ : Sg} {x : Nat → Nat} : s_st (w_lf σ x) = s_st σ := rfl
theorem g_st_nd {σ : Sg} {x : Nat → Nat} : s_st (w_nd σ x) = s_st σ := rfl
theorem g_st_st {σ : Sg} {x : Nat → Nat} : s_st (w_st σ x) = x := rfl
theorem g_st_hl {σ : Sg} {x : Nat → Bool} : s_st (w_hl σ x) = s_st σ := rfl
theorem g_st_od {σ : Sg} {x : List Nat} : s_st (w_od σ x) = s_st σ := rfl
theorem g_st_jn {σ : Sg} {x : List (Nat × Nat)} : s_st (w_jn σ x) = s_st σ := rfl
theorem g_hl_nS {σ : Sg} {x : Nat} : s_hl (w_nS σ x) = s_hl σ := rfl
theorem g_hl_nJ {σ : Sg} {x : Nat} : s_hl (w_nJ σ x) = s_hl σ := rfl
theorem g_hl_wk {σ : Sg} {x : Int64} : s_hl (w_wk σ x) = s_hl σ := rfl
theorem g_hl_pv {σ : Sg} {x : Nat → Bool} : s_hl (w_pv σ x) = s_hl σ := rfl
theorem g_hl_dr {σ : Sg} {x : Nat → Bool} : s_hl (w_dr σ x) = s_hl σ := rfl
theorem g_hl_fr {σ : Sg} {x : Nat → Option Nat} : s_hl (w_fr σ x) = s_hl σ := rfl
theorem g_hl_pk {σ : Sg} {x : Nat → Option Nat} : s_hl (w_pk σ x) = s_hl σ := rfl
theorem g_hl_hi {σ : Sg} {x : Nat → List Nat} : s_hl (w_hi σ x) = s_hl σ := rfl
theorem g_hl_cm {σ : Sg} {x : List Nat} : s_hl (w_cm σ x) = s_hl σ := rfl
theorem g_hl_se {σ : Sg} {x : Nat → Nat} : s_hl (w_se σ x) = s_hl σ := rfl
theorem g_hl_lf {σ : Sg} {x : Nat → Nat} : s_hl (w_lf σ x) = s_hl σ := rfl
theorem g_hl_nd {σ : Sg} {x : Nat → Nat} : s_hl (w_nd σ x) = s_hl σ := rfl
theorem g_hl_st {σ : Sg} {x : Nat → Nat} : s_hl (w_st σ x) = s_hl σ := rfl
theorem g_hl_hl {σ : Sg} {x : Nat → Bool} : s_hl (w_hl σ x) = x := rfl
theorem g_hl_od {σ : Sg} {x : List Nat} : s_hl (w_od σ x) = s_hl σ := rfl
theorem g_hl_jn {σ : Sg} {x : List (Nat × Nat)} : s_hl (w_jn σ x) = s_hl σ := rfl
theorem g_od_nS {σ : Sg} {x : Nat} : s_od (w_nS σ x) = s_od σ := rfl
theorem g_od_nJ {σ : Sg} {x : Nat} : s_od (w_nJ σ x) = s_od σ := rfl
theorem g_od_wk {σ : Sg} {x : Int64} : s_od (w_wk σ x) = s_od σ := rfl
theorem g_od_pv {σ : Sg} {x : Nat → Bool} : s_od (w_pv σ x) = s_od σ := rfl
theorem g_od_dr {σ : Sg} {x : Nat → Bool} : s_od (w_dr σ x) = s_od σ := rfl
theorem g_od_fr {σ : Sg} {x : Nat → Option Nat} : s_od (w_fr σ x) = s_od σ := rfl
theorem g_od_pk {σ : Sg} {x : Nat → Option Nat} : s_od (w_pk σ x) = s_od σ := rfl
theorem g_od_hi {σ : Sg} {x : Nat → List Nat} : s_od (w_hi σ x) = s_od σ := rfl
theorem g_od_cm {σ : Sg} {x : List Nat} : s_od (w_cm σ x) = s_od σ := rfl
theorem g_od_se {σ : Sg} {x : Nat → Nat} : s_od (w_se σ x) = s_od σ := rfl
theorem g_od_lf {σ : Sg} {x : Nat → Nat} : s_od (w_lf σ x) = s_od σ := rfl
theorem g_od_nd {σ : Sg} {x : Nat → Nat} : s_od (w_nd σ x) = s_od σ := rfl
theorem g_od_st {σ : Sg} {x : Nat → Nat} : s_od (w_st σ x) = s_od σ := rfl
theorem g_od_hl {σ : Sg} {x : Nat → Bool} : s_od (w_hl σ x) = s_od σ := rfl
theorem g_od_od {σ : Sg} {x : List Nat} : s_od (w_od σ x) = x := rfl
theorem g_od_jn {σ : Sg} {x : List (Nat × Nat)} : s_od (w_jn σ x) = s_od σ := rfl
theorem g_jn_nS {σ : Sg} {x : Nat} : s_jn (w_nS σ x) = s_jn σ := rfl
theorem g_jn_nJ {σ : Sg} {x : Nat} : s_jn (w_nJ σ x) = s_jn σ := rfl
theorem g_jn_wk {σ : Sg} {x : Int64} : s_jn (w_wk σ x) = s_jn σ := rfl
theorem g_jn_pv {σ : Sg} {x : Nat → Bool} : s_jn (w_pv σ x) = s_jn σ := rfl
theorem g_jn_dr {σ : Sg} {x : Nat → Bool} : s_jn (w_dr σ x) = s_jn σ := rfl
theorem g_jn_fr {σ : Sg} {x : Nat → Option Nat} : s_jn (w_fr σ x) = s_jn σ := rfl
theorem g_jn_pk {σ : Sg} {x : Nat → Option Nat} : s_jn (w_pk σ x) = s_jn σ := rfl
theorem g_jn_hi {σ : Sg} {x : Nat → List Nat} : s_jn (w_hi σ x) = s_jn σ := rfl
theorem g_jn_cm {σ : Sg} {x : List Nat} : s_jn (w_cm σ x) = s_jn σ := rfl
theorem g_jn_se {σ : Sg} {x : Nat → Nat} : s_jn (w_se σ x) = s_jn σ := rfl
theorem g_jn_lf {σ : Sg} {x : Nat → Nat} : s_jn (w_lf σ x) = s_jn σ := rfl
theorem g_jn_nd {σ : Sg} {x : Nat → Nat} : s_jn (w_nd σ x) = s_jn σ := rfl
theorem g_jn_st {σ : Sg} {x : Nat → Nat} : s_jn (w_st σ x) = s_jn σ := rfl
theorem g_jn_hl {σ : Sg} {x : Nat → Bool} : s_jn (w_hl σ x) = s_jn σ := rfl
theorem g_jn_od {σ : Sg} {x : List Nat} : s_jn (w_od σ x) = s_jn σ := rfl
theorem g_jn_jn {σ : Sg} {x : List (Nat × Nat)} : s_jn (w_jn σ x) = x := rfl
theorem isA_r {a : Nat} : isA (.ref a) = true := rfl
theorem isA_n : isA .null = true := rfl
theorem isI_i {x : Int32} : isI (.int x) = true := rfl
theorem isF_f {x : UInt32} : isF (.float x) = true := rfl
theorem isL_l {x : Int64} : isL (.long x) = true := rfl
theorem is1_i {x : Int32} : is1 (.int x) = true := rfl
theorem is1_r {a : Nat} : is1 (.ref a) = true := rfl
theorem is1_n : is1 .null = true := rfl
theorem is1_f {x : UInt32} : is1 (.float x) = true := rfl
theorem isA_rf2 {o : Option Nat} : isA (va_rf o) = true := by cases o <;> rfl
theorem is1_rf {o : Option Nat} : is1 (va_rf o) = true := by cases o <;> rfl
theorem aft_s {P : PT} {Q : Out → AH → Prop} {M : MD} {ini : Bool} {pc : Nat} {ls st : List Value} {v : Value} {h : AH} {c n : Nat} : Aft P Q M ini pc ls st (.inl (some v)) h c n = P (pc + 3) ls (v :: st) h c n := rfl
theorem aft_n {P : PT} {Q : Out → AH → Prop} {M : MD} {ini : Bool} {pc : Nat} {ls st : List Value} {h : AH} {c n : Nat} : Aft P Q M ini pc ls st (.inl none) h c n = P (pc + 3) ls st h c n := rfl
theorem inv0 {TT : TAB} {E : EN} {d : Nat} {M M' : MD} {Q : Out → AH → Prop} {pc : Nat} {ls st as : List Value} {h : AH} {c n : Nat} (H : CRd TT E d M' as h 0 0 (fun o h' => Aft (EvR TT E d M Q) Q M (mI M') pc ls st o h' c n)) : Inv TT E d M M' Q pc ls st as h c n := ⟨0, 0, Nat.zero_le _, Nat.zero_le _, H⟩
theorem invk {TT : TAB} {E : EN} {d : Nat} {M M' : MD} {Q : Out → AH → Prop} {pc : Nat} {ls st as : List Value} {h : AH} {c n : Nat} (c' n' : Nat) (h1 : c' ≤ c) (h2 : n' ≤ n) (H : CRd TT E d M' as h c' n' (fun o h' => Aft (EvR TT E d M Q) Q M (mI M') pc ls st o h' (c - c') (n - n'))) : Inv TT E d M M' Q pc ls st as h c n := ⟨c', n', h1, h2, H⟩
/-- a contract out of the run of a body -/
theorem crd {E : EN} {d : Nat} {M : MD} {as : List Value} {h : AH} {c n : Nat} {K : Out → AH → Prop} (h1 : argOK M as = true) (h2 : Ev E d M K 0 (ent M as) [] h c n) : CRd TTv E (d + 1) M as h c n K := ⟨h1, h2⟩
theorem inB_nI {j N : Nat} (h : j < N) (hN : N < 2 ^ 31) : inB (nI j) N = true := by
  unfold inB
  exact decide_eq_true (vp_in_nI h hN)
def b2 (b : Bool) : Int32 := if b then 1 else 0
def o2 (o : Option Nat) : Int32 := match o with
  | none => -1
  | some j => nI j
theorem ok01_b2 {b : Bool} : ok01 (.int (b2 b)) = true := by cases b <;> rfl
theorem b2_0 {b : Bool} : b2 b = 0 ↔ b = false := by cases b <;> simp [b2]
abbrev MS : Type := (Nat → Int32) × Int64 × (Nat → Nat → Int32)
def kd (k : Nat) : Nat := if k = 0 ∨ k = 1 ∨ k = 12 then 1 else 0
def ln (k : Nat) : Nat := if k < 5 then 4 else if k = 5 then 32 else if k = 6 then 13 else if k < 13 then 30 else 32000
def mfs (M : MS) (ad : Nat → Nat) : List Value := [.int (M.1 0), .int (M.1 1), .int (M.1 2), .int (M.1 3), .int (M.1 4), .int (M.1 5), .long M.2.1, .ref (ad 0), .ref (ad 1), .ref (ad 2), .ref (ad 3), .ref (ad 4), .ref (ad 5), .ref (ad 6), .ref (ad 7), .ref (ad 8), .ref (ad 9), .ref (ad 10), .ref (ad 11), .ref (ad 12), .ref (ad 13), .ref (ad 14)]
def mv (h : AH) (mo : Nat) (ad : Nat → Nat) (M : MS) : AH := fun q => if q = mo then some (.inr (6, mfs M ad)) else match (List.range 15).find? (fun k => Nat.beq (ad k) q) with
  | some k => some (.inl (kd k, ln k, .inl (M.2.2 k)))
  | none => h q
def ADok (mo : Nat) (ad : Nat → Nat) : Prop := (∀ i j, i < 15 → j < 15 → ad i = ad j → i = j) ∧ ∀ i, i < 15 → ad i ≠ mo
theorem mv_find {mo : Nat} {ad : Nat → Nat} (A : ADok mo ad) {k : Nat} (hk : k < 15) : (List.range 15).find? (fun i => Nat.beq (ad i) (ad k)) = some k := by
  cases h : (List.range 15).find? (fun i => Nat.beq (ad i) (ad k)) with
  | none => exact absurd (Nat.beq_refl (ad k)) (by have := List.find?_eq_none.mp h k (List.mem_range.mpr hk); simpa using this)
  | some i =>
    have h1 := List.find?_some (p := fun i => Nat.beq (ad i) (ad k)) h
    have h2 := List.mem_of_find?_eq_some h
    rw [A.1 i k (List.mem_range.mp h2) hk (Nat.eq_of_beq_eq_true h1)]
theorem mv_ad {h : AH} {mo : Nat} {ad : Nat → Nat} {M : MS} (A : ADok mo ad) {k : Nat} (hk : k < 15) : mv h mo ad M (ad k) = some (.inl (kd k, ln k, .inl (M.2.2 k))) := by
  unfold mv
  rw [if_neg (A.2 k hk), mv_find A hk]
theorem mv_ob {h : AH} {mo : Nat} {ad : Nat → Nat} {M : MS} : ob (mv h mo ad M) mo 6 = some (mfs M ad) := by
  unfold ob mv
  simp
theorem mv_rd {E : EN} {h : AH} {mo : Nat} {ad : Nat → Nat} {M : MS} (A : ADok mo ad) {k : Nat} (hk : k < 15) : rdI E (mv h mo ad M) (ad k) (kd k) = some (ln k, M.2.2 k) := by
  unfold rdI rd
  rw [mv_ad A hk]
  simp
theorem mv_rw {h : AH} {mo : Nat} {ad : Nat → Nat} {M : MS} (A : ADok mo ad) {k : Nat} (hk : k < 15) : rwI (mv h mo ad M) (ad k) (kd k) = some (ln k, M.2.2 k) := by
  unfold rwI
  rw [mv_ad A hk]
  simp
theorem mv_setA {h : AH} {mo : Nat} {ad : Nat → Nat} {M : MS} (A : ADok mo ad) {k : Nat} (hk : k < 15) {f : Nat → Int32} : hset (mv h mo ad M) (ad k) (.inl (kd k, ln k, .inl f)) = mv h mo ad (M.1, M.2.1, va_up M.2.2 k f) := by
  funext q
  unfold hset
  by_cases hq : q = ad k
  · subst hq
    rw [if_pos rfl, mv_ad A hk]
    show _ = some (Sum.inl (kd k, ln k, Sum.inl (va_up M.2.2 k f k)))
    rw [va_up_self]
  · rw [if_neg hq]
    unfold mv
    by_cases hm : q = mo
    · rw [if_pos hm, if_pos hm]; rfl
    · rw [if_neg hm, if_neg hm]
      cases hf : (List.range 15).find? (fun i => Nat.beq (ad i) q) with
      | none => rfl
      | some i =>
        have h1 := Nat.eq_of_beq_eq_true (List.find?_some (p := fun i => Nat.beq (ad i) q) hf)
        have hik : i ≠ k := fun z => hq (by rw [← h1, z])
        dsimp only
        rw [va_up_ne _ _ hik]
theorem mv_setO {h : AH} {mo : Nat} {ad : Nat → Nat} {M M' : MS} {fs : List Value} (h1 : fs = mfs M' ad) (h2 : M'.2.2 = M.2.2) : hset (mv h mo ad M) mo (.inr (6, fs)) = mv h mo ad M' := by
  funext q
  unfold hset mv
  by_cases hm : q = mo
  · rw [if_pos hm, if_pos hm, h1]
  · rw [if_neg hm, if_neg hm, if_neg hm, h2]
theorem mr0 {E : EN} {h : AH} {mo : Nat} {ad : Nat → Nat} {M : MS} (A : ADok mo ad) : rdI E (mv h mo ad M) (ad 0) 1 = some (4, M.2.2 0) := mv_rd A (k := 0) (by decide)
theorem mw0 {h : AH} {mo : Nat} {ad : Nat → Nat} {M : MS} (A : ADok mo ad) : rwI (mv h mo ad M) (ad 0) 1 = some (4, M.2.2 0) := mv_rw A (k := 0) (by decide)
theorem ms0 {h : AH} {mo : Nat} {ad : Nat → Nat} {M : MS} (A : ADok mo ad) {f : Nat → Int32} : hset (mv h mo ad M) (ad 0) (.inl (1, 4, .inl f)) = mv h mo ad (M.1, M.2.1, va_up M.2.2 0 f) := mv_setA A (k := 0) (by decide)
theorem mr1 {E : EN} {h : AH} {mo : Nat} {ad : Nat → Nat} {M : MS} (A : ADok mo ad) : rdI E (mv h mo ad M) (ad 1) 1 = some (4, M.2.2 1) := mv_rd A (k := 1) (by decide)
theorem mw1 {h : AH} {mo : Nat} {ad : Nat → Nat} {M : MS} (A : ADok mo ad) : rwI (mv h mo ad M) (ad 1) 1 = some (4, M.2.2 1) := mv_rw A (k := 1) (by decide)
theorem ms1 {h : AH} {mo : Nat} {ad : Nat → Nat} {M : MS} (A : ADok mo ad) {f : Nat → Int32} : hset (mv h mo ad M) (ad 1) (.inl (1, 4, .inl f)) = mv h mo ad (M.1, M.2.1, va_up M.2.2 1 f) := mv_setA A (k := 1) (by decide)
theorem mr2 {E : EN} {h : AH} {mo : Nat} {ad : Nat → Nat} {M : MS} (A : ADok mo ad) : rdI E (mv h mo ad M) (ad 2) 0 = some (4, M.2.2 2) := mv_rd A (k := 2) (by decide)
theorem mw2 {h : AH} {mo : Nat} {ad : Nat → Nat} {M : MS} (A : ADok mo ad) : rwI (mv h mo ad M) (ad 2) 0 = some (4, M.2.2 2) := mv_rw A (k := 2) (by decide)
theorem ms2 {h : AH} {mo : Nat} {ad : Nat → Nat} {M : MS} (A : ADok mo ad) {f : Nat → Int32} : hset (mv h mo ad M) (ad 2) (.inl (0, 4, .inl f)) = mv h mo ad (M.1, M.2.1, va_up M.2.2 2 f) := mv_setA A (k := 2) (by decide)
theorem mr3 {E : EN} {h : AH} {mo : Nat} {ad : Nat → Nat} {M : MS} (A : ADok mo ad) : rdI E (mv h mo ad M) (ad 3) 0 = some (4, M.2.2 3) := mv_rd A (k := 3) (by decide)
theorem mw3 {h : AH} {mo : Nat} {ad : Nat → Nat} {M : MS} (A : ADok mo ad) : rwI (mv h mo ad M) (ad 3) 0 = some (4, M.2.2 3) := mv_rw A (k := 3) (by decide)
theorem ms3 {h : AH} {mo : Nat} {ad : Nat → Nat} {M : MS} (A : ADok mo ad) {f : Nat → Int32} : hset (mv h mo ad M) (ad 3) (.inl (0, 4, .inl f)) = mv h mo ad (M.1, M.2.1, va_up M.2.2 3 f) := mv_setA A (k := 3) (by decide)
theorem mr4 {E : EN} {h : AH} {mo : Nat} {ad : Nat → Nat} {M : MS} (A : ADok mo ad) : rdI E (mv h mo ad M) (ad 4) 0 = some (4, M.2.2 4) := mv_rd A (k := 4) (by decide)
theorem mw4 {h : AH} {mo : Nat} {ad : Nat → Nat} {M : MS} (A : ADok mo ad) : rwI (mv h mo ad M) (ad 4) 0 = some (4, M.2.2 4) := mv_rw A (k := 4) (by decide)
theorem ms4 {h : AH} {mo : Nat} {ad : Nat → Nat} {M : MS} (A : ADok mo ad) {f : Nat → Int32} : hset (mv h mo ad M) (ad 4) (.inl (0, 4, .inl f)) = mv h mo ad (M.1, M.2.1, va_up M.2.2 4 f) := mv_setA A (k := 4) (by decide)
theorem mr5 {E : EN} {h : AH} {mo : Nat} {ad : Nat → Nat} {M : MS} (A : ADok mo ad) : rdI E (mv h mo ad M) (ad 5) 0 = some (32, M.2.2 5) := mv_rd A (k := 5) (by decide)
theorem mw5 {h : AH} {mo : Nat} {ad : Nat → Nat} {M : MS} (A : ADok mo ad) : rwI (mv h mo ad M) (ad 5) 0 = some (32, M.2.2 5) := mv_rw A (k := 5) (by decide)
theorem ms5 {h : AH} {mo : Nat} {ad : Nat → Nat} {M : MS} (A : ADok mo ad) {f : Nat → Int32} : hset (mv h mo ad M) (ad 5) (.inl (0, 32, .inl f)) = mv h mo ad (M.1, M.2.1, va_up M.2.2 5 f) := mv_setA A (k := 5) (by decide)
theorem mr6 {E : EN} {h : AH} {mo : Nat} {ad : Nat → Nat} {M : MS} (A : ADok mo ad) : rdI E (mv h mo ad M) (ad 6) 0 = some (13, M.2.2 6) := mv_rd A (k := 6) (by decide)
theorem mw6 {h : AH} {mo : Nat} {ad : Nat → Nat} {M : MS} (A : ADok mo ad) : rwI (mv h mo ad M) (ad 6) 0 = some (13, M.2.2 6) := mv_rw A (k := 6) (by decide)
theorem ms6 {h : AH} {mo : Nat} {ad : Nat → Nat} {M : MS} (A : ADok mo ad) {f : Nat → Int32} : hset (mv h mo ad M) (ad 6) (.inl (0, 13, .inl f)) = mv h mo ad (M.1, M.2.1, va_up M.2.2 6 f) := mv_setA A (k := 6) (by decide)
theorem mr7 {E : EN} {h : AH} {mo : Nat} {ad : Nat → Nat} {M : MS} (A : ADok mo ad) : rdI E (mv h mo ad M) (ad 7) 0 = some (30, M.2.2 7) := mv_rd A (k := 7) (by decide)
theorem mw7 {h : AH} {mo : Nat} {ad : Nat → Nat} {M : MS} (A : ADok mo ad) : rwI (mv h mo ad M) (ad 7) 0 = some (30, M.2.2 7) := mv_rw A (k := 7) (by decide)
theorem ms7 {h : AH} {mo : Nat} {ad : Nat → Nat} {M : MS} (A : ADok mo ad) {f : Nat → Int32} : hset (mv h mo ad M) (ad 7) (.inl (0, 30, .inl f)) = mv h mo ad (M.1, M.2.1, va_up M.2.2 7 f) := mv_setA A (k := 7) (by decide)
theorem mr8 {E : EN} {h : AH} {mo : Nat} {ad : Nat → Nat} {M : MS} (A : ADok mo ad) : rdI E (mv h mo ad M) (ad 8) 0 = some (30, M.2.2 8) := mv_rd A (k := 8) (by decide)
theorem mw8 {h : AH} {mo : Nat} {ad : Nat → Nat} {M : MS} (A : ADok mo ad) : rwI (mv h mo ad M) (ad 8) 0 = some (30, M.2.2 8) := mv_rw A (k := 8) (by decide)
theorem ms8 {h : AH} {mo : Nat} {ad : Nat → Nat} {M : MS} (A : ADok mo ad) {f : Nat → Int32} : hset (mv h mo ad M) (ad 8) (.inl (0, 30, .inl f)) = mv h mo ad (M.1, M.2.1, va_up M.2.2 8 f) := mv_setA A (k := 8) (by decide)
theorem mr9 {E : EN} {h : AH} {mo : Nat} {ad : Nat → Nat} {M : MS} (A : ADok mo ad) : rdI E (mv h mo ad M) (ad 9) 0 = some (30, M.2.2 9) := mv_rd A (k := 9) (by decide)
theorem mw9 {h : AH} {mo : Nat} {ad : Nat → Nat} {M : MS} (A : ADok mo ad) : rwI (mv h mo ad M) (ad 9) 0 = some (30, M.2.2 9) := mv_rw A (k := 9) (by decide)
theorem ms9 {h : AH} {mo : Nat} {ad : Nat → Nat} {M : MS} (A : ADok mo ad) {f : Nat → Int32} : hset (mv h mo ad M) (ad 9) (.inl (0, 30, .inl f)) = mv h mo ad (M.1, M.2.1, va_up M.2.2 9 f) := mv_setA A (k := 9) (by decide)
theorem mr10 {E : EN} {h : AH} {mo : Nat} {ad : Nat → Nat} {M : MS} (A : ADok mo ad) : rdI E (mv h mo ad M) (ad 10) 0 = some (30, M.2.2 10) := mv_rd A (k := 10) (by decide)
theorem mw10 {h : AH} {mo : Nat} {ad : Nat → Nat} {M : MS} (A : ADok mo ad) : rwI (mv h mo ad M) (ad 10) 0 = some (30, M.2.2 10) := mv_rw A (k := 10) (by decide)
theorem ms10 {h : AH} {mo : Nat} {ad : Nat → Nat} {M : MS} (A : ADok mo ad) {f : Nat → Int32} : hset (mv h mo ad M) (ad 10) (.inl (0, 30, .inl f)) = mv h mo ad (M.1, M.2.1, va_up M.2.2 10 f) := mv_setA A (k := 10) (by decide)
theorem mr11 {E : EN} {h : AH} {mo : Nat} {ad : Nat → Nat} {M : MS} (A : ADok mo ad) : rdI E (mv h mo ad M) (ad 11) 0 = some (30, M.2.2 11) := mv_rd A (k := 11) (by decide)
theorem mw11 {h : AH} {mo : Nat} {ad : Nat → Nat} {M : MS} (A : ADok mo ad) : rwI (mv h mo ad M) (ad 11) 0 = some (30, M.2.2 11) := mv_rw A (k := 11) (by decide)
theorem ms11 {h : AH} {mo : Nat} {ad : Nat → Nat} {M : MS} (A : ADok mo ad) {f : Nat → Int32} : hset (mv h mo ad M) (ad 11) (.inl (0, 30, .inl f)) = mv h mo ad (M.1, M.2.1, va_up M.2.2 11 f) := mv_setA A (k := 11) (by decide)
theorem mr12 {E : EN} {h : AH} {mo : Nat} {ad : Nat → Nat} {M : MS} (A : ADok mo ad) : rdI E (mv h mo ad M) (ad 12) 1 = some (30, M.2.2 12) := mv_rd A (k := 12) (by decide)
theorem mw12 {h : AH} {mo : Nat} {ad : Nat → Nat} {M : MS} (A : ADok mo ad) : rwI (mv h mo ad M) (ad 12) 1 = some (30, M.2.2 12) := mv_rw A (k := 12) (by decide)
theorem ms12 {h : AH} {mo : Nat} {ad : Nat → Nat} {M : MS} (A : ADok mo ad) {f : Nat → Int32} : hset (mv h mo ad M) (ad 12) (.inl (1, 30, .inl f)) = mv h mo ad (M.1, M.2.1, va_up M.2.2 12 f) := mv_setA A (k := 12) (by decide)
theorem mr13 {E : EN} {h : AH} {mo : Nat} {ad : Nat → Nat} {M : MS} (A : ADok mo ad) : rdI E (mv h mo ad M) (ad 13) 0 = some (32000, M.2.2 13) := mv_rd A (k := 13) (by decide)
theorem mw13 {h : AH} {mo : Nat} {ad : Nat → Nat} {M : MS} (A : ADok mo ad) : rwI (mv h mo ad M) (ad 13) 0 = some (32000, M.2.2 13) := mv_rw A (k := 13) (by decide)
theorem ms13 {h : AH} {mo : Nat} {ad : Nat → Nat} {M : MS} (A : ADok mo ad) {f : Nat → Int32} : hset (mv h mo ad M) (ad 13) (.inl (0, 32000, .inl f)) = mv h mo ad (M.1, M.2.1, va_up M.2.2 13 f) := mv_setA A (k := 13) (by decide)
theorem mr14 {E : EN} {h : AH} {mo : Nat} {ad : Nat → Nat} {M : MS} (A : ADok mo ad) : rdI E (mv h mo ad M) (ad 14) 0 = some (32000, M.2.2 14) := mv_rd A (k := 14) (by decide)
theorem mw14 {h : AH} {mo : Nat} {ad : Nat → Nat} {M : MS} (A : ADok mo ad) : rwI (mv h mo ad M) (ad 14) 0 = some (32000, M.2.2 14) := mv_rw A (k := 14) (by decide)
theorem ms14 {h : AH} {mo : Nat} {ad : Nat → Nat} {M : MS} (A : ADok mo ad) {f : Nat → Int32} : hset (mv h mo ad M) (ad 14) (.inl (0, 32000, .inl f)) = mv h mo ad (M.1, M.2.1, va_up M.2.2 14 f) := mv_setA A (k := 14) (by decide)
theorem mf0 {h : AH} {mo : Nat} {ad : Nat → Nat} {M : MS} {x : Int32} : hset (mv h mo ad M) mo (.inr (6, (mfs M ad).set 0 (.int x))) = mv h mo ad (va_up M.1 0 x, M.2.1, M.2.2) := mv_setO rfl rfl
theorem mf1 {h : AH} {mo : Nat} {ad : Nat → Nat} {M : MS} {x : Int32} : hset (mv h mo ad M) mo (.inr (6, (mfs M ad).set 1 (.int x))) = mv h mo ad (va_up M.1 1 x, M.2.1, M.2.2) := mv_setO rfl rfl
theorem mf2 {h : AH} {mo : Nat} {ad : Nat → Nat} {M : MS} {x : Int32} : hset (mv h mo ad M) mo (.inr (6, (mfs M ad).set 2 (.int x))) = mv h mo ad (va_up M.1 2 x, M.2.1, M.2.2) := mv_setO rfl rfl
theorem mf3 {h : AH} {mo : Nat} {ad : Nat → Nat} {M : MS} {x : Int32} : hset (mv h mo ad M) mo (.inr (6, (mfs M ad).set 3 (.int x))) = mv h mo ad (va_up M.1 3 x, M.2.1, M.2.2) := mv_setO rfl rfl
theorem mf4 {h : AH} {mo : Nat} {ad : Nat → Nat} {M : MS} {x : Int32} : hset (mv h mo ad M) mo (.inr (6, (mfs M ad).set 4 (.int x))) = mv h mo ad (va_up M.1 4 x, M.2.1, M.2.2) := mv_setO rfl rfl
theorem mf5 {h : AH} {mo : Nat} {ad : Nat → Nat} {M : MS} {x : Int32} : hset (mv h mo ad M) mo (.inr (6, (mfs M ad).set 5 (.int x))) = mv h mo ad (va_up M.1 5 x, M.2.1, M.2.2) := mv_setO rfl rfl
theorem mf6 {h : AH} {mo : Nat} {ad : Nat → Nat} {M : MS} {x : Int64} : hset (mv h mo ad M) mo (.inr (6, (mfs M ad).set 6 (.long x))) = mv h mo ad (M.1, x, M.2.2) := mv_setO rfl rfl
theorem mg0 {M : MS} {ad : Nat → Nat} : (mfs M ad)[0]? = some (.int (M.1 0)) := rfl
theorem mg1 {M : MS} {ad : Nat → Nat} : (mfs M ad)[1]? = some (.int (M.1 1)) := rfl
theorem mg2 {M : MS} {ad : Nat → Nat} : (mfs M ad)[2]? = some (.int (M.1 2)) := rfl
theorem mg3 {M : MS} {ad : Nat → Nat} : (mfs M ad)[3]? = some (.int (M.1 3)) := rfl
theorem mg4 {M : MS} {ad : Nat → Nat} : (mfs M ad)[4]? = some (.int (M.1 4)) := rfl
theorem mg5 {M : MS} {ad : Nat → Nat} : (mfs M ad)[5]? = some (.int (M.1 5)) := rfl
theorem mg6 {M : MS} {ad : Nat → Nat} : (mfs M ad)[6]? = some (.long M.2.1) := rfl
theorem mg7 {M : MS} {ad : Nat → Nat} : (mfs M ad)[7]? = some (.ref (ad 0)) := rfl
theorem mg8 {M : MS} {ad : Nat → Nat} : (mfs M ad)[8]? = some (.ref (ad 1)) := rfl
theorem mg9 {M : MS} {ad : Nat → Nat} : (mfs M ad)[9]? = some (.ref (ad 2)) := rfl
theorem mg10 {M : MS} {ad : Nat → Nat} : (mfs M ad)[10]? = some (.ref (ad 3)) := rfl
theorem mg11 {M : MS} {ad : Nat → Nat} : (mfs M ad)[11]? = some (.ref (ad 4)) := rfl
theorem mg12 {M : MS} {ad : Nat → Nat} : (mfs M ad)[12]? = some (.ref (ad 5)) := rfl
theorem mg13 {M : MS} {ad : Nat → Nat} : (mfs M ad)[13]? = some (.ref (ad 6)) := rfl
theorem mg14 {M : MS} {ad : Nat → Nat} : (mfs M ad)[14]? = some (.ref (ad 7)) := rfl
theorem mg15 {M : MS} {ad : Nat → Nat} : (mfs M ad)[15]? = some (.ref (ad 8)) := rfl
theorem mg16 {M : MS} {ad : Nat → Nat} : (mfs M ad)[16]? = some (.ref (ad 9)) := rfl
theorem mg17 {M : MS} {ad : Nat → Nat} : (mfs M ad)[17]? = some (.ref (ad 10)) := rfl
theorem mg18 {M : MS} {ad : Nat → Nat} : (mfs M ad)[18]? = some (.ref (ad 11)) := rfl
theorem mg19 {M : MS} {ad : Nat → Nat} : (mfs M ad)[19]? = some (.ref (ad 12)) := rfl
theorem mg20 {M : MS} {ad : Nat → Nat} : (mfs M ad)[20]? = some (.ref (ad 13)) := rfl
theorem mg21 {M : MS} {ad : Nat → Nat} : (mfs M ad)[21]? = some (.ref (ad 14)) := rfl
theorem mgl {M : MS} {ad : Nat → Nat} : (mfs M ad).length = 22 := rfl
/-- the model's cells hold σ, with thrown = th -/
def RM (σ : Sg) (th : Nat) (M : MS) : Prop :=
  (M.1 0 = nI th ∧ M.1 1 = nI (s_nS σ) ∧ M.1 2 = nI (s_nJ σ) ∧ M.1 3 = nI (s_od σ).length ∧ M.1 4 = nI (s_cm σ).length ∧ M.1 5 = nI (s_jn σ).length ∧ M.2.1 = s_wk σ) ∧
  (∀ i, i < 4 → M.2.2 0 i = b2 (s_pv σ i)) ∧ (∀ i, i < 4 → M.2.2 1 i = b2 (s_dr σ i)) ∧ (∀ i, i < s_nS σ → M.2.2 2 i = o2 (s_fr σ i)) ∧ (∀ i, i < s_nS σ → M.2.2 3 i = o2 (s_pk σ i)) ∧
  (∀ i, i < 4 → M.2.2 4 i = nI (s_hi σ i).length) ∧ (∀ i, i < 4 → ∀ k, k < (s_hi σ i).length → M.2.2 5 (8 * i + k) = nI ((s_hi σ i).getD k 0)) ∧ (∀ k, k < (s_cm σ).length → M.2.2 6 k = nI ((s_cm σ).getD k 0)) ∧
  (∀ j, j < s_nJ σ → M.2.2 7 j = nI (s_se σ j)) ∧ (∀ j, j < s_nJ σ → M.2.2 8 j = nI (s_lf σ j)) ∧ (∀ j, j < s_nJ σ → M.2.2 9 j = nI (s_nd σ j)) ∧ (∀ j, j < s_nJ σ → M.2.2 10 j = nI (s_st σ j)) ∧
  (∀ k, k < (s_od σ).length → M.2.2 11 k = nI ((s_od σ).getD k 0)) ∧ (∀ j, j < 30 → M.2.2 12 j = b2 (s_hl σ j)) ∧ (∀ k, k < (s_jn σ).length → M.2.2 13 k = nI ((s_jn σ).getD k (0, 0)).1) ∧ (∀ k, k < (s_jn σ).length → M.2.2 14 k = nI ((s_jn σ).getD k (0, 0)).2)
def upN {α : Type} (f : Nat → α) (k : Nat) (x : α) : Nat → α := fun j => if j = k then x else f j
theorem upN_s {α : Type} {f : Nat → α} {k : Nat} {x : α} : upN f k x k = x := by simp [upN]
theorem upN_n {α : Type} {f : Nat → α} {k j : Nat} {x : α} (h : j ≠ k) : upN f k x j = f j := by simp [upN, h]
