section MD7
variable {E : EN} {d : Nat} {h : AH} {c n : Nat} {K : Out → AH → Prop} {mo : Nat} {ad : Nat → Nat} {M : MS} {σ : Sg} {th : Nat}
def cstop (σ : Sg) (j : Nat) : Bool := s_st σ j == 114 || s_st σ j == 119
def isLet (x : Int32) : Bool := decide (x = 114) || decide (x = 119) || decide (x = 115) || decide (x = 100) || decide (x = 107)
end MD7
