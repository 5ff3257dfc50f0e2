def putHi (σ : Sg) (s : Nat) (l : List Nat) : Sg := w_hi σ (upN (s_hi σ) s l)
def fitHi (l : List Nat) : List Nat := if l.length = 8 then l.tail else l
def fitCm (l : List Nat) : List Nat := if l.length = 12 then l.tail else l
def cutCm (σ : Sg) (x : Nat) : List Nat := (s_cm σ).filter (fun y => y != x)
def rememberF (σ : Sg) (s x : Nat) : Sg :=
  if s_pv σ s = false then w_cm (putHi σ s (fitHi (s_hi σ s) ++ [x])) (fitCm (cutCm σ x) ++ [x]) else putHi σ s (fitHi (s_hi σ s) ++ [x])
theorem getD_app {l : List Nat} {x k : Nat} (h : k < l.length) : (l ++ [x]).getD k 0 = l.getD k 0 := by
  rw [List.getD_eq_getElem?_getD, List.getD_eq_getElem?_getD, List.getElem?_append_left h]
theorem getD_last {l : List Nat} {x : Nat} : (l ++ [x]).getD l.length 0 = x := by
  rw [List.getD_eq_getElem?_getD]; simp
theorem getD_tail {l : List Nat} {k : Nat} : l.tail.getD k 0 = l.getD (k + 1) 0 := by
  cases l with
  | nil => rfl
  | cons a t => rfl
section MD11
variable {E : EN} {d : Nat} {h : AH} {c n : Nat} {K : Out → AH → Prop} {mo : Nat} {ad : Nat → Nat} {M : MS} {σ : Sg} {th : Nat}
theorem va_same {M : MS} {k : Nat} : va_up M.2.2 k (M.2.2 k) = M.2.2 := by
  funext i
  unfold va_up
  split
  · next hz => rw [hz]
  · rfl
end MD11
