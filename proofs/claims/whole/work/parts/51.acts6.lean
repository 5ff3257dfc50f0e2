theorem fitHi_len {l : List Nat} (h : l.length ≤ 8) (x : Nat) : (fitHi l ++ [x]).length ≤ 8 := by
  have : (fitHi l).length ≤ 7 := by
    unfold fitHi
    split
    · rw [List.length_tail]; omega
    · omega
  rw [List.length_append]
  show (fitHi l).length + 1 ≤ 8
  omega
theorem fitCm_len {l : List Nat} (h : l.length ≤ 12) (x : Nat) : (fitCm l ++ [x]).length ≤ 12 := by
  have : (fitCm l).length ≤ 11 := by
    unfold fitCm
    split
    · rw [List.length_tail]; omega
    · omega
  rw [List.length_append]
  show (fitCm l).length + 1 ≤ 12
  omega
theorem fitHi_mem {l : List Nat} {y : Nat} (h : y ∈ fitHi l) : y ∈ l := by
  unfold fitHi at h
  split at h
  · exact List.mem_of_mem_tail h
  · exact h
theorem fitCm_mem {l : List Nat} {y : Nat} (h : y ∈ fitCm l) : y ∈ l := by
  unfold fitCm at h
  split at h
  · exact List.mem_of_mem_tail h
  · exact h
theorem fitCm_nodup {l : List Nat} (h : l.Nodup) : (fitCm l).Nodup := by
  unfold fitCm
  split
  · exact h.sublist (List.tail_sublist l)
  · exact h
theorem cm_nodup {l : List Nat} {x : Nat} (h : l.Nodup) : (fitCm (l.filter (fun y => y != x)) ++ [x]).Nodup := by
  rw [List.nodup_append]
  refine ⟨fitCm_nodup (h.filter _), by simp, fun a ha b hb he => ?_⟩
  rw [List.mem_singleton] at hb
  have := (List.mem_filter.mp (fitCm_mem ha)).2
  rw [he, hb] at this
  simp at this
