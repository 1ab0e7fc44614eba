/-! a reader that goes on: what it saw, row by row -/
theorem ztk_up {L : List Nat} {i x : Nat} (h : L[i]? = some x) : L.take (i + 1) = L.take i ++ [x] := by
  rw [List.take_succ, h]
  rfl
theorem zsg_up {L : List Nat} {i x : Nat} (h : L[i]? = some x) (g : Nat → Nat) (j : Nat) : zsg g (L.take (i + 1)) j = zsg g (L.take i) j + if j = x then 1 else 0 := by
  unfold zsg
  rw [ztk_up h, List.count_append, List.count_singleton]
  by_cases e : j = x
  · rw [if_pos e, e]
    simp
    omega
  · rw [if_neg e, if_neg (by simp; exact fun q => e q.symm)]
    omega
theorem zsa_up {L : List Nat} {i x : Nat} (h : L[i]? = some x) (g : Nat → Nat) (now j : Nat) : zsa g (L.take (i + 1)) now j = if j = x then now else zsa g (L.take i) now j := by
  unfold zsa
  rw [ztk_up h]
  by_cases e : j = x
  · rw [if_pos e, if_pos (by rw [e]; simp)]
  · rw [if_neg e]
    by_cases q : j ∈ L.take i
    · rw [if_pos q, if_pos (List.mem_append.mpr (Or.inl q))]
    · rw [if_neg q, if_neg (fun z => (List.mem_append.mp z).elim q (fun z => e (List.mem_singleton.mp z)))]
theorem zid_seg {O : List zOe} {V : List zSe} {t : zRW} {f e : Nat} : zid O V t f e = zseg (zBB O V t) f e := rfl
