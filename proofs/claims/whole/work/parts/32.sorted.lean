/-! rows in order: the list that insertion makes -/
theorem zlow_le (kf : Nat → List Nat) (A : List Nat) (k : List Nat) : zlow kf A k ≤ A.length := List.countP_le_length
theorem zlow_split {kf : Nat → List Nat} {A : List Nat} {k : List Nat} (h : zSo kf A) : (∀ i x, A[i]? = some x → i < zlow kf A k → zkl (kf x) k = true) ∧ ∀ i x, A[i]? = some x → zlow kf A k ≤ i → zkl (kf x) k = false := by
  unfold zlow
  induction A with
  | nil => exact ⟨fun i x hx => by simp at hx, fun i x hx => by simp at hx⟩
  | cons a A ih =>
    obtain ⟨h1, h2⟩ := List.pairwise_cons.mp h
    obtain ⟨i1, i2⟩ := ih h2
    by_cases ha : zkl (kf a) k = true
    · rw [List.countP_cons_of_pos (p := fun x => zkl (kf x) k) ha]
      refine ⟨fun i x hx hi => ?_, fun i x hx hi => ?_⟩
      · cases i with
        | zero => simp at hx; rw [← hx]; exact ha
        | succ i => exact i1 i x (by simpa using hx) (by omega)
      · cases i with
        | zero => omega
        | succ i => exact i2 i x (by simpa using hx) (by omega)
    · rw [List.countP_cons_of_neg (p := fun x => zkl (kf x) k) ha]
      have h0 : A.countP (fun x => zkl (kf x) k) = 0 := List.countP_eq_zero.mpr (fun x hx => fun q => ha (zkl_tr _ _ _ (h1 x hx) q))
      rw [h0]
      refine ⟨fun i x hx hi => absurd hi (Nat.not_lt_zero i), fun i x hx hi => ?_⟩
      cases i with
      | zero => simp at hx; rw [← hx]; exact Bool.eq_false_iff.mpr ha
      | succ i =>
        have hx' : A[i]? = some x := by simpa using hx
        exact i2 i x hx' (by rw [h0]; omega)
theorem zins_so {kf : Nat → List Nat} {A : List Nat} {id : Nat} (h : zSo kf A) (hne : ∀ x ∈ A, kf x ≠ kf id) : zSo kf (zins kf id A) := by
  obtain ⟨s1, s2⟩ := zlow_split (k := kf id) h
  have hn := zlow_le kf A (kf id)
  unfold zins
  generalize zlow kf A (kf id) = n at s1 s2 hn ⊢
  refine List.pairwise_append.mpr ⟨h.sublist (List.take_sublist _ _), List.pairwise_cons.mpr ⟨fun y hy => ?_, h.sublist (List.drop_sublist _ _)⟩, fun x hx y hy => ?_⟩
  · obtain ⟨i, hi⟩ := List.getElem?_of_mem hy
    rw [List.getElem?_drop] at hi
    have h1 := s2 (n + i) y hi (by omega)
    rcases zkl_tot (kf y) (kf id) with e | e | e
    · exact absurd e (hne y (List.mem_of_mem_drop hy))
    · rw [h1] at e; cases e
    · exact e
  · obtain ⟨i, hi⟩ := List.getElem?_of_mem hx
    have hlt : i < (A.take n).length := (List.getElem?_eq_some_iff.mp hi).1
    rw [List.length_take] at hlt
    rw [List.getElem?_take_of_lt (by omega)] at hi
    have hx1 := s1 i x hi (by omega)
    rcases List.mem_cons.mp hy with e | hy2
    · rw [e]; exact hx1
    · obtain ⟨j, hj⟩ := List.getElem?_of_mem hy2
      rw [List.getElem?_drop] at hj
      exact zSo_lt h (show i < n + j by omega) hi hj
theorem zins_mem {kf : Nat → List Nat} {A : List Nat} {id x : Nat} : x ∈ zins kf id A ↔ x = id ∨ x ∈ A := by
  unfold zins
  rw [List.mem_append, List.mem_cons]
  have e : x ∈ A ↔ x ∈ A.take (zlow kf A (kf id)) ∨ x ∈ A.drop (zlow kf A (kf id)) := by
    rw [← List.mem_append, List.take_append_drop]
  rw [e]
  constructor
  · rintro (h | h | h)
    · exact Or.inr (Or.inl h)
    · exact Or.inl h
    · exact Or.inr (Or.inr h)
  · rintro (h | h | h)
    · exact Or.inr (Or.inl h)
    · exact Or.inl h
    · exact Or.inr (Or.inr h)
def zsr (kf : Nat → List Nat) (th : Nat → Bool) : Nat → List Nat
  | 0 => []
  | n + 1 => if th n then zins kf n (zsr kf th n) else zsr kf th n
theorem zsr_mem {kf : Nat → List Nat} {th : Nat → Bool} : ∀ {n x : Nat}, x ∈ zsr kf th n ↔ x < n ∧ th x = true
  | 0, x => by simp [zsr]
  | n + 1, x => by
    rw [zsr]
    by_cases h : th n = true
    · rw [if_pos h, zins_mem, zsr_mem]
      constructor
      · rintro (e | e)
        · rw [e]; exact ⟨by omega, h⟩
        · exact ⟨by omega, e.2⟩
      · rintro ⟨e1, e2⟩
        by_cases e : x = n
        · exact Or.inl e
        · exact Or.inr ⟨by omega, e2⟩
    · rw [if_neg h, zsr_mem]
      constructor
      · rintro ⟨e1, e2⟩
        exact ⟨by omega, e2⟩
      · rintro ⟨e1, e2⟩
        refine ⟨?_, e2⟩
        rcases Nat.lt_or_ge x n with q | q
        · exact q
        · rw [show x = n by omega] at e2; exact absurd e2 h
theorem zsr_so {kf : Nat → List Nat} {th : Nat → Bool} (hk : ∀ x y, x < 64 → y < 64 → kf x = kf y → x = y) : ∀ {n : Nat}, n ≤ 64 → zSo kf (zsr kf th n)
  | 0, _ => List.Pairwise.nil
  | n + 1, hn => by
    rw [zsr]
    split
    · refine zins_so (zsr_so hk (by omega)) (fun x hx e => ?_)
      have h1 := zsr_mem.mp hx
      have := hk x n (by omega) (by omega) e
      omega
    · exact zsr_so hk (by omega)
theorem zsr_len {kf : Nat → List Nat} {th : Nat → Bool} : ∀ {n : Nat}, (zsr kf th n).length = fb_ct th n
  | 0 => rfl
  | n + 1 => by
    rw [zsr, fb_ct_succ]
    split
    · rw [zins_len (zlow_le _ _ _), zsr_len]
    · rw [zsr_len]
      rfl
theorem zsr_ext {kf : Nat → List Nat} {th : Nat → Bool} {g : Nat} (h : ∀ i, g ≤ i → i < 64 → th i = false) : ∀ {n : Nat}, g ≤ n → n ≤ 64 → zsr kf th n = zsr kf th g := by
  intro n hg hn
  induction n with
  | zero => rw [show g = 0 by omega]
  | succ n ih =>
    by_cases e : g = n + 1
    · rw [e]
    · rw [zsr, if_neg (by rw [h n (by omega) (by omega)]; decide)]
      exact ih (by omega) (by omega)
theorem zkey_inj {O : List zOe} {f g : Nat → Int64} {x y : Nat} (hx : x < 64) (hy : y < 64) (h : zkey O f x = zkey O g y) : x = y := by
  unfold zkey at h
  have e := congrArg (fun l : List Nat => l.getLast?) h
  simp only [List.getLast?_append, List.getLast?_cons_cons, List.getLast?_singleton] at e
  simp at e
  omega
/-! the places of those that pass -/
def zpi (A : List Nat) (pf : Nat → Bool) : List Nat := (List.range A.length).filter (fun i => pf (A.getD i 0))
theorem zpi_succ (A : List Nat) (pf : Nat → Bool) (n : Nat) : (List.range (n + 1)).filter (fun i => pf (A.getD i 0)) = (List.range n).filter (fun i => pf (A.getD i 0)) ++ if pf (A.getD n 0) then [n] else [] := by
  rw [List.range_succ, List.filter_append]
  congr 1
  by_cases h : pf (A.getD n 0) = true
  · rw [if_pos h, List.filter_cons_of_pos (p := fun i => pf (A.getD i 0)) h]
    rfl
  · rw [if_neg h, List.filter_cons_of_neg (p := fun i => pf (A.getD i 0)) h]
    rfl
theorem zpi_map0 (A : List Nat) (pf : Nat → Bool) : ∀ n, n ≤ A.length → ((List.range n).filter (fun i => pf (A.getD i 0))).map (fun i => A.getD i 0) = (A.take n).filter pf
  | 0, _ => by simp
  | n + 1, h => by
    rw [zpi_succ, List.map_append, zpi_map0 A pf n (by omega), ztake1 (by omega), List.filter_append]
    congr 1
    by_cases q : pf (A.getD n 0) = true
    · rw [if_pos q, List.filter_cons_of_pos q]
      rfl
    · rw [if_neg q, List.filter_cons_of_neg q]
      rfl
theorem zpi_map (A : List Nat) (pf : Nat → Bool) : (zpi A pf).map (fun i => A.getD i 0) = A.filter pf := by
  unfold zpi
  rw [zpi_map0 A pf A.length (Nat.le_refl _), List.take_length]
theorem zpi_get {A : List Nat} {pf : Nat → Bool} {k x : Nat} (h : (A.filter pf)[k]? = some x) : ∃ i, (zpi A pf)[k]? = some i ∧ A[i]? = some x := by
  rw [← zpi_map, List.getElem?_map] at h
  obtain ⟨i, hi, e⟩ := Option.map_eq_some_iff.mp h
  refine ⟨i, hi, ?_⟩
  have hm := List.mem_of_getElem? hi
  have hlt := List.mem_range.mp (List.mem_filter.mp hm).1
  rw [← e, List.getD_eq_getElem?_getD, List.getElem?_eq_getElem hlt]
  rfl
theorem zpi_len (A : List Nat) (pf : Nat → Bool) : (zpi A pf).length = (A.filter pf).length := by rw [← zpi_map, List.length_map]
