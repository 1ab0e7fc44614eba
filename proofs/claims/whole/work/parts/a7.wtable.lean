theorem zrC_e {X : List Nat} {w : zPi} {e : Nat × Nat} (h : zrC X w = .error e) : e.1 ≤ 5 := by
  unfold zrC at h
  split at h
  · cases h; exact Nat.le_of_ble_eq_true rfl
  · split at h
    · cases h; exact Nat.le_of_ble_eq_true rfl
    · split at h
      · cases h; exact Nat.le_of_ble_eq_true rfl
      · cases h
theorem zrCs_e {X : List Nat} : ∀ (k : Nat) (w : zPi) (e : Nat × Nat), zrCs X k w = .error e → e.1 ≤ 5 := by
  intro k
  induction k with
  | zero => intro w e h; cases h; exact Nat.le_of_ble_eq_true rfl
  | succ k ih =>
    intro w e h
    rw [zrCs] at h
    cases hq : zrC X (zadv X w.1.1, w.2) with
    | error e2 =>
      rw [hq] at h
      cases h
      exact zrC_e hq
    | ok v2 =>
      rw [hq] at h
      by_cases hz : zisS v2.1 44 = true
      · simp only [hz, if_true] at h
        exact ih v2 e h
      · simp only [hz] at h
        cases h
theorem zrO_e {X : List Nat} {w : zPi} {e : Nat × Nat} (h : zrO X w = .error e) : e.1 ≤ 5 := by
  unfold zrO at h
  split at h
  · cases h; exact Nat.le_of_ble_eq_true rfl
  · split at h
    · cases h; exact Nat.le_of_ble_eq_true rfl
    · split at h
      · cases h; exact Nat.le_of_ble_eq_true rfl
      · split at h
        · cases h; exact Nat.le_of_ble_eq_true rfl
        · cases h
theorem zrOs_e {X : List Nat} : ∀ (k : Nat) (w : zPi) (e : Nat × Nat), zrOs X k w = .error e → e.1 ≤ 5 := by
  intro k
  induction k with
  | zero => intro w e h; cases h; exact Nat.le_of_ble_eq_true rfl
  | succ k ih =>
    intro w e h
    rw [zrOs] at h
    cases hq : zrO X (zadv X w.1.1, w.2) with
    | error e2 =>
      rw [hq] at h
      cases h
      exact zrO_e hq
    | ok v2 =>
      rw [hq] at h
      by_cases hz : zisS v2.1 44 = true
      · simp only [hz, if_true] at h
        exact ih v2 e h
      · simp only [hz] at h
        cases h
theorem zrW_e {X : List Nat} {w : zPi} {i j : Nat} {b : Bool} {e : Nat × Nat} (h : zrW X w i j b = .error e) : e.1 ≤ 5 := by
  unfold zrW at h
  unfold zrV at h
  by_cases hc : (!(zrB b w.1) && zisW (zrK X b w.1) 1852796517) = false ∧ ¬ (zrK X b w.1).2.1 = (if b then 1 else 2)
  · rw [if_pos hc] at h
    cases h
    exact Nat.le_of_ble_eq_true rfl
  · rw [if_neg hc] at h
    cases h
theorem zrRs_e {X : List Nat} {g : Nat} : ∀ (bs : List Bool) (j : Nat) (w : zPi) (e : Nat × Nat), zrRs X g bs j w = .error e → e.1 ≤ 5 := by
  intro bs
  induction bs with
  | nil => intro j w e h; cases h
  | cons b bs ih =>
    intro j w e h
    rw [zrRs] at h
    cases hq : zrW X w g j b with
    | error e2 =>
      rw [hq] at h
      cases h
      exact zrW_e hq
    | ok v2 =>
      rw [hq] at h
      exact ih _ _ _ h
theorem zrL_e {X : List Nat} {w : zPi} {e : Nat × Nat} (h : zrL X w = .error e) : e.1 ≤ 5 := by
  unfold zrL at h
  split at h
  · rw [zrCC] at h
    split at h
    · cases h; exact Nat.le_of_ble_eq_true rfl
    · exact zrCs_e _ _ _ h
  · split at h
    · rw [zrOO] at h
      split at h
      · cases h; exact Nat.le_of_ble_eq_true rfl
      · split at h
        · cases h; exact Nat.le_of_ble_eq_true rfl
        · exact zrOs_e _ _ _ h
    · split at h
      · rw [zrR] at h
        split at h
        · cases h; exact Nat.le_of_ble_eq_true rfl
        · split at h
          · cases h; exact Nat.le_of_ble_eq_true rfl
          · exact zrRs_e _ _ _ _ h
      · cases h; exact Nat.le_of_ble_eq_true rfl
theorem zrA_e {X : List Nat} : ∀ (k : Nat) (w : zPi) (e : Nat × Nat), zrA X k w = .error e → e.1 ≤ 5 := by
  intro k
  induction k with
  | zero => intro w e h; cases h; exact Nat.le_of_ble_eq_true rfl
  | succ k ih =>
    intro w e h
    rw [zrA] at h
    cases hq : zrL X w with
    | error e2 =>
      rw [hq] at h
      cases h
      exact zrL_e hq
    | ok v2 =>
      rw [hq] at h
      simp only [] at h
      split at h
      · split at h
        · cases h
        · cases h; exact Nat.le_of_ble_eq_true rfl
      · split at h
        · exact ih _ _ h
        · cases h; exact Nat.le_of_ble_eq_true rfl
theorem zTW_W {X : List Nat} {w : zPi} {n : Nat} (h : zPv X w) (ho : 0 < w.2.2.2.1.length) : zWt n (zTW w) := by
  obtain ⟨ht, hl, hi, he, hr, hv⟩ := h
  have ho4 : w.2.2.2.1.length ≤ 4 := by
    have := zpig _ _ hi.1.1 hi.1.2
    rw [List.length_map] at this
    omega
  refine ⟨⟨ho, ho4, hl.2⟩, hi.1.1, he, ⟨Nat.zero_le _, fun c hc => absurd hc List.not_mem_nil⟩, ⟨by show w.2.2.2.2.1 ≤ 64; omega, fun u hu => ⟨fun i hi => decide_eq_false (by have : w.2.2.2.2.1 ≤ i := hi; omega), ?_, fun i c b hi hb => hv i (of_decide_eq_true hi) c b hb⟩⟩, ⟨Nat.zero_le _, Nat.zero_le _⟩, fun i => Nat.le_refl _⟩
  show fb_ct (fun i => decide (i < w.2.2.2.2.1)) 64 ≤ 40
  rw [fb_ct_lt _ _ (by omega)]
  omega
theorem w_table {n : Nat} {s : zST} (h : zWF n s) (hn : n + 1 < 600) (x : Int32) : zWF (n + 1) (q_table s x).2 := by
  unfold q_table
  split
  · exact (h.up hn).no (by decide)
  · cases hq : zrt ((sF s).take (zn x)) with
    | error e =>
      obtain ⟨g1, g2, g3, g4⟩ := h.up hn
      exact ⟨g1, ⟨Nat.zero_le _, fun b hb => absurd hb List.not_mem_nil⟩, ⟨by show 4 ≤ 8; decide, zrA_e _ _ _ hq⟩, g4⟩
    | ok w =>
      have p := zrA_v 900 _ w hq ⟨⟨0, Nat.zero_le _, rfl⟩, ⟨rfl, Nat.zero_le _⟩, ⟨zOk_nil rfl, fun q => absurd q (Nat.lt_irrefl 0)⟩, fun e hm => absurd hm List.not_mem_nil, Nat.zero_le _, fun i hi => absurd hi (Nat.not_lt_zero i)⟩
      exact h.of (F := []) (tr := (0, 0, sPl s)) (t := zTW w) (P := none) (R := fun _ => none) hn ⟨Nat.zero_le _, fun b hb => absurd hb List.not_mem_nil⟩ ⟨Nat.zero_le _, Nat.zero_le _⟩ (zTW_W p.1 p.2) (fun q e => by cases e) (fun r x e => by cases e)
