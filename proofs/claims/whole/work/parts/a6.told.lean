/-! what is read of a text is as it must be -/
theorem zpr_div : ∀ (i : Nat) (R : List Nat), (∀ b ∈ R, b < 256) → zpr R / 2 ^ (8 * i) = zpr (R.drop i) := by
  intro i
  induction i with
  | zero => intro R _; exact Nat.div_one _
  | succ i ih =>
    intro R hR
    rw [show 8 * (i + 1) = 8 * i + 8 by omega, Nat.pow_add, ← Nat.div_div_eq_div_mul, ih R hR]
    cases hd : R.drop i with
    | nil => rw [List.drop_eq_nil_iff.mpr (by have := List.drop_eq_nil_iff.mp hd; omega)]; rfl
    | cons b r =>
      have hb : b < 256 := hR b (List.mem_of_mem_drop (by rw [hd]; exact List.mem_cons_self))
      have hr : R.drop (i + 1) = r := by rw [← List.drop_drop, hd]; rfl
      rw [hr, zpr]
      omega
theorem zpr_48 {R : List Nat} (hl : R.length ≤ 6) (hR : ∀ b ∈ R, b < 256) : zpr R < 2 ^ 48 := by
  have := zpk_lt (L := R.reverse) (by rw [List.length_reverse]; exact hl) (fun b q => hR b (List.mem_reverse.mp q))
  rwa [← zpr_pk, List.reverse_reverse] at this
theorem zwl_R {R : List Nat} (hl : R.length ≤ 6) (hR : ∀ b ∈ R, zlet b = true) : ∀ (n i : Nat), i + n = 6 → zwl (lN (zpr R)) i n = true := by
  have hb : ∀ b ∈ R, b < 256 := fun b q => by have := zlet_b (hR b q); omega
  have h48 := zpr_48 hl hb
  intro n
  induction n with
  | zero => intro i _; rfl
  | succ n ih =>
    intro i hi
    rw [zwl, zsh_lN (by omega) (by omega), zpr_div i R hb]
    cases hd : R.drop i with
    | nil => exact if_pos rfl
    | cons b r =>
      have hm : b ∈ R := List.mem_of_mem_drop (by rw [hd]; exact List.mem_cons_self)
      have h1 := zlet_b (hR b hm)
      have hr : zpr (b :: r) < 2 ^ 48 := by
        have := Nat.div_le_self (zpr R) (2 ^ (8 * i))
        rw [zpr_div i R hb, hd] at this
        omega
      rw [if_neg (fun q => by have := (lN_0 (by omega)).mp q; rw [zpr] at this; omega), zlow8 (by omega), show zpr (b :: r) % 256 = b by rw [zpr]; omega, if_neg]
      · exact ih (i + 1) (by omega)
      · intro q
        rcases q with q | q
        · have := (pk_lLT (a := b) (b := 97) (by omega) (by decide)).mp q
          omega
        · have := (pk_lLT (a := 122) (b := b) (by decide) (by omega)).mp q
          omega
theorem zTK.w {X : List Nat} {k : zTo} (h : zTK X k) (h1 : k.2.1 = 1) : zow k.2.2.2 = true := by
  have hlt : k.2.2.1 < k.1 := by
    obtain ⟨q, hq, rfl⟩ := h.q
    have := ztk_0 (X := X) (q := q) (by rw [h1]; decide)
    have := (ztk_le hq).2.2
    omega
  rcases h.cs with ⟨e, -⟩ | ⟨-, L, e1, l6, hL, ec, -⟩ | e | ⟨e, -⟩ | e
  · rw [h1] at e; cases e
  · have hb : ∀ b ∈ L, b < 256 := fun b q => by have := zlet_b (hL b q); omega
    rw [ec, zcw_pk l6 hb, ← zpr_pk]
    have hR : ∀ b ∈ L.reverse, zlet b = true := fun b q => hL b (List.mem_reverse.mp q)
    have hl : L.reverse.length ≤ 6 := by rw [List.length_reverse]; exact l6
    have h48 := zpr_48 hl (fun b q => hb b (List.mem_reverse.mp q))
    have hp : 0 < zpr L.reverse := by
      cases hr : L.reverse with
      | nil =>
        have := congrArg List.length hr
        rw [List.length_reverse] at this
        have : L.length = 0 := this
        omega
      | cons b r =>
        have := zlet_b (hR b (by rw [hr]; exact List.mem_cons_self))
        rw [zpr]
        omega
    unfold zow
    rw [zwl_R hl hR 6 0 rfl, Bool.and_true, decide_eq_true_iff]
    exact ⟨(pk_lLT (a := 0) (by decide) (by omega)).mpr hp, (pk_lLT (b := 281474976710656) (by omega) (by decide)).mpr h48⟩
  · rw [h1] at e; cases e
  · rw [h1] at e; cases e
  · rw [h1] at e; cases e
theorem zcd_fold : ∀ (L : List Nat) (n v : Nat), v < 10 ^ n → n + L.length ≤ 4 → (∀ b ∈ L, zdig b = true) → ∃ d, d < 10 ^ (n + L.length) ∧ L.foldl zcd (lN v) = lN d := by
  intro L
  induction L with
  | nil => intro n v h _ _; exact ⟨v, h, rfl⟩
  | cons a L ih =>
    intro n v h hl hb
    rw [List.length_cons] at hl
    have ha := hb a List.mem_cons_self
    have ha2 := zdig_b ha
    have hp : (10 : Nat) ^ n ≤ 10 ^ 3 := Nat.pow_le_pow_right (by decide) (by omega)
    obtain ⟨d, d1, d2⟩ := ih (n + 1) (v * 10 + a - 48) (by rw [Nat.pow_succ]; omega) (by omega) (fun b q => hb b (List.mem_cons_of_mem _ q))
    refine ⟨d, by rw [List.length_cons, show n + (L.length + 1) = n + 1 + L.length by omega]; exact d1, ?_⟩
    rw [List.foldl_cons, zcd_lN (by omega) ha]
    exact d2
theorem zTK.d {X : List Nat} {k : zTo} (h : zTK X k) (h2 : k.2.1 = 2) : ∃ d, d < 10000 ∧ k.2.2.2 = lN d := by
  obtain ⟨q, hq, rfl⟩ := h.q
  cases hx : X[q]? with
  | none =>
    rw [ztk_E (List.getElem?_eq_none_iff.mp hx)] at h2
    cases h2
  | some b =>
    cases hl : zlet b with
    | true =>
      rw [ztk_L hx hl] at h2
      by_cases h6 : zrun zlet X q - q ≤ 6
      · rw [if_pos h6] at h2; cases h2
      · rw [if_neg h6] at h2; cases h2
    | false =>
      cases hd : zdig b with
      | true =>
        rw [ztk_D hx hl hd] at h2 ⊢
        by_cases h4 : zrun zdig X q - q ≤ 4
        · unfold zrun at h4
          obtain ⟨d, d1, d2⟩ := zcd_fold ((X.drop q).takeWhile zdig) 0 0 (by decide) (by omega) (fun b hb => List.all_eq_true.mp List.all_takeWhile b hb)
          have hp : (10 : Nat) ^ (0 + ((X.drop q).takeWhile zdig).length) ≤ 10 ^ 4 := Nat.pow_le_pow_right (by decide) (by omega)
          exact ⟨d, by omega, d2⟩
        · rw [if_neg h4] at h2; cases h2
      | false =>
        rw [ztk_S hx hl hd] at h2
        by_cases hb : b = 59 ∨ b = 44 ∨ b = 45
        · rw [if_pos hb] at h2; cases h2
        · rw [if_neg hb] at h2; cases h2
/-- all that is read, as it must be -/
def zPv (X : List Nat) (w : zPi) : Prop := zTK X w.1 ∧ (w.2.2.1.length = w.2.1.length ∧ w.2.2.1.length ≤ 4) ∧ zIv w ∧ (∀ e ∈ w.2.2.2.1, w.2.2.1[e.1]? = some e.2.1) ∧ w.2.2.2.2.1 ≤ 30 ∧ ∀ i, i < w.2.2.2.2.1 → ∀ c b, w.2.2.1[c]? = some b → zch b (w.2.2.2.2.2 i c) = true
theorem zPv.tk {X : List Nat} {w : zPi} (h : zPv X w) : zPv X (zadv X w.1.1, w.2) := ⟨h.1.adv, h.2⟩
theorem zrC_v {X : List Nat} {w v : zPi} (h : zrC X w = .ok v) (ht : zTK X w.1) : zTK X v.1 ∧ v.2.2.1.length = w.2.2.1.length + 1 ∧ v.2.1.length = w.2.1.length + 1 := by
  unfold zrC at h
  split at h
  · cases h
  · split at h
    · cases h
    · split at h
      · cases h
      · cases h
        exact ⟨ht.adv.adv, List.length_append, List.length_append⟩
theorem zrCs_v {X : List Nat} : ∀ (k : Nat) (w v : zPi), zrCs X k w = .ok v → zTK X w.1 → w.2.2.1.length = w.2.1.length → w.2.2.1.length + k ≤ 4 → zTK X v.1 ∧ v.2.2.1.length = v.2.1.length ∧ v.2.2.1.length ≤ 4 := by
  intro k
  induction k with
  | zero => intro w v h; cases h
  | succ k ih =>
    intro w v h ht hl hk
    rw [zrCs] at h
    cases hq : zrC X (zadv X w.1.1, w.2) with
    | error e => rw [hq] at h; cases h
    | ok v2 =>
      rw [hq] at h
      have p1 := zrC_v hq ht.adv
      have a1 : v2.2.2.1.length = w.2.2.1.length + 1 := p1.2.1
      have a2 : v2.2.1.length = w.2.1.length + 1 := p1.2.2
      by_cases hz : zisS v2.1 44 = true
      · simp only [hz, if_true] at h
        exact ih v2 v h p1.1 (by omega) (by omega)
      · simp only [hz] at h
        cases h
        exact ⟨p1.1, by omega, by omega⟩
theorem zrO_v {X : List Nat} {w v : zPi} (h : zrO X w = .ok v) (ht : zTK X w.1) (hl : w.2.2.1.length = w.2.1.length) (he : ∀ e ∈ w.2.2.2.1, w.2.2.1[e.1]? = some e.2.1) : zTK X v.1 ∧ v.2.2.1 = w.2.2.1 ∧ v.2.1 = w.2.1 ∧ v.2.2.2.2 = w.2.2.2.2 ∧ ∀ e ∈ v.2.2.2.1, v.2.2.1[e.1]? = some e.2.1 := by
  unfold zrO at h
  split at h
  · cases h
  · split at h
    · cases h
    · rename_i c hc
      split at h
      · cases h
      · split at h
        · cases h
        · cases h
          have hcl := (List.findIdx?_eq_some_iff_getElem.mp hc).1
          refine ⟨?_, rfl, rfl, rfl, fun e hm => ?_⟩
          · show zTK X (if _ then zadv X (zadv X (zadv X w.1.1).1).1 else zadv X (zadv X w.1.1).1)
            split
            · exact ht.adv.adv.adv
            · exact ht.adv.adv
          · rcases List.mem_append.mp hm with hm | hm
            · exact he e hm
            · rw [List.mem_singleton.mp hm]
              exact gD false (show c < w.2.2.1.length by omega)
theorem zrOs_v {X : List Nat} : ∀ (k : Nat) (w v : zPi), zrOs X k w = .ok v → zTK X w.1 → w.2.2.1.length = w.2.1.length → (∀ e ∈ w.2.2.2.1, w.2.2.1[e.1]? = some e.2.1) → zTK X v.1 ∧ v.2.2.1 = w.2.2.1 ∧ v.2.1 = w.2.1 ∧ v.2.2.2.2 = w.2.2.2.2 ∧ ∀ e ∈ v.2.2.2.1, v.2.2.1[e.1]? = some e.2.1 := by
  intro k
  induction k with
  | zero => intro w v h; cases h
  | succ k ih =>
    intro w v h ht hl he
    rw [zrOs] at h
    cases hq : zrO X (zadv X w.1.1, w.2) with
    | error e => rw [hq] at h; cases h
    | ok v2 =>
      rw [hq] at h
      obtain ⟨p1, p2, p3, p4, p5⟩ := zrO_v hq ht.adv hl he
      by_cases hz : zisS v2.1 44 = true
      · simp only [hz, if_true] at h
        obtain ⟨r1, r2, r3, r4, r5⟩ := ih v2 v h p1 (by rw [p2, p3]; exact hl) p5
        exact ⟨r1, r2.trans p2, r3.trans p3, r4.trans p4, r5⟩
      · simp only [hz] at h
        cases h
        exact ⟨p1, p2, p3, p4, p5⟩
theorem zch_miss (b : Bool) : zch b zMiss = true := if_pos rfl
theorem zch_num {v : Int64} (h : -9999 ≤ v ∧ v ≤ 9999) : zch false v = true := by
  unfold zch
  split
  · rfl
  · exact decide_eq_true h
theorem zch_d : ∀ d, d < 10000 → zch false (lN d) = true ∧ zch false (-(lN d)) = true := by
  intro d hd
  have h1 : (lN d).toInt = (d : Int) := lN_toInt (by omega)
  have h2 : (-(lN d)).toInt = -(d : Int) := by rw [Int64.toInt_neg, h1, Int.bmod_eq_of_le (by omega) (by omega)]
  refine ⟨zch_num ⟨?_, ?_⟩, zch_num ⟨?_, ?_⟩⟩
  · rw [Int64.le_iff_toInt_le, h1]; show (-9999 : Int) ≤ d; omega
  · rw [Int64.le_iff_toInt_le, h1]; show (d : Int) ≤ 9999; omega
  · rw [Int64.le_iff_toInt_le, h2]; show (-9999 : Int) ≤ -d; omega
  · rw [Int64.le_iff_toInt_le, h2]; show -(d : Int) ≤ 9999; omega
theorem zch_word {v : Int64} (h : zow v = true) : zch true v = true := by
  unfold zch
  split
  · rfl
  · exact h
theorem zrW_v {X : List Nat} {w v : zPi} {i j : Nat} {b : Bool} (h : zrW X w i j b = .ok v) (ht : zTK X w.1) : zTK X v.1 ∧ ∃ x, zch b x = true ∧ v.2.2.2.2.2 = zu2 w.2.2.2.2.2 i j x := by
  have hk : zTK X (zrK X b w.1) := by
    unfold zrK
    split
    · exact ht.adv
    · exact ht
  unfold zrW at h
  unfold zrV at h
  by_cases hc : (!(zrB b w.1) && zisW (zrK X b w.1) 1852796517) = false ∧ ¬ (zrK X b w.1).2.1 = (if b then 1 else 2)
  · rw [if_pos hc] at h
    cases h
  · rw [if_neg hc] at h
    cases h
    refine ⟨hk.adv, _, ?_, rfl⟩
    unfold zvl
    split
    · exact zch_miss b
    · rename_i hms
      have hs : (zrK X b w.1).2.1 = if b then 1 else 2 := Classical.not_not.mp (fun q => hc ⟨Bool.of_not_eq_true hms, q⟩)
      cases b with
      | true =>
        rw [if_neg (show ¬ zrB true w.1 = true from Bool.false_ne_true)]
        exact zch_word (hk.w hs)
      | false =>
        obtain ⟨d, d1, d2⟩ := hk.d hs
        rw [d2]
        split
        · exact (zch_d d d1).2
        · exact (zch_d d d1).1
theorem zrRs_v {X : List Nat} {g : Nat} : ∀ (bs : List Bool) (j : Nat) (w v : zPi), zrRs X g bs j w = .ok v → zTK X w.1 → j + bs.length = w.2.2.1.length → (∀ k x, bs[k]? = some x → w.2.2.1[j + k]? = some x) → (∀ c b, c < j → w.2.2.1[c]? = some b → zch b (w.2.2.2.2.2 g c) = true) → zTK X v.1 ∧ v.2.1 = w.2.1 ∧ v.2.2.2.2.1 = w.2.2.2.2.1 ∧ (∀ i, i ≠ g → v.2.2.2.2.2 i = w.2.2.2.2.2 i) ∧ ∀ c b, w.2.2.1[c]? = some b → zch b (v.2.2.2.2.2 g c) = true := by
  intro bs
  induction bs with
  | nil =>
    intro j w v h ht hj hbs hv
    cases h
    exact ⟨ht, rfl, rfl, fun i _ => rfl, fun c b hb => hv c b (by have := (List.getElem?_eq_some_iff.mp hb).1; have : j = w.2.2.1.length := hj; omega) hb⟩
  | cons b bs ih =>
    intro j w v h ht hj hbs hv
    rw [List.length_cons] at hj
    rw [zrRs] at h
    cases hq : zrW X w g j b with
    | error e => rw [hq] at h; cases h
    | ok v2 =>
      rw [hq] at h
      obtain ⟨p1, x, p2, p3⟩ := zrW_v hq ht
      have p4 := zrW_ok hq
      obtain ⟨r1, r2, r3, r4, r5⟩ := ih (j + 1) v2 v h p1 (by rw [p4.2.1]; omega) (fun k y hy => by rw [p4.2.1, show j + 1 + k = j + (k + 1) by omega]; exact hbs (k + 1) y hy) (fun c y hc hy => by
        rw [p4.2.1] at hy
        rw [p3, zu2]
        by_cases e : c = j
        · have hb0 : w.2.2.1[j]? = some b := hbs 0 b rfl
          rw [if_pos ⟨rfl, e⟩]
          rw [e, hb0] at hy
          cases hy
          exact p2
        · rw [if_neg (fun q => e q.2)]
          exact hv c y (by omega) hy)
      refine ⟨r1, r2.trans p4.1, r3.trans p4.2.2.2, fun i hi => ?_, fun c y hy => r5 c y (by rw [p4.2.1]; exact hy)⟩
      rw [r4 i hi, p3]
      funext c
      rw [zu2, if_neg (fun q => hi q.1)]
theorem zrL_v {X : List Nat} {w v : zPi} (h : zrL X w = .ok v) (hw : zPv X w) : zPv X v := by
  obtain ⟨ht, hl, hi, he, hr, hv⟩ := hw
  have hpos := zrL_pos h ht.le.1 hi hl.1
  unfold zrL at h
  split at h
  · rw [zrCC] at h
    split at h
    · cases h
    · rename_i hK
      have hK0 : w.2.2.1.length = 0 := by omega
      have p1 := zrCs_v 4 w v h ht hl.1 (by omega)
      have p2 := zrCs_pos 4 w v h ht.le.1
      have hO : w.2.2.2.1 = [] := Classical.not_not.mp (fun q => hi.K q hK0)
      have hr0 : w.2.2.2.2.1 = 0 := Nat.eq_zero_of_not_pos (fun q => hi.2 q hO)
      refine ⟨p1.1, p1.2, hpos.2.2.2, ?_, ?_, ?_⟩
      · rw [p2.2.2.1, hO]
        exact fun e hm => absurd hm List.not_mem_nil
      · rw [p2.2.2.1]
        exact hr
      · rw [p2.2.2.1, hr0]
        exact fun i hi => absurd hi (Nat.not_lt_zero i)
  · split at h
    · rw [zrOO] at h
      split at h
      · cases h
      · split at h
        · cases h
        · obtain ⟨r1, r2, r3, r4, r5⟩ := zrOs_v 5 w v h ht hl.1 he
          refine ⟨r1, by rw [r2, r3]; exact hl, hpos.2.2.2, r5, by rw [r4]; exact hr, ?_⟩
          rw [r2, r4]
          exact hv
    · split at h
      · rw [zrR] at h
        split at h
        · cases h
        · split at h
          · cases h
          · rename_i h30
            have q0 := zrRs_pos _ _ _ _ h (zadv_le ht.le.1).1
            obtain ⟨r1, r2, r3, r4, r5⟩ := zrRs_v _ _ _ _ h ht.adv (Nat.zero_add _) (fun k x hx => by rw [Nat.zero_add]; exact hx) (fun c b hc => absurd hc (Nat.not_lt_zero c))
            have q1 : v.2.2.1 = w.2.2.1 := q0.2.2.2.1
            have q2 : v.2.2.2.1 = w.2.2.2.1 := q0.2.2.2.2
            have q3 : v.2.2.2.2.1 = w.2.2.2.2.1 + 1 := r3
            refine ⟨r1, by rw [q1, r2]; exact hl, hpos.2.2.2, by rw [q1, q2]; exact he, by omega, fun i hi c b hb => ?_⟩
            rw [q1] at hb
            by_cases e : i = w.2.2.2.2.1
            · rw [e]
              exact r5 c b hb
            · rw [r4 i e]
              exact hv i (by omega) c b hb
      · cases h
theorem zrA_v {X : List Nat} : ∀ (k : Nat) (w v : zPi), zrA X k w = .ok v → zPv X w → zPv X v ∧ 0 < v.2.2.2.1.length := by
  intro k
  induction k with
  | zero => intro w v h; cases h
  | succ k ih =>
    intro w v h hw
    rw [zrA] at h
    cases hq : zrL X w with
    | error e => rw [hq] at h; cases h
    | ok v2 =>
      rw [hq] at h
      simp only [] at h
      have p := zrL_v hq hw
      split at h
      · split at h
        · cases h
          rename_i ho
          exact ⟨p, ho⟩
        · cases h
      · split at h
        · exact ih _ _ h p.tk
        · cases h
