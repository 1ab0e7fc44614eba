/-! words as numbers; tokens of a text -/
def zpk (L : List Nat) : Nat := L.foldl (fun v b => v * 256 + b) 0
theorem zpk_app (L : List Nat) (b : Nat) : zpk (L ++ [b]) = zpk L * 256 + b := by
  unfold zpk
  rw [List.foldl_append]
  rfl
theorem zpf_lt : ∀ (L : List Nat) (n v : Nat), v < 256 ^ n → (∀ b ∈ L, b < 256) → L.foldl (fun v b => v * 256 + b) v < 256 ^ (n + L.length) := by
  intro L
  induction L with
  | nil => intro n v h _; exact h
  | cons a L ih =>
    intro n v h hb
    have ha := hb a List.mem_cons_self
    have := ih (n + 1) (v * 256 + a) (by rw [Nat.pow_succ]; omega) (fun b q => hb b (List.mem_cons_of_mem _ q))
    rw [List.foldl_cons, List.length_cons]
    rwa [show n + (L.length + 1) = n + 1 + L.length by omega]
theorem zcw_lN {n b : Nat} (hn : n < 2 ^ 48) (hb : b < 256) : zcw (lN n) b = lN (n * 256 + b) := by
  unfold zcw
  rw [show (8 : Int32) = nI 8 from rfl, wb_shl n (by decide), nI_l (by omega), wb_or (by omega) (by omega), show n * 2 ^ 8 = n <<< 8 from (Nat.shiftLeft_eq n 8).symm, ← Nat.shiftLeft_add_eq_or_of_lt (show b < 2 ^ 8 by omega), Nat.shiftLeft_eq]
theorem zcw_fold : ∀ (L : List Nat) (n v : Nat), v < 256 ^ n → n + L.length ≤ 6 → (∀ b ∈ L, b < 256) → L.foldl zcw (lN v) = lN (L.foldl (fun v b => v * 256 + b) v) := by
  intro L
  induction L with
  | nil => intro n v _ _ _; rfl
  | cons a L ih =>
    intro n v h hl hb
    rw [List.length_cons] at hl
    have ha := hb a List.mem_cons_self
    have hp : (256 : Nat) ^ n ≤ 256 ^ 5 := Nat.pow_le_pow_right (by decide) (by omega)
    rw [List.foldl_cons, List.foldl_cons, zcw_lN (by omega) ha]
    exact ih (n + 1) _ (by rw [Nat.pow_succ]; omega) (by omega) (fun b q => hb b (List.mem_cons_of_mem _ q))
theorem zcw_pk {L : List Nat} (hl : L.length ≤ 6) (hb : ∀ b ∈ L, b < 256) : L.foldl zcw 0 = lN (zpk L) := zcw_fold L 0 0 (by decide) (by omega) hb
theorem zpk_lt {L : List Nat} (hl : L.length ≤ 6) (hb : ∀ b ∈ L, b < 256) : zpk L < 2 ^ 48 := by
  have h1 := zpf_lt L 0 0 (by decide) hb
  have h2 : (256 : Nat) ^ (0 + L.length) ≤ 256 ^ 6 := Nat.pow_le_pow_right (by decide) (by omega)
  exact Nat.lt_of_lt_of_le h1 h2
def zpr : List Nat → Nat
  | [] => 0
  | b :: l => zpr l * 256 + b
theorem zpr_pk (L : List Nat) : zpr L.reverse = zpk L := by
  unfold zpk
  rw [List.foldl_eq_foldr_reverse]
  generalize L.reverse = M
  induction M with
  | nil => rfl
  | cons a M ih => rw [zpr, List.foldr_cons, ih]
theorem zpr_inj : ∀ (L M : List Nat), (∀ b ∈ L, 0 < b ∧ b < 256) → (∀ b ∈ M, 0 < b ∧ b < 256) → zpr L = zpr M → L = M := by
  intro L
  induction L with
  | nil =>
    intro M _ hM e
    cases M with
    | nil => rfl
    | cons b M =>
      have := (hM b List.mem_cons_self).1
      rw [zpr, zpr] at e
      omega
  | cons a L ih =>
    intro M hL hM e
    have ha := hL a List.mem_cons_self
    cases M with
    | nil =>
      rw [zpr, zpr] at e
      omega
    | cons b M =>
      have hb := hM b List.mem_cons_self
      rw [zpr, zpr] at e
      rw [show a = b by omega, ih M (fun x q => hL x (List.mem_cons_of_mem _ q)) (fun x q => hM x (List.mem_cons_of_mem _ q)) (by omega)]
theorem zpk_inj {L M : List Nat} (hL : ∀ b ∈ L, 0 < b ∧ b < 256) (hM : ∀ b ∈ M, 0 < b ∧ b < 256) (e : zpk L = zpk M) : L = M := by
  have := zpr_inj L.reverse M.reverse (fun b q => hL b (List.mem_reverse.mp q)) (fun b q => hM b (List.mem_reverse.mp q)) (by rw [zpr_pk, zpr_pk]; exact e)
  exact List.reverse_inj.mp this
/-- a token of a text -/
def zTK (X : List Nat) (k : zTo) : Prop := ∃ i, i ≤ X.length ∧ k = zadv X i
theorem zTK.adv {X : List Nat} {k : zTo} (h : zTK X k) : zTK X (zadv X k.1) := by
  obtain ⟨i, hi, rfl⟩ := h
  exact ⟨_, (zadv_le hi).1, rfl⟩
theorem zTK.q {X : List Nat} {k : zTo} (h : zTK X k) : ∃ q, q ≤ X.length ∧ k = ztk X q := by
  obtain ⟨i, hi, rfl⟩ := h
  exact ⟨_, zrun_le hi, rfl⟩
theorem zTK.le {X : List Nat} {k : zTo} (h : zTK X k) : k.1 ≤ X.length ∧ k.2.2.1 ≤ k.1 := by
  obtain ⟨q, hq, rfl⟩ := h.q
  have := ztk_le hq
  omega
/-- its sort, by cases -/
theorem zTK.cs {X : List Nat} {k : zTo} (h : zTK X k) : (k.2.1 = 0 ∧ k.2.2.2 = 0) ∨ (k.2.1 = 1 ∧ ∃ L : List Nat, k.1 = k.2.2.1 + L.length ∧ L.length ≤ 6 ∧ (∀ b ∈ L, zlet b = true) ∧ k.2.2.2 = L.foldl zcw 0 ∧ ∀ i, i < L.length → X[k.2.2.1 + i]? = L[i]?) ∨ k.2.1 = 2 ∨ (k.2.1 = 3 ∧ ∃ b, (b = 59 ∨ b = 44 ∨ b = 45) ∧ k.2.2.2 = (nI b).toInt64) ∨ k.2.1 = 4 := by
  obtain ⟨q, hq, rfl⟩ := h.q
  cases hx : X[q]? with
  | none =>
    rw [ztk_E (List.getElem?_eq_none_iff.mp hx)]
    exact Or.inl ⟨rfl, rfl⟩
  | some b =>
    cases hl : zlet b with
    | true =>
      rw [ztk_L hx hl]
      by_cases h6 : zrun zlet X q - q ≤ 6
      · rw [if_pos h6]
        refine Or.inr (Or.inl ⟨rfl, (X.drop q).takeWhile zlet, rfl, ?_, fun b hb => ?_, rfl, fun i hi => ?_⟩)
        · unfold zrun at h6
          omega
        · exact List.all_eq_true.mp List.all_takeWhile b hb
        · show X[q + i]? = _
          rw [← List.getElem?_drop]
          have hp : (X.drop q).takeWhile zlet <+: X.drop q := List.takeWhile_prefix _
          obtain ⟨t, ht⟩ := hp
          rw [← ht, List.getElem?_append_left hi, ht]
      · rw [if_neg h6]
        exact Or.inr (Or.inr (Or.inr (Or.inr rfl)))
    | false =>
      cases hd : zdig b with
      | true =>
        rw [ztk_D hx hl hd]
        by_cases h4 : zrun zdig X q - q ≤ 4
        · rw [if_pos h4]
          exact Or.inr (Or.inr (Or.inl rfl))
        · rw [if_neg h4]
          exact Or.inr (Or.inr (Or.inr (Or.inr rfl)))
      | false =>
        rw [ztk_S hx hl hd]
        by_cases hb : b = 59 ∨ b = 44 ∨ b = 45
        · rw [if_pos hb]
          exact Or.inr (Or.inr (Or.inr (Or.inl ⟨rfl, b, hb, rfl⟩)))
        · rw [if_neg hb]
          exact Or.inr (Or.inr (Or.inr (Or.inr rfl)))
/-- how the model tells it -/
def ztc (k : zTo) : Int32 := if k.2.1 = 0 then 0 else if k.2.1 = 1 then 2 else if k.2.1 = 2 then 3 else if k.2.1 = 3 then k.2.2.2.toInt32 else 1
theorem zTK.c0 {X : List Nat} {k : zTo} (h : zTK X k) : ztc k = 0 ↔ k.2.1 = 0 := by
  unfold ztc
  rcases h.cs with ⟨e, -⟩ | ⟨e, -⟩ | e | ⟨e, b, hb, e2⟩ | e
  · rw [e]; show (((0 : Int32) = 0) ↔ ((0 : Nat) = 0)); decide
  · rw [e]; show (((2 : Int32) = 0) ↔ ((1 : Nat) = 0)); decide
  · rw [e]; show (((3 : Int32) = 0) ↔ ((2 : Nat) = 0)); decide
  · rw [e, e2]; rcases hb with rfl | rfl | rfl <;> decide
  · rw [e]; show (((1 : Int32) = 0) ↔ ((4 : Nat) = 0)); decide
theorem zTK.c2 {X : List Nat} {k : zTo} (h : zTK X k) : ztc k = 2 ↔ k.2.1 = 1 := by
  unfold ztc
  rcases h.cs with ⟨e, -⟩ | ⟨e, -⟩ | e | ⟨e, b, hb, e2⟩ | e
  · rw [e]; show (((0 : Int32) = 2) ↔ ((0 : Nat) = 1)); decide
  · rw [e]; show (((2 : Int32) = 2) ↔ ((1 : Nat) = 1)); decide
  · rw [e]; show (((3 : Int32) = 2) ↔ ((2 : Nat) = 1)); decide
  · rw [e, e2]; rcases hb with rfl | rfl | rfl <;> decide
  · rw [e]; show (((1 : Int32) = 2) ↔ ((4 : Nat) = 1)); decide
theorem zTK.c3 {X : List Nat} {k : zTo} (h : zTK X k) : ztc k = 3 ↔ k.2.1 = 2 := by
  unfold ztc
  rcases h.cs with ⟨e, -⟩ | ⟨e, -⟩ | e | ⟨e, b, hb, e2⟩ | e
  · rw [e]; show (((0 : Int32) = 3) ↔ ((0 : Nat) = 2)); decide
  · rw [e]; show (((2 : Int32) = 3) ↔ ((1 : Nat) = 2)); decide
  · rw [e]; show (((3 : Int32) = 3) ↔ ((2 : Nat) = 2)); decide
  · rw [e, e2]; rcases hb with rfl | rfl | rfl <;> decide
  · rw [e]; show (((1 : Int32) = 3) ↔ ((4 : Nat) = 2)); decide
theorem zTK.cc {X : List Nat} {k : zTo} (h : zTK X k) {c : Nat} (hc : c = 59 ∨ c = 44 ∨ c = 45) : ztc k = nI c ↔ zisS k c = true := by
  unfold ztc zisS
  rw [decide_eq_true_iff]
  rcases h.cs with ⟨e, -⟩ | ⟨e, -⟩ | e | ⟨e, b, hb, e2⟩ | e
  · rw [e]; exact ⟨fun q => absurd (show (0 : Int32) = nI c from q) (by rcases hc with rfl | rfl | rfl <;> decide), fun q => absurd q.1 (by decide)⟩
  · rw [e]; exact ⟨fun q => absurd (show (2 : Int32) = nI c from q) (by rcases hc with rfl | rfl | rfl <;> decide), fun q => absurd q.1 (by decide)⟩
  · rw [e]; exact ⟨fun q => absurd (show (3 : Int32) = nI c from q) (by rcases hc with rfl | rfl | rfl <;> decide), fun q => absurd q.1 (by decide)⟩
  · rw [e, e2]; rcases hb with rfl | rfl | rfl <;> rcases hc with rfl | rfl | rfl <;> decide
  · rw [e]; exact ⟨fun q => absurd (show (1 : Int32) = nI c from q) (by rcases hc with rfl | rfl | rfl <;> decide), fun q => absurd q.1 (by decide)⟩
/-! what is seen -/
def zsee (X : List Nat) (i : Nat) : Int32 := match X[i]? with
  | some b => nI b
  | none => -1
def zoP (P : Nat → Bool) (o : Option Nat) : Bool := match o with
  | some b => P b
  | none => false
theorem zin_let0 : ∀ b, b < 256 → decide (¬ (nI b).toInt64 < 97 ∧ ¬ (122 : Int64) < (nI b).toInt64) = zlet b := by decide +kernel
theorem zin_dig0 : ∀ b, b < 256 → decide (¬ (nI b).toInt64 < 48 ∧ ¬ (57 : Int64) < (nI b).toInt64) = zdig b := by decide +kernel
theorem zin_let {X : List Nat} {i : Nat} (hX : ∀ b ∈ X, b < 256) : decide (¬ (zsee X i).toInt64 < 97 ∧ ¬ (122 : Int64) < (zsee X i).toInt64) = zoP zlet X[i]? := by
  unfold zsee
  cases h : X[i]? with
  | none => decide
  | some b => exact zin_let0 b (hX b (List.mem_of_getElem? h))
theorem zin_dig {X : List Nat} {i : Nat} (hX : ∀ b ∈ X, b < 256) : decide (¬ (zsee X i).toInt64 < 48 ∧ ¬ (57 : Int64) < (zsee X i).toInt64) = zoP zdig X[i]? := by
  unfold zsee
  cases h : X[i]? with
  | none => decide
  | some b => exact zin_dig0 b (hX b (List.mem_of_getElem? h))
theorem zsee_32 {X : List Nat} {i : Nat} (hX : ∀ b ∈ X, b < 256) : zsee X i = 32 ↔ zoP zsp X[i]? = true := by
  unfold zsee
  cases h : X[i]? with
  | none => decide
  | some b =>
    have hb := hX b (List.mem_of_getElem? h)
    show nI b = nI 32 ↔ decide (b = 32) = true
    rw [nI_eq (by omega) (by decide), decide_eq_true_iff]
theorem zsee_m1 {X : List Nat} {i : Nat} (hX : ∀ b ∈ X, b < 256) : zsee X i = -1 ↔ X.length ≤ i := by
  unfold zsee
  rw [← List.getElem?_eq_none_iff]
  cases h : X[i]? with
  | none => simp
  | some b =>
    have hb := hX b (List.mem_of_getElem? h)
    simp
    exact nI_m1 (by omega)
theorem zoP_run {P : Nat → Bool} {X : List Nat} {i : Nat} (h : zoP P X[i]? = false) : zrun P X i = i := by
  cases hx : X[i]? with
  | none => exact zrun_E (List.getElem?_eq_none_iff.mp hx)
  | some b =>
    rw [hx] at h
    exact zrun_F hx h
theorem zoP_t {P : Nat → Bool} {X : List Nat} {i : Nat} (h : zoP P X[i]? = true) : ∃ b, X[i]? = some b ∧ P b = true ∧ i < X.length := by
  cases hx : X[i]? with
  | none => rw [hx] at h; cases h
  | some b =>
    rw [hx] at h
    exact ⟨b, rfl, h, (List.getElem?_eq_some_iff.mp hx).1⟩
