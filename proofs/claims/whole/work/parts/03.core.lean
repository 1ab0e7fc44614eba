/-! THE SMALL MACHINE. Values: ints, longs, references (0 is null, k + 1 is the k-th cell made since the law began), text constants by number. -/
abbrev zV : Type := Int32 ⊕ (Int64 ⊕ (Nat ⊕ Nat))
abbrev zI (x : Int32) : zV := .inl x
abbrev zL (x : Int64) : zV := .inr (.inl x)
abbrev zR (n : Nat) : zV := .inr (.inr (.inl n))
abbrev zQ (j : Nat) : zV := .inr (.inr (.inr j))
/-- where it runs: the heap's size as the law began, the heap then, the classes, the arrays' classes, the text constants' cells, what else holds there for good -/
abbrev zE : Type := Nat × Heap × va_G × (Nat → ClassId) × (Nat → Nat) × (State → Prop)
def zb (E : zE) : Nat := E.1
def zH (E : zE) : Heap := E.2.1
def zD (E : zE) : va_G := E.2.2.1
def zA (E : zE) : Nat → ClassId := E.2.2.2.1
def zS (E : zE) : Nat → Nat := E.2.2.2.2.1
def zX (E : zE) : State → Prop := E.2.2.2.2.2
def zrv (b n : Nat) : Value := match n with
  | 0 => .null
  | k + 1 => .ref (b + k)
def ztv (E : zE) (v : zV) : Value := match v with
  | .inl x => .int x
  | .inr (.inl x) => .long x
  | .inr (.inr (.inl n)) => zrv (zb E) n
  | .inr (.inr (.inr j)) => .ref (zS E j)
/-- the memory: of each cell its kind (0: none told; t + 1: an object of class t; 14 + j: an array) and length; ints, longs, references by cell and place; how many cells there are -/
abbrev zM : Type := (Nat → Nat × Nat) × (Nat → Nat → Int32) × (Nat → Nat → Int64) × (Nat → Nat → Nat) × Nat
def zkd (S : zM) : Nat → Nat × Nat := S.1
def zgI (S : zM) : Nat → Nat → Int32 := S.2.1
def zgL (S : zM) : Nat → Nat → Int64 := S.2.2.1
def zgP (S : zM) : Nat → Nat → Nat := S.2.2.2.1
def zgn (S : zM) : Nat := S.2.2.2.2
def zwI (S : zM) (a k : Nat) (v : Int32) : zM := (S.1, fun b j => if b = a ∧ j = k then v else S.2.1 b j, S.2.2)
def zwL (S : zM) (a k : Nat) (v : Int64) : zM := (S.1, S.2.1, fun b j => if b = a ∧ j = k then v else S.2.2.1 b j, S.2.2.2)
def zwP (S : zM) (a k v : Nat) : zM := (S.1, S.2.1, S.2.2.1, fun b j => if b = a ∧ j = k then v else S.2.2.2.1 b j, S.2.2.2.2)
def znw (S : zM) (t n : Nat) : zM := (fun b => if b = zgn S + 1 then (t, n) else S.1 b, fun b j => if b = zgn S + 1 then 0 else S.2.1 b j, fun b j => if b = zgn S + 1 then 0 else S.2.2.1 b j, fun b j => if b = zgn S + 1 then 0 else S.2.2.2.1 b j, zgn S + 1)
/-! the classes by their numbers -/
def zC (t : Nat) : String := match t with
  | 0 => RX0 | 1 => RX1 | 2 => RX2 | 3 => RX3 | 4 => RX4 | 5 => RX5 | 6 => RX6 | 7 => RX7 | 8 => RX8 | 9 => RX9 | 10 => RX10 | 11 => RX11 | _ => RX12
def zT (t : Nat) : u_T := match t with
  | 0 => TX0 | 1 => TX1 | 2 => TX2 | 3 => TX3 | 4 => TX4 | 5 => TX5 | 6 => TX6 | 7 => TX7 | 8 => TX8 | 9 => TX9 | 10 => TX10 | 11 => TX11 | _ => TX12
def zN (t : Nat) : Nat := match t with
  | 0 => 5 | 1 => 2 | 2 => 6 | 3 => 5 | 4 => 9 | 5 => 4 | 6 => 9 | 7 => 4 | 8 => 5 | 9 => 9 | 10 => 11 | 11 => 9 | _ => 64
def zty (t : Nat) : Nat → FieldType := match t with
  | 0 => tyX0 | 1 => tyX1 | 2 => tyX2 | 3 => tyX3 | 4 => tyX4 | 5 => tyX5 | 6 => tyX6 | 7 => tyX7 | 8 => tyX8 | 9 => tyX9 | 10 => tyX10 | 11 => tyX11 | _ => tyX12
def zat (j : Nat) : FieldType := match j with
  | 0 => .int | 1 => .long | 2 => .boolean | 3 => .object RX1 | _ => .object RX6
theorem z_13 {P : Nat → Prop} (h0 : P 0) (h1 : P 1) (h2 : P 2) (h3 : P 3) (h4 : P 4) (h5 : P 5) (h6 : P 6) (h7 : P 7) (h8 : P 8) (h9 : P 9) (h10 : P 10) (h11 : P 11) (h12 : P 12) : ∀ t, t < 13 → P t := by
  intro t ht
  match t, ht with
  | 0, _ => exact h0
  | 1, _ => exact h1
  | 2, _ => exact h2
  | 3, _ => exact h3
  | 4, _ => exact h4
  | 5, _ => exact h5
  | 6, _ => exact h6
  | 7, _ => exact h7
  | 8, _ => exact h8
  | 9, _ => exact h9
  | 10, _ => exact h10
  | 11, _ => exact h11
  | 12, _ => exact h12
  | t + 13, h => exact absurd h (by omega)
theorem zcl : ∀ t, t < 13 → vwCl[t]? = some (zC t, zT t, zN t) := z_13 rfl rfl rfl rfl rfl rfl rfl rfl rfl rfl rfl rfl rfl
theorem zty_ok : ∀ t, t < 13 → ∀ k, k < zN t → parseFieldDescriptor (zT t k).2.2.1 = some (zty t k) := z_13 tyX0_ok tyX1_ok tyX2_ok tyX3_ok tyX4_ok tyX5_ok tyX6_ok tyX7_ok tyX8_ok tyX9_ok tyX10_ok tyX11_ok tyX12_ok
theorem znm : ∀ t, t < 13 → ∀ a, a < zN t → ∀ b, b < zN t → a ≠ b → (zT t a).2.1 ≠ (zT t b).2.1 := z_13 nmX0 nmX1 nmX2 nmX3 nmX4 nmX5 nmX6 nmX7 nmX8 nmX9 nmX10 nmX11 nmX12
theorem zown : ∀ t, t < 13 → ∀ k, k < zN t → (zT t k).1 = zC t := by decide +kernel
/-! what a place of a cell holds -/
def zfv (E : zE) (S : zM) (a : Nat) (ty : FieldType) (k : Nat) : Value := match ty with
  | .long => .long (zgL S a k)
  | .object _ => zrv (zb E) (zgP S a k)
  | .array _ => zrv (zb E) (zgP S a k)
  | _ => .int (zgI S a k)
abbrev zad (E : zE) (a : Nat) : Nat := zb E + (a - 1)
/-- the heap holds the memory -/
def zRp (E : zE) (S : zM) (H : Heap) : Prop := H.size = zb E + zgn S ∧ (∀ q : Nat, q < zb E → H[q]? = (zH E)[q]?) ∧
  (∀ a t n : Nat, zkd S a = (t + 1, n) → t < 13 → 0 < a ∧ t_OB (zad E a) ((zD E).1 t) (zN t) ((zD E).2 t) H (fun k => zfv E S a (zty t k) k)) ∧
  ∀ a j n : Nat, zkd S a = (14 + j, n) → j < 5 → 0 < a ∧ n < 2 ^ 31 ∧ H[zad E a]? = some (arrV (zA E j) n (zfv E S a (zat j)))
theorem zRp.lt {E : zE} {S : zM} {H : Heap} (h : zRp E S H) {a t n : Nat} (hk : zkd S a = (t + 1, n)) (ht : t < 13) : zad E a < H.size := by
  obtain ⟨-, cell, h1, -⟩ := h.2.2.1 a t n hk ht
  exact (Array.getElem?_eq_some_iff.mp h1).1
/-- one cell is written -/
theorem zRp.put {E : zE} {S S' : zM} {H H' : Heap} {a : Nat} (h : zRp E S H) (ha : 0 < a) (hk : zkd S' = zkd S) (hn : zgn S' = zgn S) (hc : ∀ b, b ≠ a → ∀ ty k, zfv E S' b ty k = zfv E S b ty k)
    (hz : H'.size = H.size) (ho : ∀ q : Nat, q ≠ zad E a → H'[q]? = H[q]?)
    (h1 : ∀ t n : Nat, zkd S a = (t + 1, n) → t < 13 → t_OB (zad E a) ((zD E).1 t) (zN t) ((zD E).2 t) H' (fun k => zfv E S' a (zty t k) k))
    (h2 : ∀ j n : Nat, zkd S a = (14 + j, n) → j < 5 → H'[zad E a]? = some (arrV (zA E j) n (zfv E S' a (zat j)))) : zRp E S' H' := by
  obtain ⟨g1, g2, g3, g4⟩ := h
  refine ⟨by rw [hz, hn, g1], fun q hq => ?_, fun b t n hb ht => ?_, fun b j n hb hj => ?_⟩
  · rw [ho q (by unfold zad; omega)]
    exact g2 q hq
  · rw [hk] at hb
    obtain ⟨b0, ob⟩ := g3 b t n hb ht
    refine ⟨b0, ?_⟩
    by_cases e : b = a
    · subst e
      exact h1 t n hb ht
    · exact (ob.kept (ho _ (by unfold zad; omega))).to (fun k _ => (hc b e _ _).symm)
  · rw [hk] at hb
    obtain ⟨b0, bn, ob⟩ := g4 b j n hb hj
    refine ⟨b0, bn, ?_⟩
    by_cases e : b = a
    · subst e
      exact h2 j n hb hj
    · rw [ho _ (by unfold zad; omega), ob]
      congr 2
      funext k
      exact (hc b e _ _).symm
/-- one cell more -/
theorem zRp.new {E : zE} {S : zM} {H H' : Heap} {t n : Nat} (h : zRp E S H) (hz : H'.size = H.size + 1) (ho : ∀ q : Nat, q < H.size → H'[q]? = H[q]?)
    (h1 : ∀ u : Nat, t = u + 1 → u < 13 → t_OB H.size ((zD E).1 u) (zN u) ((zD E).2 u) H' (fun k => zfv E (znw S t n) (zgn S + 1) (zty u k) k))
    (h2 : ∀ j : Nat, t = 14 + j → j < 5 → n < 2 ^ 31 ∧ H'[H.size]? = some (arrV (zA E j) n (zfv E (znw S t n) (zgn S + 1) (zat j)))) : zRp E (znw S t n) H' := by
  obtain ⟨g1, g2, g3, g4⟩ := h
  have hval : ∀ b, b ≠ zgn S + 1 → ∀ ty k, zfv E (znw S t n) b ty k = zfv E S b ty k := by
    intro b hb ty k
    unfold zfv
    split <;> simp [zgI, zgL, zgP, znw, hb]
  have had : zad E (zgn S + 1) = H.size := by unfold zad; omega
  refine ⟨by rw [hz, g1]; rfl, fun q hq => ?_, fun b u w hb hu => ?_, fun b j w hb hj => ?_⟩
  · rw [ho q (by omega)]
    exact g2 q hq
  · by_cases e : b = zgn S + 1
    · subst e
      simp only [zkd, znw, if_pos, Prod.mk.injEq] at hb
      refine ⟨by omega, ?_⟩
      rw [had]
      exact h1 u hb.1 hu
    · have hb' : zkd S b = (u + 1, w) := by
        simpa [zkd, znw, e] using hb
      obtain ⟨b0, ob⟩ := g3 b u w hb' hu
      refine ⟨b0, (ob.kept (ho _ ?_)).to (fun k _ => (hval b e _ _).symm)⟩
      obtain ⟨cell, hc, -⟩ := ob
      exact (Array.getElem?_eq_some_iff.mp hc).1
  · by_cases e : b = zgn S + 1
    · subst e
      simp only [zkd, znw, if_pos, Prod.mk.injEq] at hb
      obtain ⟨k1, k2⟩ := h2 j hb.1 hj
      refine ⟨by omega, by rw [← hb.2]; exact k1, ?_⟩
      rw [had, ← hb.2]
      exact k2
    · have hb' : zkd S b = (14 + j, w) := by
        simpa [zkd, znw, e] using hb
      obtain ⟨b0, bn, ob⟩ := g4 b j w hb' hj
      refine ⟨b0, bn, ?_⟩
      rw [ho _ ((Array.getElem?_eq_some_iff.mp ob).1), ob]
      congr 2
      funext k
      exact (hval b e _ _).symm
