/-! two memories alike at a cell -/
def zAg (S T : zM) (c : Nat) : Prop := zkd T c = zkd S c ∧ (∀ k, zgI T c k = zgI S c k) ∧ (∀ k, zgL T c k = zgL S c k) ∧ ∀ k, zgP T c k = zgP S c k
/-- nothing is made, nothing but the cells of X is written -/
def zG (X : Nat → Prop) (S T : zM) : Prop := zkd T = zkd S ∧ zgn T = zgn S ∧ ∀ c, ¬ X c → zAg S T c
theorem zF.ag {X : Nat → Prop} {S T : zM} (h : zF X S T) {c : Nat} (hc : ¬ X c) : zAg S T c := ⟨by rw [h.1], h.2.2.2.1 c hc, h.2.2.2.2 c hc, fun k => by rw [h.2.2.1]⟩
theorem zF.g {X : Nat → Prop} {S T : zM} (h : zF X S T) : zG X S T := ⟨h.1, h.2.1, fun _ hc => h.ag hc⟩
theorem zAg.tr {S T U : zM} {c : Nat} (h : zAg S T c) (g : zAg T U c) : zAg S U c := ⟨g.1.trans h.1, fun k => (g.2.1 k).trans (h.2.1 k), fun k => (g.2.2.1 k).trans (h.2.2.1 k), fun k => (g.2.2.2 k).trans (h.2.2.2 k)⟩
theorem zG.tr {X : Nat → Prop} {S T U : zM} (h : zG X S T) (g : zG X T U) : zG X S U := ⟨g.1.trans h.1, g.2.1.trans h.2.1, fun c hc => (h.2.2 c hc).tr (g.2.2 c hc)⟩
theorem zG.mo {X Y : Nat → Prop} {S T : zM} (h : zG X S T) (hxy : ∀ c, X c → Y c) : zG Y S T := ⟨h.1, h.2.1, fun c hc => h.2.2 c (fun q => hc (hxy c q))⟩
theorem zG.rf {X : Nat → Prop} {S : zM} : zG X S S := zF.rf.g
theorem zG.wP {X : Nat → Prop} {S : zM} {a k v : Nat} (h : X a) : zG X S (zwP S a k v) := ⟨rfl, rfl, fun c hc => ⟨rfl, fun _ => rfl, fun _ => rfl, fun j => zgP_ne (fun q => hc (q ▸ h))⟩⟩
theorem zBy.ag {S T : zM} {a b cap : Nat} {L : List Nat} (h : zBy S a b cap L) (f : zAg S T a) (g : zAg S T b) : zBy T a b cap L := by
  obtain ⟨h1, h2, h3, h4, h5, h6, h7⟩ := h
  exact ⟨f.1.trans h1, g.1.trans h2, (f.2.2.2 0).trans h3, h4, (f.2.1 1).trans h5, h6, fun i hi => ⟨(g.2.1 i).trans (h7 i hi).1, (h7 i hi).2⟩⟩
theorem zRo.ag {S T : zM} {a g : Nat} {th : Nat → Bool} {vl : Nat → Nat → Int64} (h : zRo S a th vl g) (f : ∀ k, k < 3 → zAg S T (a + k)) : zRo T a th vl g := by
  have f0 := f 0 (by decide)
  have f1 := f 1 (by decide)
  have f2 := f 2 (by decide)
  obtain ⟨k1, k2, k3, p1, p2, i1, i2, t1, v1, g1⟩ := h
  exact ⟨f0.1.trans k1, f1.1.trans k2, f2.1.trans k3, (f0.2.2.2 0).trans p1, (f0.2.2.2 1).trans p2, (f0.2.1 2).trans i1, (f0.2.1 3).trans i2, fun i hi => (f1.2.1 i).trans (t1 i hi), fun i j hi hj => (f2.2.2.1 _).trans (v1 i j hi hj), g1⟩
theorem zAc.ag {S T : zM} {a v : Nat} {so si sc : Nat → Nat} {ol : Nat → Int64} (h : zAc S a so si sc ol v) (f : ∀ k, k < 5 → zAg S T (a + k)) : zAc T a so si sc ol v := by
  have f0 := f 0 (by decide)
  have f1 := f 1 (by decide)
  have f2 := f 2 (by decide)
  have f3 := f 3 (by decide)
  have f4 := f 4 (by decide)
  obtain ⟨⟨k1, k2, k3, k4, k5⟩, ⟨p1, p2, p3, p4⟩, i1, i2, e1, e2⟩ := h
  exact ⟨⟨f0.1.trans k1, f1.1.trans k2, f2.1.trans k3, f3.1.trans k4, f4.1.trans k5⟩, ⟨(f0.2.2.2 0).trans p1, (f0.2.2.2 1).trans p2, (f0.2.2.2 2).trans p3, (f0.2.2.2 3).trans p4⟩, (f0.2.1 4).trans i1, i2, fun k hk => ⟨(f1.2.1 k).trans (e1 k hk).1, (f2.2.1 k).trans (e1 k hk).2.1, (f3.2.1 k).trans (e1 k hk).2.2.1, (f4.2.2.1 k).trans (e1 k hk).2.2.2⟩, e2⟩
theorem zOr.ag {S T : zM} {a : Nat} {O : List zOe} (h : zOr S a O) (f : ∀ k, k < 5 → zAg S T (a + k)) : zOr T a O := by
  have f0 := f 0 (by decide)
  have f1 := f 1 (by decide)
  have f2 := f 2 (by decide)
  have f3 := f 3 (by decide)
  have f4 := f 4 (by decide)
  obtain ⟨⟨k1, k2, k3, k4, k5⟩, ⟨p1, p2, p3, p4⟩, i1, i2, e1⟩ := h
  exact ⟨⟨f0.1.trans k1, f1.1.trans k2, f2.1.trans k3, f3.1.trans k4, f4.1.trans k5⟩, ⟨(f0.2.2.2 0).trans p1, (f0.2.2.2 1).trans p2, (f0.2.2.2 2).trans p3, (f0.2.2.2 3).trans p4⟩, (f0.2.1 4).trans i1, i2, fun i e he => ⟨(f1.2.1 i).trans (e1 i e he).1, (f2.2.1 i).trans (e1 i e he).2.1, (f3.2.1 i).trans (e1 i e he).2.2.1, (f4.2.1 i).trans (e1 i e he).2.2.2.1, (e1 i e he).2.2.2.2⟩⟩
theorem zSv.ag {S T : zM} {a : Nat} {V : List zSe} (h : zSv S a V) (f : ∀ k, k < 5 → zAg S T (a + k)) : zSv T a V := by
  have f0 := f 0 (by decide)
  have f1 := f 1 (by decide)
  have f2 := f 2 (by decide)
  have f3 := f 3 (by decide)
  have f4 := f 4 (by decide)
  obtain ⟨⟨k1, k2, k3, k4, k5⟩, ⟨p1, p2, p3, p4⟩, i1, i2, e1⟩ := h
  exact ⟨⟨f0.1.trans k1, f1.1.trans k2, f2.1.trans k3, f3.1.trans k4, f4.1.trans k5⟩, ⟨(f0.2.2.2 0).trans p1, (f0.2.2.2 1).trans p2, (f0.2.2.2 2).trans p3, (f0.2.2.2 3).trans p4⟩, (f0.2.1 4).trans i1, i2, fun i e he => ⟨(f1.2.1 i).trans (e1 i e he).1, (f2.2.1 i).trans (e1 i e he).2.1, (f3.2.1 i).trans (e1 i e he).2.2.1, (f4.2.2.1 i).trans (e1 i e he).2.2.2.1, (e1 i e he).2.2.2.2⟩⟩
/-! VIEW: cells 6 to 92; q: which cell holds the key at a place; A: the rows in order; kf: a row's key -/
def zV0 (S : zM) (q : Nat → Nat) : Prop := (zkd S 6 = (11, 0) ∧ zkd S 10 = (14, 40) ∧ zkd S 11 = (17, 40) ∧ zkd S 92 = (14, 40) ∧ zgP S 6 0 = 7 ∧ zgP S 6 1 = 10 ∧ zgP S 6 2 = 11 ∧ zgP S 6 3 = 92) ∧ (∀ i, i < 40 → zgP S 11 i = q i ∧ (∃ j, j < 40 ∧ q i = 12 + 2 * j) ∧ ∃ L, zBy S (q i) (q i + 1) 34 L) ∧ ∀ i j, i < 40 → j < 40 → q i = q j → i = j
def zV1 (S : zM) (q : Nat → Nat) (A : List Nat) (kf : Nat → List Nat) : Prop := zgI S 6 4 = nI A.length ∧ A.length ≤ 40 ∧ ∀ i id, A[i]? = some id → zgI S 10 i = nI id ∧ id < 64 ∧ zBy S (q i) (q i + 1) 34 (kf id)
abbrev zSo (kf : Nat → List Nat) (A : List Nat) : Prop := A.Pairwise (fun x y => zkl (kf x) (kf y) = true)
def zlow (kf : Nat → List Nat) (A : List Nat) (k : List Nat) : Nat := A.countP (fun x => zkl (kf x) k)
def zins (kf : Nat → List Nat) (id : Nat) (A : List Nat) : List Nat := A.take (zlow kf A (kf id)) ++ id :: A.drop (zlow kf A (kf id))
theorem zlow_of {kf : Nat → List Nat} {A : List Nat} {k : List Nat} : ∀ {n : Nat}, n ≤ A.length → (∀ i x, A[i]? = some x → i < n → zkl (kf x) k = true) → (∀ i x, A[i]? = some x → n ≤ i → zkl (kf x) k = false) → zlow kf A k = n := by
  intro n hn h1 h2
  unfold zlow
  have e : A = A.take n ++ A.drop n := (List.take_append_drop n A).symm
  rw [e, List.countP_append]
  have e1 : (A.take n).countP (fun x => zkl (kf x) k) = (A.take n).length := List.countP_eq_length.mpr (fun x hx => by
    obtain ⟨i, hi⟩ := List.getElem?_of_mem hx
    have hlt : i < (A.take n).length := (List.getElem?_eq_some_iff.mp hi).1
    rw [List.length_take] at hlt
    rw [List.getElem?_take_of_lt (by omega)] at hi
    exact h1 i x hi (by omega))
  have e2 : (A.drop n).countP (fun x => zkl (kf x) k) = 0 := List.countP_eq_zero.mpr (fun x hx => by
    obtain ⟨i, hi⟩ := List.getElem?_of_mem hx
    rw [List.getElem?_drop] at hi
    rw [h2 (n + i) x hi (by omega)]
    decide)
  rw [e1, e2, List.length_take]
  omega
theorem zcmp_lt (L F : List Nat) : zcmp L F < 0 ↔ zkl L F = true := by
  unfold zcmp
  by_cases h : zkl L F = true
  · rw [if_pos h]
    exact ⟨fun _ => h, fun _ => by decide⟩
  · rw [if_neg h]
    refine ⟨fun q => ?_, fun q => absurd q h⟩
    split at q <;> exact absurd q (by decide)
theorem zcmp_le (L F : List Nat) : zcmp L F ≤ 0 ↔ zkl F L = false := by
  unfold zcmp
  by_cases h : zkl L F = true
  · rw [if_pos h]
    exact ⟨fun _ => zkl_asym _ _ h, fun _ => by decide⟩
  · rw [if_neg h]
    by_cases h2 : zkl F L = true
    · rw [if_pos h2, h2]
      exact ⟨fun q => absurd q (by decide), fun q => by cases q⟩
    · rw [if_neg h2]
      exact ⟨fun _ => Bool.eq_false_iff.mpr h2, fun _ => by decide⟩
def zpo (A : List Nat) (id : Nat) : Int32 := match A.findIdx? (fun y => decide (y = id)) with
  | some i => nI i
  | none => -1
set_option maxRecDepth 20000 in
set_option maxHeartbeats 4000000 in
theorem c_placeOf {E : zE} {S : zM} {q : Nat → Nat} {A : List Nat} {kf : Nat → List Nat} {id : Nat} (h0 : zV0 S q) (h1 : zV1 S q A kf) (hid : id < 64) : zSp E 0 0 0 mX10_placeOf cX10_placeOf [zR 6, zI (nI id)] S (fun r T => S = T ∧ r = some (zI (zpo A id))) := by
  refine zSp.of (by decide) rfl (Nat.le_of_ble_eq_true rfl) rfl ?_
  have k1 := h0.1.1
  have k2 := h0.1.2.1
  have hp := h0.1.2.2.2.2.2.1
  have h4 := h1.2.1
  have lp : ∀ (n i : Nat), i + n = A.length → (∀ j y, j < i → A[j]? = some y → ¬ y = id) → zJ E 0 0 0 mX10_placeOf cX10_placeOf 2 [some (zR 6), some (zI (nI id)), some (zI (nI i))] [] S (fun r T => S = T ∧ r = some (zI (zpo A id))) := by
    intro n
    induction n with
    | zero =>
      intro i hi hq
      have ei : i = A.length := by omega
      subst ei
      refine j_iload_n (pc := 2) dX10_placeOf_2 rfl ?_
      refine j_aload_n (pc := 3) dX10_placeOf_3 rfl ?_
      refine j_getI (pc := 4) dX10_placeOf_4 f_X10_34 (Or.inl rfl) (by assumption) ?_
      rw [h1.1]
      refine j_icmp_ge (pc := 7) (tgt := 28) dX10_placeOf_7 (by decide) (fun h7 => ?_) (fun h7 => ?_)
      · refine j_iconst (pc := 28) (v := (-1)) dX10_placeOf_28 (by decide) ?_
        refine j_iret (pc := 29) dX10_placeOf_29 rfl ?_
        have e : A.findIdx? (fun y => decide (y = id)) = none := List.findIdx?_eq_none_iff.mpr (fun y hy => by
          obtain ⟨j, hj⟩ := List.getElem?_of_mem hy
          exact decide_eq_false (hq j y (List.getElem?_eq_some_iff.mp hj).1 hj))
        exact ⟨rfl, by rw [zpo, e]⟩
      · exact absurd (nI_le (Nat.le_refl _) (by omega)) h7
    | succ n ih =>
      intro i hi hq
      have hlt : i < A.length := by omega
      have hin : vp_in (nI i) 40 := vp_in_nI (by omega) (by decide)
      have hcl : (nI i).toNatClampNeg = i := nI_clamp (by omega)
      obtain ⟨y, hy⟩ : ∃ y, A[i]? = some y := ⟨A[i], List.getElem?_eq_getElem hlt⟩
      have hy64 := (h1.2.2 i y hy).2.1
      refine j_iload_n (pc := 2) dX10_placeOf_2 rfl ?_
      refine j_aload_n (pc := 3) dX10_placeOf_3 rfl ?_
      refine j_getI (pc := 4) dX10_placeOf_4 f_X10_34 (Or.inl rfl) (by assumption) ?_
      rw [h1.1]
      refine j_icmp_ge (pc := 7) (tgt := 28) dX10_placeOf_7 (by decide) (fun h7 => ?_) (fun h7 => ?_)
      · exact absurd h7 (nI_ge (by omega) (by omega))
      · refine j_aload_n (pc := 10) dX10_placeOf_10 rfl ?_
        refine j_getP (pc := 11) dX10_placeOf_11 f_X10_18 (Or.inr ⟨_, rfl⟩) (by assumption) ?_
        rw [hp]
        refine j_iload_n (pc := 14) dX10_placeOf_14 rfl ?_
        refine j_iald (pc := 15) dX10_placeOf_15 (by assumption) (by assumption) ?_
        rw [hcl, (h1.2.2 i y hy).1]
        refine j_iload_n (pc := 16) dX10_placeOf_16 rfl ?_
        refine j_icmp_ne (pc := 17) (tgt := 22) dX10_placeOf_17 (by decide) (fun h17 => ?_) (fun h17 => ?_)
        · refine j_iinc (pc := 22) (v := _ + 1) (ls' := [_, _, _]) dX10_placeOf_22 rfl rfl (by decide) rfl rfl ?_
          refine j_goto (pc := 25) (tgt := 2) dX10_placeOf_25 (by decide) ?_
          rw [nI_1]
          refine ih (i + 1) (by omega) (fun j z hj hz => ?_)
          by_cases e : j = i
          · subst e
            rw [hy] at hz
            cases hz
            exact fun q => h17 (by rw [q])
          · exact hq j z (by omega) hz
        · refine j_iload_n (pc := 20) dX10_placeOf_20 rfl ?_
          refine j_iret (pc := 21) dX10_placeOf_21 rfl ?_
          have e : A.findIdx? (fun y => decide (y = id)) = some i := List.findIdx?_eq_some_iff_getElem.mpr ⟨hlt, by
            have := (List.getElem?_eq_some_iff.mp hy).2
            rw [this]
            exact decide_eq_true ((nI_eq (by omega) (by omega)).mp h17), fun j hj => by
            have := hq j A[j] hj (List.getElem?_eq_getElem (by omega))
            simp [this]⟩
          exact ⟨rfl, by rw [zpo, e]⟩
  refine j_iconst (pc := 0) (v := 0) dX10_placeOf_0 (by decide) ?_
  refine j_istore_n (pc := 1) (ls' := [_, _, _]) dX10_placeOf_1 (by decide) rfl rfl ?_
  exact lp A.length 0 (by omega) (fun j y hj => absurd hj (Nat.not_lt_zero j))
