/-! keys in order, byte by byte -/
def zkl : List Nat → List Nat → Bool
  | _, [] => false
  | [], _ :: _ => true
  | a :: x, b :: y => decide (a < b) || (decide (a = b) && zkl x y)
theorem zkl_irr : ∀ L : List Nat, zkl L L = false
  | [] => rfl
  | a :: x => by simp [zkl, zkl_irr x]
theorem zkl_asym : ∀ L F : List Nat, zkl L F = true → zkl F L = false
  | _, [], h => by simp [zkl] at h
  | [], _ :: _, _ => rfl
  | a :: x, b :: y, h => by
    simp only [zkl, Bool.or_eq_true, Bool.and_eq_true, decide_eq_true_eq] at h
    simp only [zkl, Bool.or_eq_false_iff, Bool.and_eq_false_iff, decide_eq_false_iff_not]
    rcases h with h | ⟨h, g⟩
    · exact ⟨by omega, Or.inl (by omega)⟩
    · exact ⟨by omega, Or.inr (zkl_asym x y g)⟩
theorem zkl_tr : ∀ L F G : List Nat, zkl L F = true → zkl F G = true → zkl L G = true
  | _, [], _, h, _ => by simp [zkl] at h
  | _, _ :: _, [], _, h => by simp [zkl] at h
  | [], _ :: _, _ :: _, _, _ => rfl
  | a :: x, b :: y, c :: z, h, g => by
    simp only [zkl, Bool.or_eq_true, Bool.and_eq_true, decide_eq_true_eq] at h g ⊢
    rcases h with h | ⟨h, h2⟩ <;> rcases g with g | ⟨g, g2⟩
    · exact Or.inl (by omega)
    · exact Or.inl (by omega)
    · exact Or.inl (by omega)
    · exact Or.inr ⟨by omega, zkl_tr x y z h2 g2⟩
theorem zkl_tot : ∀ L F : List Nat, L = F ∨ zkl L F = true ∨ zkl F L = true
  | [], [] => Or.inl rfl
  | [], _ :: _ => Or.inr (Or.inl rfl)
  | _ :: _, [] => Or.inr (Or.inr rfl)
  | a :: x, b :: y => by
    simp only [zkl, Bool.or_eq_true, Bool.and_eq_true, decide_eq_true_eq]
    rcases Nat.lt_trichotomy a b with h | h | h
    · exact Or.inr (Or.inl (Or.inl h))
    · subst h
      rcases zkl_tot x y with e | e | e
      · exact Or.inl (by rw [e])
      · exact Or.inr (Or.inl (Or.inr ⟨rfl, e⟩))
      · exact Or.inr (Or.inr (Or.inr ⟨rfl, e⟩))
    · exact Or.inr (Or.inr (Or.inl h))
def zgt (L : List Nat) (j : Nat) : Nat := if j < L.length then L.getD j 0 + 1 else 0
theorem zgt_0 (a : Nat) (x : List Nat) : zgt (a :: x) 0 = a + 1 := rfl
theorem zgt_s (a : Nat) (x : List Nat) (j : Nat) : zgt (a :: x) (j + 1) = zgt x j := by simp [zgt]
theorem zgt_n (j : Nat) : zgt [] j = 0 := by simp [zgt]
theorem zkl_of : ∀ (i : Nat) (L F : List Nat), (∀ j, j < i → zgt L j = zgt F j) → zgt L i < zgt F i → zkl L F = true
  | _, _, [], _, h => by simp [zgt_n] at h
  | _, [], _ :: _, _, _ => rfl
  | 0, a :: x, b :: y, _, h => by
    rw [zgt_0, zgt_0] at h
    simp only [zkl, Bool.or_eq_true, decide_eq_true_eq]
    exact Or.inl (by omega)
  | i + 1, a :: x, b :: y, hj, h => by
    have h0 := hj 0 (by omega)
    rw [zgt_0, zgt_0] at h0
    simp only [zkl, Bool.or_eq_true, Bool.and_eq_true, decide_eq_true_eq]
    exact Or.inr ⟨by omega, zkl_of i x y (fun j hj2 => by have := hj (j + 1) (by omega); rwa [zgt_s, zgt_s] at this) (by rwa [zgt_s, zgt_s] at h)⟩
theorem zkl_eq : ∀ (L F : List Nat), (∀ j, j < max L.length F.length → zgt L j = zgt F j) → L = F
  | [], [], _ => rfl
  | [], b :: y, h => by have := h 0 (by simp); rw [zgt_n, zgt_0] at this; omega
  | a :: x, [], h => by have := h 0 (by simp); rw [zgt_n, zgt_0] at this; omega
  | a :: x, b :: y, h => by
    have h0 := h 0 (by simp only [List.length_cons]; omega)
    rw [zgt_0, zgt_0] at h0
    rw [show a = b by omega, zkl_eq x y (fun j hj => by have := h (j + 1) (by simp only [List.length_cons]; omega); rwa [zgt_s, zgt_s] at this)]
theorem zget_toInt {L : List Nat} (hL : ∀ i, i < L.length → L.getD i 0 < 256) (hl : L.length < 2 ^ 31) {i : Nat} (hi : i < 2 ^ 31) : (zget L (nI i)).toInt = (zgt L i : Int) - 1 := by
  unfold zgt
  by_cases h : i < L.length
  · have := hL i h
    rw [zget_in h hl, if_pos h, nI_toInt (by omega)]
    omega
  · rw [zget_out (by omega) hi, if_neg h]
    decide
def zcmp (L F : List Nat) : Int32 := if zkl L F = true then -1 else if zkl F L = true then 1 else 0
set_option maxRecDepth 20000 in
set_option maxHeartbeats 4000000 in
theorem c_against {E : zE} {S : zM} {a b cap : Nat} {L : List Nat} {a' b' cap' : Nat} {F : List Nat} (h : zBy S a b cap L) (g : zBy S a' b' cap' F) : zSp E 1 0 0 mX1_against cX1_against [zR a, zR a'] S (fun r T => S = T ∧ r = some (zI (zcmp L F))) := by
  refine zSp.of (by decide) rfl (Nat.le_of_ble_eq_true rfl) rfl ?_
  have hL : L.length < 2 ^ 31 := Nat.lt_of_le_of_lt h.2.2.2.2.2.1 h.2.2.2.1
  have hF : F.length < 2 ^ 31 := Nat.lt_of_le_of_lt g.2.2.2.2.2.1 g.2.2.2.1
  have ka := h.1
  have kg := g.1
  have lp : ∀ (n i : Nat) (u w : Option zV), i + n = max L.length F.length → (∀ j, j < i → zgt L j = zgt F j) → zJ E 1 0 0 mX1_against cX1_against 14 [some (zR a), some (zR a'), some (zI (nI (max L.length F.length))), some (zI (nI i)), u, w] [] S (fun r T => S = T ∧ r = some (zI (zcmp L F))) := by
    intro n
    induction n with
    | zero =>
      intro i u w hi hq
      have ei : i = max L.length F.length := by omega
      subst ei
      refine j_iload_n (pc := 14) dX1_against_14 rfl ?_
      refine j_iload_n (pc := 15) dX1_against_15 rfl ?_
      refine j_icmp_ge (pc := 16) (tgt := 59) dX1_against_16 (by decide) (fun h16 => ?_) (fun h16 => ?_)
      · refine j_iconst (pc := 59) (v := 0) dX1_against_59 (by decide) ?_
        refine j_iret (pc := 60) dX1_against_60 rfl ?_
        refine ⟨rfl, ?_⟩
        have hE := zkl_eq L F hq
        subst hE
        rw [zcmp, if_neg (by rw [zkl_irr]; decide), if_neg (by rw [zkl_irr]; decide)]
      · exact absurd (nI_le (Nat.le_refl _) (by omega)) h16
    | succ n ih =>
      intro i u w hi hq
      refine j_iload_n (pc := 14) dX1_against_14 rfl ?_
      refine j_iload_n (pc := 15) dX1_against_15 rfl ?_
      refine j_icmp_ge (pc := 16) (tgt := 59) dX1_against_16 (by decide) (fun h16 => ?_) (fun h16 => ?_)
      · exact absurd h16 (nI_ge (by omega) (by omega))
      · refine j_aload_n (pc := 19) dX1_against_19 rfl ?_
        refine j_iload_n (pc := 20) dX1_against_20 rfl ?_
        refine j_callV (pc := 21) (t := 1) (c_get h _) dX1_against_21 l_X1_26 mk_X1_get mv_X1_get (by decide) rfl (by assumption) (by decide) rfl rfl (Nat.le_of_ble_eq_true rfl) (Nat.le_refl _) (Nat.le_refl _) (fun r T h_1 => ?_)
        obtain ⟨rfl, rfl⟩ := h_1
        refine j_istore (pc := 24) (ls' := [_, _, _, _, _, _]) dX1_against_24 (by decide) rfl rfl ?_
        refine j_aload_n (pc := 26) dX1_against_26 rfl ?_
        refine j_iload_n (pc := 27) dX1_against_27 rfl ?_
        refine j_callV (pc := 28) (t := 1) (c_get g _) dX1_against_28 l_X1_26 mk_X1_get mv_X1_get (by decide) rfl (by assumption) (by decide) rfl rfl (Nat.le_of_ble_eq_true rfl) (Nat.le_refl _) (Nat.le_refl _) (fun r T h_1 => ?_)
        obtain ⟨rfl, rfl⟩ := h_1
        refine j_istore (pc := 31) (ls' := [_, _, _, _, _, _]) dX1_against_31 (by decide) rfl rfl ?_
        have e1 := zget_toInt (L := L) (fun i hi => (h.2.2.2.2.2.2 i hi).2) hL (i := i) (by omega)
        have e2 := zget_toInt (L := F) (fun i hi => (g.2.2.2.2.2.2 i hi).2) hF (i := i) (by omega)
        refine j_iload (pc := 33) dX1_against_33 rfl ?_
        refine j_iload (pc := 35) dX1_against_35 rfl ?_
        refine j_icmp_eq (pc := 37) (tgt := 53) dX1_against_37 (by decide) (fun h37 => ?_) (fun h37 => ?_)
        · refine j_iinc (pc := 53) (v := _ + 1) (ls' := [_, _, _, _, _, _]) dX1_against_53 rfl rfl (by decide) rfl rfl ?_
          refine j_goto (pc := 56) (tgt := 14) dX1_against_56 (by decide) ?_
          rw [nI_1]
          refine ih (i + 1) _ _ (by omega) (fun j hj => ?_)
          by_cases e : j = i
          · subst e
            rw [h37] at e1
            omega
          · exact hq j (by omega)
        · refine j_iload (pc := 40) dX1_against_40 rfl ?_
          refine j_iload (pc := 42) dX1_against_42 rfl ?_
          refine j_icmp_ge (pc := 44) (tgt := 51) dX1_against_44 (by decide) (fun h44 => ?_) (fun h44 => ?_)
          · refine j_iconst (pc := 51) (v := 1) dX1_against_51 (by decide) ?_
            refine j_iret (pc := 52) dX1_against_52 rfl ?_
            rw [fa_eq] at h37
            first
              | (refine ⟨rfl, ?_⟩
                 rw [Int32.le_iff_toInt_le] at h44
                 have k := zkl_of i L F hq (by omega)
                 rw [zcmp, if_pos k])
              | (refine ⟨rfl, ?_⟩
                 rw [Int32.le_iff_toInt_le] at h44
                 have k := zkl_of i F L (fun j hj => (hq j hj).symm) (by omega)
                 rw [zcmp, if_neg (by rw [zkl_asym _ _ k]; decide), if_pos k])
          · refine j_iconst (pc := 47) (v := (-1)) dX1_against_47 (by decide) ?_
            refine j_goto (pc := 48) (tgt := 52) dX1_against_48 (by decide) ?_
            refine j_iret (pc := 52) dX1_against_52 rfl ?_
            rw [fa_eq] at h37
            first
              | (refine ⟨rfl, ?_⟩
                 rw [Int32.le_iff_toInt_le] at h44
                 have k := zkl_of i L F hq (by omega)
                 rw [zcmp, if_pos k])
              | (refine ⟨rfl, ?_⟩
                 rw [Int32.le_iff_toInt_le] at h44
                 have k := zkl_of i F L (fun j hj => (hq j hj).symm) (by omega)
                 rw [zcmp, if_neg (by rw [zkl_asym _ _ k]; decide), if_pos k])
  refine j_aload_n (pc := 0) dX1_against_0 rfl ?_
  
  refine j_getI (pc := 1) dX1_against_1 f_X1_15 (Or.inl rfl) (by assumption) ?_
  refine j_aload_n (pc := 4) dX1_against_4 rfl ?_
  refine j_getI (pc := 5) dX1_against_5 f_X1_15 (Or.inl rfl) (by assumption) ?_
  rw [h.2.2.2.2.1, g.2.2.2.2.1]
  refine j_callS (pc := 8) (c_max _ _) dX1_against_8 l_X1_30 mk_J9_max_7cf53 ms_J9_max_7cf53 (by decide) rfl rfl (Nat.le_of_ble_eq_true rfl) (Nat.le_refl _) (Nat.le_refl _) (fun r T h_1 => ?_)
  obtain ⟨rfl, rfl⟩ := h_1
  dsimp only [Option.toList, List.cons_append, List.nil_append]
  rw [zmax_nI hL hF]
  refine j_istore_n (pc := 11) (ls' := [_, _, _, _, _, _]) dX1_against_11 (by decide) rfl rfl ?_
  refine j_iconst (pc := 12) (v := 0) dX1_against_12 (by decide) ?_
  refine j_istore_n (pc := 13) (ls' := [_, _, _, _, _, _]) dX1_against_13 (by decide) rfl rfl ?_
  exact lp (max L.length F.length) 0 _ _ (by omega) (fun j hj => absurd hj (Nat.not_lt_zero j))
/-! ROWS: which are there, their values, how many were given -/
def zRo (S : zM) (a : Nat) (th : Nat → Bool) (vl : Nat → Nat → Int64) (g : Nat) : Prop := zkd S a = (8, 0) ∧ zkd S (a + 1) = (16, 64) ∧ zkd S (a + 2) = (15, 256) ∧ zgP S a 0 = a + 1 ∧ zgP S a 1 = a + 2 ∧ zgI S a 2 = nI g ∧ zgI S a 3 = nI (fb_ct th 64) ∧ (∀ i, i < 64 → zgI S (a + 1) i = if th i then 1 else 0) ∧ (∀ i j, i < 64 → j < 4 → zgL S (a + 2) (i * 4 + j) = vl i j) ∧ g ≤ 64
theorem zRo.keep {X : Nat → Prop} {S T : zM} {a g : Nat} {th : Nat → Bool} {vl : Nat → Nat → Int64} (h : zRo S a th vl g) (f : zF X S T) (h0 : ¬ X a) (h1 : ¬ X (a + 1)) (h2 : ¬ X (a + 2)) : zRo T a th vl g := by
  obtain ⟨k1, k2, k3, p1, p2, i1, i2, t1, v1, g1⟩ := h
  exact ⟨by rw [f.1]; exact k1, by rw [f.1]; exact k2, by rw [f.1]; exact k3, by rw [f.2.2.1]; exact p1, by rw [f.2.2.1]; exact p2, by rw [f.2.2.2.1 a h0]; exact i1, by rw [f.2.2.2.1 a h0]; exact i2, fun i hi => by rw [f.2.2.2.1 _ h1]; exact t1 i hi, fun i j hi hj => by rw [f.2.2.2.2 _ h2]; exact v1 i j hi hj, g1⟩
def zth (th : Nat → Bool) (x : Int32) : Bool := decide (¬ x < 0 ∧ ¬ 64 ≤ x) && th x.toNatClampNeg
theorem zth_nI (th : Nat → Bool) {i : Nat} (h : i < 64) : zth th (nI i) = th i := by
  unfold zth
  rw [nI_clamp (by omega), decide_eq_true (p := ¬ nI i < 0 ∧ ¬ 64 ≤ nI i) ⟨nI_pos (by omega), nI_ge (b := 64) h (by decide)⟩]
  rfl
abbrev zbi (b : Bool) : Int32 := if b then 1 else 0
theorem zbi_01 (b : Bool) : zbi b = 0 ∨ zbi b = 1 := by cases b <;> decide
theorem zbi_n (b : Bool) : narrow .boolean (.int (zbi b)) = .int (zbi b) := (zfit_bool (zbi_01 b)).1
set_option maxRecDepth 20000 in
set_option maxHeartbeats 4000000 in
theorem c_has {E : zE} {S : zM} {a g : Nat} {th : Nat → Bool} {vl : Nat → Nat → Int64} (h : zRo S a th vl g) (x : Int32) : zSp E 0 0 0 mX7_has cX7_has [zR a, zI x] S (fun r T => S = T ∧ r = some (zI (zbi (zth th x)))) := by
  refine zSp.of (by decide) rfl (Nat.le_of_ble_eq_true rfl) rfl ?_
  obtain ⟨k1, k2, k3, p1, p2, i1, i2, t1, v1, g1⟩ := id h
  refine j_iload_n (pc := 0) dX7_has_0 rfl ?_
  refine j_if_lt (pc := 1) (tgt := 23) dX7_has_1 (by decide) (fun h1 => ?_) (fun h1 => ?_)
  · refine j_iconst (pc := 23) (v := 0) dX7_has_23 (by decide) ?_
    refine j_zret (pc := 24) dX7_has_24 rfl (by first | assumption | decide) ?_
    exact ⟨rfl, by rw [zth, decide_eq_false (fun q => q.1 h1)]; rfl⟩
  · refine j_iload_n (pc := 4) dX7_has_4 rfl ?_
    refine j_bipush (pc := 5) (v := 64) dX7_has_5 (by decide) ?_
    refine j_icmp_ge (pc := 7) (tgt := 23) dX7_has_7 (by decide) (fun h7 => ?_) (fun h7 => ?_)
    · refine j_iconst (pc := 23) (v := 0) dX7_has_23 (by decide) ?_
      refine j_zret (pc := 24) dX7_has_24 rfl (by first | assumption | decide) ?_
      exact ⟨rfl, by rw [zth, decide_eq_false (fun q => q.2 h7)]; rfl⟩
    · refine j_aload_n (pc := 10) dX7_has_10 rfl ?_
      refine j_getP (pc := 11) dX7_has_11 f_X7_9 (Or.inr ⟨_, rfl⟩) (by assumption) ?_
      rw [p1]
      refine j_iload_n (pc := 14) dX7_has_14 rfl ?_
      have hz := zin (n := 64) h1 h7 (Nat.le_refl _) (by decide)
      have hin := hz.1
      refine j_zald (pc := 15) dX7_has_15 (by assumption) (by assumption) ?_
      refine j_if_eq (pc := 16) (tgt := 23) dX7_has_16 (by decide) (fun h16 => ?_) (fun h16 => ?_)
      · refine j_iconst (pc := 23) (v := 0) dX7_has_23 (by decide) ?_
        refine j_zret (pc := 24) dX7_has_24 rfl (by first | assumption | decide) ?_
        rw [t1 _ hz.2] at h16
        refine ⟨rfl, ?_⟩
        have e : zth th x = th x.toNatClampNeg := by unfold zth; rw [decide_eq_true (p := ¬ x < 0 ∧ ¬ 64 ≤ x) ⟨h1, h7⟩]; rfl
        rw [e]
        cases hq : th x.toNatClampNeg <;> simp [hq] at h16 <;> rfl
      · refine j_iconst (pc := 19) (v := 1) dX7_has_19 (by decide) ?_
        refine j_goto (pc := 20) (tgt := 24) dX7_has_20 (by decide) ?_
        refine j_zret (pc := 24) dX7_has_24 rfl (by first | assumption | decide) ?_
        rw [t1 _ hz.2] at h16
        refine ⟨rfl, ?_⟩
        have e : zth th x = th x.toNatClampNeg := by unfold zth; rw [decide_eq_true (p := ¬ x < 0 ∧ ¬ 64 ≤ x) ⟨h1, h7⟩]; rfl
        rw [e]
        cases hq : th x.toNatClampNeg <;> simp [hq] at h16 <;> rfl
set_option maxRecDepth 20000 in
set_option maxHeartbeats 4000000 in
theorem c_isCell {E : zE} {S : zM} {i j : Nat} (hi : i < 64) (hj : j < 4) : zSp E 0 0 0 mX7_isCell cX7_isCell [zI (nI i), zI (nI j)] S (fun r T => S = T ∧ r = some (zI 1)) := by
  refine zSp.of (by decide) rfl (Nat.le_of_ble_eq_true rfl) rfl ?_
  refine j_iload_n (pc := 0) dX7_isCell_0 rfl ?_
  refine j_if_lt (pc := 1) (tgt := 23) dX7_isCell_1 (by decide) (fun h1 => ?_) (fun h1 => ?_)
  · first
      | exact absurd h1 (nI_pos (by omega))
      | exact absurd h7 (nI_ge (b := 64) hi (by decide))
      | exact absurd h11 (nI_pos (by omega))
      | exact absurd h16 (nI_ge (b := 4) hj (by decide))
  · refine j_iload_n (pc := 4) dX7_isCell_4 rfl ?_
    refine j_bipush (pc := 5) (v := 64) dX7_isCell_5 (by decide) ?_
    refine j_icmp_ge (pc := 7) (tgt := 23) dX7_isCell_7 (by decide) (fun h7 => ?_) (fun h7 => ?_)
    · first
        | exact absurd h1 (nI_pos (by omega))
        | exact absurd h7 (nI_ge (b := 64) hi (by decide))
        | exact absurd h11 (nI_pos (by omega))
        | exact absurd h16 (nI_ge (b := 4) hj (by decide))
    · refine j_iload_n (pc := 10) dX7_isCell_10 rfl ?_
      refine j_if_lt (pc := 11) (tgt := 23) dX7_isCell_11 (by decide) (fun h11 => ?_) (fun h11 => ?_)
      · first
          | exact absurd h1 (nI_pos (by omega))
          | exact absurd h7 (nI_ge (b := 64) hi (by decide))
          | exact absurd h11 (nI_pos (by omega))
          | exact absurd h16 (nI_ge (b := 4) hj (by decide))
      · refine j_iload_n (pc := 14) dX7_isCell_14 rfl ?_
        refine j_iconst (pc := 15) (v := 4) dX7_isCell_15 (by decide) ?_
        refine j_icmp_ge (pc := 16) (tgt := 23) dX7_isCell_16 (by decide) (fun h16 => ?_) (fun h16 => ?_)
        · first
            | exact absurd h1 (nI_pos (by omega))
            | exact absurd h7 (nI_ge (b := 64) hi (by decide))
            | exact absurd h11 (nI_pos (by omega))
            | exact absurd h16 (nI_ge (b := 4) hj (by decide))
        · refine j_iconst (pc := 19) (v := 1) dX7_isCell_19 (by decide) ?_
          refine j_goto (pc := 20) (tgt := 24) dX7_isCell_20 (by decide) ?_
          refine j_zret (pc := 24) dX7_isCell_24 rfl (by first | assumption | decide) ?_
          exact ⟨rfl, rfl⟩
set_option maxRecDepth 20000 in
set_option maxHeartbeats 4000000 in
theorem c_read {E : zE} {S : zM} {a g : Nat} {th : Nat → Bool} {vl : Nat → Nat → Int64} {i j : Nat} (h : zRo S a th vl g) (hi : i < 64) (hj : j < 4) : zSp E 1 0 0 mX7_read cX7_read [zR a, zI (nI i), zI (nI j)] S (fun r T => S = T ∧ r = some (zL (vl i j))) := by
  refine zSp.of (by decide) rfl (Nat.le_of_ble_eq_true rfl) rfl ?_
  obtain ⟨k1, k2, k3, p1, p2, i1, i2, t1, v1, g1⟩ := id h
  refine j_iload_n (pc := 0) dX7_read_0 rfl ?_
  refine j_iload_n (pc := 1) dX7_read_1 rfl ?_
  refine j_callS (pc := 2) (c_isCell hi hj) dX7_read_2 l_X7_30 mk_X7_isCell ms_X7_isCell (by decide) rfl rfl (Nat.le_of_ble_eq_true rfl) (Nat.le_refl _) (Nat.le_refl _) (fun r T h_1 => ?_)
  obtain ⟨rfl, rfl⟩ := h_1
  refine j_if_eq (pc := 5) (tgt := 21) dX7_read_5 (by decide) (fun h5 => ?_) (fun h5 => ?_)
  · exact absurd h5 (by decide)
  · refine j_aload_n (pc := 8) dX7_read_8 rfl ?_
    refine j_getP (pc := 9) dX7_read_9 f_X7_15 (Or.inr ⟨_, rfl⟩) (by assumption) ?_
    refine j_iload_n (pc := 12) dX7_read_12 rfl ?_
    refine j_iconst (pc := 13) (v := 4) dX7_read_13 (by decide) ?_
    refine j_imul (pc := 14) dX7_read_14 ?_
    refine j_iload_n (pc := 15) dX7_read_15 rfl ?_
    refine j_iadd (pc := 16) dX7_read_16 ?_
    have e0 : nI i * 4 + nI j = nI (i * 4 + j) := by rw [show (4 : Int32) = nI 4 from rfl, pk_mul, nI_add]
    rw [e0, p2]
    have hin : vp_in (nI (i * 4 + j)) 256 := vp_in_nI (by omega) (by decide)
    have hcl : (nI (i * 4 + j)).toNatClampNeg = i * 4 + j := nI_clamp (by omega)
    refine j_lald (pc := 17) dX7_read_17 (by assumption) (by assumption) ?_
    refine j_goto (pc := 18) (tgt := 24) dX7_read_18 (by decide) ?_
    refine j_lret (pc := 24) dX7_read_24 rfl ?_
    exact ⟨rfl, by rw [hcl, v1 i j hi hj]⟩
def zu2 (vl : Nat → Nat → Int64) (i j : Nat) (v : Int64) : Nat → Nat → Int64 := fun k l => if k = i ∧ l = j then v else vl k l
theorem zRo.write {S : zM} {a g : Nat} {th : Nat → Bool} {vl : Nat → Nat → Int64} (h : zRo S a th vl g) {i j : Nat} (hi : i < 64) (hj : j < 4) (v : Int64) : zRo (zwL S (a + 2) (i * 4 + j) v) a th (zu2 vl i j v) g := by
  obtain ⟨k1, k2, k3, p1, p2, i1, i2, t1, v1, g1⟩ := h
  refine ⟨k1, k2, k3, p1, p2, i1, i2, t1, fun k l hk hl => ?_, g1⟩
  rw [zgL_wL]
  by_cases e : k = i ∧ l = j
  · rw [if_pos ⟨rfl, by rw [e.1, e.2]⟩, zu2, if_pos e]
  · rw [if_neg (fun q => e (by omega)), zu2, if_neg e]
    exact v1 k l hk hl
set_option maxRecDepth 20000 in
set_option maxHeartbeats 4000000 in
theorem c_write {E : zE} {S : zM} {a g : Nat} {th : Nat → Bool} {vl : Nat → Nat → Int64} {i j : Nat} (h : zRo S a th vl g) (hi : i < 64) (hj : j < 4) (v : Int64) : zSp E 1 0 0 mX7_write cX7_write [zR a, zI (nI i), zI (nI j), zL v] S (fun r T => r = none ∧ T = zwL S (a + 2) (i * 4 + j) v) := by
  refine zSp.of (by decide) rfl (Nat.le_of_ble_eq_true rfl) rfl ?_
  obtain ⟨k1, k2, k3, p1, p2, i1, i2, t1, v1, g1⟩ := id h
  refine j_iload_n (pc := 0) dX7_write_0 rfl ?_
  refine j_iload_n (pc := 1) dX7_write_1 rfl ?_
  refine j_callS (pc := 2) (c_isCell hi hj) dX7_write_2 l_X7_30 mk_X7_isCell ms_X7_isCell (by decide) rfl rfl (Nat.le_of_ble_eq_true rfl) (Nat.le_refl _) (Nat.le_refl _) (fun r T h_1 => ?_)
  obtain ⟨rfl, rfl⟩ := h_1
  refine j_if_eq (pc := 5) (tgt := 19) dX7_write_5 (by decide) (fun h5 => ?_) (fun h5 => ?_)
  · refine j_vret (pc := 19) dX7_write_19 rfl ?_
    first | exact absurd h5 (by decide) | exact ⟨rfl, by rw [hcl]⟩
  · refine j_aload_n (pc := 8) dX7_write_8 rfl ?_
    refine j_getP (pc := 9) dX7_write_9 f_X7_15 (Or.inr ⟨_, rfl⟩) (by assumption) ?_
    refine j_iload_n (pc := 12) dX7_write_12 rfl ?_
    refine j_iconst (pc := 13) (v := 4) dX7_write_13 (by decide) ?_
    refine j_imul (pc := 14) dX7_write_14 ?_
    refine j_iload_n (pc := 15) dX7_write_15 rfl ?_
    refine j_iadd (pc := 16) dX7_write_16 ?_
    have e0 : nI i * 4 + nI j = nI (i * 4 + j) := by rw [show (4 : Int32) = nI 4 from rfl, pk_mul, nI_add]
    rw [e0, p2]
    have hin : vp_in (nI (i * 4 + j)) 256 := vp_in_nI (by omega) (by decide)
    have hcl : (nI (i * 4 + j)).toNatClampNeg = i * 4 + j := nI_clamp (by omega)
    refine j_lload_n (pc := 17) dX7_write_17 rfl ?_
    refine j_last (pc := 18) dX7_write_18 (by assumption) (by assumption) ?_
    refine j_vret (pc := 19) dX7_write_19 rfl ?_
    first | exact absurd h5 (by decide) | exact ⟨rfl, by rw [hcl]⟩
theorem zRo.set {S T : zM} {a g : Nat} {th : Nat → Bool} {vl : Nat → Nat → Int64} (h : zRo S a th vl g) {i : Nat} (hi : i < 64) (b : Bool) (hT : zkd T = zkd S ∧ zgP T = zgP S ∧ zgL T = zgL S) (h1 : zgI T a 2 = zgI S a 2) (h2 : zgI T a 3 = nI (fb_ct (va_up th i b) 64)) (h3 : ∀ k, k < 64 → zgI T (a + 1) k = if k = i then zbi b else zgI S (a + 1) k) : zRo T a (va_up th i b) vl g := by
  obtain ⟨k1, k2, k3, p1, p2, i1, i2, t1, v1, g1⟩ := h
  refine ⟨by rw [hT.1]; exact k1, by rw [hT.1]; exact k2, by rw [hT.1]; exact k3, by rw [hT.2.1]; exact p1, by rw [hT.2.1]; exact p2, h1.trans i1, h2, fun k hk => ?_, by rw [hT.2.2]; exact v1, g1⟩
  rw [h3 k hk, va_up]
  by_cases e : k = i
  · rw [if_pos e, if_pos e]
  · rw [if_neg e, if_neg e, t1 k hk]
theorem zct_same {th : Nat → Bool} {i : Nat} {b : Bool} (h : th i = b) : va_up th i b = th := by
  funext k
  unfold va_up
  by_cases e : k = i
  · rw [if_pos e, e, h]
  · rw [if_neg e]
theorem zct_up (th : Nat → Bool) {i : Nat} (hi : i < 64) (b : Bool) : fb_ct (va_up th i b) 64 + (if th i then 1 else 0) = fb_ct th 64 + (if b then 1 else 0) := fb_ct_upd th b hi
set_option maxRecDepth 20000 in
set_option maxHeartbeats 4000000 in
theorem c_set {E : zE} {S : zM} {a g : Nat} {th : Nat → Bool} {vl : Nat → Nat → Int64} {i : Nat} (h : zRo S a th vl g) (hi : i < 64) (b : Bool) : zSp E 0 0 0 mX7_set cX7_set [zR a, zI (nI i), zI (zbi b)] S (fun r T => r = none ∧ zRo T a (va_up th i b) vl g ∧ zF (fun c => c = a ∨ c = a + 1) S T) := by
  refine zSp.of (by decide) rfl (Nat.le_of_ble_eq_true rfl) rfl ?_
  obtain ⟨k1, k2, k3, p1, p2, i1, i2, t1, v1, g1⟩ := id h
  have hin : vp_in (nI i) 64 := vp_in_nI hi (by decide)
  have hcl : (nI i).toNatClampNeg = i := nI_clamp (by omega)
  have hb := zbi_01 b
  have hle := fb_ct_le th 64
  refine j_iload_n (pc := 0) dX7_set_0 rfl ?_
  refine j_if_lt (pc := 1) (tgt := 45) dX7_set_1 (by decide) (fun h1 => ?_) (fun h1 => ?_)
  · refine j_vret (pc := 45) dX7_set_45 rfl ?_
    first
      | exact absurd h1 (nI_pos (by omega))
      | exact absurd h7 (nI_ge (b := 64) hi (by decide))
      | (rw [hcl, t1 i hi] at h17
         have e : th i = b := by cases b <;> cases hq : th i <;> simp [hq] at h17 <;> rfl
         exact ⟨rfl, by rw [zct_same e]; exact h, zF.rf⟩)
      | (rw [hcl, t1 i hi] at h17
         have e : th i = !b := by cases b <;> cases hq : th i <;> simp [hq] at h17 <;> rfl
         have hc := zct_up th hi b
         rw [hcl]
         refine ⟨rfl, h.set hi b ⟨rfl, rfl, rfl⟩ ?_ ?_ (fun k hk => ?_), (zF.wI (Or.inr rfl)).tr (zF.wI (Or.inl rfl))⟩
         · rw [zgI_nk (by decide), zgI_ne (by omega)]
         · rw [zgI_self]
           cases b with
           | true =>
             rw [e] at hc
             first | exact absurd h33 (by decide) | (rw [nI_1]; congr 1; simp at hc; omega)
           | false =>
             rw [e] at hc
             first | exact absurd rfl h33 | (rw [show fb_ct th 64 = fb_ct (va_up th i false) 64 + 1 by simp at hc; omega]; exact pk_m1 _)
         · rw [zgI_ne (by omega), zgI_wI]
           by_cases ek : k = i
           · rw [if_pos ⟨rfl, ek⟩, if_pos ek]
           · rw [if_neg (fun q => ek q.2), if_neg ek])
  · refine j_iload_n (pc := 4) dX7_set_4 rfl ?_
    refine j_bipush (pc := 5) (v := 64) dX7_set_5 (by decide) ?_
    refine j_icmp_ge (pc := 7) (tgt := 45) dX7_set_7 (by decide) (fun h7 => ?_) (fun h7 => ?_)
    · refine j_vret (pc := 45) dX7_set_45 rfl ?_
      first
        | exact absurd h1 (nI_pos (by omega))
        | exact absurd h7 (nI_ge (b := 64) hi (by decide))
        | (rw [hcl, t1 i hi] at h17
           have e : th i = b := by cases b <;> cases hq : th i <;> simp [hq] at h17 <;> rfl
           exact ⟨rfl, by rw [zct_same e]; exact h, zF.rf⟩)
        | (rw [hcl, t1 i hi] at h17
           have e : th i = !b := by cases b <;> cases hq : th i <;> simp [hq] at h17 <;> rfl
           have hc := zct_up th hi b
           rw [hcl]
           refine ⟨rfl, h.set hi b ⟨rfl, rfl, rfl⟩ ?_ ?_ (fun k hk => ?_), (zF.wI (Or.inr rfl)).tr (zF.wI (Or.inl rfl))⟩
           · rw [zgI_nk (by decide), zgI_ne (by omega)]
           · rw [zgI_self]
             cases b with
             | true =>
               rw [e] at hc
               first | exact absurd h33 (by decide) | (rw [nI_1]; congr 1; simp at hc; omega)
             | false =>
               rw [e] at hc
               first | exact absurd rfl h33 | (rw [show fb_ct th 64 = fb_ct (va_up th i false) 64 + 1 by simp at hc; omega]; exact pk_m1 _)
           · rw [zgI_ne (by omega), zgI_wI]
             by_cases ek : k = i
             · rw [if_pos ⟨rfl, ek⟩, if_pos ek]
             · rw [if_neg (fun q => ek q.2), if_neg ek])
    · refine j_aload_n (pc := 10) dX7_set_10 rfl ?_
      refine j_getP (pc := 11) dX7_set_11 f_X7_9 (Or.inr ⟨_, rfl⟩) (by assumption) ?_
      rw [p1]
      refine j_iload_n (pc := 14) dX7_set_14 rfl ?_
      refine j_zald (pc := 15) dX7_set_15 (by assumption) (by assumption) ?_
      refine j_iload_n (pc := 16) dX7_set_16 rfl ?_
      refine j_icmp_eq (pc := 17) (tgt := 45) dX7_set_17 (by decide) (fun h17 => ?_) (fun h17 => ?_)
      · refine j_vret (pc := 45) dX7_set_45 rfl ?_
        first
          | exact absurd h1 (nI_pos (by omega))
          | exact absurd h7 (nI_ge (b := 64) hi (by decide))
          | (rw [hcl, t1 i hi] at h17
             have e : th i = b := by cases b <;> cases hq : th i <;> simp [hq] at h17 <;> rfl
             exact ⟨rfl, by rw [zct_same e]; exact h, zF.rf⟩)
          | (rw [hcl, t1 i hi] at h17
             have e : th i = !b := by cases b <;> cases hq : th i <;> simp [hq] at h17 <;> rfl
             have hc := zct_up th hi b
             rw [hcl]
             refine ⟨rfl, h.set hi b ⟨rfl, rfl, rfl⟩ ?_ ?_ (fun k hk => ?_), (zF.wI (Or.inr rfl)).tr (zF.wI (Or.inl rfl))⟩
             · rw [zgI_nk (by decide), zgI_ne (by omega)]
             · rw [zgI_self]
               cases b with
               | true =>
                 rw [e] at hc
                 first | exact absurd h33 (by decide) | (rw [nI_1]; congr 1; simp at hc; omega)
               | false =>
                 rw [e] at hc
                 first | exact absurd rfl h33 | (rw [show fb_ct th 64 = fb_ct (va_up th i false) 64 + 1 by simp at hc; omega]; exact pk_m1 _)
             · rw [zgI_ne (by omega), zgI_wI]
               by_cases ek : k = i
               · rw [if_pos ⟨rfl, ek⟩, if_pos ek]
               · rw [if_neg (fun q => ek q.2), if_neg ek])
      · refine j_aload_n (pc := 20) dX7_set_20 rfl ?_
        refine j_getP (pc := 21) dX7_set_21 f_X7_9 (Or.inr ⟨_, rfl⟩) (by assumption) ?_
        rw [p1]
        refine j_iload_n (pc := 24) dX7_set_24 rfl ?_
        refine j_iload_n (pc := 25) dX7_set_25 rfl ?_
        refine j_zast (pc := 26) dX7_set_26 (by assumption) (by assumption) (by first | assumption | decide) ?_
        refine j_aload_n (pc := 27) dX7_set_27 rfl ?_
        refine j_dup (pc := 28) dX7_set_28 rfl ?_
        refine j_getI (pc := 29) dX7_set_29 f_X7_23 (Or.inl rfl) (by assumption) ?_
        rw [show zgI (zwI S (a + 1) (nI i).toNatClampNeg (zbi b)) a 3 = nI (fb_ct th 64) from (zgI_ne (by omega)).trans i2]
        refine j_iload_n (pc := 32) dX7_set_32 rfl ?_
        refine j_if_eq (pc := 33) (tgt := 40) dX7_set_33 (by decide) (fun h33 => ?_) (fun h33 => ?_)
        · refine j_iconst (pc := 40) (v := (-1)) dX7_set_40 (by decide) ?_
          refine j_iadd (pc := 41) dX7_set_41 ?_
          refine j_putI (pc := 42) dX7_set_42 f_X7_23 rfl (by assumption) rfl ?_
          refine j_vret (pc := 45) dX7_set_45 rfl ?_
          first
            | exact absurd h1 (nI_pos (by omega))
            | exact absurd h7 (nI_ge (b := 64) hi (by decide))
            | (rw [hcl, t1 i hi] at h17
               have e : th i = b := by cases b <;> cases hq : th i <;> simp [hq] at h17 <;> rfl
               exact ⟨rfl, by rw [zct_same e]; exact h, zF.rf⟩)
            | (rw [hcl, t1 i hi] at h17
               have e : th i = !b := by cases b <;> cases hq : th i <;> simp [hq] at h17 <;> rfl
               have hc := zct_up th hi b
               rw [hcl]
               refine ⟨rfl, h.set hi b ⟨rfl, rfl, rfl⟩ ?_ ?_ (fun k hk => ?_), (zF.wI (Or.inr rfl)).tr (zF.wI (Or.inl rfl))⟩
               · rw [zgI_nk (by decide), zgI_ne (by omega)]
               · rw [zgI_self]
                 cases b with
                 | true =>
                   rw [e] at hc
                   first | exact absurd h33 (by decide) | (rw [nI_1]; congr 1; simp at hc; omega)
                 | false =>
                   rw [e] at hc
                   first | exact absurd rfl h33 | (rw [show fb_ct th 64 = fb_ct (va_up th i false) 64 + 1 by simp at hc; omega]; exact pk_m1 _)
               · rw [zgI_ne (by omega), zgI_wI]
                 by_cases ek : k = i
                 · rw [if_pos ⟨rfl, ek⟩, if_pos ek]
                 · rw [if_neg (fun q => ek q.2), if_neg ek])
        · refine j_iconst (pc := 36) (v := 1) dX7_set_36 (by decide) ?_
          refine j_goto (pc := 37) (tgt := 41) dX7_set_37 (by decide) ?_
          refine j_iadd (pc := 41) dX7_set_41 ?_
          refine j_putI (pc := 42) dX7_set_42 f_X7_23 rfl (by assumption) rfl ?_
          refine j_vret (pc := 45) dX7_set_45 rfl ?_
          first
            | exact absurd h1 (nI_pos (by omega))
            | exact absurd h7 (nI_ge (b := 64) hi (by decide))
            | (rw [hcl, t1 i hi] at h17
               have e : th i = b := by cases b <;> cases hq : th i <;> simp [hq] at h17 <;> rfl
               exact ⟨rfl, by rw [zct_same e]; exact h, zF.rf⟩)
            | (rw [hcl, t1 i hi] at h17
               have e : th i = !b := by cases b <;> cases hq : th i <;> simp [hq] at h17 <;> rfl
               have hc := zct_up th hi b
               rw [hcl]
               refine ⟨rfl, h.set hi b ⟨rfl, rfl, rfl⟩ ?_ ?_ (fun k hk => ?_), (zF.wI (Or.inr rfl)).tr (zF.wI (Or.inl rfl))⟩
               · rw [zgI_nk (by decide), zgI_ne (by omega)]
               · rw [zgI_self]
                 cases b with
                 | true =>
                   rw [e] at hc
                   first | exact absurd h33 (by decide) | (rw [nI_1]; congr 1; simp at hc; omega)
                 | false =>
                   rw [e] at hc
                   first | exact absurd rfl h33 | (rw [show fb_ct th 64 = fb_ct (va_up th i false) 64 + 1 by simp at hc; omega]; exact pk_m1 _)
               · rw [zgI_ne (by omega), zgI_wI]
                 by_cases ek : k = i
                 · rw [if_pos ⟨rfl, ek⟩, if_pos ek]
                 · rw [if_neg (fun q => ek q.2), if_neg ek])
