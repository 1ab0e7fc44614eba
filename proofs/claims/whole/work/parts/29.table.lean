/-! TABLE: its columns' kinds and names -/
def zTk (S : zM) (a : Nat) (K : List Bool) : Prop := (zkd S a = (10, 0) ∧ zkd S (a + 2) = (14, 4) ∧ zgP S a 1 = a + 2) ∧ zgI S a 7 = nI K.length ∧ K.length ≤ 4 ∧ ∀ i b, K[i]? = some b → zgI S (a + 2) i = zbi b
def zTn (S : zM) (a : Nat) (N : List Int64) : Prop := (zkd S (a + 1) = (15, 4) ∧ zgP S a 0 = a + 1) ∧ ∀ i x, N[i]? = some x → zgL S (a + 1) i = x
theorem zTk.keep {X : Nat → Prop} {S T : zM} {a : Nat} {K : List Bool} (h : zTk S a K) (f : zF X S T) (h0 : ¬ X a) (h2 : ¬ X (a + 2)) : zTk T a K := by
  obtain ⟨⟨k1, k2, p1⟩, i1, i2, e1⟩ := h
  exact ⟨⟨by rw [f.1]; exact k1, by rw [f.1]; exact k2, by rw [f.2.2.1]; exact p1⟩, by rw [f.2.2.2.1 a h0]; exact i1, i2, fun i b hb => by rw [f.2.2.2.1 _ h2]; exact e1 i b hb⟩
theorem zTn.keep {X : Nat → Prop} {S T : zM} {a : Nat} {N : List Int64} (h : zTn S a N) (f : zF X S T) (h1 : ¬ X (a + 1)) : zTn T a N := by
  obtain ⟨⟨k1, p1⟩, e1⟩ := h
  exact ⟨⟨by rw [f.1]; exact k1, by rw [f.2.2.1]; exact p1⟩, fun i x hx => by rw [f.2.2.2.2 _ h1]; exact e1 i x hx⟩
def zch (tx : Bool) (v : Int64) : Bool := if v = zMiss then true else if tx then zow v else decide (-9999 ≤ v ∧ v ≤ 9999)
set_option maxRecDepth 20000 in
set_option maxHeartbeats 4000000 in
theorem c_canHold {E : zE} {S : zM} {a c : Nat} {K : List Bool} {b : Bool} (h : zTk S a K) (hb : K[c]? = some b) (v : Int64) : zSp E 1 0 0 mX9_canHold cX9_canHold [zR a, zI (nI c), zL v] S (fun r T => S = T ∧ r = some (zI (zbi (zch b v)))) := by
  refine zSp.of (by decide) rfl (Nat.le_of_ble_eq_true rfl) rfl ?_
  obtain ⟨⟨k1, k2, p1⟩, i1, i2, e1⟩ := id h
  have hc : c < K.length := (List.getElem?_eq_some_iff.mp hb).1
  have hin : vp_in (nI c) 4 := vp_in_nI (by omega) (by decide)
  have hcl : (nI c).toNatClampNeg = c := nI_clamp (by omega)
  refine j_iload_n (pc := 0) dX9_canHold_0 rfl ?_
  refine j_if_lt (pc := 1) (tgt := 12) dX9_canHold_1 (by decide) (fun h1 => ?_) (fun h1 => ?_)
  · exact absurd h1 (nI_pos (by omega))
  · refine j_iload_n (pc := 4) dX9_canHold_4 rfl ?_
    refine j_aload_n (pc := 5) dX9_canHold_5 rfl ?_
    refine j_getI (pc := 6) dX9_canHold_6 f_X9_50 (Or.inl rfl) (by assumption) ?_
    rw [i1]
    refine j_icmp_lt (pc := 9) (tgt := 14) dX9_canHold_9 (by decide) (fun h9 => ?_) (fun h9 => ?_)
    · refine j_lload_n (pc := 14) dX9_canHold_14 rfl ?_
      refine j_ldcL (pc := 15) dX9_canHold_15 k_X9_57 ?_
      refine j_lcmp (pc := 18) dX9_canHold_18 ?_
      refine j_if_ne (pc := 19) (tgt := 24) dX9_canHold_19 (by decide) (fun h19 => ?_) (fun h19 => ?_)
      · have hv : ¬ v = zMiss := fun q => h19 ((lg_cmp_eq _ _).mpr q)
        refine j_aload_n (pc := 24) dX9_canHold_24 rfl ?_
        refine j_getP (pc := 25) dX9_canHold_25 f_X9_15 (Or.inr ⟨_, rfl⟩) (by assumption) ?_
        rw [p1]
        refine j_iload_n (pc := 28) dX9_canHold_28 rfl ?_
        refine j_iald (pc := 29) dX9_canHold_29 (by assumption) (by assumption) ?_
        rw [hcl, e1 c b hb]
        refine j_iconst (pc := 30) (v := 1) dX9_canHold_30 (by decide) ?_
        refine j_icmp_ne (pc := 31) (tgt := 41) dX9_canHold_31 (by decide) (fun h31 => ?_) (fun h31 => ?_)
        · refine j_lload_n (pc := 41) dX9_canHold_41 rfl ?_
          refine j_ldcL (pc := 42) dX9_canHold_42 k_X9_63 ?_
          refine j_lcmp (pc := 45) dX9_canHold_45 ?_
          refine j_if_lt (pc := 46) (tgt := 61) dX9_canHold_46 (by decide) (fun h46 => ?_) (fun h46 => ?_)
          · refine j_iconst (pc := 61) (v := 0) dX9_canHold_61 (by decide) ?_
            refine j_zret (pc := 62) dX9_canHold_62 rfl (by first | assumption | decide | exact zbi_n _) ?_
            have hb1 : b = false := by cases b; rfl; exact absurd rfl h31
            exact ⟨rfl, by rw [zch, if_neg hv, hb1, if_neg (by decide), decide_eq_false (fun q => Int64.not_le.mpr ((lg_cmp_lt _ _).mp h46) q.1)]; rfl⟩
          · refine j_lload_n (pc := 49) dX9_canHold_49 rfl ?_
            refine j_ldcL (pc := 50) dX9_canHold_50 k_X9_65 ?_
            refine j_lcmp (pc := 53) dX9_canHold_53 ?_
            refine j_if_gt (pc := 54) (tgt := 61) dX9_canHold_54 (by decide) (fun h54 => ?_) (fun h54 => ?_)
            · refine j_iconst (pc := 61) (v := 0) dX9_canHold_61 (by decide) ?_
              refine j_zret (pc := 62) dX9_canHold_62 rfl (by first | assumption | decide | exact zbi_n _) ?_
              have hb1 : b = false := by cases b; rfl; exact absurd rfl h31
              exact ⟨rfl, by rw [zch, if_neg hv, hb1, if_neg (by decide), decide_eq_false (fun q => Int64.not_le.mpr ((lg_cmp_gt _ _).mp h54) q.2)]; rfl⟩
            · refine j_iconst (pc := 57) (v := 1) dX9_canHold_57 (by decide) ?_
              refine j_goto (pc := 58) (tgt := 62) dX9_canHold_58 (by decide) ?_
              refine j_zret (pc := 62) dX9_canHold_62 rfl (by first | assumption | decide | exact zbi_n _) ?_
              have hb1 : b = false := by cases b; rfl; exact absurd rfl h31
              exact ⟨rfl, by rw [zch, if_neg hv, hb1, if_neg (by decide), decide_eq_true (p := -9999 ≤ v ∧ v ≤ 9999) ⟨Int64.not_lt.mp (fun q => h46 ((lg_cmp_lt _ _).mpr q)), Int64.not_lt.mp (fun q => h54 ((lg_cmp_gt _ _).mpr q))⟩]; rfl⟩
        · refine j_lload_n (pc := 34) dX9_canHold_34 rfl ?_
          refine j_callSN (pc := 35) (c_isWV _) dX9_canHold_35 l_X9_59 mk_X11_isWordValue ms_X11_isWordValue (by decide) rfl rfl (Nat.le_of_ble_eq_true rfl) (Nat.le_refl _) (Nat.le_refl _) (fun r T h_1 => ?_)
          obtain ⟨rfl, rfl⟩ := h_1
          refine j_goto (pc := 38) (tgt := 62) dX9_canHold_38 (by decide) ?_
          refine j_zret (pc := 62) dX9_canHold_62 rfl (by first | assumption | decide | exact zbi_n _) ?_
          have hb1 : b = true := by cases b; exact absurd h31 (by decide); rfl
          exact ⟨rfl, by rw [zch, if_neg hv, if_pos hb1]⟩
      · refine j_iconst (pc := 22) (v := 1) dX9_canHold_22 (by decide) ?_
        refine j_zret (pc := 23) dX9_canHold_23 rfl (by first | assumption | decide) ?_
        exact ⟨rfl, by rw [zch, if_pos ((lg_cmp_eq _ _).mp h19)]; rfl⟩
    · exact absurd (nI_lt hc (by omega)) h9
def zlk (n : Nat) (vl : Nat → Int64) : Bool := (List.range n).any (fun c => decide (vl c = zMiss))
theorem zlk_succ (n : Nat) (vl : Nat → Int64) : zlk (n + 1) vl = (zlk n vl || decide (vl n = zMiss)) := by
  unfold zlk
  rw [List.range_succ, List.any_append]
  simp
theorem zlk_hit {n i : Nat} {vl : Nat → Int64} (h : i < n) (hm : vl i = zMiss) : zlk n vl = true := List.any_eq_true.mpr ⟨i, List.mem_range.mpr h, decide_eq_true hm⟩
set_option maxRecDepth 20000 in
set_option maxHeartbeats 4000000 in
theorem c_lacks {E : zE} {S : zM} {a d id gv : Nat} {K : List Bool} {th : Nat → Bool} {vl : Nat → Nat → Int64} (h : zTk S a K) (hp : zgP S a 4 = d) (hR : zRo S d th vl gv) (hid : id < 64) : zSp E 2 0 0 mX9_lacksValue cX9_lacksValue [zR a, zI (nI id)] S (fun r T => S = T ∧ r = some (zI (zbi (zlk K.length (vl id))))) := by
  refine zSp.of (by decide) rfl (Nat.le_of_ble_eq_true rfl) rfl ?_
  have k1 := h.1.1
  have kd := hR.1
  have h4 := h.2.2.1
  have lp : ∀ (n i : Nat), i + n = K.length → zlk i (vl id) = false → zJ E 2 0 0 mX9_lacksValue cX9_lacksValue 2 [some (zR a), some (zI (nI id)), some (zI (nI i))] [] S (fun r T => S = T ∧ r = some (zI (zbi (zlk K.length (vl id))))) := by
    intro n
    induction n with
    | zero =>
      intro i hi hq
      have ei : i = K.length := by omega
      subst ei
      refine j_iload_n (pc := 2) dX9_lacksValue_2 rfl ?_
      refine j_aload_n (pc := 3) dX9_lacksValue_3 rfl ?_
      refine j_getI (pc := 4) dX9_lacksValue_4 f_X9_50 (Or.inl rfl) (by assumption) ?_
      rw [h.2.1]
      refine j_icmp_ge (pc := 7) (tgt := 34) dX9_lacksValue_7 (by decide) (fun h7 => ?_) (fun h7 => ?_)
      · refine j_iconst (pc := 34) (v := 0) dX9_lacksValue_34 (by decide) ?_
        refine j_zret (pc := 35) dX9_lacksValue_35 rfl (by first | assumption | decide) ?_
        exact ⟨rfl, by rw [hq]; rfl⟩
      · exact absurd (nI_le (Nat.le_refl _) (by omega)) h7
    | succ n ih =>
      intro i hi hq
      refine j_iload_n (pc := 2) dX9_lacksValue_2 rfl ?_
      refine j_aload_n (pc := 3) dX9_lacksValue_3 rfl ?_
      refine j_getI (pc := 4) dX9_lacksValue_4 f_X9_50 (Or.inl rfl) (by assumption) ?_
      rw [h.2.1]
      refine j_icmp_ge (pc := 7) (tgt := 34) dX9_lacksValue_7 (by decide) (fun h7 => ?_) (fun h7 => ?_)
      · exact absurd h7 (nI_ge (by omega) (by omega))
      · refine j_aload_n (pc := 10) dX9_lacksValue_10 rfl ?_
        refine j_getP (pc := 11) dX9_lacksValue_11 f_X9_36 (Or.inl ⟨_, rfl⟩) (by assumption) ?_
        rw [hp]
        refine j_iload_n (pc := 14) dX9_lacksValue_14 rfl ?_
        refine j_iload_n (pc := 15) dX9_lacksValue_15 rfl ?_
        refine j_callV (pc := 16) (t := 7) (c_read hR hid (by omega)) dX9_lacksValue_16 l_X9_67 mk_X7_read mv_X7_read (by decide) rfl (by assumption) (by decide) rfl rfl (Nat.le_of_ble_eq_true rfl) (Nat.le_refl _) (Nat.le_refl _) (fun r T h_1 => ?_)
        obtain ⟨rfl, rfl⟩ := h_1
        refine j_ldcL (pc := 19) dX9_lacksValue_19 k_X9_57 ?_
        refine j_lcmp (pc := 22) dX9_lacksValue_22 ?_
        refine j_if_ne (pc := 23) (tgt := 28) dX9_lacksValue_23 (by decide) (fun h23 => ?_) (fun h23 => ?_)
        · refine j_iinc (pc := 28) (v := _ + 1) (ls' := [_, _, _]) dX9_lacksValue_28 rfl rfl (by decide) rfl rfl ?_
          refine j_goto (pc := 31) (tgt := 2) dX9_lacksValue_31 (by decide) ?_
          rw [nI_1]
          refine ih (i + 1) (by omega) ?_
          rw [zlk_succ, hq, decide_eq_false (fun q => h23 ((lg_cmp_eq _ _).mpr q))]
          rfl
        · refine j_iconst (pc := 26) (v := 1) dX9_lacksValue_26 (by decide) ?_
          refine j_zret (pc := 27) dX9_lacksValue_27 rfl (by first | assumption | decide) ?_
          exact ⟨rfl, by rw [zlk_hit (by omega) ((lg_cmp_eq _ _).mp h23)]; rfl⟩
  refine j_iconst (pc := 0) (v := 0) dX9_lacksValue_0 (by decide) ?_
  refine j_istore_n (pc := 1) (ls' := [_, _, _]) dX9_lacksValue_1 (by decide) rfl rfl ?_
  exact lp K.length 0 (by omega) rfl
def zco (N : List Int64) (x : Int64) : Int32 := match N.findIdx? (fun y => decide (y = x)) with
  | some i => nI i
  | none => -1
set_option maxRecDepth 20000 in
set_option maxHeartbeats 4000000 in
theorem c_columnOf {E : zE} {S : zM} {a : Nat} {K : List Bool} {N : List Int64} (h : zTk S a K) (hn : zTn S a N) (hN : K.length = N.length) (x : Int64) : zSp E 0 0 0 mX9_columnOf cX9_columnOf [zR a, zL x] S (fun r T => S = T ∧ r = some (zI (zco N x))) := by
  refine zSp.of (by decide) rfl (Nat.le_of_ble_eq_true rfl) rfl ?_
  have k1 := h.1.1
  have k2 := hn.1.1
  have h4 := h.2.2.1
  have lp : ∀ (n i : Nat), i + n = N.length → (∀ j y, j < i → N[j]? = some y → ¬ y = x) → zJ E 0 0 0 mX9_columnOf cX9_columnOf 2 [some (zR a), some (zL x), none, some (zI (nI i))] [] S (fun r T => S = T ∧ r = some (zI (zco N x))) := by
    intro n
    induction n with
    | zero =>
      intro i hi hq
      have ei : i = N.length := by omega
      subst ei
      refine j_iload_n (pc := 2) dX9_columnOf_2 rfl ?_
      refine j_aload_n (pc := 3) dX9_columnOf_3 rfl ?_
      refine j_getI (pc := 4) dX9_columnOf_4 f_X9_50 (Or.inl rfl) (by assumption) ?_
      rw [h.2.1, hN]
      refine j_icmp_ge (pc := 7) (tgt := 29) dX9_columnOf_7 (by decide) (fun h7 => ?_) (fun h7 => ?_)
      · refine j_iconst (pc := 29) (v := (-1)) dX9_columnOf_29 (by decide) ?_
        refine j_iret (pc := 30) dX9_columnOf_30 rfl ?_
        have e : N.findIdx? (fun y => decide (y = x)) = none := List.findIdx?_eq_none_iff.mpr (fun y hy => by
          obtain ⟨j, hj⟩ := List.getElem?_of_mem hy
          exact decide_eq_false (hq j y (List.getElem?_eq_some_iff.mp hj).1 hj))
        exact ⟨rfl, by rw [zco, e]⟩
      · exact absurd (nI_le (Nat.le_refl _) (by omega)) h7
    | succ n ih =>
      intro i hi hq
      have hlt : i < N.length := by omega
      have hin : vp_in (nI i) 4 := vp_in_nI (by omega) (by decide)
      have hcl : (nI i).toNatClampNeg = i := nI_clamp (by omega)
      obtain ⟨y, hy⟩ : ∃ y, N[i]? = some y := ⟨N[i], List.getElem?_eq_getElem hlt⟩
      refine j_iload_n (pc := 2) dX9_columnOf_2 rfl ?_
      refine j_aload_n (pc := 3) dX9_columnOf_3 rfl ?_
      refine j_getI (pc := 4) dX9_columnOf_4 f_X9_50 (Or.inl rfl) (by assumption) ?_
      rw [h.2.1, hN]
      refine j_icmp_ge (pc := 7) (tgt := 29) dX9_columnOf_7 (by decide) (fun h7 => ?_) (fun h7 => ?_)
      · exact absurd h7 (nI_ge (by omega) (by omega))
      · refine j_aload_n (pc := 10) dX9_columnOf_10 rfl ?_
        refine j_getP (pc := 11) dX9_columnOf_11 f_X9_9 (Or.inr ⟨_, rfl⟩) (by assumption) ?_
        rw [hn.1.2]
        refine j_iload_n (pc := 14) dX9_columnOf_14 rfl ?_
        refine j_lald (pc := 15) dX9_columnOf_15 (by assumption) (by assumption) ?_
        rw [hcl, hn.2 i y hy]
        refine j_lload_n (pc := 16) dX9_columnOf_16 rfl ?_
        refine j_lcmp (pc := 17) dX9_columnOf_17 ?_
        refine j_if_ne (pc := 18) (tgt := 23) dX9_columnOf_18 (by decide) (fun h18 => ?_) (fun h18 => ?_)
        · refine j_iinc (pc := 23) (v := _ + 1) (ls' := [_, _, _, _]) dX9_columnOf_23 rfl rfl (by decide) rfl rfl ?_
          refine j_goto (pc := 26) (tgt := 2) dX9_columnOf_26 (by decide) ?_
          rw [nI_1]
          refine ih (i + 1) (by omega) (fun j z hj hz => ?_)
          by_cases e : j = i
          · subst e
            rw [hy] at hz
            cases hz
            exact fun q => h18 ((lg_cmp_eq _ _).mpr q)
          · exact hq j z (by omega) hz
        · refine j_iload_n (pc := 21) dX9_columnOf_21 rfl ?_
          refine j_iret (pc := 22) dX9_columnOf_22 rfl ?_
          have e : N.findIdx? (fun y => decide (y = x)) = some i := List.findIdx?_eq_some_iff_getElem.mpr ⟨hlt, by
            have := (List.getElem?_eq_some_iff.mp hy).2
            rw [this]
            exact decide_eq_true ((lg_cmp_eq _ _).mp h18), fun j hj => by
            have := hq j N[j] hj (List.getElem?_eq_getElem (by omega))
            simp [this]⟩
          exact ⟨rfl, by rw [zco, e]⟩
  refine j_iconst (pc := 0) (v := 0) dX9_columnOf_0 (by decide) ?_
  refine j_istore_n (pc := 1) (ls' := [_, _, _, _]) dX9_columnOf_1 (by decide) rfl rfl ?_
  exact lp N.length 0 (by omega) (fun j y hj => absurd hj (Nat.not_lt_zero j))
set_option maxRecDepth 20000 in
set_option maxHeartbeats 4000000 in
theorem c_addColumn {E : zE} {S : zM} {a : Nat} {K : List Bool} {N : List Int64} {b : Bool} (h : zTk S a K) (hn : zTn S a N) (hN : K.length = N.length) (hl : K.length < 4) (x : Int64) : zSp E 0 0 0 mX9_addColumn cX9_addColumn [zR a, zL x, zI (zbi b)] S (fun r T => r = none ∧ zTk T a (K ++ [b]) ∧ zTn T a (N ++ [x]) ∧ zF (zX3 a) S T ∧ ∀ k, k ≠ 7 → zgI T a k = zgI S a k) := by
  refine zSp.of (by decide) rfl (Nat.le_of_ble_eq_true rfl) rfl ?_
  obtain ⟨⟨k1, k2, p1⟩, i1, i2, e1⟩ := id h
  obtain ⟨⟨k3, p3⟩, e3⟩ := id hn
  have hin : vp_in (nI K.length) 4 := vp_in_nI hl (by decide)
  have hcl : (nI K.length).toNatClampNeg = K.length := nI_clamp (by omega)
  refine j_aload_n (pc := 0) dX9_addColumn_0 rfl ?_
  refine j_getI (pc := 1) dX9_addColumn_1 f_X9_50 (Or.inl rfl) (by assumption) ?_
  rw [i1]
  refine j_iconst (pc := 4) (v := 4) dX9_addColumn_4 (by decide) ?_
  refine j_icmp_ge (pc := 5) (tgt := 38) dX9_addColumn_5 (by decide) (fun h5 => ?_) (fun h5 => ?_)
  · refine j_vret (pc := 38) dX9_addColumn_38 rfl ?_
    exact absurd h5 (nI_ge (b := 4) hl (by decide))
  · refine j_aload_n (pc := 8) dX9_addColumn_8 rfl ?_
    refine j_getP (pc := 9) dX9_addColumn_9 f_X9_9 (Or.inr ⟨_, rfl⟩) (by assumption) ?_
    rw [p3]
    refine j_aload_n (pc := 12) dX9_addColumn_12 rfl ?_
    refine j_getI (pc := 13) dX9_addColumn_13 f_X9_50 (Or.inl rfl) (by assumption) ?_
    rw [i1]
    refine j_lload_n (pc := 16) dX9_addColumn_16 rfl ?_
    refine j_last (pc := 17) dX9_addColumn_17 (by assumption) (by assumption) ?_
    refine j_aload_n (pc := 18) dX9_addColumn_18 rfl ?_
    refine j_getP (pc := 19) dX9_addColumn_19 f_X9_15 (Or.inr ⟨_, rfl⟩) (by assumption) ?_
    rw [hcl, show zgP (zwL S (a + 1) K.length x) a 1 = a + 2 from p1]
    refine j_aload_n (pc := 22) dX9_addColumn_22 rfl ?_
    refine j_getI (pc := 23) dX9_addColumn_23 f_X9_50 (Or.inl rfl) (by assumption) ?_
    rw [show zgI (zwL S (a + 1) K.length x) a 7 = nI K.length from i1]
    refine j_iload_n (pc := 26) dX9_addColumn_26 rfl ?_
    refine j_iast (pc := 27) dX9_addColumn_27 (by assumption) (by assumption) ?_
    refine j_aload_n (pc := 28) dX9_addColumn_28 rfl ?_
    refine j_dup (pc := 29) dX9_addColumn_29 rfl ?_
    refine j_getI (pc := 30) dX9_addColumn_30 f_X9_50 (Or.inl rfl) (by assumption) ?_
    rw [hcl, show zgI (zwI (zwL S (a + 1) K.length x) (a + 2) K.length (zbi b)) a 7 = nI K.length from (zgI_ne (S := (zwL S (a + 1) K.length x)) (by omega)).trans i1]
    refine j_iconst (pc := 33) (v := 1) dX9_addColumn_33 (by decide) ?_
    refine j_iadd (pc := 34) dX9_addColumn_34 ?_
    rw [nI_1]
    refine j_putI (pc := 35) dX9_addColumn_35 f_X9_50 rfl (by assumption) rfl ?_
    refine j_vret (pc := 38) dX9_addColumn_38 rfl ?_
    refine ⟨rfl, ⟨⟨k1, k2, p1⟩, zgI_self.trans (by simp), by simp; omega, fun i f hf => ?_⟩, ⟨⟨k3, p3⟩, fun i f hf => ?_⟩, ((zF.wL (Or.inr (Or.inl rfl))).tr (zF.wI (Or.inr (Or.inr rfl)))).tr (zF.wI (Or.inl rfl)), fun k hk => (zgI_nk hk).trans (zgI_ne (by omega))⟩
    · rw [zgI_ne (by omega), zgI_wI]
      by_cases q : i = K.length
      · subst q
        rw [List.getElem?_concat_length] at hf
        cases hf
        exact if_pos ⟨rfl, rfl⟩
      · have hi : i < (K ++ [b]).length := (List.getElem?_eq_some_iff.mp hf).1
        simp only [List.length_append, List.length_cons, List.length_nil] at hi
        rw [List.getElem?_append_left (by omega)] at hf
        rw [if_neg (fun z => q z.2)]
        exact e1 i f hf
    · show zgL (zwL S (a + 1) K.length x) (a + 1) i = f
      rw [zgL_wL]
      by_cases q : i = K.length
      · rw [q, hN, List.getElem?_concat_length] at hf
        cases hf
        exact if_pos ⟨rfl, q⟩
      · have hi : i < (N ++ [x]).length := (List.getElem?_eq_some_iff.mp hf).1
        simp only [List.length_append, List.length_cons, List.length_nil] at hi
        rw [List.getElem?_append_left (by omega)] at hf
        rw [if_neg (fun z => q z.2)]
        exact e3 i f hf
/-! how many columns the codes of a turn tell -/
def zlo (n : Nat) : List Int32 → Int32 → Int32 → Int32 → Int32
  | [], l, _, _ => l
  | c :: cs, l, u, o => if c = -1 then zlo n cs l u 1 else if ¬ o = 0 ∨ c >>> (2 &&& 31) < 0 ∨ nI n ≤ c >>> (2 &&& 31) ∨ ¬ (u >>> ((c >>> (2 &&& 31)) &&& 31)) &&& 1 = 0 then 0 else zlo n cs (l + 1) (u ||| ((1 : Int32) <<< ((c >>> (2 &&& 31)) &&& 31))) o
set_option maxRecDepth 20000 in
set_option maxHeartbeats 4000000 in
theorem c_lengthOf {E : zE} {S : zM} {a n : Nat} {C : List Int32} (ha : zkd S a = (14, 4)) (hC : C.length = 4) (he : ∀ i x, C[i]? = some x → zgI S a i = x) : zSp E 0 0 0 mX3_lengthOf cX3_lengthOf [zR a, zI (nI n)] S (fun r T => S = T ∧ r = some (zI (zlo n C 0 0 0))) := by
  refine zSp.of (by decide) rfl (Nat.le_of_ble_eq_true rfl) rfl ?_
  have lp : ∀ (k i : Nat) (l u o : Int32) (y z : Option zV), i + k = 4 → zlo n C 0 0 0 = zlo n (C.drop i) l u o → zJ E 0 0 0 mX3_lengthOf cX3_lengthOf 18 [some (zR a), some (zI (nI n)), some (zI l), some (zI u), some (zI o), some (zR a), some (zI 4), some (zI (nI i)), y, z] [] S (fun r T => S = T ∧ r = some (zI (zlo n C 0 0 0))) := by
    intro k
    induction k with
    | zero =>
      intro i l u o y z hi hq
      have ei : i = 4 := by omega
      subst ei
      refine j_iload (pc := 18) dX3_lengthOf_18 rfl ?_
      refine j_iload (pc := 20) dX3_lengthOf_20 rfl ?_
      refine j_icmp_ge (pc := 22) (tgt := 93) dX3_lengthOf_22 (by decide) (fun h22 => ?_) (fun h22 => ?_)
      · refine j_iload_n (pc := 93) dX3_lengthOf_93 rfl ?_
        refine j_iret (pc := 94) dX3_lengthOf_94 rfl ?_
        rw [List.drop_eq_nil_of_le (by omega)] at hq
        exact ⟨rfl, by rw [hq]; rfl⟩
      · exact absurd (nI_le (a := 4) (Nat.le_refl _) (by decide)) h22
    | succ k ih =>
      intro i l u o y z hi hq
      have hlt : i < C.length := by omega
      have hin : vp_in (nI i) 4 := vp_in_nI (by omega) (by decide)
      have hcl : (nI i).toNatClampNeg = i := nI_clamp (by omega)
      obtain ⟨x, hx⟩ : ∃ x, C[i]? = some x := ⟨C[i], List.getElem?_eq_getElem hlt⟩
      have hdr : C.drop i = x :: C.drop (i + 1) := by rw [List.drop_eq_getElem_cons hlt, (List.getElem?_eq_some_iff.mp hx).2]
      refine j_iload (pc := 18) dX3_lengthOf_18 rfl ?_
      refine j_iload (pc := 20) dX3_lengthOf_20 rfl ?_
      refine j_icmp_ge (pc := 22) (tgt := 93) dX3_lengthOf_22 (by decide) (fun h22 => ?_) (fun h22 => ?_)
      · exact absurd h22 (nI_ge (b := 4) (by omega) (by decide))
      · refine j_aload (pc := 25) dX3_lengthOf_25 rfl ?_
        refine j_iload (pc := 27) dX3_lengthOf_27 rfl ?_
        refine j_iald (pc := 29) dX3_lengthOf_29 (by assumption) (by assumption) ?_
        rw [hcl, he i x hx]
        refine j_istore (pc := 30) (ls' := [_, _, _, _, _, _, _, _, _, _]) dX3_lengthOf_30 (by decide) rfl rfl ?_
        refine j_iload (pc := 32) dX3_lengthOf_32 rfl ?_
        refine j_iconst (pc := 34) (v := 2) dX3_lengthOf_34 (by decide) ?_
        refine j_ishr (pc := 35) dX3_lengthOf_35 ?_
        refine j_istore (pc := 36) (ls' := [_, _, _, _, _, _, _, _, _, _]) dX3_lengthOf_36 (by decide) rfl rfl ?_
        refine j_iload (pc := 38) dX3_lengthOf_38 rfl ?_
        refine j_iconst (pc := 40) (v := (-1)) dX3_lengthOf_40 (by decide) ?_
        refine j_icmp_ne (pc := 41) (tgt := 50) dX3_lengthOf_41 (by decide) (fun h41 => ?_) (fun h41 => ?_)
        · refine j_iload (pc := 50) dX3_lengthOf_50 rfl ?_
          refine j_if_ne (pc := 52) (tgt := 75) dX3_lengthOf_52 (by decide) (fun h52 => ?_) (fun h52 => ?_)
          · refine j_iconst (pc := 75) (v := 0) dX3_lengthOf_75 (by decide) ?_
            refine j_iret (pc := 76) dX3_lengthOf_76 rfl ?_
            exact ⟨rfl, by rw [hq, hdr, zlo, if_neg h41, if_pos (Or.inl h52)]⟩
          · refine j_iload (pc := 55) dX3_lengthOf_55 rfl ?_
            refine j_if_lt (pc := 57) (tgt := 75) dX3_lengthOf_57 (by decide) (fun h57 => ?_) (fun h57 => ?_)
            · refine j_iconst (pc := 75) (v := 0) dX3_lengthOf_75 (by decide) ?_
              refine j_iret (pc := 76) dX3_lengthOf_76 rfl ?_
              exact ⟨rfl, by rw [hq, hdr, zlo, if_neg h41, if_pos (Or.inr (Or.inl h57))]⟩
            · refine j_iload (pc := 60) dX3_lengthOf_60 rfl ?_
              refine j_iload_n (pc := 62) dX3_lengthOf_62 rfl ?_
              refine j_icmp_ge (pc := 63) (tgt := 75) dX3_lengthOf_63 (by decide) (fun h63 => ?_) (fun h63 => ?_)
              · refine j_iconst (pc := 75) (v := 0) dX3_lengthOf_75 (by decide) ?_
                refine j_iret (pc := 76) dX3_lengthOf_76 rfl ?_
                exact ⟨rfl, by rw [hq, hdr, zlo, if_neg h41, if_pos (Or.inr (Or.inr (Or.inl h63)))]⟩
              · refine j_iload_n (pc := 66) dX3_lengthOf_66 rfl ?_
                refine j_iload (pc := 67) dX3_lengthOf_67 rfl ?_
                refine j_ishr (pc := 69) dX3_lengthOf_69 ?_
                refine j_iconst (pc := 70) (v := 1) dX3_lengthOf_70 (by decide) ?_
                refine j_iand (pc := 71) dX3_lengthOf_71 ?_
                refine j_if_eq (pc := 72) (tgt := 77) dX3_lengthOf_72 (by decide) (fun h72 => ?_) (fun h72 => ?_)
                · refine j_iload_n (pc := 77) dX3_lengthOf_77 rfl ?_
                  refine j_iconst (pc := 78) (v := 1) dX3_lengthOf_78 (by decide) ?_
                  refine j_iload (pc := 79) dX3_lengthOf_79 rfl ?_
                  refine j_ishl (pc := 81) dX3_lengthOf_81 ?_
                  refine j_ior (pc := 82) dX3_lengthOf_82 ?_
                  refine j_istore_n (pc := 83) (ls' := [_, _, _, _, _, _, _, _, _, _]) dX3_lengthOf_83 (by decide) rfl rfl ?_
                  refine j_iinc (pc := 84) (v := _ + 1) (ls' := [_, _, _, _, _, _, _, _, _, _]) dX3_lengthOf_84 rfl rfl (by decide) rfl rfl ?_
                  refine j_iinc (pc := 87) (v := _ + 1) (ls' := [_, _, _, _, _, _, _, _, _, _]) dX3_lengthOf_87 rfl rfl (by decide) rfl rfl ?_
                  refine j_goto (pc := 90) (tgt := 18) dX3_lengthOf_90 (by decide) ?_
                  rw [nI_1]
                  refine ih (i + 1) _ _ _ _ _ (by omega) ?_
                  rw [hq, hdr, zlo, if_neg h41, if_neg]
                  rintro (q | q | q | q)
                  · exact q h52
                  · exact h57 q
                  · exact h63 q
                  · exact q h72
                · refine j_iconst (pc := 75) (v := 0) dX3_lengthOf_75 (by decide) ?_
                  refine j_iret (pc := 76) dX3_lengthOf_76 rfl ?_
                  exact ⟨rfl, by rw [hq, hdr, zlo, if_neg h41, if_pos (Or.inr (Or.inr (Or.inr h72)))]⟩
        · refine j_iconst (pc := 44) (v := 1) dX3_lengthOf_44 (by decide) ?_
          refine j_istore (pc := 45) (ls' := [_, _, _, _, _, _, _, _, _, _]) dX3_lengthOf_45 (by decide) rfl rfl ?_
          refine j_goto (pc := 47) (tgt := 87) dX3_lengthOf_47 (by decide) ?_
          refine j_iinc (pc := 87) (v := _ + 1) (ls' := [_, _, _, _, _, _, _, _, _, _]) dX3_lengthOf_87 rfl rfl (by decide) rfl rfl ?_
          refine j_goto (pc := 90) (tgt := 18) dX3_lengthOf_90 (by decide) ?_
          rw [nI_1]
          refine ih (i + 1) _ _ _ _ _ (by omega) ?_
          rw [hq, hdr, zlo, if_pos h41]
  refine j_iconst (pc := 0) (v := 0) dX3_lengthOf_0 (by decide) ?_
  refine j_istore_n (pc := 1) (ls' := [_, _, _, _, _, _, _, _, _, _]) dX3_lengthOf_1 (by decide) rfl rfl ?_
  refine j_iconst (pc := 2) (v := 0) dX3_lengthOf_2 (by decide) ?_
  refine j_istore_n (pc := 3) (ls' := [_, _, _, _, _, _, _, _, _, _]) dX3_lengthOf_3 (by decide) rfl rfl ?_
  refine j_iconst (pc := 4) (v := 0) dX3_lengthOf_4 (by decide) ?_
  refine j_istore (pc := 5) (ls' := [_, _, _, _, _, _, _, _, _, _]) dX3_lengthOf_5 (by decide) rfl rfl ?_
  refine j_aload_n (pc := 7) dX3_lengthOf_7 rfl ?_
  refine j_astore (pc := 8) (ls' := [_, _, _, _, _, _, _, _, _, _]) dX3_lengthOf_8 (by decide) rfl rfl ?_
  refine j_aload (pc := 10) dX3_lengthOf_10 rfl ?_
  refine j_alen (pc := 12) (j := 0) dX3_lengthOf_12 (by assumption) (by decide) ?_
  refine j_istore (pc := 13) (ls' := [_, _, _, _, _, _, _, _, _, _]) dX3_lengthOf_13 (by decide) rfl rfl ?_
  refine j_iconst (pc := 15) (v := 0) dX3_lengthOf_15 (by decide) ?_
  refine j_istore (pc := 16) (ls' := [_, _, _, _, _, _, _, _, _, _]) dX3_lengthOf_16 (by decide) rfl rfl ?_
  exact lp 4 0 0 0 0 _ _ (by omega) (by rw [List.drop_zero])
