/-! a row's key -/
def zkey (O : List zOe) (vl : Nat → Int64) (id : Nat) : List Nat := O.flatMap (fun e => zpt e.2.1 e.2.2.1 e.2.2.2 (vl e.1)) ++ [id / 256 % 256, id % 256]
def zkp (O : List zOe) (vl : Nat → Int64) : List Nat := O.flatMap (fun e => zpt e.2.1 e.2.2.1 e.2.2.2 (vl e.1))
theorem zkp_len (vl : Nat → Int64) : ∀ O : List zOe, (zkp O vl).length ≤ 8 * O.length
  | [] => Nat.le_refl _
  | e :: O => by
    have h1 := zkp_len vl O
    have h2 := zpt_len e.2.1 e.2.2.1 e.2.2.2 (vl e.1)
    unfold zkp at h1 ⊢
    rw [List.flatMap_cons, List.length_append, List.length_cons]
    omega
theorem zkp_take (O : List zOe) (vl : Nat → Int64) {i : Nat} {e : zOe} (h : O[i]? = some e) : zkp (O.take (i + 1)) vl = zkp (O.take i) vl ++ zpt e.2.1 e.2.2.1 e.2.2.2 (vl e.1) := by
  unfold zkp
  rw [List.take_add_one, h, List.flatMap_append]
  simp
theorem zb8_shr8 {n : Nat} (h : n < 65536) : zb8 (nI n >>> (8 &&& 31)) = n / 256 % 256 := by
  rw [show nI n >>> (8 &&& 31) = nI (n / 2 ^ 8) from pk_shrN (by omega) _ 8 (by decide)]
  unfold zb8
  rw [pk_tn (by omega)]
theorem zb8_n {n : Nat} (h : n < 2 ^ 31) : zb8 (nI n) = n % 256 := by
  unfold zb8
  rw [pk_tn (by omega)]
set_option maxRecDepth 20000 in
set_option maxHeartbeats 4000000 in
theorem c_writeKey {E : zE} {S : zM} {a d b c cap id gv : Nat} {O : List zOe} {L : List Nat} {th : Nat → Bool} {vl : Nat → Nat → Int64} (h : zOr S a O) (hR0 : zRo S d th vl gv) (hid : id < 64) (g : zBy S b c cap L) (hc : 34 ≤ cap) (hd1 : ∀ k, k < 5 → ¬ zAB b c (a + k)) (hd2 : ∀ k, k < 3 → ¬ zAB b c (d + k)) : zSp E 2 0 0 mX3_writeKey cX3_writeKey [zR a, zR d, zI (nI id), zR b] S (fun r T => r = none ∧ zBy T b c cap (zkey O (vl id) id) ∧ zF (zAB b c) S T) := by
  refine zSp.of (by decide) rfl (Nat.le_of_ble_eq_true rfl) rfl ?_
  have kb0 := g.1
  have lp : ∀ (n i : Nat) (T : zM), i + n = O.length → zBy T b c cap (zkp (O.take i) (vl id)) → zF (zAB b c) S T → zJ E 2 0 0 mX3_writeKey cX3_writeKey 7 [some (zR a), some (zR d), some (zI (nI id)), some (zR b), some (zI (nI i))] [] T (fun r T => r = none ∧ zBy T b c cap (zkey O (vl id) id) ∧ zF (zAB b c) S T) := by
    intro n
    induction n with
    | zero =>
      intro i T hi hB hT
      have ei : i = O.length := by omega
      subst ei
      have hO := h.keep hT hd1
      have k1 := hO.1.1
      have kb := hB.1
      have hlen := zkp_len (vl id) (O.take O.length)
      have h4 := hO.2.2.2.1
      rw [List.length_take] at hlen
      refine j_iload (pc := 7) dX3_writeKey_7 rfl ?_
      refine j_aload_n (pc := 9) dX3_writeKey_9 rfl ?_
      refine j_getI (pc := 10) dX3_writeKey_10 f_X3_25 (Or.inl rfl) (by assumption) ?_
      rw [hO.2.2.1]
      refine j_icmp_ge (pc := 13) (tgt := 41) dX3_writeKey_13 (by decide) (fun h13 => ?_) (fun h13 => ?_)
      · refine j_aload_n (pc := 41) dX3_writeKey_41 rfl ?_
        refine j_iload_n (pc := 42) dX3_writeKey_42 rfl ?_
        refine j_callV (pc := 43) (t := 1) (c_putTwo hB _) dX3_writeKey_43 l_X3_44 mk_X1_putTwo mv_X1_putTwo (by decide) rfl (by assumption) (by decide) rfl rfl (Nat.le_of_ble_eq_true rfl) (Nat.le_refl _) (Nat.le_refl _) (fun r T h_1 => ?_)
        obtain ⟨rfl, hB2, hF2⟩ := h_1
        refine j_vret (pc := 46) dX3_writeKey_46 rfl ?_
        rw [List.take_length] at hB2 hlen
        rw [zput_in (L := zkp O (vl id)) (by omega), zput_in (by rw [List.length_append]; simp only [List.length_cons, List.length_nil]; omega), zb8_shr8 (by omega), zb8_n (by omega)] at hB2
        refine ⟨rfl, ?_, hT.tr hF2⟩
        unfold zkey
        rw [List.append_assoc] at hB2
        exact hB2
      · exact absurd (nI_le (Nat.le_refl _) (by omega)) h13
    | succ n ih =>
      intro i T hi hB hT
      have hO := h.keep hT hd1
      have hR := hR0.keep hT (hd2 0 (by decide)) (hd2 1 (by decide)) (hd2 2 (by decide))
      have k1 := hO.1.1
      have k2 := hO.1.2.1
      have kb := hB.1
      have kd := hR.1
      have h4 := hO.2.2.2.1
      have hlt : i < O.length := by omega
      have hin : vp_in (nI i) 4 := vp_in_nI (by omega) (by decide)
      have hcl : (nI i).toNatClampNeg = i := nI_clamp (by omega)
      obtain ⟨e, he⟩ : ∃ e, O[i]? = some e := ⟨O[i], List.getElem?_eq_getElem hlt⟩
      have hcol := (hO.2.2.2.2 i e he).2.2.2.2
      have hlen := zkp_len (vl id) (O.take i)
      rw [List.length_take] at hlen
      refine j_iload (pc := 7) dX3_writeKey_7 rfl ?_
      refine j_aload_n (pc := 9) dX3_writeKey_9 rfl ?_
      refine j_getI (pc := 10) dX3_writeKey_10 f_X3_25 (Or.inl rfl) (by assumption) ?_
      rw [hO.2.2.1]
      refine j_icmp_ge (pc := 13) (tgt := 41) dX3_writeKey_13 (by decide) (fun h13 => ?_) (fun h13 => ?_)
      · exact absurd h13 (nI_ge (by omega) (by omega))
      · refine j_aload_n (pc := 16) dX3_writeKey_16 rfl ?_
        refine j_iload (pc := 17) dX3_writeKey_17 rfl ?_
        refine j_aload_n (pc := 19) dX3_writeKey_19 rfl ?_
        refine j_iload_n (pc := 20) dX3_writeKey_20 rfl ?_
        refine j_aload_n (pc := 21) dX3_writeKey_21 rfl ?_
        refine j_getP (pc := 22) dX3_writeKey_22 f_X3_9 (Or.inr ⟨_, rfl⟩) (by assumption) ?_
        rw [hO.2.1.1]
        refine j_iload (pc := 25) dX3_writeKey_25 rfl ?_
        refine j_iald (pc := 27) dX3_writeKey_27 (by assumption) (by assumption) ?_
        rw [hcl, (hO.2.2.2.2 i e he).1]
        refine j_callV (pc := 28) (t := 7) (c_read hR hid hcol) dX3_writeKey_28 l_X3_34 mk_X7_read mv_X7_read (by decide) rfl (by assumption) (by decide) rfl rfl (Nat.le_of_ble_eq_true rfl) (Nat.le_refl _) (Nat.le_refl _) (fun r T2 h_1 => ?_)
        obtain ⟨rfl, rfl⟩ := h_1
        refine j_aload_n (pc := 31) dX3_writeKey_31 rfl ?_
        refine j_callV (pc := 32) (t := 3) (c_writePart hO he _ hB (by omega)) dX3_writeKey_32 l_X3_40 mk_X3_writePart mv_X3_writePart (by decide) rfl (by assumption) (by decide) rfl rfl (Nat.le_of_ble_eq_true rfl) (Nat.le_refl _) (Nat.le_refl _) (fun r T2 h_1 => ?_)
        obtain ⟨rfl, hB2, hF2⟩ := h_1
        refine j_iinc (pc := 35) (v := _ + 1) (ls' := [_, _, _, _, _]) dX3_writeKey_35 rfl rfl (by decide) rfl rfl ?_
        refine j_goto (pc := 38) (tgt := 7) dX3_writeKey_38 (by decide) ?_
        rw [nI_1]
        refine ih (i + 1) _ (by omega) ?_ (hT.tr hF2)
        rw [zkp_take O (vl id) he]
        exact hB2
  refine j_aload_n (pc := 0) dX3_writeKey_0 rfl ?_
  refine j_callV (pc := 1) (t := 1) (c_empty g) dX3_writeKey_1 l_X3_29 mk_X1_empty mv_X1_empty (by decide) rfl (by assumption) (by decide) rfl rfl (Nat.le_of_ble_eq_true rfl) (Nat.le_refl _) (Nat.le_refl _) (fun r T h_1 => ?_)
  obtain ⟨rfl, rfl⟩ := h_1
  refine j_iconst (pc := 4) (v := 0) dX3_writeKey_4 (by decide) ?_
  refine j_istore (pc := 5) (ls' := [_, _, _, _, _]) dX3_writeKey_5 (by decide) rfl rfl ?_
  exact lp O.length 0 _ (by omega) g.empty (zF.wI (Or.inl rfl))
def zoh (O : List zOe) (c : Nat) : Bool := O.any (fun e => decide (e.1 = c))
theorem zoh_take {O : List zOe} {i c : Nat} {e : zOe} (h : O[i]? = some e) : zoh (O.take (i + 1)) c = (zoh (O.take i) c || decide (e.1 = c)) := by
  unfold zoh
  rw [List.take_add_one, h, List.any_append]
  simp
theorem zoh_hit {O : List zOe} {i c : Nat} {e : zOe} (h : O[i]? = some e) (hc : e.1 = c) : zoh O c = true := by
  unfold zoh
  exact List.any_eq_true.mpr ⟨e, List.mem_of_getElem? h, decide_eq_true hc⟩
set_option maxRecDepth 20000 in
set_option maxHeartbeats 4000000 in
theorem c_ohas {E : zE} {S : zM} {a c : Nat} {O : List zOe} (h : zOr S a O) (hc : c < 4) : zSp E 0 0 0 mX3_has cX3_has [zR a, zI (nI c)] S (fun r T => S = T ∧ r = some (zI (zbi (zoh O c)))) := by
  refine zSp.of (by decide) rfl (Nat.le_of_ble_eq_true rfl) rfl ?_
  have k1 := h.1.1
  have k2 := h.1.2.1
  have h4 := h.2.2.2.1
  have lp : ∀ (n i : Nat), i + n = O.length → zoh (O.take i) c = false → zJ E 0 0 0 mX3_has cX3_has 2 [some (zR a), some (zI (nI c)), some (zI (nI i))] [] S (fun r T => S = T ∧ r = some (zI (zbi (zoh O c)))) := by
    intro n
    induction n with
    | zero =>
      intro i hi hq
      have ei : i = O.length := by omega
      subst ei
      refine j_iload_n (pc := 2) dX3_has_2 rfl ?_
      refine j_aload_n (pc := 3) dX3_has_3 rfl ?_
      refine j_getI (pc := 4) dX3_has_4 f_X3_25 (Or.inl rfl) (by assumption) ?_
      rw [h.2.2.1]
      refine j_icmp_ge (pc := 7) (tgt := 28) dX3_has_7 (by decide) (fun h7 => ?_) (fun h7 => ?_)
      · refine j_iconst (pc := 28) (v := 0) dX3_has_28 (by decide) ?_
        refine j_zret (pc := 29) dX3_has_29 rfl (by first | assumption | decide) ?_
        rw [List.take_length] at hq
        exact ⟨rfl, by rw [hq]; rfl⟩
      · exact absurd (nI_le (Nat.le_refl _) (by omega)) h7
    | succ n ih =>
      intro i hi hq
      have hlt : i < O.length := by omega
      have hin : vp_in (nI i) 4 := vp_in_nI (by omega) (by decide)
      have hcl : (nI i).toNatClampNeg = i := nI_clamp (by omega)
      obtain ⟨e, he⟩ : ∃ e, O[i]? = some e := ⟨O[i], List.getElem?_eq_getElem hlt⟩
      have hcol := (h.2.2.2.2 i e he).2.2.2.2
      refine j_iload_n (pc := 2) dX3_has_2 rfl ?_
      refine j_aload_n (pc := 3) dX3_has_3 rfl ?_
      refine j_getI (pc := 4) dX3_has_4 f_X3_25 (Or.inl rfl) (by assumption) ?_
      rw [h.2.2.1]
      refine j_icmp_ge (pc := 7) (tgt := 28) dX3_has_7 (by decide) (fun h7 => ?_) (fun h7 => ?_)
      · exact absurd h7 (nI_ge (by omega) (by omega))
      · refine j_aload_n (pc := 10) dX3_has_10 rfl ?_
        refine j_getP (pc := 11) dX3_has_11 f_X3_9 (Or.inr ⟨_, rfl⟩) (by assumption) ?_
        rw [h.2.1.1]
        refine j_iload_n (pc := 14) dX3_has_14 rfl ?_
        refine j_iald (pc := 15) dX3_has_15 (by assumption) (by assumption) ?_
        rw [hcl, (h.2.2.2.2 i e he).1]
        refine j_iload_n (pc := 16) dX3_has_16 rfl ?_
        refine j_icmp_ne (pc := 17) (tgt := 22) dX3_has_17 (by decide) (fun h17 => ?_) (fun h17 => ?_)
        · refine j_iinc (pc := 22) (v := _ + 1) (ls' := [_, _, _]) dX3_has_22 rfl rfl (by decide) rfl rfl ?_
          refine j_goto (pc := 25) (tgt := 2) dX3_has_25 (by decide) ?_
          rw [nI_1]
          refine ih (i + 1) (by omega) ?_
          rw [zoh_take he, hq, decide_eq_false (fun q => h17 (by rw [q]))]
          rfl
        · refine j_iconst (pc := 20) (v := 1) dX3_has_20 (by decide) ?_
          refine j_zret (pc := 21) dX3_has_21 rfl (by first | assumption | decide) ?_
          exact ⟨rfl, by rw [zoh_hit he ((nI_eq (by omega) (by omega)).mp h17)]; rfl⟩
  refine j_iconst (pc := 0) (v := 0) dX3_has_0 (by decide) ?_
  refine j_istore_n (pc := 1) (ls' := [_, _, _]) dX3_has_1 (by decide) rfl rfl ?_
  exact lp O.length 0 (by omega) rfl
theorem zOr.add {S T : zM} {a : Nat} {O : List zOe} (h : zOr S a O) (e : zOe) (he : e.1 < 4) (hl : O.length < 4) (hT : zkd T = zkd S ∧ zgP T = zgP S) (h4 : zgI T a 4 = nI (O.length + 1)) (h5 : ∀ k, k < 4 → zgI T (a + 1) k = (if k = O.length then nI e.1 else zgI S (a + 1) k) ∧ zgI T (a + 2) k = (if k = O.length then zbi e.2.1 else zgI S (a + 2) k) ∧ zgI T (a + 3) k = (if k = O.length then zbi e.2.2.1 else zgI S (a + 3) k) ∧ zgI T (a + 4) k = (if k = O.length then zbi e.2.2.2 else zgI S (a + 4) k)) : zOr T a (O ++ [e]) := by
  obtain ⟨ks, ps, i1, i2, e1⟩ := h
  refine ⟨by rw [hT.1]; exact ks, by rw [hT.2]; exact ps, by rw [h4]; simp, by simp; omega, fun i f hf => ?_⟩
  have hi : i < (O ++ [e]).length := (List.getElem?_eq_some_iff.mp hf).1
  simp only [List.length_append, List.length_cons, List.length_nil] at hi
  obtain ⟨g1, g2, g3, g4⟩ := h5 i (by omega)
  by_cases q : i = O.length
  · subst q
    rw [List.getElem?_concat_length] at hf
    cases hf
    rw [if_pos rfl] at g1 g2 g3 g4
    exact ⟨g1, g2, g3, g4, he⟩
  · rw [List.getElem?_append_left (by omega)] at hf
    rw [if_neg q] at g1 g2 g3 g4
    rw [g1, g2, g3, g4]
    exact e1 i f hf
set_option maxRecDepth 20000 in
set_option maxHeartbeats 4000000 in
theorem c_oadd {E : zE} {S : zM} {a : Nat} {O : List zOe} {e : zOe} (h : zOr S a O) (he : e.1 < 4) (hl : O.length < 4) : zSp E 0 0 0 mX3_add cX3_add [zR a, zI (nI e.1), zI (zbi e.2.1), zI (zbi e.2.2.1), zI (zbi e.2.2.2)] S (fun r T => r = none ∧ zOr T a (O ++ [e]) ∧ zF (zX5 a) S T) := by
  refine zSp.of (by decide) rfl (Nat.le_of_ble_eq_true rfl) rfl ?_
  obtain ⟨⟨k1, k2, k3, k4, k5⟩, ⟨p1, p2, p3, p4⟩, i1, i2, e1⟩ := id h
  have hin : vp_in (nI O.length) 4 := vp_in_nI hl (by decide)
  have hcl : (nI O.length).toNatClampNeg = O.length := nI_clamp (by omega)
  have hb1 := zbi_01 e.2.2.1
  have hb2 := zbi_01 e.2.2.2
  refine j_aload_n (pc := 0) dX3_add_0 rfl ?_
  refine j_getI (pc := 1) dX3_add_1 f_X3_25 (Or.inl rfl) (by assumption) ?_
  rw [i1]
  refine j_iconst (pc := 4) (v := 4) dX3_add_4 (by decide) ?_
  refine j_icmp_ge (pc := 5) (tgt := 59) dX3_add_5 (by decide) (fun h5 => ?_) (fun h5 => ?_)
  · refine j_vret (pc := 59) dX3_add_59 rfl ?_
    exact absurd h5 (nI_ge (b := 4) hl (by decide))
  · refine j_aload_n (pc := 8) dX3_add_8 rfl ?_
    refine j_getP (pc := 9) dX3_add_9 f_X3_9 (Or.inr ⟨_, rfl⟩) (by assumption) ?_
    rw [p1]
    refine j_aload_n (pc := 12) dX3_add_12 rfl ?_
    refine j_getI (pc := 13) dX3_add_13 f_X3_25 (Or.inl rfl) (by assumption) ?_
    rw [i1]
    refine j_iload_n (pc := 16) dX3_add_16 rfl ?_
    refine j_iast (pc := 17) dX3_add_17 (by assumption) (by assumption) ?_
    refine j_aload_n (pc := 18) dX3_add_18 rfl ?_
    refine j_getP (pc := 19) dX3_add_19 f_X3_15 (Or.inr ⟨_, rfl⟩) (by assumption) ?_
    rw [hcl, show zgP (zwI S (a + 1) O.length (nI e.1)) a 1 = a + 2 from p2]
    refine j_aload_n (pc := 22) dX3_add_22 rfl ?_
    refine j_getI (pc := 23) dX3_add_23 f_X3_25 (Or.inl rfl) (by assumption) ?_
    rw [show zgI (zwI S (a + 1) O.length (nI e.1)) a 4 = nI O.length from (zgI_ne (by omega)).trans i1]
    refine j_iload_n (pc := 26) dX3_add_26 rfl ?_
    refine j_iast (pc := 27) dX3_add_27 (by assumption) (by assumption) ?_
    refine j_aload_n (pc := 28) dX3_add_28 rfl ?_
    refine j_getP (pc := 29) dX3_add_29 f_X3_18 (Or.inr ⟨_, rfl⟩) (by assumption) ?_
    rw [hcl, show zgP (zwI (zwI S (a + 1) O.length (nI e.1)) (a + 2) O.length (zbi e.2.1)) a 2 = a + 3 from p3]
    refine j_aload_n (pc := 32) dX3_add_32 rfl ?_
    refine j_getI (pc := 33) dX3_add_33 f_X3_25 (Or.inl rfl) (by assumption) ?_
    rw [show zgI (zwI (zwI S (a + 1) O.length (nI e.1)) (a + 2) O.length (zbi e.2.1)) a 4 = nI O.length from (zgI_ne (by omega)).trans ((zgI_ne (by omega)).trans i1)]
    refine j_iload_n (pc := 36) dX3_add_36 rfl ?_
    refine j_zast (pc := 37) dX3_add_37 (by assumption) (by assumption) (by first | assumption | decide) ?_
    refine j_aload_n (pc := 38) dX3_add_38 rfl ?_
    refine j_getP (pc := 39) dX3_add_39 f_X3_22 (Or.inr ⟨_, rfl⟩) (by assumption) ?_
    rw [hcl, show zgP (zwI (zwI (zwI S (a + 1) O.length (nI e.1)) (a + 2) O.length (zbi e.2.1)) (a + 3) O.length (zbi e.2.2.1)) a 3 = a + 4 from p4]
    refine j_aload_n (pc := 42) dX3_add_42 rfl ?_
    refine j_getI (pc := 43) dX3_add_43 f_X3_25 (Or.inl rfl) (by assumption) ?_
    rw [show zgI (zwI (zwI (zwI S (a + 1) O.length (nI e.1)) (a + 2) O.length (zbi e.2.1)) (a + 3) O.length (zbi e.2.2.1)) a 4 = nI O.length from (zgI_ne (by omega)).trans ((zgI_ne (by omega)).trans ((zgI_ne (by omega)).trans i1))]
    refine j_iload (pc := 46) dX3_add_46 rfl ?_
    refine j_zast (pc := 48) dX3_add_48 (by assumption) (by assumption) (by first | assumption | decide) ?_
    refine j_aload_n (pc := 49) dX3_add_49 rfl ?_
    refine j_dup (pc := 50) dX3_add_50 rfl ?_
    refine j_getI (pc := 51) dX3_add_51 f_X3_25 (Or.inl rfl) (by assumption) ?_
    rw [hcl, show zgI (zwI (zwI (zwI (zwI S (a + 1) O.length (nI e.1)) (a + 2) O.length (zbi e.2.1)) (a + 3) O.length (zbi e.2.2.1)) (a + 4) O.length (zbi e.2.2.2)) a 4 = nI O.length from (zgI_ne (by omega)).trans ((zgI_ne (by omega)).trans ((zgI_ne (by omega)).trans ((zgI_ne (by omega)).trans i1)))]
    refine j_iconst (pc := 54) (v := 1) dX3_add_54 (by decide) ?_
    refine j_iadd (pc := 55) dX3_add_55 ?_
    rw [nI_1]
    refine j_putI (pc := 56) dX3_add_56 f_X3_25 rfl (by assumption) rfl ?_
    refine j_vret (pc := 59) dX3_add_59 rfl ?_
    refine ⟨rfl, h.add e he hl ⟨rfl, rfl⟩ zgI_self (fun k hk => ?_), ((((zF.wI (by simp [zX5])).tr (zF.wI (by simp [zX5]))).tr (zF.wI (by simp [zX5]))).tr (zF.wI (by simp [zX5]))).tr (zF.wI (by simp [zX5]))⟩
    simp only [zgI_wI]
    by_cases q : k = O.length <;> simp [q]
