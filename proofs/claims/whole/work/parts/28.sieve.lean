/-! words -/
def zrl : Nat → Int64 → Int64
  | 0, r => r
  | k + 1, r => if r < 1099511627776 then zrl k (r <<< ((8 : Int32).toInt64 &&& 63)) else r
set_option maxRecDepth 20000 in
set_option maxHeartbeats 4000000 in
theorem c_raised {E : zE} {S : zM}  (v : Int64) : zSp E 0 0 0 mX11_raisedWord cX11_raisedWord [zL v] S (fun r T => S = T ∧ r = some (zL (zrl 5 v))) := by
  refine zSp.of (by decide) rfl (Nat.le_of_ble_eq_true rfl) rfl ?_
  have lp : ∀ (n i : Nat) (x : Int64), i + n = 6 → zrl 5 v = zrl n x → zJ E 0 0 0 mX11_raisedWord cX11_raisedWord 5 [some (zL v), none, some (zL x), none, some (zI (nI i))] [] S (fun r T => S = T ∧ r = some (zL (zrl 5 v))) := by
    intro n
    induction n with
    | zero =>
      intro i x hi hq
      have ei : i = 6 := by omega
      subst ei
      refine j_iload (pc := 5) dX11_raisedWord_5 rfl ?_
      refine j_bipush (pc := 7) (v := 6) dX11_raisedWord_7 (by decide) ?_
      refine j_icmp_ge (pc := 9) (tgt := 31) dX11_raisedWord_9 (by decide) (fun h9 => ?_) (fun h9 => ?_)
      · refine j_lload_n (pc := 31) dX11_raisedWord_31 rfl ?_
        refine j_lret (pc := 32) dX11_raisedWord_32 rfl ?_
        exact ⟨rfl, by rw [hq]; rfl⟩
      · exact absurd (nI_le (a := 6) (Nat.le_refl _) (by decide)) h9
    | succ n ih =>
      intro i x hi hq
      refine j_iload (pc := 5) dX11_raisedWord_5 rfl ?_
      refine j_bipush (pc := 7) (v := 6) dX11_raisedWord_7 (by decide) ?_
      refine j_icmp_ge (pc := 9) (tgt := 31) dX11_raisedWord_9 (by decide) (fun h9 => ?_) (fun h9 => ?_)
      · refine j_lload_n (pc := 31) dX11_raisedWord_31 rfl ?_
        refine j_lret (pc := 32) dX11_raisedWord_32 rfl ?_
        exact absurd h9 (nI_ge (b := 6) (by omega) (by decide))
      · refine j_lload_n (pc := 12) dX11_raisedWord_12 rfl ?_
        refine j_ldcL (pc := 13) dX11_raisedWord_13 k_X11_330 ?_
        refine j_lcmp (pc := 16) dX11_raisedWord_16 ?_
        refine j_if_ge (pc := 17) (tgt := 31) dX11_raisedWord_17 (by decide) (fun h17 => ?_) (fun h17 => ?_)
        · refine j_lload_n (pc := 31) dX11_raisedWord_31 rfl ?_
          refine j_lret (pc := 32) dX11_raisedWord_32 rfl ?_
          exact ⟨rfl, by rw [hq, zrl, if_neg (fun q => Int64.not_le.mpr q ((lg_cmp_ge _ _).mp h17))]⟩
        · refine j_lload_n (pc := 20) dX11_raisedWord_20 rfl ?_
          refine j_bipush (pc := 21) (v := 8) dX11_raisedWord_21 (by decide) ?_
          refine j_lshl (pc := 23) dX11_raisedWord_23 ?_
          refine j_lstore_n (pc := 24) (ls' := [_, _, _, _, _]) dX11_raisedWord_24 (by decide) rfl rfl ?_
          refine j_iinc (pc := 25) (v := _ + 1) (ls' := [_, _, _, _, _]) dX11_raisedWord_25 rfl rfl (by decide) rfl rfl ?_
          refine j_goto (pc := 28) (tgt := 5) dX11_raisedWord_28 (by decide) ?_
          rw [nI_1]
          refine ih (i + 1) _ (by omega) ?_
          rw [hq, zrl, if_pos (Int64.not_le.mp (fun q => h17 ((lg_cmp_ge _ _).mpr q)))]
  refine j_lload_n (pc := 0) dX11_raisedWord_0 rfl ?_
  refine j_lstore_n (pc := 1) (ls' := [_, _, _, _, _]) dX11_raisedWord_1 (by decide) rfl rfl ?_
  refine j_iconst (pc := 2) (v := 1) dX11_raisedWord_2 (by decide) ?_
  refine j_istore (pc := 3) (ls' := [_, _, _, _, _]) dX11_raisedWord_3 (by decide) rfl rfl ?_
  exact lp 5 1 v (by omega) rfl
abbrev zsh (v : Int64) (i : Nat) : Int64 := v >>> ((nI (8 * i)).toInt64 &&& 63)
def zwl (v : Int64) : Nat → Nat → Bool
  | _, 0 => true
  | i, n + 1 => if zsh v i = 0 then true else if zsh v i &&& 255 < 97 ∨ 122 < zsh v i &&& 255 then false else zwl v (i + 1) n
def zow (v : Int64) : Bool := decide (0 < v ∧ v < 281474976710656) && zwl v 0 6
set_option maxRecDepth 20000 in
set_option maxHeartbeats 4000000 in
theorem c_isWV {E : zE} {S : zM}  (v : Int64) : zSp E 0 0 0 mX11_isWordValue cX11_isWordValue [zL v] S (fun r T => S = T ∧ r = some (zI (zbi (zow v)))) := by
  refine zSp.of (by decide) rfl (Nat.le_of_ble_eq_true rfl) rfl ?_
  have lp : ∀ (n i : Nat) (u w : Option zV), 0 < v → v < 281474976710656 → i + n = 6 → zwl v 0 6 = zwl v i n → zJ E 0 0 0 mX11_isWordValue cX11_isWordValue 18 [some (zL v), none, some (zI (nI (8 * i))), u, w] [] S (fun r T => S = T ∧ r = some (zI (zbi (zow v)))) := by
    intro n
    induction n with
    | zero =>
      intro i u w g1 g2 hi hq
      have ei : i = 6 := by omega
      subst ei
      refine j_iload_n (pc := 18) dX11_isWordValue_18 rfl ?_
      refine j_bipush (pc := 19) (v := 48) dX11_isWordValue_19 (by decide) ?_
      refine j_icmp_ge (pc := 21) (tgt := 64) dX11_isWordValue_21 (by decide) (fun h21 => ?_) (fun h21 => ?_)
      · refine j_iconst (pc := 64) (v := 1) dX11_isWordValue_64 (by decide) ?_
        refine j_zret (pc := 65) dX11_isWordValue_65 rfl (by first | assumption | decide) ?_
        exact ⟨rfl, by rw [zow, decide_eq_true (p := 0 < v ∧ v < 281474976710656) ⟨g1, g2⟩, hq]; rfl⟩
      · exact absurd (nI_le (a := 48) (Nat.le_refl _) (by decide)) h21
    | succ n ih0 =>
      intro i u w g1 g2 hi hq
      have ih := fun i u w => ih0 i u w g1 g2
      refine j_iload_n (pc := 18) dX11_isWordValue_18 rfl ?_
      refine j_bipush (pc := 19) (v := 48) dX11_isWordValue_19 (by decide) ?_
      refine j_icmp_ge (pc := 21) (tgt := 64) dX11_isWordValue_21 (by decide) (fun h21 => ?_) (fun h21 => ?_)
      · refine j_iconst (pc := 64) (v := 1) dX11_isWordValue_64 (by decide) ?_
        refine j_zret (pc := 65) dX11_isWordValue_65 rfl (by first | assumption | decide) ?_
        exact absurd h21 (nI_ge (b := 48) (by omega) (by decide))
      · refine j_lload_n (pc := 24) dX11_isWordValue_24 rfl ?_
        refine j_iload_n (pc := 25) dX11_isWordValue_25 rfl ?_
        refine j_lshr (pc := 26) dX11_isWordValue_26 ?_
        refine j_lconst (pc := 27) (v := 0) dX11_isWordValue_27 (by decide) ?_
        refine j_lcmp (pc := 28) dX11_isWordValue_28 ?_
        refine j_if_eq (pc := 29) (tgt := 64) dX11_isWordValue_29 (by decide) (fun h29 => ?_) (fun h29 => ?_)
        · refine j_iconst (pc := 64) (v := 1) dX11_isWordValue_64 (by decide) ?_
          refine j_zret (pc := 65) dX11_isWordValue_65 rfl (by first | assumption | decide) ?_
          exact ⟨rfl, by rw [zow, decide_eq_true (p := 0 < v ∧ v < 281474976710656) ⟨g1, g2⟩, hq, zwl, if_pos ((lg_cmp_eq _ _).mp h29)]; rfl⟩
        · have hz : ¬ zsh v i = 0 := fun q => h29 ((lg_cmp_eq _ _).mpr q)
          refine j_lload_n (pc := 32) dX11_isWordValue_32 rfl ?_
          refine j_iload_n (pc := 33) dX11_isWordValue_33 rfl ?_
          refine j_lshr (pc := 34) dX11_isWordValue_34 ?_
          refine j_ldcL (pc := 35) dX11_isWordValue_35 k_X11_324 ?_
          refine j_land (pc := 38) dX11_isWordValue_38 ?_
          refine j_lstore_n (pc := 39) (ls' := [_, _, _, _, _]) dX11_isWordValue_39 (by decide) rfl rfl ?_
          refine j_lload_n (pc := 40) dX11_isWordValue_40 rfl ?_
          refine j_ldcL (pc := 41) dX11_isWordValue_41 k_X11_326 ?_
          refine j_lcmp (pc := 44) dX11_isWordValue_44 ?_
          refine j_if_lt (pc := 45) (tgt := 56) dX11_isWordValue_45 (by decide) (fun h45 => ?_) (fun h45 => ?_)
          · refine j_iconst (pc := 56) (v := 0) dX11_isWordValue_56 (by decide) ?_
            refine j_zret (pc := 57) dX11_isWordValue_57 rfl (by first | assumption | decide) ?_
            exact ⟨rfl, by rw [zow, decide_eq_true (p := 0 < v ∧ v < 281474976710656) ⟨g1, g2⟩, hq, zwl, if_neg hz, if_pos (Or.inl ((lg_cmp_lt _ _).mp h45))]; rfl⟩
          · refine j_lload_n (pc := 48) dX11_isWordValue_48 rfl ?_
            refine j_ldcL (pc := 49) dX11_isWordValue_49 k_X11_328 ?_
            refine j_lcmp (pc := 52) dX11_isWordValue_52 ?_
            refine j_if_le (pc := 53) (tgt := 58) dX11_isWordValue_53 (by decide) (fun h53 => ?_) (fun h53 => ?_)
            · refine j_iinc (pc := 58) (v := _ + 8) (ls' := [_, _, _, _, _]) dX11_isWordValue_58 rfl rfl (by decide) rfl rfl ?_
              refine j_goto (pc := 61) (tgt := 18) dX11_isWordValue_61 (by decide) ?_
              rw [show nI (8 * i) + 8 = nI (8 * (i + 1)) from nI_add (8 * i) 8]
              refine ih (i + 1) _ _ (by omega) ?_
              rw [hq, zwl, if_neg hz, if_neg]
              rintro (q | q)
              · exact h45 ((lg_cmp_lt _ _).mpr q)
              · exact Int64.not_le.mpr q ((lg_cmp_le _ _).mp h53)
            · refine j_iconst (pc := 56) (v := 0) dX11_isWordValue_56 (by decide) ?_
              refine j_zret (pc := 57) dX11_isWordValue_57 rfl (by first | assumption | decide) ?_
              exact ⟨rfl, by rw [zow, decide_eq_true (p := 0 < v ∧ v < 281474976710656) ⟨g1, g2⟩, hq, zwl, if_neg hz, if_pos (Or.inr (Int64.not_le.mp (fun q => h53 ((lg_cmp_le _ _).mpr q))))]; rfl⟩
  refine j_lload_n (pc := 0) dX11_isWordValue_0 rfl ?_
  refine j_lconst (pc := 1) (v := 0) dX11_isWordValue_1 (by decide) ?_
  refine j_lcmp (pc := 2) dX11_isWordValue_2 ?_
  refine j_if_le (pc := 3) (tgt := 14) dX11_isWordValue_3 (by decide) (fun h3 => ?_) (fun h3 => ?_)
  · refine j_iconst (pc := 14) (v := 0) dX11_isWordValue_14 (by decide) ?_
    refine j_zret (pc := 15) dX11_isWordValue_15 rfl (by first | assumption | decide) ?_
    exact ⟨rfl, by rw [zow, decide_eq_false (fun q => Int64.not_le.mpr q.1 ((lg_cmp_le _ _).mp h3))]; rfl⟩
  · refine j_lload_n (pc := 6) dX11_isWordValue_6 rfl ?_
    refine j_ldcL (pc := 7) dX11_isWordValue_7 k_X11_322 ?_
    refine j_lcmp (pc := 10) dX11_isWordValue_10 ?_
    refine j_if_lt (pc := 11) (tgt := 16) dX11_isWordValue_11 (by decide) (fun h11 => ?_) (fun h11 => ?_)
    · have g1 : 0 < v := Int64.not_le.mp (fun q => h3 ((lg_cmp_le _ _).mpr q))
      have g2 : v < 281474976710656 := (lg_cmp_lt _ _).mp h11
      refine j_iconst (pc := 16) (v := 0) dX11_isWordValue_16 (by decide) ?_
      refine j_istore_n (pc := 17) (ls' := [_, _, _, _, _]) dX11_isWordValue_17 (by decide) rfl rfl ?_
      exact lp 6 0 _ _ g1 g2 (by omega) rfl
    · refine j_iconst (pc := 14) (v := 0) dX11_isWordValue_14 (by decide) ?_
      refine j_zret (pc := 15) dX11_isWordValue_15 rfl (by first | assumption | decide) ?_
      exact ⟨rfl, by rw [zow, decide_eq_false (fun q => h11 ((lg_cmp_lt _ _).mpr q.2))]; rfl⟩
/-! SIEVE: column, text or number, how, value -/
abbrev zSe : Type := Nat × Bool × Nat × Int64
def zmt (c : zSe) (x : Int64) : Bool := if x = zMiss then decide (c.2.2.1 = 3) else if 3 ≤ c.2.2.1 then decide (c.2.2.1 = 4) else
  if c.2.2.1 = 0 then decide ((if c.2.1 then lg_cmp (zrl 5 x) (zrl 5 c.2.2.2) else lg_cmp x c.2.2.2) = 0) else if c.2.2.1 = 1 then decide ((if c.2.1 then lg_cmp (zrl 5 x) (zrl 5 c.2.2.2) else lg_cmp x c.2.2.2) < 0) else decide (0 < (if c.2.1 then lg_cmp (zrl 5 x) (zrl 5 c.2.2.2) else lg_cmp x c.2.2.2))
def zSv (S : zM) (a : Nat) (V : List zSe) : Prop := (zkd S a = (9, 0) ∧ zkd S (a + 1) = (14, 2) ∧ zkd S (a + 2) = (14, 2) ∧ zkd S (a + 3) = (14, 2) ∧ zkd S (a + 4) = (15, 2)) ∧ (zgP S a 0 = a + 1 ∧ zgP S a 1 = a + 2 ∧ zgP S a 2 = a + 3 ∧ zgP S a 3 = a + 4) ∧ zgI S a 4 = nI V.length ∧ V.length ≤ 2 ∧ ∀ i c, V[i]? = some c → zgI S (a + 1) i = nI c.1 ∧ zgI S (a + 2) i = zbi c.2.1 ∧ zgI S (a + 3) i = nI c.2.2.1 ∧ zgL S (a + 4) i = c.2.2.2 ∧ c.1 < 4 ∧ c.2.2.1 < 5
theorem zSv.keep {X : Nat → Prop} {S T : zM} {a : Nat} {V : List zSe} (h : zSv S a V) (f : zF X S T) (h0 : ∀ k, k < 5 → ¬ X (a + k)) : zSv T a V := by
  obtain ⟨⟨k1, k2, k3, k4, k5⟩, ⟨p1, p2, p3, p4⟩, i1, i2, e1⟩ := h
  refine ⟨⟨by rw [f.1]; exact k1, by rw [f.1]; exact k2, by rw [f.1]; exact k3, by rw [f.1]; exact k4, by rw [f.1]; exact k5⟩, ⟨by rw [f.2.2.1]; exact p1, by rw [f.2.2.1]; exact p2, by rw [f.2.2.1]; exact p3, by rw [f.2.2.1]; exact p4⟩, by rw [f.2.2.2.1 a (h0 0 (by decide))]; exact i1, i2, fun i e he => ?_⟩
  rw [f.2.2.2.1 _ (h0 1 (by decide)), f.2.2.2.1 _ (h0 2 (by decide)), f.2.2.2.1 _ (h0 3 (by decide)), f.2.2.2.2 _ (h0 4 (by decide))]
  exact e1 i e he
set_option maxRecDepth 20000 in
set_option maxHeartbeats 4000000 in
theorem c_meets {E : zE} {S : zM} {a i : Nat} {V : List zSe} {c : zSe} (h : zSv S a V) (he : V[i]? = some c) (x : Int64) : zSp E 1 0 0 mX8_meets cX8_meets [zR a, zI (nI i), zL x] S (fun r T => S = T ∧ r = some (zI (zbi (zmt c x)))) := by
  refine zSp.of (by decide) rfl (Nat.le_of_ble_eq_true rfl) rfl ?_
  obtain ⟨⟨k1, k2, k3, k4, k5⟩, ⟨p1, p2, p3, p4⟩, i1, i2, e1⟩ := id h
  obtain ⟨q1, q2, q3, q4, q5, q6⟩ := e1 i c he
  have hi : i < V.length := (List.getElem?_eq_some_iff.mp he).1
  have hin : vp_in (nI i) 2 := vp_in_nI (by omega) (by decide)
  have hcl : (nI i).toNatClampNeg = i := nI_clamp (by omega)
  refine j_aload_n (pc := 0) dX8_meets_0 rfl ?_
  refine j_getP (pc := 1) dX8_meets_1 f_X8_18 (Or.inr ⟨_, rfl⟩) (by assumption) ?_
  rw [p3]
  refine j_iload_n (pc := 4) dX8_meets_4 rfl ?_
  refine j_iald (pc := 5) dX8_meets_5 (by assumption) (by assumption) ?_
  rw [hcl, q3]
  refine j_istore (pc := 6) (ls' := [_, _, _, _, _, _]) dX8_meets_6 (by decide) rfl rfl ?_
  refine j_lload_n (pc := 8) dX8_meets_8 rfl ?_
  refine j_ldcL (pc := 9) dX8_meets_9 k_X8_39 ?_
  refine j_lcmp (pc := 12) dX8_meets_12 ?_
  refine j_if_ne (pc := 13) (tgt := 28) dX8_meets_13 (by decide) (fun h13 => ?_) (fun h13 => ?_)
  · have hx : ¬ x = zMiss := fun q => h13 ((lg_cmp_eq _ _).mpr q)
    refine j_iload (pc := 28) dX8_meets_28 rfl ?_
    refine j_iconst (pc := 30) (v := 3) dX8_meets_30 (by decide) ?_
    refine j_icmp_lt (pc := 31) (tgt := 46) dX8_meets_31 (by decide) (fun h31 => ?_) (fun h31 => ?_)
    · have hh : ¬ 3 ≤ c.2.2.1 := fun q => (nI_nlt (a := c.2.2.1) (b := 3) q (by omega)) h31
      refine j_aload_n (pc := 46) dX8_meets_46 rfl ?_
      refine j_getP (pc := 47) dX8_meets_47 f_X8_15 (Or.inr ⟨_, rfl⟩) (by assumption) ?_
      rw [p2]
      refine j_iload_n (pc := 50) dX8_meets_50 rfl ?_
      refine j_iald (pc := 51) dX8_meets_51 (by assumption) (by assumption) ?_
      rw [hcl, q2]
      refine j_if_ne (pc := 52) (tgt := 68) dX8_meets_52 (by decide) (fun h52 => ?_) (fun h52 => ?_)
      · have htx : c.2.1 = true := by cases q : c.2.1 <;> rw [q] at h52 <;> first | rfl | exact absurd rfl h52
        refine j_lload_n (pc := 68) dX8_meets_68 rfl ?_
        refine j_callSN (pc := 69) (c_raised _) dX8_meets_69 l_X8_47 mk_X11_raisedWord ms_X11_raisedWord (by decide) rfl rfl (Nat.le_of_ble_eq_true rfl) (Nat.le_refl _) (Nat.le_refl _) (fun r T h_1 => ?_)
        obtain ⟨rfl, rfl⟩ := h_1
        refine j_aload_n (pc := 72) dX8_meets_72 rfl ?_
        refine j_getP (pc := 73) dX8_meets_73 f_X8_21 (Or.inr ⟨_, rfl⟩) (by assumption) ?_
        rw [p4]
        refine j_iload_n (pc := 76) dX8_meets_76 rfl ?_
        refine j_lald (pc := 77) dX8_meets_77 (by assumption) (by assumption) ?_
        rw [hcl, q4]
        refine j_callSN (pc := 78) (c_raised _) dX8_meets_78 l_X8_47 mk_X11_raisedWord ms_X11_raisedWord (by decide) rfl rfl (Nat.le_of_ble_eq_true rfl) (Nat.le_refl _) (Nat.le_refl _) (fun r T h_1 => ?_)
        obtain ⟨rfl, rfl⟩ := h_1
        refine j_callS (pc := 81) (c_lcmp _ _) dX8_meets_81 l_X8_41 mk_J13_compare_74951 ms_J13_compare_74951 (by decide) rfl rfl (Nat.le_of_ble_eq_true rfl) (Nat.le_refl _) (Nat.le_refl _) (fun r T h_1 => ?_)
        obtain ⟨rfl, rfl⟩ := h_1
        refine j_istore (pc := 84) (ls' := [_, _, _, _, _, _]) dX8_meets_84 (by decide) rfl rfl ?_
        refine j_iload (pc := 86) dX8_meets_86 rfl ?_
        refine j_if_ne (pc := 88) (tgt := 102) dX8_meets_88 (by decide) (fun h88 => ?_) (fun h88 => ?_)
        · have h0 : ¬ c.2.2.1 = 0 := fun q => h88 (by rw [q]; rfl)
          refine j_iload (pc := 102) dX8_meets_102 rfl ?_
          refine j_iconst (pc := 104) (v := 1) dX8_meets_104 (by decide) ?_
          refine j_icmp_ne (pc := 105) (tgt := 121) dX8_meets_105 (by decide) (fun h105 => ?_) (fun h105 => ?_)
          · have h1 : ¬ c.2.2.1 = 1 := fun q => h105 (by rw [q]; rfl)
            refine j_iload (pc := 121) dX8_meets_121 rfl ?_
            refine j_if_le (pc := 123) (tgt := 130) dX8_meets_123 (by decide) (fun h123 => ?_) (fun h123 => ?_)
            · refine j_iconst (pc := 130) (v := 0) dX8_meets_130 (by decide) ?_
              refine j_zret (pc := 131) dX8_meets_131 rfl (by first | assumption | decide) ?_
              exact ⟨rfl, by rw [zmt, if_neg hx, if_neg hh, if_neg h0, if_neg h1, show c.2.1 = true from htx, if_pos rfl, decide_eq_false (Int32.not_lt.mpr h123)]; rfl⟩
            · refine j_iconst (pc := 126) (v := 1) dX8_meets_126 (by decide) ?_
              refine j_goto (pc := 127) (tgt := 131) dX8_meets_127 (by decide) ?_
              refine j_zret (pc := 131) dX8_meets_131 rfl (by first | assumption | decide) ?_
              exact ⟨rfl, by rw [zmt, if_neg hx, if_neg hh, if_neg h0, if_neg h1, show c.2.1 = true from htx, if_pos rfl, decide_eq_true (Int32.not_le.mp h123)]; rfl⟩
          · have h1 : c.2.2.1 = 1 := (nI_eq (b := 1) (by omega) (by decide)).mp h105
            refine j_iload (pc := 108) dX8_meets_108 rfl ?_
            refine j_if_ge (pc := 110) (tgt := 117) dX8_meets_110 (by decide) (fun h110 => ?_) (fun h110 => ?_)
            · refine j_iconst (pc := 117) (v := 0) dX8_meets_117 (by decide) ?_
              refine j_goto (pc := 118) (tgt := 131) dX8_meets_118 (by decide) ?_
              refine j_zret (pc := 131) dX8_meets_131 rfl (by first | assumption | decide) ?_
              exact ⟨rfl, by rw [zmt, if_neg hx, if_neg hh, if_neg h0, if_pos h1, show c.2.1 = true from htx, if_pos rfl, decide_eq_false (Int32.not_lt.mpr h110)]; rfl⟩
            · refine j_iconst (pc := 113) (v := 1) dX8_meets_113 (by decide) ?_
              refine j_goto (pc := 114) (tgt := 131) dX8_meets_114 (by decide) ?_
              refine j_zret (pc := 131) dX8_meets_131 rfl (by first | assumption | decide) ?_
              exact ⟨rfl, by rw [zmt, if_neg hx, if_neg hh, if_neg h0, if_pos h1, show c.2.1 = true from htx, if_pos rfl, decide_eq_true (Int32.not_le.mp h110)]; rfl⟩
        · have h0 : c.2.2.1 = 0 := (nI_eq (b := 0) (by omega) (by decide)).mp h88
          refine j_iload (pc := 91) dX8_meets_91 rfl ?_
          refine j_if_ne (pc := 93) (tgt := 100) dX8_meets_93 (by decide) (fun h93 => ?_) (fun h93 => ?_)
          · refine j_iconst (pc := 100) (v := 0) dX8_meets_100 (by decide) ?_
            refine j_zret (pc := 101) dX8_meets_101 rfl (by first | assumption | decide) ?_
            exact ⟨rfl, by rw [zmt, if_neg hx, if_neg hh, if_pos h0, show c.2.1 = true from htx, if_pos rfl, decide_eq_false h93]; rfl⟩
          · refine j_iconst (pc := 96) (v := 1) dX8_meets_96 (by decide) ?_
            refine j_goto (pc := 97) (tgt := 101) dX8_meets_97 (by decide) ?_
            refine j_zret (pc := 101) dX8_meets_101 rfl (by first | assumption | decide) ?_
            exact ⟨rfl, by rw [zmt, if_neg hx, if_neg hh, if_pos h0, show c.2.1 = true from htx, if_pos rfl, decide_eq_true h93]; rfl⟩
      · have htx : c.2.1 = false := zbi_eq0.mp h52
        refine j_lload_n (pc := 55) dX8_meets_55 rfl ?_
        refine j_aload_n (pc := 56) dX8_meets_56 rfl ?_
        refine j_getP (pc := 57) dX8_meets_57 f_X8_21 (Or.inr ⟨_, rfl⟩) (by assumption) ?_
        rw [p4]
        refine j_iload_n (pc := 60) dX8_meets_60 rfl ?_
        refine j_lald (pc := 61) dX8_meets_61 (by assumption) (by assumption) ?_
        rw [hcl, q4]
        refine j_callS (pc := 62) (c_lcmp _ _) dX8_meets_62 l_X8_41 mk_J13_compare_74951 ms_J13_compare_74951 (by decide) rfl rfl (Nat.le_of_ble_eq_true rfl) (Nat.le_refl _) (Nat.le_refl _) (fun r T h_1 => ?_)
        obtain ⟨rfl, rfl⟩ := h_1
        refine j_goto (pc := 65) (tgt := 84) dX8_meets_65 (by decide) ?_
        refine j_istore (pc := 84) (ls' := [_, _, _, _, _, _]) dX8_meets_84 (by decide) rfl rfl ?_
        refine j_iload (pc := 86) dX8_meets_86 rfl ?_
        refine j_if_ne (pc := 88) (tgt := 102) dX8_meets_88 (by decide) (fun h88 => ?_) (fun h88 => ?_)
        · have h0 : ¬ c.2.2.1 = 0 := fun q => h88 (by rw [q]; rfl)
          refine j_iload (pc := 102) dX8_meets_102 rfl ?_
          refine j_iconst (pc := 104) (v := 1) dX8_meets_104 (by decide) ?_
          refine j_icmp_ne (pc := 105) (tgt := 121) dX8_meets_105 (by decide) (fun h105 => ?_) (fun h105 => ?_)
          · have h1 : ¬ c.2.2.1 = 1 := fun q => h105 (by rw [q]; rfl)
            refine j_iload (pc := 121) dX8_meets_121 rfl ?_
            refine j_if_le (pc := 123) (tgt := 130) dX8_meets_123 (by decide) (fun h123 => ?_) (fun h123 => ?_)
            · refine j_iconst (pc := 130) (v := 0) dX8_meets_130 (by decide) ?_
              refine j_zret (pc := 131) dX8_meets_131 rfl (by first | assumption | decide) ?_
              exact ⟨rfl, by rw [zmt, if_neg hx, if_neg hh, if_neg h0, if_neg h1, show c.2.1 = false from htx, if_neg (by decide), decide_eq_false (Int32.not_lt.mpr h123)]; rfl⟩
            · refine j_iconst (pc := 126) (v := 1) dX8_meets_126 (by decide) ?_
              refine j_goto (pc := 127) (tgt := 131) dX8_meets_127 (by decide) ?_
              refine j_zret (pc := 131) dX8_meets_131 rfl (by first | assumption | decide) ?_
              exact ⟨rfl, by rw [zmt, if_neg hx, if_neg hh, if_neg h0, if_neg h1, show c.2.1 = false from htx, if_neg (by decide), decide_eq_true (Int32.not_le.mp h123)]; rfl⟩
          · have h1 : c.2.2.1 = 1 := (nI_eq (b := 1) (by omega) (by decide)).mp h105
            refine j_iload (pc := 108) dX8_meets_108 rfl ?_
            refine j_if_ge (pc := 110) (tgt := 117) dX8_meets_110 (by decide) (fun h110 => ?_) (fun h110 => ?_)
            · refine j_iconst (pc := 117) (v := 0) dX8_meets_117 (by decide) ?_
              refine j_goto (pc := 118) (tgt := 131) dX8_meets_118 (by decide) ?_
              refine j_zret (pc := 131) dX8_meets_131 rfl (by first | assumption | decide) ?_
              exact ⟨rfl, by rw [zmt, if_neg hx, if_neg hh, if_neg h0, if_pos h1, show c.2.1 = false from htx, if_neg (by decide), decide_eq_false (Int32.not_lt.mpr h110)]; rfl⟩
            · refine j_iconst (pc := 113) (v := 1) dX8_meets_113 (by decide) ?_
              refine j_goto (pc := 114) (tgt := 131) dX8_meets_114 (by decide) ?_
              refine j_zret (pc := 131) dX8_meets_131 rfl (by first | assumption | decide) ?_
              exact ⟨rfl, by rw [zmt, if_neg hx, if_neg hh, if_neg h0, if_pos h1, show c.2.1 = false from htx, if_neg (by decide), decide_eq_true (Int32.not_le.mp h110)]; rfl⟩
        · have h0 : c.2.2.1 = 0 := (nI_eq (b := 0) (by omega) (by decide)).mp h88
          refine j_iload (pc := 91) dX8_meets_91 rfl ?_
          refine j_if_ne (pc := 93) (tgt := 100) dX8_meets_93 (by decide) (fun h93 => ?_) (fun h93 => ?_)
          · refine j_iconst (pc := 100) (v := 0) dX8_meets_100 (by decide) ?_
            refine j_zret (pc := 101) dX8_meets_101 rfl (by first | assumption | decide) ?_
            exact ⟨rfl, by rw [zmt, if_neg hx, if_neg hh, if_pos h0, show c.2.1 = false from htx, if_neg (by decide), decide_eq_false h93]; rfl⟩
          · refine j_iconst (pc := 96) (v := 1) dX8_meets_96 (by decide) ?_
            refine j_goto (pc := 97) (tgt := 101) dX8_meets_97 (by decide) ?_
            refine j_zret (pc := 101) dX8_meets_101 rfl (by first | assumption | decide) ?_
            exact ⟨rfl, by rw [zmt, if_neg hx, if_neg hh, if_pos h0, show c.2.1 = false from htx, if_neg (by decide), decide_eq_true h93]; rfl⟩
    · have hh : 3 ≤ c.2.2.1 := (nI_leI (a := 3) (by decide) (by omega)).mp (Int32.not_lt.mp h31)
      refine j_iload (pc := 34) dX8_meets_34 rfl ?_
      refine j_iconst (pc := 36) (v := 4) dX8_meets_36 (by decide) ?_
      refine j_icmp_ne (pc := 37) (tgt := 44) dX8_meets_37 (by decide) (fun h37 => ?_) (fun h37 => ?_)
      · refine j_iconst (pc := 44) (v := 0) dX8_meets_44 (by decide) ?_
        refine j_zret (pc := 45) dX8_meets_45 rfl (by first | assumption | decide) ?_
        exact ⟨rfl, by rw [zmt, if_neg hx, if_pos hh, decide_eq_false (fun q => h37 (by rw [q]; rfl))]; rfl⟩
      · refine j_iconst (pc := 40) (v := 1) dX8_meets_40 (by decide) ?_
        refine j_goto (pc := 41) (tgt := 45) dX8_meets_41 (by decide) ?_
        refine j_zret (pc := 45) dX8_meets_45 rfl (by first | assumption | decide) ?_
        exact ⟨rfl, by rw [zmt, if_neg hx, if_pos hh, decide_eq_true ((nI_eq (b := 4) (by omega) (by decide)).mp h37)]; rfl⟩
  · have hx : x = zMiss := (lg_cmp_eq _ _).mp h13
    refine j_iload (pc := 16) dX8_meets_16 rfl ?_
    refine j_iconst (pc := 18) (v := 3) dX8_meets_18 (by decide) ?_
    refine j_icmp_ne (pc := 19) (tgt := 26) dX8_meets_19 (by decide) (fun h19 => ?_) (fun h19 => ?_)
    · refine j_iconst (pc := 26) (v := 0) dX8_meets_26 (by decide) ?_
      refine j_zret (pc := 27) dX8_meets_27 rfl (by first | assumption | decide) ?_
      exact ⟨rfl, by rw [zmt, if_pos hx, decide_eq_false (fun q => h19 (by rw [q]; rfl))]; rfl⟩
    · refine j_iconst (pc := 22) (v := 1) dX8_meets_22 (by decide) ?_
      refine j_goto (pc := 23) (tgt := 27) dX8_meets_23 (by decide) ?_
      refine j_zret (pc := 27) dX8_meets_27 rfl (by first | assumption | decide) ?_
      exact ⟨rfl, by rw [zmt, if_pos hx, decide_eq_true ((nI_eq (b := 3) (by omega) (by decide)).mp h19)]; rfl⟩
def zps (V : List zSe) (vl : Nat → Int64) : Bool := V.all (fun c => zmt c (vl c.1))
theorem zps_take {V : List zSe} {vl : Nat → Int64} {i : Nat} {c : zSe} (h : V[i]? = some c) : zps (V.take (i + 1)) vl = (zps (V.take i) vl && zmt c (vl c.1)) := by
  unfold zps
  rw [List.take_add_one, h, List.all_append]
  simp
theorem zps_miss {V : List zSe} {vl : Nat → Int64} {i : Nat} {c : zSe} (h : V[i]? = some c) (hc : zmt c (vl c.1) = false) : zps V vl = false := by
  unfold zps
  exact List.all_eq_false.mpr ⟨c, List.mem_of_getElem? h, by rw [hc]; decide⟩
set_option maxRecDepth 20000 in
set_option maxHeartbeats 4000000 in
theorem c_lets {E : zE} {S : zM} {a d id gv : Nat} {V : List zSe} {th : Nat → Bool} {vl : Nat → Nat → Int64} (h : zSv S a V) (hR : zRo S d th vl gv) (hid : id < 64) : zSp E 2 0 0 mX8_lets cX8_lets [zR a, zR d, zI (nI id)] S (fun r T => S = T ∧ r = some (zI (zbi (zps V (vl id))))) := by
  refine zSp.of (by decide) rfl (Nat.le_of_ble_eq_true rfl) rfl ?_
  have k1 := h.1.1
  have k2 := h.1.2.1
  have kd := hR.1
  have h4 := h.2.2.2.1
  have lp : ∀ (n i : Nat), i + n = V.length → zps (V.take i) (vl id) = true → zJ E 2 0 0 mX8_lets cX8_lets 2 [some (zR a), some (zR d), some (zI (nI id)), some (zI (nI i))] [] S (fun r T => S = T ∧ r = some (zI (zbi (zps V (vl id))))) := by
    intro n
    induction n with
    | zero =>
      intro i hi hq
      have ei : i = V.length := by omega
      subst ei
      refine j_iload_n (pc := 2) dX8_lets_2 rfl ?_
      refine j_aload_n (pc := 3) dX8_lets_3 rfl ?_
      refine j_getI (pc := 4) dX8_lets_4 f_X8_25 (Or.inl rfl) (by assumption) ?_
      rw [h.2.2.1]
      refine j_icmp_ge (pc := 7) (tgt := 37) dX8_lets_7 (by decide) (fun h7 => ?_) (fun h7 => ?_)
      · refine j_iconst (pc := 37) (v := 1) dX8_lets_37 (by decide) ?_
        refine j_zret (pc := 38) dX8_lets_38 rfl (by first | assumption | decide) ?_
        rw [List.take_length] at hq
        exact ⟨rfl, by rw [hq]; rfl⟩
      · exact absurd (nI_le (Nat.le_refl _) (by omega)) h7
    | succ n ih =>
      intro i hi hq
      have hlt : i < V.length := by omega
      have hin : vp_in (nI i) 2 := vp_in_nI (by omega) (by decide)
      have hcl : (nI i).toNatClampNeg = i := nI_clamp (by omega)
      obtain ⟨c, he⟩ : ∃ c, V[i]? = some c := ⟨V[i], List.getElem?_eq_getElem hlt⟩
      have hcol := (h.2.2.2.2 i c he).2.2.2.2.1
      refine j_iload_n (pc := 2) dX8_lets_2 rfl ?_
      refine j_aload_n (pc := 3) dX8_lets_3 rfl ?_
      refine j_getI (pc := 4) dX8_lets_4 f_X8_25 (Or.inl rfl) (by assumption) ?_
      rw [h.2.2.1]
      refine j_icmp_ge (pc := 7) (tgt := 37) dX8_lets_7 (by decide) (fun h7 => ?_) (fun h7 => ?_)
      · exact absurd h7 (nI_ge (by omega) (by omega))
      · refine j_aload_n (pc := 10) dX8_lets_10 rfl ?_
        refine j_iload_n (pc := 11) dX8_lets_11 rfl ?_
        refine j_aload_n (pc := 12) dX8_lets_12 rfl ?_
        refine j_iload_n (pc := 13) dX8_lets_13 rfl ?_
        refine j_aload_n (pc := 14) dX8_lets_14 rfl ?_
        refine j_getP (pc := 15) dX8_lets_15 f_X8_9 (Or.inr ⟨_, rfl⟩) (by assumption) ?_
        rw [h.2.1.1]
        refine j_iload_n (pc := 18) dX8_lets_18 rfl ?_
        refine j_iald (pc := 19) dX8_lets_19 (by assumption) (by assumption) ?_
        rw [hcl, (h.2.2.2.2 i c he).1]
        refine j_callV (pc := 20) (t := 7) (c_read hR hid hcol) dX8_lets_20 l_X8_29 mk_X7_read mv_X7_read (by decide) rfl (by assumption) (by decide) rfl rfl (Nat.le_of_ble_eq_true rfl) (Nat.le_refl _) (Nat.le_refl _) (fun r T h_1 => ?_)
        obtain ⟨rfl, rfl⟩ := h_1
        refine j_callV (pc := 23) (t := 8) (c_meets h he _) dX8_lets_23 l_X8_35 mk_X8_meets mv_X8_meets (by decide) rfl (by assumption) (by decide) rfl rfl (Nat.le_of_ble_eq_true rfl) (Nat.le_refl _) (Nat.le_refl _) (fun r T h_1 => ?_)
        obtain ⟨rfl, rfl⟩ := h_1
        refine j_if_ne (pc := 26) (tgt := 31) dX8_lets_26 (by decide) (fun h26 => ?_) (fun h26 => ?_)
        · refine j_iinc (pc := 31) (v := _ + 1) (ls' := [_, _, _, _]) dX8_lets_31 rfl rfl (by decide) rfl rfl ?_
          refine j_goto (pc := 34) (tgt := 2) dX8_lets_34 (by decide) ?_
          rw [nI_1]
          refine ih (i + 1) (by omega) ?_
          have hm : zmt c (vl id c.1) = true := by cases q : zmt c (vl id c.1) <;> rw [q] at h26 <;> first | rfl | exact absurd rfl h26
          rw [zps_take he, hq, hm]
          rfl
        · refine j_iconst (pc := 29) (v := 0) dX8_lets_29 (by decide) ?_
          refine j_zret (pc := 30) dX8_lets_30 rfl (by first | assumption | decide) ?_
          exact ⟨rfl, by rw [zps_miss he (zbi_eq0.mp h26)]; rfl⟩
  refine j_iconst (pc := 0) (v := 0) dX8_lets_0 (by decide) ?_
  refine j_istore_n (pc := 1) (ls' := [_, _, _, _]) dX8_lets_1 (by decide) rfl rfl ?_
  exact lp V.length 0 (by omega) rfl
theorem zSv.add {S T : zM} {a : Nat} {V : List zSe} (h : zSv S a V) (e : zSe) (he : e.1 < 4) (he2 : e.2.2.1 < 5) (hl : V.length < 2) (hT : zkd T = zkd S ∧ zgP T = zgP S) (h4 : zgI T a 4 = nI (V.length + 1)) (h5 : ∀ k, k < 2 → zgI T (a + 1) k = (if k = V.length then nI e.1 else zgI S (a + 1) k) ∧ zgI T (a + 2) k = (if k = V.length then zbi e.2.1 else zgI S (a + 2) k) ∧ zgI T (a + 3) k = (if k = V.length then nI e.2.2.1 else zgI S (a + 3) k) ∧ zgL T (a + 4) k = (if k = V.length then e.2.2.2 else zgL S (a + 4) k)) : zSv T a (V ++ [e]) := by
  obtain ⟨ks, ps, i1, i2, e1⟩ := h
  refine ⟨by rw [hT.1]; exact ks, by rw [hT.2]; exact ps, by rw [h4]; simp, by simp; omega, fun i f hf => ?_⟩
  have hi : i < (V ++ [e]).length := (List.getElem?_eq_some_iff.mp hf).1
  simp only [List.length_append, List.length_cons, List.length_nil] at hi
  obtain ⟨g1, g2, g3, g4⟩ := h5 i (by omega)
  by_cases q : i = V.length
  · subst q
    rw [List.getElem?_concat_length] at hf
    cases hf
    rw [if_pos rfl] at g1 g2 g3 g4
    exact ⟨g1, g2, g3, g4, he, he2⟩
  · rw [List.getElem?_append_left (by omega)] at hf
    rw [if_neg q] at g1 g2 g3 g4
    rw [g1, g2, g3, g4]
    exact e1 i f hf
set_option maxRecDepth 20000 in
set_option maxHeartbeats 4000000 in
theorem c_sadd {E : zE} {S : zM} {a : Nat} {V : List zSe} {e : zSe} (h : zSv S a V) (he : e.1 < 4) (he2 : e.2.2.1 < 5) (hl : V.length < 2) : zSp E 0 0 0 mX8_add cX8_add [zR a, zI (nI e.1), zI (zbi e.2.1), zI (nI e.2.2.1), zL e.2.2.2] S (fun r T => r = none ∧ zSv T a (V ++ [e]) ∧ zF (zX5 a) S T) := by
  refine zSp.of (by decide) rfl (Nat.le_of_ble_eq_true rfl) rfl ?_
  obtain ⟨⟨k1, k2, k3, k4, k5⟩, ⟨p1, p2, p3, p4⟩, i1, i2, e1⟩ := id h
  have hin : vp_in (nI V.length) 2 := vp_in_nI hl (by decide)
  have hcl : (nI V.length).toNatClampNeg = V.length := nI_clamp (by omega)
  refine j_aload_n (pc := 0) dX8_add_0 rfl ?_
  refine j_getI (pc := 1) dX8_add_1 f_X8_25 (Or.inl rfl) (by assumption) ?_
  rw [i1]
  refine j_iconst (pc := 4) (v := 2) dX8_add_4 (by decide) ?_
  refine j_icmp_ge (pc := 5) (tgt := 59) dX8_add_5 (by decide) (fun h5 => ?_) (fun h5 => ?_)
  · refine j_vret (pc := 59) dX8_add_59 rfl ?_
    exact absurd h5 (nI_ge (b := 2) hl (by decide))
  · refine j_aload_n (pc := 8) dX8_add_8 rfl ?_
    refine j_getP (pc := 9) dX8_add_9 f_X8_9 (Or.inr ⟨_, rfl⟩) (by assumption) ?_
    rw [p1]
    refine j_aload_n (pc := 12) dX8_add_12 rfl ?_
    refine j_getI (pc := 13) dX8_add_13 f_X8_25 (Or.inl rfl) (by assumption) ?_
    rw [i1]
    refine j_iload_n (pc := 16) dX8_add_16 rfl ?_
    refine j_iast (pc := 17) dX8_add_17 (by assumption) (by assumption) ?_
    refine j_aload_n (pc := 18) dX8_add_18 rfl ?_
    refine j_getP (pc := 19) dX8_add_19 f_X8_15 (Or.inr ⟨_, rfl⟩) (by assumption) ?_
    rw [hcl, show zgP (zwI S (a + 1) V.length (nI e.1)) a 1 = a + 2 from p2]
    refine j_aload_n (pc := 22) dX8_add_22 rfl ?_
    refine j_getI (pc := 23) dX8_add_23 f_X8_25 (Or.inl rfl) (by assumption) ?_
    rw [show zgI (zwI S (a + 1) V.length (nI e.1)) a 4 = nI V.length from (zgI_ne (by omega)).trans i1]
    refine j_iload_n (pc := 26) dX8_add_26 rfl ?_
    refine j_iast (pc := 27) dX8_add_27 (by assumption) (by assumption) ?_
    refine j_aload_n (pc := 28) dX8_add_28 rfl ?_
    refine j_getP (pc := 29) dX8_add_29 f_X8_18 (Or.inr ⟨_, rfl⟩) (by assumption) ?_
    rw [hcl, show zgP (zwI (zwI S (a + 1) V.length (nI e.1)) (a + 2) V.length (zbi e.2.1)) a 2 = a + 3 from p3]
    refine j_aload_n (pc := 32) dX8_add_32 rfl ?_
    refine j_getI (pc := 33) dX8_add_33 f_X8_25 (Or.inl rfl) (by assumption) ?_
    rw [show zgI (zwI (zwI S (a + 1) V.length (nI e.1)) (a + 2) V.length (zbi e.2.1)) a 4 = nI V.length from (zgI_ne (by omega)).trans ((zgI_ne (by omega)).trans i1)]
    refine j_iload_n (pc := 36) dX8_add_36 rfl ?_
    refine j_iast (pc := 37) dX8_add_37 (by assumption) (by assumption) ?_
    refine j_aload_n (pc := 38) dX8_add_38 rfl ?_
    refine j_getP (pc := 39) dX8_add_39 f_X8_21 (Or.inr ⟨_, rfl⟩) (by assumption) ?_
    rw [hcl, show zgP (zwI (zwI (zwI S (a + 1) V.length (nI e.1)) (a + 2) V.length (zbi e.2.1)) (a + 3) V.length (nI e.2.2.1)) a 3 = a + 4 from p4]
    refine j_aload_n (pc := 42) dX8_add_42 rfl ?_
    refine j_getI (pc := 43) dX8_add_43 f_X8_25 (Or.inl rfl) (by assumption) ?_
    rw [show zgI (zwI (zwI (zwI S (a + 1) V.length (nI e.1)) (a + 2) V.length (zbi e.2.1)) (a + 3) V.length (nI e.2.2.1)) a 4 = nI V.length from (zgI_ne (by omega)).trans ((zgI_ne (by omega)).trans ((zgI_ne (by omega)).trans i1))]
    refine j_lload (pc := 46) dX8_add_46 rfl ?_
    refine j_last (pc := 48) dX8_add_48 (by assumption) (by assumption) ?_
    refine j_aload_n (pc := 49) dX8_add_49 rfl ?_
    refine j_dup (pc := 50) dX8_add_50 rfl ?_
    refine j_getI (pc := 51) dX8_add_51 f_X8_25 (Or.inl rfl) (by assumption) ?_
    rw [hcl, show zgI (zwL (zwI (zwI (zwI S (a + 1) V.length (nI e.1)) (a + 2) V.length (zbi e.2.1)) (a + 3) V.length (nI e.2.2.1)) (a + 4) V.length e.2.2.2) a 4 = nI V.length from (zgI_ne (S := (zwI (zwI S (a + 1) V.length (nI e.1)) (a + 2) V.length (zbi e.2.1))) (by omega)).trans ((zgI_ne (by omega)).trans ((zgI_ne (by omega)).trans i1))]
    refine j_iconst (pc := 54) (v := 1) dX8_add_54 (by decide) ?_
    refine j_iadd (pc := 55) dX8_add_55 ?_
    rw [nI_1]
    refine j_putI (pc := 56) dX8_add_56 f_X8_25 rfl (by assumption) rfl ?_
    refine j_vret (pc := 59) dX8_add_59 rfl ?_
    refine ⟨rfl, h.add e he he2 hl ⟨rfl, rfl⟩ zgI_self (fun k hk => ?_), ((((zF.wI (by simp [zX5])).tr (zF.wI (by simp [zX5]))).tr (zF.wI (by simp [zX5]))).tr (zF.wL (by simp [zX5]))).tr (zF.wI (by simp [zX5]))⟩
    by_cases q : k = V.length <;> simp [q, zgI, zgL, zwI, zwL]
