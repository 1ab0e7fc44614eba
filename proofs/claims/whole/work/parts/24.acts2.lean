abbrev zX3 (a : Nat) : Nat → Prop := fun c => c = a ∨ c = a + 1 ∨ c = a + 2
theorem zF.cL {X : Nat → Prop} {S : zM} {a b n : Nat} (h : X b) : zF X S (zcL S a b n) := ⟨rfl, rfl, rfl, fun _ _ _ => rfl, fun c hc j => by
  show (if c = b ∧ j < n then zgL S a j else zgL S c j) = zgL S c j
  exact if_neg (fun q : c = b ∧ j < n => hc (q.1 ▸ h))⟩
theorem zgL_cL (S : zM) (a b n c j : Nat) : zgL (zcL S a b n) c j = if c = b ∧ j < n then zgL S a j else zgL S c j := rfl
set_option maxRecDepth 20000 in
set_option maxHeartbeats 4000000 in
theorem c_copy {E : zE} {S : zM} {a g : Nat} {th : Nat → Bool} {vl : Nat → Nat → Int64} {a' g' : Nat} {th' : Nat → Bool} {vl' : Nat → Nat → Int64} (h : zRo S a th vl g) (h' : zRo S a' th' vl' g') (hd : a + 2 < a' ∨ a' + 2 < a) : zSp E 1 0 0 mX7_copy cX7_copy [zR a, zR a'] S (fun r T => r = none ∧ zRo T a th' vl' g' ∧ zF (zX3 a) S T) := by
  refine zSp.of (by decide) rfl (Nat.le_of_ble_eq_true rfl) rfl ?_
  obtain ⟨k1, k2, k3, p1, p2, i1, i2, t1, v1, g1⟩ := id h
  obtain ⟨k1', k2', k3', p1', p2', i1', i2', t1', v1', g1'⟩ := id h'
  have lp : ∀ (n i : Nat) (T : zM), i + n = 64 → zF (zX3 a) S T → zgI T a 2 = nI g' → zgI T a 3 = nI (fb_ct th' 64) → (∀ k, k < 256 → zgL T (a + 2) k = zgL S (a' + 2) k) → (∀ k, k < i → zgI T (a + 1) k = zbi (th' k)) → zJ E 1 0 0 mX7_copy cX7_copy 34 [some (zR a), some (zR a'), some (zI (nI i))] [] T (fun r T => r = none ∧ zRo T a th' vl' g' ∧ zF (zX3 a) S T) := by
    intro n
    induction n with
    | zero =>
      intro i T hi hT e2 e3 e4 e5
      have ei : i = 64 := by omega
      subst ei
      refine j_iload_n (pc := 34) dX7_copy_34 rfl ?_
      refine j_bipush (pc := 35) (v := 64) dX7_copy_35 (by decide) ?_
      refine j_icmp_ge (pc := 37) (tgt := 58) dX7_copy_37 (by decide) (fun h37 => ?_) (fun h37 => ?_)
      · refine j_vret (pc := 58) dX7_copy_58 rfl ?_
        exact ⟨rfl, ⟨by rw [hT.1]; exact k1, by rw [hT.1]; exact k2, by rw [hT.1]; exact k3, by rw [hT.2.2.1]; exact p1, by rw [hT.2.2.1]; exact p2, e2, e3, e5, fun i j hi hj => by rw [e4 _ (by omega)]; exact v1' i j hi hj, g1'⟩, hT⟩
      · exact absurd (nI_le (a := 64) (Nat.le_refl _) (by decide)) h37
    | succ n ih =>
      intro i T hi hT e2 e3 e4 e5
      have hlt : i < 64 := by omega
      have hcl : (nI i).toNatClampNeg = i := nI_clamp (by omega)
      have hin : vp_in (nI i) 64 := vp_in_nI hlt (by decide)
      have ka : zkd T a = (8, 0) := by rw [hT.1]; exact k1
      have ka' : zkd T a' = (8, 0) := by rw [hT.1]; exact k1'
      have kb : zkd T (a + 1) = (16, 64) := by rw [hT.1]; exact k2
      have kb' : zkd T (a' + 1) = (16, 64) := by rw [hT.1]; exact k2'
      refine j_iload_n (pc := 34) dX7_copy_34 rfl ?_
      refine j_bipush (pc := 35) (v := 64) dX7_copy_35 (by decide) ?_
      refine j_icmp_ge (pc := 37) (tgt := 58) dX7_copy_37 (by decide) (fun h37 => ?_) (fun h37 => ?_)
      · exact absurd h37 (nI_ge (b := 64) (by omega) (by decide))
      · refine j_aload_n (pc := 40) dX7_copy_40 rfl ?_
        refine j_getP (pc := 41) dX7_copy_41 f_X7_9 (Or.inr ⟨_, rfl⟩) (by assumption) ?_
        rw [show zgP T a 0 = a + 1 from by rw [hT.2.2.1]; exact p1]
        refine j_iload_n (pc := 44) dX7_copy_44 rfl ?_
        refine j_aload_n (pc := 45) dX7_copy_45 rfl ?_
        refine j_getP (pc := 46) dX7_copy_46 f_X7_9 (Or.inr ⟨_, rfl⟩) (by assumption) ?_
        rw [show zgP T a' 0 = a' + 1 from by rw [hT.2.2.1]; exact p1']
        refine j_iload_n (pc := 49) dX7_copy_49 rfl ?_
        refine j_zald (pc := 50) dX7_copy_50 (by assumption) (by assumption) ?_
        rw [hcl, show zgI T (a' + 1) i = zbi (th' i) from by rw [hT.2.2.2.1 _ (by intro q; rcases q with q | q | q <;> omega)]; exact t1' i hlt]
        have hb := zbi_01 (th' i)
        refine j_zast (pc := 51) dX7_copy_51 (by assumption) (by assumption) (by first | assumption | decide) ?_
        refine j_iinc (pc := 52) (v := _ + 1) (ls' := [_, _, _]) dX7_copy_52 rfl rfl (by decide) rfl rfl ?_
        refine j_goto (pc := 55) (tgt := 34) dX7_copy_55 (by decide) ?_
        rw [nI_1, hcl]
        refine ih (i + 1) _ (by omega) (hT.tr (zF.wI (Or.inr (Or.inl rfl)))) ?_ ?_ e4 (fun k hk => ?_)
        · rw [zgI_ne (by omega)]; exact e2
        · rw [zgI_ne (by omega)]; exact e3
        · rw [zgI_wI]
          by_cases ek : k = i
          · rw [if_pos ⟨rfl, ek⟩, ek]
          · rw [if_neg (fun q => ek q.2)]
            exact e5 k (by omega)
  refine j_aload_n (pc := 0) dX7_copy_0 rfl ?_
  refine j_aload_n (pc := 1) dX7_copy_1 rfl ?_
  refine j_getI (pc := 2) dX7_copy_2 f_X7_19 (Or.inl rfl) (by assumption) ?_
  rw [i1']
  refine j_putI (pc := 5) dX7_copy_5 f_X7_19 rfl (by assumption) rfl ?_
  refine j_aload_n (pc := 8) dX7_copy_8 rfl ?_
  refine j_aload_n (pc := 9) dX7_copy_9 rfl ?_
  refine j_getI (pc := 10) dX7_copy_10 f_X7_23 (Or.inl rfl) (by assumption) ?_
  rw [show zgI (zwI S a 2 (nI g')) a' 3 = nI (fb_ct th' 64) from (zgI_ne (by omega)).trans i2']
  refine j_putI (pc := 13) dX7_copy_13 f_X7_23 rfl (by assumption) rfl ?_
  refine j_aload_n (pc := 16) dX7_copy_16 rfl ?_
  refine j_getP (pc := 17) dX7_copy_17 f_X7_15 (Or.inr ⟨_, rfl⟩) (by assumption) ?_
  rw [show zgP (zwI (zwI S a 2 (nI g')) a 3 (nI (fb_ct th' 64))) a' 1 = a' + 2 from p2']
  refine j_iconst (pc := 20) (v := 0) dX7_copy_20 (by decide) ?_
  refine j_aload_n (pc := 21) dX7_copy_21 rfl ?_
  refine j_getP (pc := 22) dX7_copy_22 f_X7_15 (Or.inr ⟨_, rfl⟩) (by assumption) ?_
  rw [show zgP (zwI (zwI S a 2 (nI g')) a 3 (nI (fb_ct th' 64))) a 1 = a + 2 from p2]
  refine j_iconst (pc := 25) (v := 0) dX7_copy_25 (by decide) ?_
  refine j_sipush (pc := 26) (v := 256) dX7_copy_26 (by decide) ?_
  refine j_copyL (pc := 29) (n := 256) dX7_copy_29 cp_l (by assumption) (by assumption) (by decide) (Nat.le_of_ble_eq_true rfl) ?_
  refine j_iconst (pc := 32) (v := 0) dX7_copy_32 (by decide) ?_
  refine j_istore_n (pc := 33) (ls' := [_, _, _]) dX7_copy_33 (by decide) rfl rfl ?_
  refine lp 64 0 _ (by omega) (((zF.wI (Or.inl rfl)).tr (zF.wI (Or.inl rfl))).tr (zF.cL (Or.inr (Or.inr rfl)))) ?_ ?_ (fun k hk => ?_) (fun k hk => absurd hk (Nat.not_lt_zero k))
  · exact (zgI_nk (by decide)).trans zgI_self
  · exact zgI_self
  · rw [zgL_cL, if_pos ⟨rfl, hk⟩]
    rfl
set_option maxRecDepth 20000 in
set_option maxHeartbeats 4000000 in
theorem c_add {E : zE} {S : zM} {a g : Nat} {th : Nat → Bool} {vl : Nat → Nat → Int64} (h : zRo S a th vl g) (hg : g < 64) : zSp E 1 0 0 mX7_add cX7_add [zR a] S (fun r T => r = some (zI (nI g)) ∧ zRo T a (va_up th g true) vl (g + 1) ∧ zF (fun c => c = a ∨ c = a + 1) S T) := by
  refine zSp.of (by decide) rfl (Nat.le_of_ble_eq_true rfl) rfl ?_
  obtain ⟨k1, k2, k3, p1, p2, i1, i2, t1, v1, g1⟩ := id h
  refine j_aload_n (pc := 0) dX7_add_0 rfl ?_
  refine j_getI (pc := 1) dX7_add_1 f_X7_19 (Or.inl rfl) (by assumption) ?_
  rw [i1]
  refine j_istore_n (pc := 4) (ls' := [_, _]) dX7_add_4 (by decide) rfl rfl ?_
  refine j_iload_n (pc := 5) dX7_add_5 rfl ?_
  refine j_bipush (pc := 6) (v := 64) dX7_add_6 (by decide) ?_
  refine j_icmp_ge (pc := 8) (tgt := 27) dX7_add_8 (by decide) (fun h8 => ?_) (fun h8 => ?_)
  · refine j_iload_n (pc := 27) dX7_add_27 rfl ?_
    refine j_iret (pc := 28) dX7_add_28 rfl ?_
    exact absurd h8 (nI_ge (b := 64) hg (by decide))
  · refine j_aload_n (pc := 11) dX7_add_11 rfl ?_
    refine j_dup (pc := 12) dX7_add_12 rfl ?_
    refine j_getI (pc := 13) dX7_add_13 f_X7_19 (Or.inl rfl) (by assumption) ?_
    rw [i1]
    refine j_iconst (pc := 16) (v := 1) dX7_add_16 (by decide) ?_
    refine j_iadd (pc := 17) dX7_add_17 ?_
    rw [nI_1]
    refine j_putI (pc := 18) dX7_add_18 f_X7_19 rfl (by assumption) rfl ?_
    have h2 : zRo (zwI S a 2 (nI (g + 1))) a th vl (g + 1) := ⟨k1, k2, k3, p1, p2, zgI_self, (zgI_nk (by decide)).trans i2, fun i hi => (zgI_ne (by omega)).trans (t1 i hi), v1, by omega⟩
    have kk := h2.1
    refine j_aload_n (pc := 21) dX7_add_21 rfl ?_
    refine j_iload_n (pc := 22) dX7_add_22 rfl ?_
    refine j_iconst (pc := 23) (v := 1) dX7_add_23 (by decide) ?_
    refine j_callV (pc := 24) (t := 7) (c_set (b := true) h2 hg) dX7_add_24 l_X7_26 mk_X7_set mv_X7_set (by decide) rfl (by assumption) (by decide) rfl rfl (Nat.le_of_ble_eq_true rfl) (Nat.le_refl _) (Nat.le_refl _) (fun r T h_1 => ?_)
    obtain ⟨rfl, h3, f3⟩ := h_1
    refine j_iload_n (pc := 27) dX7_add_27 rfl ?_
    refine j_iret (pc := 28) dX7_add_28 rfl ?_
    exact ⟨rfl, h3, (zF.wI (Or.inl rfl)).tr f3⟩
/-! ACTS: the latest forty, each in its slot -/
def zAc (S : zM) (a : Nat) (so si sc : Nat → Nat) (ol : Nat → Int64) (v : Nat) : Prop := (zkd S a = (1, 0) ∧ zkd S (a + 1) = (14, 40) ∧ zkd S (a + 2) = (14, 40) ∧ zkd S (a + 3) = (14, 40) ∧ zkd S (a + 4) = (15, 40)) ∧ (zgP S a 0 = a + 1 ∧ zgP S a 1 = a + 2 ∧ zgP S a 2 = a + 3 ∧ zgP S a 3 = a + 4) ∧ zgI S a 4 = nI v ∧ v < 2 ^ 20 ∧ (∀ k, k < 40 → zgI S (a + 1) k = nI (so k) ∧ zgI S (a + 2) k = nI (si k) ∧ zgI S (a + 3) k = nI (sc k) ∧ zgL S (a + 4) k = ol k) ∧ ∀ k, k < 40 → so k < 3 ∧ si k < 64 ∧ sc k < 4
theorem zAc.keep {X : Nat → Prop} {S T : zM} {a v : Nat} {so si sc : Nat → Nat} {ol : Nat → Int64} (h : zAc S a so si sc ol v) (f : zF X S T) (h0 : ∀ k, k < 5 → ¬ X (a + k)) : zAc T a so si sc ol v := by
  obtain ⟨⟨k1, k2, k3, k4, k5⟩, ⟨p1, p2, p3, p4⟩, i1, i2, e1, e2⟩ := h
  refine ⟨⟨by rw [f.1]; exact k1, by rw [f.1]; exact k2, by rw [f.1]; exact k3, by rw [f.1]; exact k4, by rw [f.1]; exact k5⟩, ⟨by rw [f.2.2.1]; exact p1, by rw [f.2.2.1]; exact p2, by rw [f.2.2.1]; exact p3, by rw [f.2.2.1]; exact p4⟩, by rw [f.2.2.2.1 a (h0 0 (by decide))]; exact i1, i2, fun k hk => ?_, e2⟩
  rw [f.2.2.2.1 _ (h0 1 (by decide)), f.2.2.2.1 _ (h0 2 (by decide)), f.2.2.2.1 _ (h0 3 (by decide)), f.2.2.2.2 _ (h0 4 (by decide))]
  exact e1 k hk
theorem zv40 {v : Nat} (h : v < 2 ^ 20) : (if (0 : Int32) < nI v - 40 then nI v - 40 else 0) = nI (v - 40) := by
  have e : (nI v - nI 40).toInt = (v : Int) - 40 := pk_sub_toInt (by omega) (by decide)
  have e' : (nI v - 40).toInt = (v : Int) - 40 := e
  by_cases hv : 40 < v
  · rw [if_pos (by rw [Int32.lt_iff_toInt_lt, e']; show (0 : Int) < _; omega)]
    exact pk_sub (a := v) (b := 40) (by omega)
  · rw [if_neg (by rw [Int32.lt_iff_toInt_lt, e']; show ¬ (0 : Int) < _; omega), show v - 40 = 0 by omega]
    rfl
set_option maxRecDepth 20000 in
set_option maxHeartbeats 4000000 in
theorem c_earliest {E : zE} {S : zM} {a v : Nat} {so si sc : Nat → Nat} {ol : Nat → Int64} (h : zAc S a so si sc ol v) : zSp E 1 0 0 mX0_earliest cX0_earliest [zR a] S (fun r T => S = T ∧ r = some (zI (nI (v - 40)))) := by
  refine zSp.of (by decide) rfl (Nat.le_of_ble_eq_true rfl) rfl ?_
  obtain ⟨⟨k1, k2, k3, k4, k5⟩, ⟨p1, p2, p3, p4⟩, i1, i2, e1, e2⟩ := id h
  refine j_iconst (pc := 0) (v := 0) dX0_earliest_0 (by decide) ?_
  refine j_aload_n (pc := 1) dX0_earliest_1 rfl ?_
  refine j_getI (pc := 2) dX0_earliest_2 f_X0_25 (Or.inl rfl) (by assumption) ?_
  rw [i1]
  refine j_bipush (pc := 5) (v := 40) dX0_earliest_5 (by decide) ?_
  refine j_isub (pc := 7) dX0_earliest_7 ?_
  refine j_callS (pc := 8) (c_max _ _) dX0_earliest_8 l_X0_29 mk_J9_max_7cf53 ms_J9_max_7cf53 (by decide) rfl rfl (Nat.le_of_ble_eq_true rfl) (Nat.le_refl _) (Nat.le_refl _) (fun r T h_1 => ?_)
  obtain ⟨rfl, rfl⟩ := h_1
  refine j_iret (pc := 11) dX0_earliest_11 rfl ?_
  exact ⟨rfl, by rw [zv40 i2]⟩
def zcv (v : Nat) (x : Int32) : Bool := decide (nI (v - 40) ≤ x ∧ x ≤ nI v)
set_option maxRecDepth 20000 in
set_option maxHeartbeats 4000000 in
theorem c_canView {E : zE} {S : zM} {a v : Nat} {so si sc : Nat → Nat} {ol : Nat → Int64} (h : zAc S a so si sc ol v) (x : Int32) : zSp E 2 0 0 mX0_canView cX0_canView [zR a, zI x] S (fun r T => S = T ∧ r = some (zI (zbi (zcv v x)))) := by
  refine zSp.of (by decide) rfl (Nat.le_of_ble_eq_true rfl) rfl ?_
  obtain ⟨⟨k1, k2, k3, k4, k5⟩, ⟨p1, p2, p3, p4⟩, i1, i2, e1, e2⟩ := id h
  refine j_iload_n (pc := 0) dX0_canView_0 rfl ?_
  refine j_aload_n (pc := 1) dX0_canView_1 rfl ?_
  refine j_callV (pc := 2) (t := 0) (c_earliest h) dX0_canView_2 l_X0_35 mk_X0_earliest mv_X0_earliest (by decide) rfl (by assumption) (by decide) rfl rfl (Nat.le_of_ble_eq_true rfl) (Nat.le_refl _) (Nat.le_refl _) (fun r T h_1 => ?_)
  obtain ⟨rfl, rfl⟩ := h_1
  refine j_icmp_lt (pc := 5) (tgt := 20) dX0_canView_5 (by decide) (fun h5 => ?_) (fun h5 => ?_)
  · refine j_iconst (pc := 20) (v := 0) dX0_canView_20 (by decide) ?_
    refine j_zret (pc := 21) dX0_canView_21 rfl (by first | assumption | decide) ?_
    exact ⟨rfl, by rw [zcv, decide_eq_false (fun q => Int32.not_le.mpr h5 q.1)]; rfl⟩
  · refine j_iload_n (pc := 8) dX0_canView_8 rfl ?_
    refine j_aload_n (pc := 9) dX0_canView_9 rfl ?_
    refine j_getI (pc := 10) dX0_canView_10 f_X0_25 (Or.inl rfl) (by assumption) ?_
    rw [i1]
    refine j_icmp_gt (pc := 13) (tgt := 20) dX0_canView_13 (by decide) (fun h13 => ?_) (fun h13 => ?_)
    · refine j_iconst (pc := 20) (v := 0) dX0_canView_20 (by decide) ?_
      refine j_zret (pc := 21) dX0_canView_21 rfl (by first | assumption | decide) ?_
      exact ⟨rfl, by rw [zcv, decide_eq_false (fun q => Int32.not_le.mpr h13 q.2)]; rfl⟩
    · refine j_iconst (pc := 16) (v := 1) dX0_canView_16 (by decide) ?_
      refine j_goto (pc := 17) (tgt := 21) dX0_canView_17 (by decide) ?_
      refine j_zret (pc := 21) dX0_canView_21 rfl (by first | assumption | decide) ?_
      exact ⟨rfl, by rw [zcv, decide_eq_true (p := nI (v - 40) ≤ x ∧ x ≤ nI v) ⟨Int32.not_lt.mp h5, Int32.not_lt.mp h13⟩]; rfl⟩
abbrev zX5 (a : Nat) : Nat → Prop := fun c => a ≤ c ∧ c < a + 5
theorem zAc.note {S : zM} {a v : Nat} {so si sc : Nat → Nat} {ol : Nat → Int64} (h : zAc S a so si sc ol v) {x i j : Nat} {w : Int64} (hx : x < 3) (hi : i < 64) (hj : j < 4) (hv : v + 1 < 2 ^ 20) : zAc (zwI (zwL (zwI (zwI (zwI S (a + 1) (v % 40) (nI x)) (a + 2) (v % 40) (nI i)) (a + 3) (v % 40) (nI j)) (a + 4) (v % 40) w) a 4 (nI (v + 1))) a (va_up so (v % 40) x) (va_up si (v % 40) i) (va_up sc (v % 40) j) (va_up ol (v % 40) w) (v + 1) := by
  obtain ⟨ks, ps, i1, i2, e1, e2⟩ := h
  refine ⟨ks, ps, zgI_self, hv, fun k hk => ?_, fun k hk => ?_⟩
  · obtain ⟨q1, q2, q3, q4⟩ := e1 k hk
    refine ⟨?_, ?_, ?_, ?_⟩
    · rw [zgI_ne (by omega)]
      show zgI (zwI (zwI (zwI S (a + 1) (v % 40) (nI x)) (a + 2) (v % 40) (nI i)) (a + 3) (v % 40) (nI j)) (a + 1) k = _
      rw [zgI_ne (by omega), zgI_ne (by omega), zgI_wI, va_up]
      by_cases e : k = v % 40
      · rw [if_pos ⟨rfl, e⟩, if_pos e]
      · rw [if_neg (fun q => e q.2), if_neg e, q1]
    · rw [zgI_ne (by omega)]
      show zgI (zwI (zwI (zwI S (a + 1) (v % 40) (nI x)) (a + 2) (v % 40) (nI i)) (a + 3) (v % 40) (nI j)) (a + 2) k = _
      rw [zgI_ne (by omega), zgI_wI, va_up]
      by_cases e : k = v % 40
      · rw [if_pos ⟨rfl, e⟩, if_pos e]
      · rw [if_neg (fun q => e q.2), if_neg e, zgI_ne (by omega), q2]
    · rw [zgI_ne (by omega)]
      show zgI (zwI (zwI (zwI S (a + 1) (v % 40) (nI x)) (a + 2) (v % 40) (nI i)) (a + 3) (v % 40) (nI j)) (a + 3) k = _
      rw [zgI_wI, va_up]
      by_cases e : k = v % 40
      · rw [if_pos ⟨rfl, e⟩, if_pos e]
      · rw [if_neg (fun q => e q.2), if_neg e, zgI_ne (by omega), zgI_ne (by omega), q3]
    · show zgL (zwL _ (a + 4) (v % 40) w) (a + 4) k = _
      rw [zgL_wL, va_up]
      by_cases e : k = v % 40
      · rw [if_pos ⟨rfl, e⟩, if_pos e]
      · rw [if_neg (fun q => e q.2), if_neg e]
        exact q4
  · unfold va_up
    by_cases e : k = v % 40
    · rw [if_pos e, if_pos e, if_pos e]
      exact ⟨hx, hi, hj⟩
    · rw [if_neg e, if_neg e, if_neg e]
      exact e2 k hk
theorem zF.note {S : zM} {a k : Nat} {x i j n : Int32} {w : Int64} : zF (zX5 a) S (zwI (zwL (zwI (zwI (zwI S (a + 1) k x) (a + 2) k i) (a + 3) k j) (a + 4) k w) a 4 n) :=
  ((((zF.wI (by simp [zX5])).tr (zF.wI (by simp [zX5]))).tr (zF.wI (by simp [zX5]))).tr (zF.wL (by simp [zX5]))).tr (zF.wI (by simp [zX5]))
set_option maxRecDepth 20000 in
set_option maxHeartbeats 4000000 in
theorem c_note {E : zE} {S : zM} {a v : Nat} {so si sc : Nat → Nat} {ol : Nat → Int64} {x i j : Nat} (h : zAc S a so si sc ol v) (w : Int64) (hx : x < 3) (hi : i < 64) (hj : j < 4) (hv : v + 1 < 2 ^ 20) : zSp E 1 0 0 mX0_note cX0_note [zR a, zI (nI x), zI (nI i), zI (nI j), zL w] S (fun r T => r = none ∧ zAc T a (va_up so (v % 40) x) (va_up si (v % 40) i) (va_up sc (v % 40) j) (va_up ol (v % 40) w) (v + 1) ∧ zF (zX5 a) S T) := by
  refine zSp.of (by decide) rfl (Nat.le_of_ble_eq_true rfl) rfl ?_
  obtain ⟨⟨k1, k2, k3, k4, k5⟩, ⟨p1, p2, p3, p4⟩, i1, i2, e1, e2⟩ := id h
  have hm : v % 40 < 40 := Nat.mod_lt _ (by decide)
  have hin : vp_in (nI (v % 40)) 40 := vp_in_nI hm (by decide)
  have hcl : (nI (v % 40)).toNatClampNeg = v % 40 := nI_clamp (by omega)
  refine j_aload_n (pc := 0) dX0_note_0 rfl ?_
  refine j_getI (pc := 1) dX0_note_1 f_X0_25 (Or.inl rfl) (by assumption) ?_
  rw [i1]
  refine j_bipush (pc := 4) (v := 40) dX0_note_4 (by decide) ?_
  refine j_callS (pc := 6) (c_floorMod (b := 40) (by omega) (by decide) (by decide)) dX0_note_6 l_X0_39 mk_J9_floorMod_7cf53 ms_J9_floorMod_7cf53 (by decide) rfl rfl (Nat.le_of_ble_eq_true rfl) (Nat.le_refl _) (Nat.le_refl _) (fun r T h_1 => ?_)
  obtain ⟨rfl, rfl⟩ := h_1
  refine j_istore (pc := 9) (ls' := [_, _, _, _, _, _, _]) dX0_note_9 (by decide) rfl rfl ?_
  refine j_aload_n (pc := 11) dX0_note_11 rfl ?_
  refine j_getP (pc := 12) dX0_note_12 f_X0_9 (Or.inr ⟨_, rfl⟩) (by assumption) ?_
  rw [p1]
  refine j_iload (pc := 15) dX0_note_15 rfl ?_
  refine j_iload_n (pc := 17) dX0_note_17 rfl ?_
  
  refine j_iast (pc := 18) dX0_note_18 (by assumption) (by assumption) ?_
  refine j_aload_n (pc := 19) dX0_note_19 rfl ?_
  refine j_getP (pc := 20) dX0_note_20 f_X0_15 (Or.inr ⟨_, rfl⟩) (by assumption) ?_
  rw [hcl, show zgP (zwI S (a + 1) (v % 40) (nI x)) a 1 = a + 2 from p2]
  refine j_iload (pc := 23) dX0_note_23 rfl ?_
  refine j_iload_n (pc := 25) dX0_note_25 rfl ?_
  refine j_iast (pc := 26) dX0_note_26 (by assumption) (by assumption) ?_
  refine j_aload_n (pc := 27) dX0_note_27 rfl ?_
  refine j_getP (pc := 28) dX0_note_28 f_X0_18 (Or.inr ⟨_, rfl⟩) (by assumption) ?_
  rw [hcl, show zgP (zwI (zwI S (a + 1) (v % 40) (nI x)) (a + 2) (v % 40) (nI i)) a 2 = a + 3 from p3]
  refine j_iload (pc := 31) dX0_note_31 rfl ?_
  refine j_iload_n (pc := 33) dX0_note_33 rfl ?_
  refine j_iast (pc := 34) dX0_note_34 (by assumption) (by assumption) ?_
  refine j_aload_n (pc := 35) dX0_note_35 rfl ?_
  refine j_getP (pc := 36) dX0_note_36 f_X0_21 (Or.inr ⟨_, rfl⟩) (by assumption) ?_
  rw [hcl, show zgP (zwI (zwI (zwI S (a + 1) (v % 40) (nI x)) (a + 2) (v % 40) (nI i)) (a + 3) (v % 40) (nI j)) a 3 = a + 4 from p4]
  refine j_iload (pc := 39) dX0_note_39 rfl ?_
  refine j_lload (pc := 41) dX0_note_41 rfl ?_
  refine j_last (pc := 43) dX0_note_43 (by assumption) (by assumption) ?_
  refine j_aload_n (pc := 44) dX0_note_44 rfl ?_
  refine j_dup (pc := 45) dX0_note_45 rfl ?_
  refine j_getI (pc := 46) dX0_note_46 f_X0_25 (Or.inl rfl) (by assumption) ?_
  rw [hcl, show zgI (zwL (zwI (zwI (zwI S (a + 1) (v % 40) (nI x)) (a + 2) (v % 40) (nI i)) (a + 3) (v % 40) (nI j)) (a + 4) (v % 40) w) a 4 = nI v from (zgI_ne (S := zwI (zwI S (a + 1) (v % 40) (nI x)) (a + 2) (v % 40) (nI i)) (by omega)).trans ((zgI_ne (by omega)).trans ((zgI_ne (by omega)).trans i1))]
  refine j_iconst (pc := 49) (v := 1) dX0_note_49 (by decide) ?_
  refine j_iadd (pc := 50) dX0_note_50 ?_
  rw [nI_1]
  refine j_putI (pc := 51) dX0_note_51 f_X0_25 rfl (by assumption) rfl ?_
  refine j_vret (pc := 54) dX0_note_54 rfl ?_
  exact ⟨rfl, h.note hx hi hj hv, zF.note⟩
