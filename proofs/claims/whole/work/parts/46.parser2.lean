theorem zrC_len {X : List Nat} {w v : zPi} (h : zrC X w = .ok v) : v.2.2.1.length = w.2.2.1.length + 1 ∧ v.2.2.2 = w.2.2.2 := by
  unfold zrC at h
  split at h
  · cases h
  · split at h
    · cases h
    · split at h
      · cases h
      · cases h
        exact ⟨by rw [List.length_append]; rfl, rfl⟩
/-- columns one behind the other -/
def zrCs (X : List Nat) : Nat → zPi → Except (Nat × Nat) zPi
  | 0, w => .error (1, w.1.2.2.1)
  | k + 1, w => match zrC X (zadv X w.1.1, w.2) with
    | .error e => .error e
    | .ok v => if zisS v.1 44 = true then zrCs X k v else .ok v
def zrCC (X : List Nat) (w : zPi) : Except (Nat × Nat) zPi := if 0 < w.2.2.1.length then .error (3, w.1.2.2.1) else zrCs X 4 w
set_option maxRecDepth 20000 in
set_option maxHeartbeats 4000000 in
theorem l_cols {E : zE} {S : zM} {a tp tp2 cap : Nat} {F : List Nat} {n : Nat} {Z : Except (Nat × Nat) zPi} : ∀ (m i : Nat) (v : zPi) (T : zM), i + m = 4 → v.2.2.1.length = i → zF (zXa a) S T → zPd T a tp tp2 cap F n v → Z = zrCs (F.take n) m v → zJ E 4 0 0 mX5_readColumns cX5_readColumns 18 [some (zR (a + 22)), some (zI (nI i))] [] T (fun r T => zPQ a tp tp2 cap F n S r T Z) := by
  intro m
  induction m with
  | zero =>
    intro i v T hi hk hF h hz
    have ei : i = 4 := by omega
    subst ei
    have k22_0 := h.1.1
    have p0_0 := h.1.2.1
    have p1_0 := h.1.2.2
    have k23_0 := h.2.1.1
    have ka_0 := h.ka
    refine j_iload_n (pc := 18) dX5_readColumns_18 rfl ?_
    refine j_iconst (pc := 19) (v := 4) dX5_readColumns_19 (by decide) ?_
    refine j_icmp_ge (pc := 20) (tgt := 59) dX5_readColumns_20 (by decide) (fun h20 => ?_) (fun h20 => ?_)
    · refine j_aload_n (pc := 59) dX5_readColumns_59 rfl ?_
      refine j_iconst (pc := 60) (v := 1) dX5_readColumns_60 (by decide) ?_
      refine j_callV (pc := 61) (t := 5) (c_fails (f := 1) h) dX5_readColumns_61 l_X5_54 mk_X5_fails mv_X5_fails (by decide) rfl (by assumption) (by decide) rfl rfl (Nat.le_of_ble_eq_true rfl) (Nat.le_refl _) (Nat.le_refl _) (fun r T9 h_1 => ?_)
      obtain ⟨rfl, f9, g9, g10⟩ := h_1
      refine j_zret (pc := 64) dX5_readColumns_64 rfl (by first | assumption | decide) ?_
      rw [hz]
      refine zPQ.pre hF ?_
      exact ⟨rfl, f9, g9, g10⟩
    · exact absurd (nI_le (a := 4) (Nat.le_refl _) (by decide)) h20
  | succ m ih =>
    intro i v T hi hk hF h hz
    have k22_0 := h.1.1
    have p0_0 := h.1.2.1
    have p1_0 := h.1.2.2
    have k23_0 := h.2.1.1
    have ka_0 := h.ka
    refine j_iload_n (pc := 18) dX5_readColumns_18 rfl ?_
    refine j_iconst (pc := 19) (v := 4) dX5_readColumns_19 (by decide) ?_
    refine j_icmp_ge (pc := 20) (tgt := 59) dX5_readColumns_20 (by decide) (fun h20 => ?_) (fun h20 => ?_)
    · exact absurd h20 (nI_ge (b := 4) (by omega) (by decide))
    · refine j_aload_n (pc := 23) dX5_readColumns_23 rfl ?_
      refine j_getP (pc := 24) dX5_readColumns_24 f_X5_14 (Or.inl ⟨_, rfl⟩) (by assumption) ?_
      rw [p0_0]
      refine j_callV (pc := 27) (t := 2) (c_adv h) dX5_readColumns_27 l_X5_31 mk_X2_advance mv_X2_advance (by decide) rfl (by assumption) (by decide) rfl rfl (Nat.le_of_ble_eq_true rfl) (Nat.le_refl _) (Nat.le_refl _) (fun r T1 h_1 => ?_)
      obtain ⟨rfl, f1, h1⟩ := h_1
      have k22_1 := h1.1.1
      have p0_1 := h1.1.2.1
      have p1_1 := h1.1.2.2
      have k23_1 := h1.2.1.1
      have ka_1 := h1.ka
      refine j_aload_n (pc := 30) dX5_readColumns_30 rfl ?_
      refine j_callV (pc := 31) (t := 5) (c_readColumn h1 (by show v.2.2.1.length < 4; omega)) dX5_readColumns_31 l_X5_82 mk_X5_readColumn mv_X5_readColumn (by decide) rfl (by assumption) (by decide) rfl rfl (Nat.le_of_ble_eq_true rfl) (Nat.le_refl _) (Nat.le_refl _) (fun r T2 h_1 => ?_)
      skip
      cases hc : zrC (F.take n) (zadv (F.take n) v.1.1, v.2) with
      | error e =>
        rw [hc] at h_1
        obtain ⟨rfl, f2, g2, g3⟩ := h_1
        refine j_if_ne (pc := 34) (tgt := 39) dX5_readColumns_34 (by decide) (fun h34 => ?_) (fun h34 => ?_)
        · exact absurd rfl h34
        · refine j_iconst (pc := 37) (v := 0) dX5_readColumns_37 (by decide) ?_
          refine j_zret (pc := 38) dX5_readColumns_38 rfl (by first | assumption | decide) ?_
          rw [hz]
          show zPQ _ _ _ _ _ _ _ _ _ (match zrC (F.take n) (zadv (F.take n) v.1.1, v.2) with | .error e => Except.error e | .ok v => if zisS v.1 44 = true then zrCs (F.take n) m v else .ok v)
          rw [hc]
          exact zPQ.pre (hF.tr f1) ⟨rfl, f2, g2, g3⟩
      | ok u =>
        rw [hc] at h_1
        obtain ⟨rfl, f2, h2⟩ := h_1
        have k22_2 := h2.1.1
        have p0_2 := h2.1.2.1
        have p1_2 := h2.1.2.2
        have k23_2 := h2.2.1.1
        have ka_2 := h2.ka
        refine j_if_ne (pc := 34) (tgt := 39) dX5_readColumns_34 (by decide) (fun h34 => ?_) (fun h34 => ?_)
        · refine j_aload_n (pc := 39) dX5_readColumns_39 rfl ?_
          refine j_getP (pc := 40) dX5_readColumns_40 f_X5_14 (Or.inl ⟨_, rfl⟩) (by assumption) ?_
          rw [p0_2]
          refine j_bipush (pc := 43) (v := 44) dX5_readColumns_43 (by decide) ?_
          refine j_callV (pc := 45) (t := 2) (c_isSg h2 44) dX5_readColumns_45 l_X5_72 mk_X2_isSign mv_X2_isSign (by decide) rfl (by assumption) (by decide) rfl rfl (Nat.le_of_ble_eq_true rfl) (Nat.le_refl _) (Nat.le_refl _) (fun r T h_1 => ?_)
          obtain ⟨rfl, rfl⟩ := h_1
          refine j_if_ne (pc := 48) (tgt := 53) dX5_readColumns_48 (by decide) (fun h48 => ?_) (fun h48 => ?_)
          · refine j_iinc (pc := 53) (v := _ + 1) (ls' := [_, _]) dX5_readColumns_53 rfl rfl (by decide) rfl rfl ?_
            refine j_goto (pc := 56) (tgt := 18) dX5_readColumns_56 (by decide) ?_
            rw [nI_1]
            refine ih (i + 1) u T2 (by omega) ((zrC_len hc).1.trans (by show v.2.2.1.length + 1 = i + 1; omega)) ((hF.tr f1).tr f2) h2 ?_
            rw [hz]
            show (match zrC (F.take n) (zadv (F.take n) v.1.1, v.2) with | .error e => Except.error e | .ok v => if zisS v.1 44 = true then zrCs (F.take n) m v else .ok v) = _
            rw [hc]
            exact if_pos (zbi_ne0 h48)
          · refine j_iconst (pc := 51) (v := 1) dX5_readColumns_51 (by decide) ?_
            refine j_zret (pc := 52) dX5_readColumns_52 rfl (by first | assumption | decide) ?_
            rw [hz]
            show zPQ _ _ _ _ _ _ _ _ _ (match zrC (F.take n) (zadv (F.take n) v.1.1, v.2) with | .error e => Except.error e | .ok v => if zisS v.1 44 = true then zrCs (F.take n) m v else .ok v)
            rw [hc]
            show zPQ _ _ _ _ _ _ _ _ _ (if zisS u.1 44 = true then zrCs (F.take n) m u else .ok u)
            rw [if_neg (by rw [zbi_eq0.mp h48]; decide)]
            exact zPQ.pre (hF.tr f1) ⟨rfl, f2, h2⟩
        · exact absurd h34 (by decide)
set_option maxRecDepth 20000 in
set_option maxHeartbeats 4000000 in
theorem c_readColumns {E : zE} {S : zM} {a tp tp2 cap : Nat} {F : List Nat} {n : Nat} {w : zPi} (h : zPd S a tp tp2 cap F n w) : zSp E 4 0 0 mX5_readColumns cX5_readColumns [zR (a + 22)] S (fun r T => zPQ a tp tp2 cap F n S r T (zrCC (F.take n) w)) := by
  refine zSp.of (by decide) rfl (Nat.le_of_ble_eq_true rfl) rfl ?_
  have k22_0 := h.1.1
  have p0_0 := h.1.2.1
  have p1_0 := h.1.2.2
  have k23_0 := h.2.1.1
  have ka_0 := h.ka
  have e7 := h.tb.2.1
  have l4 := h.tb.2.2.1
  refine j_aload_n (pc := 0) dX5_readColumns_0 rfl ?_
  refine j_getP (pc := 1) dX5_readColumns_1 f_X5_20 (Or.inl ⟨_, rfl⟩) (by assumption) ?_
  rw [p1_0]
  refine j_getI (pc := 4) dX5_readColumns_4 f_X5_79 (Or.inl rfl) (by assumption) ?_
  rw [e7]
  refine j_if_le (pc := 7) (tgt := 16) dX5_readColumns_7 (by decide) (fun h7 => ?_) (fun h7 => ?_)
  · refine j_iconst (pc := 16) (v := 0) dX5_readColumns_16 (by decide) ?_
    refine j_istore_n (pc := 17) (ls' := [_, _]) dX5_readColumns_17 (by decide) rfl rfl ?_
    refine l_cols 4 0 w S (by omega) (by have := (zle_nI (b := 0) (by omega) (by decide)).mp h7; omega) zF.rf h ?_
    unfold zrCC
    exact if_neg (fun z => by have := (zle_nI (b := 0) (by omega) (by decide)).mp h7; omega)
  · refine j_aload_n (pc := 10) dX5_readColumns_10 rfl ?_
    refine j_iconst (pc := 11) (v := 3) dX5_readColumns_11 (by decide) ?_
    refine j_callV (pc := 12) (t := 5) (c_fails (f := 3) h) dX5_readColumns_12 l_X5_54 mk_X5_fails mv_X5_fails (by decide) rfl (by assumption) (by decide) rfl rfl (Nat.le_of_ble_eq_true rfl) (Nat.le_refl _) (Nat.le_refl _) (fun r T9 h_1 => ?_)
    obtain ⟨rfl, f9, g9, g10⟩ := h_1
    refine j_zret (pc := 15) dX5_readColumns_15 rfl (by first | assumption | decide) ?_
    unfold zrCC
    rw [if_pos (Nat.pos_of_ne_zero (fun z => h7 (by rw [z]; decide)))]
    exact ⟨rfl, f9, g9, g10⟩
