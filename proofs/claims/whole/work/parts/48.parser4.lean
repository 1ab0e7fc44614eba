theorem zpig : ∀ (n : Nat) (l : List Nat), l.Nodup → (∀ x, x ∈ l → x < n) → l.length ≤ n
  | 0, l, _, h => by
    cases l with
    | nil => exact Nat.le_refl _
    | cons x l => exact absurd (h x (List.mem_cons_self)) (Nat.not_lt_zero x)
  | n + 1, l, hd, h => by
    by_cases hm : n ∈ l
    · have h1 := zpig n (l.erase n) (hd.erase n) (fun x hx => by
        have h2 := (hd.mem_erase_iff).mp hx
        have h3 := h x h2.2
        have h4 := h2.1
        omega)
      rw [List.length_erase_of_mem hm] at h1
      omega
    · have h1 := zpig n l hd (fun x hx => by
        have h3 := h x hx
        have h4 : x ≠ n := fun e => hm (e ▸ hx)
        omega)
      omega
/-- the order's columns are told, and different -/
def zOk (w : zPi) : Prop := (w.2.2.2.1.map (fun e => e.1)).Nodup ∧ ∀ x, x ∈ w.2.2.2.1.map (fun e => e.1) → x < w.2.2.1.length
theorem zoh_F {O : List zOe} {c : Nat} (h : zoh O c = false) : c ∉ O.map (fun e => e.1) := by
  intro hm
  obtain ⟨e, he, hc⟩ := List.mem_map.mp hm
  unfold zoh at h
  have := List.any_eq_false.mp h e he
  exact this (decide_eq_true hc)
theorem zOk.lt {w : zPi} (h : zOk w) (h4 : w.2.2.1.length ≤ 4) {c : Nat} (hc : c < w.2.2.1.length) (hn : zoh w.2.2.2.1 c = false) : w.2.2.2.1.length < 4 := by
  have h1 := zpig w.2.2.1.length (c :: w.2.2.2.1.map (fun e => e.1)) (List.nodup_cons.mpr ⟨zoh_F hn, h.1⟩) (fun x hx => by
    cases hx with
    | head => exact hc
    | tail _ hx => exact h.2 x hx)
  rw [List.length_cons, List.length_map] at h1
  omega
theorem zOk.tk {w : zPi} (h : zOk w) (k : zTo) : zOk (k, w.2) := h
theorem zrO_ok {X : List Nat} {w v : zPi} (h : zrO X w = .ok v) (hw : zOk w) (hl : w.2.2.1.length = w.2.1.length) : zOk v ∧ v.2.2.1 = w.2.2.1 ∧ v.2.2.2.2 = w.2.2.2.2 ∧ v.2.2.2.1 ≠ [] := by
  by_cases hs : w.1.2.1 = 1
  · cases hf : w.2.1.findIdx? (fun y => decide (y = w.1.2.2.2)) with
    | none =>
      rw [zrO_2 hs hf] at h
      cases h
    | some c =>
      rw [zrO_3 hs hf] at h
      obtain ⟨hcN, -⟩ := List.findIdx?_eq_some_iff_getElem.mp hf
      by_cases ho : zoh w.2.2.2.1 c = true
      · rw [if_pos ho] at h
        cases h
      · rw [if_neg ho] at h
        split at h
        · cases h
        · cases h
          have hof := zoh_F (Bool.eq_false_iff.mpr ho)
          refine ⟨⟨?_, fun x hx => ?_⟩, rfl, rfl, by simp⟩
          · show ((w.2.2.2.1 ++ [_]).map (fun (e : zOe) => e.1)).Nodup
            rw [List.map_append, List.nodup_append]
            refine ⟨hw.1, ?_, fun x hx y hy => ?_⟩
            · exact List.nodup_cons.mpr ⟨List.not_mem_nil, List.nodup_nil⟩
            · have : y = c := List.mem_singleton.mp hy
              exact fun e => hof (by rw [← this, ← e]; exact hx)
          · have hx : x ∈ (w.2.2.2.1 ++ [_]).map (fun (e : zOe) => e.1) := hx
            rw [List.map_append] at hx
            rcases List.mem_append.mp hx with q | q
            · exact hw.2 x q
            · have : x = c := List.mem_singleton.mp q
              show x < w.2.2.1.length
              omega
  · rw [zrO_1 hs] at h
    cases h
def zrOs (X : List Nat) : Nat → zPi → Except (Nat × Nat) zPi
  | 0, w => .error (1, w.1.2.2.1)
  | k + 1, w => match zrO X (zadv X w.1.1, w.2) with
    | .error e => .error e
    | .ok v => if zisS v.1 44 = true then zrOs X k v else .ok v
def zrOO (X : List Nat) (w : zPi) : Except (Nat × Nat) zPi := if w.2.2.1.length = 0 then .error (5, w.1.2.2.1) else if 0 < w.2.2.2.1.length then .error (3, w.1.2.2.1) else zrOs X 5 w
set_option maxRecDepth 20000 in
set_option maxHeartbeats 4000000 in
theorem l_ords {E : zE} {S : zM} {a tp tp2 cap : Nat} {F : List Nat} {n : Nat} {Z : Except (Nat × Nat) zPi} : ∀ (m i : Nat) (v : zPi) (T : zM), i + m = 5 → zOk v → zF (zXa a) S T → zPd T a tp tp2 cap F n v → Z = zrOs (F.take n) m v → zJ E 4 0 0 mX5_readOrder cX5_readOrder 37 [some (zR (a + 22)), some (zI (nI i))] [] T (fun r T => zPQ a tp tp2 cap F n S r T Z) := by
  intro m
  induction m with
  | zero =>
    intro i v T hi hk hF h hz
    have ei : i = 5 := by omega
    subst ei
    have k22_0 := h.1.1
    have p0_0 := h.1.2.1
    have p1_0 := h.1.2.2
    have k23_0 := h.2.1.1
    have ka_0 := h.ka
    refine j_iload_n (pc := 37) dX5_readOrder_37 rfl ?_
    refine j_iconst (pc := 38) (v := 4) dX5_readOrder_38 (by decide) ?_
    refine j_icmp_gt (pc := 39) (tgt := 78) dX5_readOrder_39 (by decide) (fun h39 => ?_) (fun h39 => ?_)
    · refine j_aload_n (pc := 78) dX5_readOrder_78 rfl ?_
      refine j_iconst (pc := 79) (v := 1) dX5_readOrder_79 (by decide) ?_
      refine j_callV (pc := 80) (t := 5) (c_fails (f := 1) h) dX5_readOrder_80 l_X5_54 mk_X5_fails mv_X5_fails (by decide) rfl (by assumption) (by decide) rfl rfl (Nat.le_of_ble_eq_true rfl) (Nat.le_refl _) (Nat.le_refl _) (fun r T9 h_1 => ?_)
      obtain ⟨rfl, f9, g9, g10⟩ := h_1
      refine j_zret (pc := 83) dX5_readOrder_83 rfl (by first | assumption | decide) ?_
      rw [hz]
      refine zPQ.pre hF ?_
      exact ⟨rfl, f9, g9, g10⟩
    · exact absurd (by decide) h39
  | succ m ih =>
    intro i v T hi hk hF h hz
    have k22_0 := h.1.1
    have p0_0 := h.1.2.1
    have p1_0 := h.1.2.2
    have k23_0 := h.2.1.1
    have ka_0 := h.ka
    have hO1 : ∀ c, v.2.1.findIdx? (fun y => decide (y = (zadv (F.take n) v.1.1).2.2.2)) = some c → zoh v.2.2.2.1 c = false → v.2.2.2.1.length < 4 := fun c hf hn => by
      obtain ⟨hcN, -⟩ := List.findIdx?_eq_some_iff_getElem.mp hf
      exact hk.lt h.tb.2.2.1 (by have := h.2.2.2.2.2.1; omega) hn
    refine j_iload_n (pc := 37) dX5_readOrder_37 rfl ?_
    refine j_iconst (pc := 38) (v := 4) dX5_readOrder_38 (by decide) ?_
    refine j_icmp_gt (pc := 39) (tgt := 78) dX5_readOrder_39 (by decide) (fun h39 => ?_) (fun h39 => ?_)
    · exact absurd h39 (Int32.not_lt.mpr (nI_le (b := 4) (by omega) (by decide)))
    · refine j_aload_n (pc := 42) dX5_readOrder_42 rfl ?_
      refine j_getP (pc := 43) dX5_readOrder_43 f_X5_14 (Or.inl ⟨_, rfl⟩) (by assumption) ?_
      rw [p0_0]
      refine j_callV (pc := 46) (t := 2) (c_adv h) dX5_readOrder_46 l_X5_31 mk_X2_advance mv_X2_advance (by decide) rfl (by assumption) (by decide) rfl rfl (Nat.le_of_ble_eq_true rfl) (Nat.le_refl _) (Nat.le_refl _) (fun r T1 h_1 => ?_)
      obtain ⟨rfl, f1, h1⟩ := h_1
      have k22_1 := h1.1.1
      have p0_1 := h1.1.2.1
      have p1_1 := h1.1.2.2
      have k23_1 := h1.2.1.1
      have ka_1 := h1.ka
      refine j_aload_n (pc := 49) dX5_readOrder_49 rfl ?_
      refine j_callV (pc := 50) (t := 5) (c_readOrdered h1 hO1) dX5_readOrder_50 l_X5_101 mk_X5_readOrdered mv_X5_readOrdered (by decide) rfl (by assumption) (by decide) rfl rfl (Nat.le_of_ble_eq_true rfl) (Nat.le_refl _) (Nat.le_refl _) (fun r T2 h_1 => ?_)
      skip
      cases hc : zrO (F.take n) (zadv (F.take n) v.1.1, v.2) with
      | error e =>
        rw [hc] at h_1
        obtain ⟨rfl, f2, g2, g3⟩ := h_1
        refine j_if_ne (pc := 53) (tgt := 58) dX5_readOrder_53 (by decide) (fun h53 => ?_) (fun h53 => ?_)
        · exact absurd rfl h53
        · refine j_iconst (pc := 56) (v := 0) dX5_readOrder_56 (by decide) ?_
          refine j_zret (pc := 57) dX5_readOrder_57 rfl (by first | assumption | decide) ?_
          rw [hz]
          show zPQ _ _ _ _ _ _ _ _ _ (match zrO (F.take n) (zadv (F.take n) v.1.1, v.2) with | .error e => Except.error e | .ok v => if zisS v.1 44 = true then zrOs (F.take n) m v else .ok v)
          rw [hc]
          exact zPQ.pre (hF.tr f1) ⟨rfl, f2, g2, g3⟩
      | ok u =>
        rw [hc] at h_1
        obtain ⟨rfl, f2, h2⟩ := h_1
        have hu := zrO_ok hc (hk.tk _) h.2.2.2.2.2.1
        have k22_2 := h2.1.1
        have p0_2 := h2.1.2.1
        have p1_2 := h2.1.2.2
        have k23_2 := h2.2.1.1
        have ka_2 := h2.ka
        refine j_if_ne (pc := 53) (tgt := 58) dX5_readOrder_53 (by decide) (fun h53 => ?_) (fun h53 => ?_)
        · refine j_aload_n (pc := 58) dX5_readOrder_58 rfl ?_
          refine j_getP (pc := 59) dX5_readOrder_59 f_X5_14 (Or.inl ⟨_, rfl⟩) (by assumption) ?_
          rw [p0_2]
          refine j_bipush (pc := 62) (v := 44) dX5_readOrder_62 (by decide) ?_
          refine j_callV (pc := 64) (t := 2) (c_isSg h2 44) dX5_readOrder_64 l_X5_72 mk_X2_isSign mv_X2_isSign (by decide) rfl (by assumption) (by decide) rfl rfl (Nat.le_of_ble_eq_true rfl) (Nat.le_refl _) (Nat.le_refl _) (fun r T h_1 => ?_)
          obtain ⟨rfl, rfl⟩ := h_1
          refine j_if_ne (pc := 67) (tgt := 72) dX5_readOrder_67 (by decide) (fun h67 => ?_) (fun h67 => ?_)
          · refine j_iinc (pc := 72) (v := _ + 1) (ls' := [_, _]) dX5_readOrder_72 rfl rfl (by decide) rfl rfl ?_
            refine j_goto (pc := 75) (tgt := 37) dX5_readOrder_75 (by decide) ?_
            rw [nI_1]
            refine ih (i + 1) u T2 (by omega) hu.1 ((hF.tr f1).tr f2) h2 ?_
            rw [hz]
            show (match zrO (F.take n) (zadv (F.take n) v.1.1, v.2) with | .error e => Except.error e | .ok v => if zisS v.1 44 = true then zrOs (F.take n) m v else .ok v) = _
            rw [hc]
            exact if_pos (zbi_ne0 h67)
          · refine j_iconst (pc := 70) (v := 1) dX5_readOrder_70 (by decide) ?_
            refine j_zret (pc := 71) dX5_readOrder_71 rfl (by first | assumption | decide) ?_
            rw [hz]
            show zPQ _ _ _ _ _ _ _ _ _ (match zrO (F.take n) (zadv (F.take n) v.1.1, v.2) with | .error e => Except.error e | .ok v => if zisS v.1 44 = true then zrOs (F.take n) m v else .ok v)
            rw [hc]
            show zPQ _ _ _ _ _ _ _ _ _ (if zisS u.1 44 = true then zrOs (F.take n) m u else .ok u)
            rw [if_neg (by rw [zbi_eq0.mp h67]; decide)]
            exact zPQ.pre (hF.tr f1) ⟨rfl, f2, h2⟩
        · exact absurd h53 (by decide)
set_option maxRecDepth 20000 in
set_option maxHeartbeats 4000000 in
theorem c_readOrder {E : zE} {S : zM} {a tp tp2 cap : Nat} {F : List Nat} {n : Nat} {w : zPi} (h : zPd S a tp tp2 cap F n w) (hk : w.2.2.2.1 = [] → zOk w) : zSp E 4 0 0 mX5_readOrder cX5_readOrder [zR (a + 22)] S (fun r T => zPQ a tp tp2 cap F n S r T (zrOO (F.take n) w)) := by
  refine zSp.of (by decide) rfl (Nat.le_of_ble_eq_true rfl) rfl ?_
  have k22_0 := h.1.1
  have p0_0 := h.1.2.1
  have p1_0 := h.1.2.2
  have k23_0 := h.2.1.1
  have ka_0 := h.ka
  have e7 := h.tb.2.1
  have l4 := h.tb.2.2.1
  have p2 := h.od.2
  have ko := h.od.1.1.1
  have e4 := h.od.1.2.2.1
  have lo := h.od.1.2.2.2.1
  refine j_aload_n (pc := 0) dX5_readOrder_0 rfl ?_
  refine j_getP (pc := 1) dX5_readOrder_1 f_X5_20 (Or.inl ⟨_, rfl⟩) (by assumption) ?_
  rw [p1_0]
  refine j_getI (pc := 4) dX5_readOrder_4 f_X5_79 (Or.inl rfl) (by assumption) ?_
  rw [e7]
  refine j_if_ne (pc := 7) (tgt := 16) dX5_readOrder_7 (by decide) (fun h7 => ?_) (fun h7 => ?_)
  · refine j_aload_n (pc := 16) dX5_readOrder_16 rfl ?_
    refine j_getP (pc := 17) dX5_readOrder_17 f_X5_20 (Or.inl ⟨_, rfl⟩) (by assumption) ?_
    rw [p1_0]
    refine j_getP (pc := 20) dX5_readOrder_20 f_X5_61 (Or.inl ⟨_, rfl⟩) (by assumption) ?_
    rw [p2]
    refine j_getI (pc := 23) dX5_readOrder_23 f_X5_67 (Or.inl rfl) (by assumption) ?_
    rw [e4]
    refine j_if_le (pc := 26) (tgt := 35) dX5_readOrder_26 (by decide) (fun h26 => ?_) (fun h26 => ?_)
    · refine j_iconst (pc := 35) (v := 0) dX5_readOrder_35 (by decide) ?_
      refine j_istore_n (pc := 36) (ls' := [_, _]) dX5_readOrder_36 (by decide) rfl rfl ?_
      have e0 : w.2.2.2.1.length = 0 := by have := (zle_nI (b := 0) (by omega) (by decide)).mp h26; omega
      refine l_ords 5 0 w S (by omega) (hk (List.length_eq_zero_iff.mp e0)) zF.rf h ?_
      unfold zrOO
      rw [if_neg (fun z => h7 (by rw [z]; rfl)), if_neg (by omega)]
    · refine j_aload_n (pc := 29) dX5_readOrder_29 rfl ?_
      refine j_iconst (pc := 30) (v := 3) dX5_readOrder_30 (by decide) ?_
      refine j_callV (pc := 31) (t := 5) (c_fails (f := 3) h) dX5_readOrder_31 l_X5_54 mk_X5_fails mv_X5_fails (by decide) rfl (by assumption) (by decide) rfl rfl (Nat.le_of_ble_eq_true rfl) (Nat.le_refl _) (Nat.le_refl _) (fun r T9 h_1 => ?_)
      obtain ⟨rfl, f9, g9, g10⟩ := h_1
      refine j_zret (pc := 34) dX5_readOrder_34 rfl (by first | assumption | decide) ?_
      unfold zrOO
      rw [if_neg (fun z => h7 (by rw [z]; rfl)), if_pos (Nat.pos_of_ne_zero (fun z => h26 (by rw [z]; decide)))]
      exact ⟨rfl, f9, g9, g10⟩
  · refine j_aload_n (pc := 10) dX5_readOrder_10 rfl ?_
    refine j_iconst (pc := 11) (v := 5) dX5_readOrder_11 (by decide) ?_
    refine j_callV (pc := 12) (t := 5) (c_fails (f := 5) h) dX5_readOrder_12 l_X5_54 mk_X5_fails mv_X5_fails (by decide) rfl (by assumption) (by decide) rfl rfl (Nat.le_of_ble_eq_true rfl) (Nat.le_refl _) (Nat.le_refl _) (fun r T9 h_1 => ?_)
    obtain ⟨rfl, f9, g9, g10⟩ := h_1
    refine j_zret (pc := 15) dX5_readOrder_15 rfl (by first | assumption | decide) ?_
    unfold zrOO
    rw [if_pos ((nI_eq (b := 0) (by omega) (by decide)).mp h7)]
    exact ⟨rfl, f9, g9, g10⟩
