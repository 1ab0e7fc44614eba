theorem zrO_len {X : List Nat} {w v : zPi} (h : zrO X w = .ok v) : v.2.2.2.1.length = w.2.2.2.1.length + 1 ∧ v.2.1 = w.2.1 := by
  unfold zrO at h
  split at h
  · cases h
  · split at h
    · cases h
    · split at h
      · cases h
      · split at h
        · cases h
        · cases h
          exact ⟨List.length_append, rfl⟩
theorem zOk.hO {w : zPi} (h : zOk w) (h4 : w.2.2.1.length ≤ 4) (hl : w.2.2.1.length = w.2.1.length) {x : Int64} : ∀ c, w.2.1.findIdx? (fun y => decide (y = x)) = some c → zoh w.2.2.2.1 c = false → w.2.2.2.1.length < 4 := fun c hc hn => h.lt h4 (by rw [hl]; exact (List.findIdx?_eq_some_iff_getElem.mp hc).1) hn
theorem zOk.e4 {w : zPi} (h : zOk w) (h4 : w.2.2.1.length ≤ 4) : ∀ (i : Nat) (e : zOe), w.2.2.2.1[i]? = some e → e.1 < 4 := fun i e he => Nat.lt_of_lt_of_le (h.2 e.1 (List.mem_map.mpr ⟨e, List.mem_of_getElem? he, rfl⟩)) h4
set_option maxRecDepth 20000 in
set_option maxHeartbeats 4000000 in
theorem l_tail2 {E : zE} {S T : zM} {X : List Nat} {v : zPi} (h : mPd T X v) (f : zK zXp S T) : zJ E 6 0 0 mX12_readOrders cX12_readOrders 61 [some (zR 123)] [] T (fun r T => mPQ X S r T (zrM (.ok v))) := by
  refine j_aload_n (pc := 61) dX12_readOrders_61 rfl ?_
  refine j_getIv (pc := 62) dX12_readOrders_62 f_X12_152 (Or.inl rfl) h.1.1 (h.2.2.1.2.2.1) ?_
  refine j_bipush (pc := 65) (v := 59) dX12_readOrders_65 (by decide) ?_
  refine j_icmp_eq (pc := 67) (tgt := 85) dX12_readOrders_67 (by decide) (fun h67 => ?_) (fun h67 => ?_)
  · refine j_iconst (pc := 85) (v := 1) dX12_readOrders_85 (by decide) ?_
    refine j_goto (pc := 86) (tgt := 90) dX12_readOrders_86 (by decide) ?_
    refine j_zret (pc := 90) dX12_readOrders_90 rfl (by first | assumption | decide) ?_
    have hc := (h.2.2.2.1.cc (c := 59) (by decide)).mp h67
    rw [zrM, if_pos (Or.inr hc)]
    exact ⟨rfl, f, h⟩
  · refine j_aload_n (pc := 70) dX12_readOrders_70 rfl ?_
    refine j_getIv (pc := 71) dX12_readOrders_71 f_X12_152 (Or.inl rfl) h.1.1 (h.2.2.1.2.2.1) ?_
    refine j_if_eq (pc := 74) (tgt := 85) dX12_readOrders_74 (by decide) (fun h74 => ?_) (fun h74 => ?_)
    · refine j_iconst (pc := 85) (v := 1) dX12_readOrders_85 (by decide) ?_
      refine j_goto (pc := 86) (tgt := 90) dX12_readOrders_86 (by decide) ?_
      refine j_zret (pc := 90) dX12_readOrders_90 rfl (by first | assumption | decide) ?_
      have hc := h.2.2.2.1.c0.mp h74
      rw [zrM, if_pos (Or.inl hc)]
      exact ⟨rfl, f, h⟩
    · refine j_aload_n (pc := 77) dX12_readOrders_77 rfl ?_
      refine j_iconst (pc := 78) (v := 1) dX12_readOrders_78 (by decide) ?_
      refine j_callV (pc := 79) (t := 12) (n_err h) dX12_readOrders_79 l_X12_195 mk_X12_errs mv_X12_errs (by decide) rfl h.1.1 (by decide) rfl rfl (Nat.le_of_ble_eq_true rfl) (Nat.le_refl _) (Nat.le_refl _) (fun r T h_1 => ?_)
      obtain ⟨rfl, q2, q3, q4⟩ := h_1
      refine j_if_eq (pc := 82) (tgt := 89) dX12_readOrders_82 (by decide) (fun h82 => ?_) (fun h82 => absurd rfl h82)
      refine j_iconst (pc := 89) (v := 0) dX12_readOrders_89 (by decide) ?_
      refine j_zret (pc := 90) dX12_readOrders_90 rfl (by first | assumption | decide) ?_
      rw [zrM, if_neg (fun q => q.elim (fun q => h74 (h.2.2.2.1.c0.mpr q)) (fun q => h67 ((h.2.2.2.1.cc (c := 59) (by decide)).mpr q)))]
      exact ⟨rfl, f.tr q2, q3, q4⟩
set_option maxRecDepth 20000 in
set_option maxHeartbeats 4000000 in
theorem l_mords {E : zE} {S : zM} {X : List Nat} {Z : Except (Nat × Nat) zPi} (hE : zOKE E) : ∀ (m : Nat) (v : zPi) (T : zM), v.2.2.2.1.length + m = 5 → zOk v → zK zXp S T → mPd T X v → Z = zrM (if zisS v.1 44 = true then zrOs X m v else .ok v) → zJ E 6 0 0 mX12_readOrders cX12_readOrders 39 [some (zR 123)] [] T (fun r T => mPQ X S r T Z) := by
  intro m
  induction m with
  | zero =>
    intro v T hm hk f h hZ
    have := h.2.2.2.2.2.1.2.1
    omega
  | succ m ih =>
    intro v T hm hk f h hZ
    have hlN := h.2.2.2.2.1.2.1
    cases hz : zisS v.1 44 with
    | false =>
      rw [hz, if_neg (by decide)] at hZ
      refine j_aload_n (pc := 39) dX12_readOrders_39 rfl ?_
      refine j_getIv (pc := 40) dX12_readOrders_40 f_X12_152 (Or.inl rfl) h.1.1 (h.2.2.1.2.2.1) ?_
      refine j_bipush (pc := 43) (v := 44) dX12_readOrders_43 (by decide) ?_
      refine j_icmp_ne (pc := 45) (tgt := 61) dX12_readOrders_45 (by decide) (fun h45 => ?_) (fun h45 => absurd ((h.2.2.2.1.cc (c := 44) (by decide)).mp h45) (by rw [hz]; decide))
      rw [hZ]
      exact l_tail2 h f
    | true =>
      refine j_aload_n (pc := 39) dX12_readOrders_39 rfl ?_
      refine j_getIv (pc := 40) dX12_readOrders_40 f_X12_152 (Or.inl rfl) h.1.1 (h.2.2.1.2.2.1) ?_
      refine j_bipush (pc := 43) (v := 44) dX12_readOrders_43 (by decide) ?_
      refine j_icmp_ne (pc := 45) (tgt := 61) dX12_readOrders_45 (by decide) (fun h45 => absurd ((h.2.2.2.1.cc (c := 44) (by decide)).mpr hz) h45) (fun h45 => ?_)
      refine j_aload_n (pc := 48) dX12_readOrders_48 rfl ?_
      refine j_callV (pc := 49) (t := 12) (n_adv h) dX12_readOrders_49 l_X12_202 mk_X12_goesOn mv_X12_goesOn (by decide) rfl h.1.1 (by decide) rfl rfl (Nat.le_of_ble_eq_true rfl) (Nat.le_refl _) (Nat.le_refl _) (fun r T1 h_1 => ?_)
      obtain ⟨rfl, k1, h1⟩ := h_1
      refine j_aload_n (pc := 52) dX12_readOrders_52 rfl ?_
      refine j_callV (pc := 53) (t := 12) (n_readOne hE h1 (hk.hO (by omega) hlN.1) (hk.e4 (by omega))) dX12_readOrders_53 l_X12_226 mk_X12_readOne mv_X12_readOne (by decide) rfl h1.1.1 (by decide) rfl rfl (Nat.le_of_ble_eq_true rfl) (Nat.le_refl _) (Nat.le_refl _) (fun r T2 h_1 => ?_)
      skip
      cases hq : zrO X (zadv X v.1.1, v.2) with
      | error e =>
        rw [hq] at h_1
        obtain ⟨rfl, q2, q3⟩ := h_1
        rw [hZ, if_pos hz, show zrOs X (m + 1) v = .error e by rw [zrOs, hq]]
        refine j_if_ne (pc := 56) (tgt := 39) dX12_readOrders_56 (by decide) (fun h56 => absurd rfl h56) (fun h56 => ?_)
        refine j_iconst (pc := 59) (v := 0) dX12_readOrders_59 (by decide) ?_
        refine j_zret (pc := 60) dX12_readOrders_60 rfl (by first | assumption | decide) ?_
        exact ⟨rfl, (f.tr (k1.mo (fun c k z => zXo.p z))).tr q2, q3⟩
      | ok v2 =>
        rw [hq] at h_1
        obtain ⟨rfl, q2, h2⟩ := h_1
        refine j_if_ne (pc := 56) (tgt := 39) dX12_readOrders_56 (by decide) (fun h56 => ?_) (fun h56 => absurd h56 (by decide))
        have hl2 := zrO_len hq
        have hk2 := zrO_ok hq hk hlN.1
        exact ih v2 _ (by rw [hl2.1]; show v.2.2.2.1.length + 1 + m = 5; omega) hk2.1 ((f.tr (k1.mo (fun c k z => zXo.p z))).tr q2) h2 (hZ.trans (by rw [if_pos hz, zrOs, hq]))
set_option maxRecDepth 20000 in
set_option maxHeartbeats 4000000 in
theorem n_readOrders {E : zE} {S : zM} {X : List Nat} {w : zPi} (hE : zOKE E) (h : mPd S X w) (hk : zOk w) : zSp E 6 0 0 mX12_readOrders cX12_readOrders [zR 123] S (fun r T => mPQ X S r T (zrM (zrOO X w))) := by
  refine zSp.of (by decide) rfl (Nat.le_of_ble_eq_true rfl) rfl ?_
  have hlN := h.2.2.2.2.1.2.1
  have hO4 := h.2.2.2.2.2.1.2.1
  refine j_aload_n (pc := 0) dX12_readOrders_0 rfl ?_
  refine j_getIv (pc := 1) dX12_readOrders_1 f_X12_217 (Or.inl rfl) h.1.1 (h.2.2.2.2.2.1.1) ?_
  refine j_if_le (pc := 4) (tgt := 13) dX12_readOrders_4 (by decide) (fun h4 => ?_) (fun h4 => ?_)
  · have hO0 : w.2.2.2.1.length = 0 := Nat.eq_zero_of_not_pos (fun q => nI_ge (a := 0) q (by omega) h4)
    refine j_aload_n (pc := 13) dX12_readOrders_13 rfl ?_
    refine j_getIv (pc := 14) dX12_readOrders_14 f_X12_188 (Or.inl rfl) h.1.1 (h.2.2.2.2.1.1) ?_
    refine j_if_ne (pc := 17) (tgt := 26) dX12_readOrders_17 (by decide) (fun h17 => ?_) (fun h17 => ?_)
    · have hKp : ¬ w.2.2.1.length = 0 := fun q => h17 (by rw [show w.2.1.length = 0 by omega]; rfl)
      refine j_aload_n (pc := 26) dX12_readOrders_26 rfl ?_
      refine j_callV (pc := 27) (t := 12) (n_adv h) dX12_readOrders_27 l_X12_202 mk_X12_goesOn mv_X12_goesOn (by decide) rfl h.1.1 (by decide) rfl rfl (Nat.le_of_ble_eq_true rfl) (Nat.le_refl _) (Nat.le_refl _) (fun r T1 h_1 => ?_)
      obtain ⟨rfl, k1, h1⟩ := h_1
      refine j_aload_n (pc := 30) dX12_readOrders_30 rfl ?_
      refine j_callV (pc := 31) (t := 12) (n_readOne hE h1 (hk.hO (by omega) hlN.1) (hk.e4 (by omega))) dX12_readOrders_31 l_X12_226 mk_X12_readOne mv_X12_readOne (by decide) rfl h1.1.1 (by decide) rfl rfl (Nat.le_of_ble_eq_true rfl) (Nat.le_refl _) (Nat.le_refl _) (fun r T2 h_1 => ?_)
      skip
      rw [show zrOO X w = zrOs X 5 w by rw [zrOO, if_neg hKp, if_neg (by omega)]]
      cases hq : zrO X (zadv X w.1.1, w.2) with
      | error e =>
        rw [hq] at h_1
        obtain ⟨rfl, q2, q3⟩ := h_1
        rw [show zrOs X 5 w = .error e by rw [zrOs, hq]]
        refine j_if_ne (pc := 34) (tgt := 39) dX12_readOrders_34 (by decide) (fun h34 => absurd rfl h34) (fun h34 => ?_)
        refine j_iconst (pc := 37) (v := 0) dX12_readOrders_37 (by decide) ?_
        refine j_zret (pc := 38) dX12_readOrders_38 rfl (by first | assumption | decide) ?_
        exact ⟨rfl, (k1.mo (fun c k z => zXo.p z)).tr q2, q3⟩
      | ok v2 =>
        rw [hq] at h_1
        obtain ⟨rfl, q2, h2⟩ := h_1
        rw [show zrOs X 5 w = (if zisS v2.1 44 = true then zrOs X 4 v2 else .ok v2) by rw [zrOs, hq]]
        refine j_if_ne (pc := 34) (tgt := 39) dX12_readOrders_34 (by decide) (fun h34 => ?_) (fun h34 => absurd h34 (by decide))
        have hl2 := zrO_len hq
        have hk2 := zrO_ok hq hk hlN.1
        exact l_mords hE 4 v2 _ (by rw [hl2.1]; show w.2.2.2.1.length + 1 + 4 = 5; omega) hk2.1 ((k1.mo (fun c k z => zXo.p z)).tr q2) h2 rfl
    · refine j_aload_n (pc := 20) dX12_readOrders_20 rfl ?_
      refine j_iconst (pc := 21) (v := 5) dX12_readOrders_21 (by decide) ?_
      refine j_callV (pc := 22) (t := 12) (n_err h) dX12_readOrders_22 l_X12_195 mk_X12_errs mv_X12_errs (by decide) rfl h.1.1 (by decide) rfl rfl (Nat.le_of_ble_eq_true rfl) (Nat.le_refl _) (Nat.le_refl _) (fun r T h_1 => ?_)
      obtain ⟨rfl, q2, q3, q4⟩ := h_1
      refine j_zret (pc := 25) dX12_readOrders_25 rfl (by first | assumption | decide) ?_
      have hK0 : w.2.2.1.length = 0 := by
        have := (nI_eq (b := 0) (by omega) (by decide)).mp h17
        omega
      rw [zrOO, if_pos hK0]
      exact ⟨rfl, q2, q3, q4⟩
  · refine j_aload_n (pc := 7) dX12_readOrders_7 rfl ?_
    refine j_iconst (pc := 8) (v := 3) dX12_readOrders_8 (by decide) ?_
    refine j_callV (pc := 9) (t := 12) (n_err h) dX12_readOrders_9 l_X12_195 mk_X12_errs mv_X12_errs (by decide) rfl h.1.1 (by decide) rfl rfl (Nat.le_of_ble_eq_true rfl) (Nat.le_refl _) (Nat.le_refl _) (fun r T h_1 => ?_)
    obtain ⟨rfl, q2, q3, q4⟩ := h_1
    refine j_zret (pc := 12) dX12_readOrders_12 rfl (by first | assumption | decide) ?_
    have hOp : 0 < w.2.2.2.1.length := Nat.pos_of_ne_zero (fun q => h4 (by rw [q]; decide))
    have hKp : ¬ w.2.2.1.length = 0 := by
      have := hk.2 _ (List.mem_map.mpr ⟨_, List.mem_of_getElem? (gD (0, false, false, false) hOp), rfl⟩)
      omega
    rw [zrOO, if_neg hKp, if_pos hOp]
    exact ⟨rfl, q2, q3, q4⟩
