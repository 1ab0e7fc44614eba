/-! a line ends with ; or with the text -/
def zrM (q : Except (Nat × Nat) zPi) : Except (Nat × Nat) zPi := match q with
  | .error e => .error e
  | .ok v => if v.1.2.1 = 0 ∨ zisS v.1 59 = true then .ok v else .error (1, v.1.2.2.1)
set_option maxRecDepth 20000 in
set_option maxHeartbeats 4000000 in
theorem l_tail1 {E : zE} {S T : zM} {X : List Nat} {v : zPi} (h : mPd T X v) (f : zK zXp S T) : zJ E 6 0 0 mX12_readTable cX12_readTable 56 [some (zR 123)] [] T (fun r T => mPQ X S r T (zrM (.ok v))) := by
  refine j_aload_n (pc := 56) dX12_readTable_56 rfl ?_
  refine j_getIv (pc := 57) dX12_readTable_57 f_X12_152 (Or.inl rfl) h.1.1 (h.2.2.1.2.2.1) ?_
  refine j_bipush (pc := 60) (v := 59) dX12_readTable_60 (by decide) ?_
  refine j_icmp_eq (pc := 62) (tgt := 80) dX12_readTable_62 (by decide) (fun h62 => ?_) (fun h62 => ?_)
  · refine j_iconst (pc := 80) (v := 1) dX12_readTable_80 (by decide) ?_
    refine j_goto (pc := 81) (tgt := 85) dX12_readTable_81 (by decide) ?_
    refine j_zret (pc := 85) dX12_readTable_85 rfl (by first | assumption | decide) ?_
    have hc := (h.2.2.2.1.cc (c := 59) (by decide)).mp h62
    rw [zrM, if_pos (Or.inr hc)]
    exact ⟨rfl, f, h⟩
  · refine j_aload_n (pc := 65) dX12_readTable_65 rfl ?_
    refine j_getIv (pc := 66) dX12_readTable_66 f_X12_152 (Or.inl rfl) h.1.1 (h.2.2.1.2.2.1) ?_
    refine j_if_eq (pc := 69) (tgt := 80) dX12_readTable_69 (by decide) (fun h69 => ?_) (fun h69 => ?_)
    · refine j_iconst (pc := 80) (v := 1) dX12_readTable_80 (by decide) ?_
      refine j_goto (pc := 81) (tgt := 85) dX12_readTable_81 (by decide) ?_
      refine j_zret (pc := 85) dX12_readTable_85 rfl (by first | assumption | decide) ?_
      have hc := h.2.2.2.1.c0.mp h69
      rw [zrM, if_pos (Or.inl hc)]
      exact ⟨rfl, f, h⟩
    · refine j_aload_n (pc := 72) dX12_readTable_72 rfl ?_
      refine j_iconst (pc := 73) (v := 1) dX12_readTable_73 (by decide) ?_
      refine j_callV (pc := 74) (t := 12) (n_err h) dX12_readTable_74 l_X12_195 mk_X12_errs mv_X12_errs (by decide) rfl h.1.1 (by decide) rfl rfl (Nat.le_of_ble_eq_true rfl) (Nat.le_refl _) (Nat.le_refl _) (fun r T h_1 => ?_)
      obtain ⟨rfl, q2, q3, q4⟩ := h_1
      refine j_if_eq (pc := 77) (tgt := 84) dX12_readTable_77 (by decide) (fun h77 => ?_) (fun h77 => absurd rfl h77)
      refine j_iconst (pc := 84) (v := 0) dX12_readTable_84 (by decide) ?_
      refine j_zret (pc := 85) dX12_readTable_85 rfl (by first | assumption | decide) ?_
      rw [zrM, if_neg (fun q => q.elim (fun q => h69 (h.2.2.2.1.c0.mpr q)) (fun q => h62 ((h.2.2.2.1.cc (c := 59) (by decide)).mpr q)))]
      exact ⟨rfl, f.tr q2, q3, q4⟩
theorem zisS_3 {k : zTo} {c : Nat} (h : zisS k c = true) : k.2.1 = 3 := (of_decide_eq_true h).1
theorem zisS_c {k : zTo} {c d : Nat} (h : zisS k c = true) (g : zisS k d = true) : (nI c).toInt64 = (nI d).toInt64 := (of_decide_eq_true h).2.symm.trans (of_decide_eq_true g).2
set_option maxRecDepth 20000 in
set_option maxHeartbeats 4000000 in
theorem l_mcols {E : zE} {S : zM} {X : List Nat} {Z : Except (Nat × Nat) zPi} (hE : zOKE E) : ∀ (m : Nat) (v : zPi) (T : zM), v.2.2.1.length + m = 4 → v.2.2.2.2.1 = 0 → zK zXp S T → mPd T X v → Z = zrM (if zisS v.1 44 = true then zrCs X m v else .ok v) → zJ E 6 0 0 mX12_readTable cX12_readTable 26 [some (zR 123)] [] T (fun r T => mPQ X S r T Z) := by
  intro m
  induction m with
  | zero =>
    intro v T hm h0 f h hZ
    have hlN := h.2.2.2.2.1.2.1
    cases hz : zisS v.1 44 with
    | false =>
      rw [hz, if_neg (by decide)] at hZ
      refine j_aload_n (pc := 26) dX12_readTable_26 rfl ?_
      refine j_getIv (pc := 27) dX12_readTable_27 f_X12_152 (Or.inl rfl) h.1.1 (h.2.2.1.2.2.1) ?_
      refine j_bipush (pc := 30) (v := 44) dX12_readTable_30 (by decide) ?_
      refine j_icmp_ne (pc := 32) (tgt := 56) dX12_readTable_32 (by decide) (fun h32 => ?_) (fun h32 => absurd ((h.2.2.2.1.cc (c := 44) (by decide)).mp h32) (by rw [hz]; decide))
      rw [hZ]
      exact l_tail1 h f
    | true =>
      rw [hz, if_pos rfl, zrCs, zrM] at hZ
      refine j_aload_n (pc := 26) dX12_readTable_26 rfl ?_
      refine j_getIv (pc := 27) dX12_readTable_27 f_X12_152 (Or.inl rfl) h.1.1 (h.2.2.1.2.2.1) ?_
      refine j_bipush (pc := 30) (v := 44) dX12_readTable_30 (by decide) ?_
      refine j_icmp_ne (pc := 32) (tgt := 56) dX12_readTable_32 (by decide) (fun h32 => absurd ((h.2.2.2.1.cc (c := 44) (by decide)).mpr hz) h32) (fun h32 => ?_)
      refine j_aload_n (pc := 35) dX12_readTable_35 rfl ?_
      refine j_getIv (pc := 36) dX12_readTable_36 f_X12_188 (Or.inl rfl) h.1.1 (h.2.2.2.2.1.1) ?_
      refine j_iconst (pc := 39) (v := 4) dX12_readTable_39 (by decide) ?_
      refine j_icmp_ge (pc := 40) (tgt := 56) dX12_readTable_40 (by decide) (fun h40 => ?_) (fun h40 => absurd (nI_le (a := 4) (show 4 ≤ v.2.1.length by omega) (by omega)) h40)
      have e := l_tail1 (E := E) h f
      rw [zrM, if_neg (fun q => q.elim (fun q => by have := (zisS_3 hz); rw [q] at this; cases this) (fun q => by have := zisS_c hz q; exact absurd this (by decide)))] at e
      rw [hZ]
      exact e
  | succ m ih =>
    intro v T hm h0 f h hZ
    have hlN := h.2.2.2.2.1.2.1
    cases hz : zisS v.1 44 with
    | false =>
      rw [hz, if_neg (by decide)] at hZ
      refine j_aload_n (pc := 26) dX12_readTable_26 rfl ?_
      refine j_getIv (pc := 27) dX12_readTable_27 f_X12_152 (Or.inl rfl) h.1.1 (h.2.2.1.2.2.1) ?_
      refine j_bipush (pc := 30) (v := 44) dX12_readTable_30 (by decide) ?_
      refine j_icmp_ne (pc := 32) (tgt := 56) dX12_readTable_32 (by decide) (fun h32 => ?_) (fun h32 => absurd ((h.2.2.2.1.cc (c := 44) (by decide)).mp h32) (by rw [hz]; decide))
      rw [hZ]
      exact l_tail1 h f
    | true =>
      refine j_aload_n (pc := 26) dX12_readTable_26 rfl ?_
      refine j_getIv (pc := 27) dX12_readTable_27 f_X12_152 (Or.inl rfl) h.1.1 (h.2.2.1.2.2.1) ?_
      refine j_bipush (pc := 30) (v := 44) dX12_readTable_30 (by decide) ?_
      refine j_icmp_ne (pc := 32) (tgt := 56) dX12_readTable_32 (by decide) (fun h32 => absurd ((h.2.2.2.1.cc (c := 44) (by decide)).mpr hz) h32) (fun h32 => ?_)
      refine j_aload_n (pc := 35) dX12_readTable_35 rfl ?_
      refine j_getIv (pc := 36) dX12_readTable_36 f_X12_188 (Or.inl rfl) h.1.1 (h.2.2.2.2.1.1) ?_
      refine j_iconst (pc := 39) (v := 4) dX12_readTable_39 (by decide) ?_
      refine j_icmp_ge (pc := 40) (tgt := 56) dX12_readTable_40 (by decide) (fun h40 => absurd h40 (nI_ge (b := 4) (show v.2.1.length < 4 by omega) (by decide))) (fun h40 => ?_)
      refine j_aload_n (pc := 43) dX12_readTable_43 rfl ?_
      refine j_callV (pc := 44) (t := 12) (n_adv h) dX12_readTable_44 l_X12_202 mk_X12_goesOn mv_X12_goesOn (by decide) rfl h.1.1 (by decide) rfl rfl (Nat.le_of_ble_eq_true rfl) (Nat.le_refl _) (Nat.le_refl _) (fun r T1 h_1 => ?_)
      obtain ⟨rfl, k1, h1⟩ := h_1
      refine j_aload_n (pc := 47) dX12_readTable_47 rfl ?_
      refine j_callV (pc := 48) (t := 12) (n_readColumn hE h1 (by show v.2.2.1.length < 4; omega) h0) dX12_readTable_48 l_X12_213 mk_X12_readColumn mv_X12_readColumn (by decide) rfl h1.1.1 (by decide) rfl rfl (Nat.le_of_ble_eq_true rfl) (Nat.le_refl _) (Nat.le_refl _) (fun r T2 h_1 => ?_)
      skip
      cases hq : zrC X (zadv X v.1.1, v.2) with
      | error e =>
        rw [hq] at h_1
        obtain ⟨rfl, q2, q3⟩ := h_1
        rw [hZ, if_pos hz, show zrCs X (m + 1) v = .error e by rw [zrCs, hq]]
        refine j_if_ne (pc := 51) (tgt := 26) dX12_readTable_51 (by decide) (fun h51 => absurd rfl h51) (fun h51 => ?_)
        refine j_iconst (pc := 54) (v := 0) dX12_readTable_54 (by decide) ?_
        refine j_zret (pc := 55) dX12_readTable_55 rfl (by first | assumption | decide) ?_
        exact ⟨rfl, (f.tr (k1.mo (fun c k z => zXo.p z))).tr q2, q3⟩
      | ok v2 =>
        rw [hq] at h_1
        obtain ⟨rfl, q2, h2⟩ := h_1
        refine j_if_ne (pc := 51) (tgt := 26) dX12_readTable_51 (by decide) (fun h51 => ?_) (fun h51 => absurd h51 (by decide))
        have hl2 := zrC_len hq
        exact ih v2 _ (by rw [hl2.1]; show v.2.2.1.length + 1 + m = 4; omega) (by rw [hl2.2]; exact h0) ((f.tr (k1.mo (fun c k z => zXo.p z))).tr q2) h2 (hZ.trans (by rw [if_pos hz, zrCs, hq]))
set_option maxRecDepth 20000 in
set_option maxHeartbeats 4000000 in
theorem n_readTable {E : zE} {S : zM} {X : List Nat} {w : zPi} (hE : zOKE E) (h : mPd S X w) (hr0 : w.2.2.1.length = 0 → w.2.2.2.2.1 = 0) : zSp E 6 0 0 mX12_readTable cX12_readTable [zR 123] S (fun r T => mPQ X S r T (zrM (zrCC X w))) := by
  refine zSp.of (by decide) rfl (Nat.le_of_ble_eq_true rfl) rfl ?_
  have hlN := h.2.2.2.2.1.2.1
  refine j_aload_n (pc := 0) dX12_readTable_0 rfl ?_
  refine j_getIv (pc := 1) dX12_readTable_1 f_X12_188 (Or.inl rfl) h.1.1 (h.2.2.2.2.1.1) ?_
  refine j_if_le (pc := 4) (tgt := 13) dX12_readTable_4 (by decide) (fun h4 => ?_) (fun h4 => ?_)
  · have hK0 : w.2.2.1.length = 0 := by
      have : w.2.1.length = 0 := Nat.eq_zero_of_not_pos (fun q => nI_ge (a := 0) q (by omega) h4)
      omega
    refine j_aload_n (pc := 13) dX12_readTable_13 rfl ?_
    refine j_callV (pc := 14) (t := 12) (n_adv h) dX12_readTable_14 l_X12_202 mk_X12_goesOn mv_X12_goesOn (by decide) rfl h.1.1 (by decide) rfl rfl (Nat.le_of_ble_eq_true rfl) (Nat.le_refl _) (Nat.le_refl _) (fun r T1 h_1 => ?_)
    obtain ⟨rfl, k1, h1⟩ := h_1
    refine j_aload_n (pc := 17) dX12_readTable_17 rfl ?_
    refine j_callV (pc := 18) (t := 12) (n_readColumn hE h1 (by show w.2.2.1.length < 4; omega) (hr0 hK0)) dX12_readTable_18 l_X12_213 mk_X12_readColumn mv_X12_readColumn (by decide) rfl h1.1.1 (by decide) rfl rfl (Nat.le_of_ble_eq_true rfl) (Nat.le_refl _) (Nat.le_refl _) (fun r T2 h_1 => ?_)
    skip
    rw [show zrCC X w = zrCs X 4 w from if_neg (by omega)]
    cases hq : zrC X (zadv X w.1.1, w.2) with
    | error e =>
      rw [hq] at h_1
      obtain ⟨rfl, q2, q3⟩ := h_1
      rw [show zrCs X 4 w = .error e by rw [zrCs, hq]]
      refine j_if_ne (pc := 21) (tgt := 26) dX12_readTable_21 (by decide) (fun h21 => absurd rfl h21) (fun h21 => ?_)
      refine j_iconst (pc := 24) (v := 0) dX12_readTable_24 (by decide) ?_
      refine j_zret (pc := 25) dX12_readTable_25 rfl (by first | assumption | decide) ?_
      exact ⟨rfl, (k1.mo (fun c k z => zXo.p z)).tr q2, q3⟩
    | ok v2 =>
      rw [hq] at h_1
      obtain ⟨rfl, q2, h2⟩ := h_1
      rw [show zrCs X 4 w = (if zisS v2.1 44 = true then zrCs X 3 v2 else .ok v2) by rw [zrCs, hq]]
      refine j_if_ne (pc := 21) (tgt := 26) dX12_readTable_21 (by decide) (fun h21 => ?_) (fun h21 => absurd h21 (by decide))
      have hl2 := zrC_len hq
      exact l_mcols hE 3 v2 _ (by rw [hl2.1]; show w.2.2.1.length + 1 + 3 = 4; omega) (by rw [hl2.2]; exact hr0 hK0) ((k1.mo (fun c k z => zXo.p z)).tr q2) h2 rfl
  · refine j_aload_n (pc := 7) dX12_readTable_7 rfl ?_
    refine j_iconst (pc := 8) (v := 3) dX12_readTable_8 (by decide) ?_
    refine j_callV (pc := 9) (t := 12) (n_err h) dX12_readTable_9 l_X12_195 mk_X12_errs mv_X12_errs (by decide) rfl h.1.1 (by decide) rfl rfl (Nat.le_of_ble_eq_true rfl) (Nat.le_refl _) (Nat.le_refl _) (fun r T h_1 => ?_)
    obtain ⟨rfl, q2, q3, q4⟩ := h_1
    refine j_zret (pc := 12) dX12_readTable_12 rfl (by first | assumption | decide) ?_
    rw [zrCC, if_pos (show 0 < w.2.2.1.length from Nat.pos_of_ne_zero (fun q => h4 (by rw [show w.2.1.length = 0 by omega]; decide)))]
    exact ⟨rfl, q2, q3, q4⟩
