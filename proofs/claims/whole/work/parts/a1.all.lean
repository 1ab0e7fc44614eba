/-! where a reading has come to -/
theorem zrC_pos {X : List Nat} {w v : zPi} (h : zrC X w = .ok v) (hw : w.1.1 ≤ X.length) : w.1.2.1 = 1 ∧ w.1.1 ≤ v.1.1 ∧ v.1.1 ≤ X.length := by
  unfold zrC at h
  split at h
  · cases h
  · rename_i h1
    split at h
    · cases h
    · split at h
      · cases h
      · cases h
        have a := zadv_le hw
        have b := zadv_le a.1
        exact ⟨Classical.not_not.mp h1, by show w.1.1 ≤ (zadv X (zadv X w.1.1).1).1; omega, b.1⟩
theorem zrCs_pos {X : List Nat} : ∀ (k : Nat) (w v : zPi), zrCs X k w = .ok v → w.1.1 ≤ X.length → w.1.1 < v.1.1 ∧ v.1.1 ≤ X.length ∧ v.2.2.2 = w.2.2.2 ∧ w.2.2.1.length ≤ v.2.2.1.length := by
  intro k
  induction k with
  | zero => intro w v h; cases h
  | succ k ih =>
    intro w v h hw
    have a := zadv_le hw
    rw [zrCs] at h
    cases hq : zrC X (zadv X w.1.1, w.2) with
    | error e => rw [hq] at h; cases h
    | ok v2 =>
      rw [hq] at h
      have p1 := zrC_pos hq a.1
      have p2 := zrC_len hq
      have p3 := zadv_0 (X := X) (i := w.1.1) (by rw [show (zadv X w.1.1).2.1 = 1 from p1.1]; decide)
      have p4 : (zadv X w.1.1).1 ≤ v2.1.1 := p1.2.1
      have p5 : v2.2.2.1.length = w.2.2.1.length + 1 := p2.1
      by_cases hz : zisS v2.1 44 = true
      · simp only [hz, if_true] at h
        have := ih v2 v h p1.2.2
        exact ⟨by omega, this.2.1, this.2.2.1.trans p2.2, by omega⟩
      · simp only [hz] at h
        cases h
        exact ⟨by omega, p1.2.2, p2.2, by omega⟩
theorem zrO_pos {X : List Nat} {w v : zPi} (h : zrO X w = .ok v) (hw : w.1.1 ≤ X.length) : w.1.2.1 = 1 ∧ w.1.1 ≤ v.1.1 ∧ v.1.1 ≤ X.length := by
  unfold zrO at h
  split at h
  · cases h
  · rename_i h1
    split at h
    · cases h
    · split at h
      · cases h
      · split at h
        · cases h
        · cases h
          have a := zadv_le hw
          have b := zadv_le a.1
          have c := zadv_le b.1
          refine ⟨Classical.not_not.mp h1, ?_⟩
          show w.1.1 ≤ (if _ then zadv X (zadv X (zadv X w.1.1).1).1 else zadv X (zadv X w.1.1).1).1 ∧ (if _ then zadv X (zadv X (zadv X w.1.1).1).1 else zadv X (zadv X w.1.1).1).1 ≤ X.length
          split
          · exact ⟨by omega, c.1⟩
          · exact ⟨by omega, b.1⟩
theorem zrOs_pos {X : List Nat} : ∀ (k : Nat) (w v : zPi), zrOs X k w = .ok v → w.1.1 ≤ X.length → zOk w → w.2.2.1.length = w.2.1.length → w.1.1 < v.1.1 ∧ v.1.1 ≤ X.length ∧ zOk v ∧ v.2.2.2.1 ≠ [] := by
  intro k
  induction k with
  | zero => intro w v h; cases h
  | succ k ih =>
    intro w v h hw hk hl
    have a := zadv_le hw
    rw [zrOs] at h
    cases hq : zrO X (zadv X w.1.1, w.2) with
    | error e => rw [hq] at h; cases h
    | ok v2 =>
      rw [hq] at h
      have p1 := zrO_pos hq a.1
      have p2 := zrO_len hq
      have p3 := zadv_0 (X := X) (i := w.1.1) (by rw [show (zadv X w.1.1).2.1 = 1 from p1.1]; decide)
      have p4 : (zadv X w.1.1).1 ≤ v2.1.1 := p1.2.1
      have p5 := zrO_ok hq hk hl
      by_cases hz : zisS v2.1 44 = true
      · simp only [hz, if_true] at h
        have := ih v2 v h p1.2.2 p5.1 (by rw [p5.2.1, p2.2]; exact hl)
        exact ⟨by omega, this.2.1, this.2.2⟩
      · simp only [hz] at h
        cases h
        exact ⟨by omega, p1.2.2, p5.1, p5.2.2.2⟩
theorem zrW_pos {X : List Nat} {w v : zPi} {i j : Nat} {b : Bool} (h : zrW X w i j b = .ok v) (hw : w.1.1 ≤ X.length) : w.1.2.1 ≠ 0 ∧ w.1.1 ≤ v.1.1 ∧ v.1.1 ≤ X.length := by
  unfold zrW at h
  have e := zrV_ok h
  have a := zadv_le hw
  cases hB : zrB b w.1 with
  | true =>
    have hK : zrK X b w.1 = zadv X w.1.1 := by unfold zrK; rw [hB]; rfl
    have hs : zisS w.1 45 = true := by
      unfold zrB at hB
      rw [Bool.and_eq_true] at hB
      exact hB.2
    have c := zadv_le a.1
    rw [e.1, hK]
    exact ⟨by rw [zisS_3 hs]; decide, by omega, c.1⟩
  | false =>
    have hK : zrK X b w.1 = w.1 := by unfold zrK; rw [hB]; rfl
    rw [e.1, hK]
    refine ⟨fun q => ?_, a.2, a.1⟩
    rw [hB, hK, zrV, if_pos] at h
    · cases h
    · refine ⟨?_, ?_⟩
      · rw [zisW_0 (by rw [q]; decide)]
        rfl
      · rw [q]
        cases b <;> decide
theorem zrRs_pos {X : List Nat} {i : Nat} : ∀ (bs : List Bool) (j : Nat) (w v : zPi), zrRs X i bs j w = .ok v → w.1.1 ≤ X.length → (bs ≠ [] → w.1.2.1 ≠ 0) ∧ w.1.1 ≤ v.1.1 ∧ v.1.1 ≤ X.length ∧ v.2.2.1 = w.2.2.1 ∧ v.2.2.2.1 = w.2.2.2.1 := by
  intro bs
  induction bs with
  | nil =>
    intro j w v h hw
    cases h
    exact ⟨fun q => absurd rfl q, Nat.le_refl _, hw, rfl, rfl⟩
  | cons b bs ih =>
    intro j w v h hw
    rw [zrRs] at h
    cases hq : zrW X w i j b with
    | error e => rw [hq] at h; cases h
    | ok v2 =>
      rw [hq] at h
      have p1 := zrW_pos hq hw
      have p2 := zrW_ok hq
      have p3 := ih (j + 1) v2 v h p1.2.2
      exact ⟨fun _ => p1.1, by omega, p3.2.2.1, p3.2.2.2.1.trans p2.2.1, p3.2.2.2.2.trans p2.2.2.1⟩
theorem zrL_pos {X : List Nat} {w v : zPi} (h : zrL X w = .ok v) (hw : w.1.1 ≤ X.length) (hi : zIv w) (hl : w.2.2.1.length = w.2.1.length) : w.1.2.1 = 1 ∧ w.1.1 < v.1.1 ∧ v.1.1 ≤ X.length ∧ zIv v := by
  unfold zrL at h
  split at h
  · rename_i hz
    refine ⟨(of_decide_eq_true hz).1, ?_⟩
    rw [zrCC] at h
    split at h
    · cases h
    · have := zrCs_pos 4 w v h hw
      refine ⟨this.1, this.2.1, ⟨?_, fun x hx => ?_⟩, ?_⟩
      · rw [this.2.2.1]
        exact hi.1.1
      · rw [this.2.2.1] at hx
        exact Nat.lt_of_lt_of_le (hi.1.2 x hx) this.2.2.2
      · rw [this.2.2.1]
        exact hi.2
  · split at h
    · rename_i hz
      refine ⟨(of_decide_eq_true hz).1, ?_⟩
      rw [zrOO] at h
      split at h
      · cases h
      · split at h
        · cases h
        · have := zrOs_pos 5 w v h hw hi.1 hl
          exact ⟨this.1, this.2.1, this.2.2.1, fun _ => this.2.2.2⟩
    · split at h
      · rename_i hz
        refine ⟨(of_decide_eq_true hz).1, ?_⟩
        rw [zrR] at h
        split at h
        · cases h
        · rename_i h5
          split at h
          · cases h
          · have a := zadv_le hw
            have := zrRs_pos _ _ _ _ h a.1
            have hn : w.2.2.1 ≠ [] := fun q => h5 (Or.inl (by rw [q]; rfl))
            have p3 := zadv_0 (this.1 hn)
            have p4 : (zadv X w.1.1).1 ≤ v.1.1 := this.2.1
            refine ⟨by omega, this.2.2.1, ⟨?_, fun x hx => ?_⟩, fun _ => ?_⟩
            · rw [this.2.2.2.2]
              exact hi.1.1
            · rw [this.2.2.2.2] at hx
              rw [this.2.2.2.1]
              exact hi.1.2 x hx
            · rw [this.2.2.2.2]
              exact fun q => h5 (Or.inr (by rw [show w.2.2.2.1 = [] from q]; rfl))
      · cases h
set_option maxRecDepth 20000 in
set_option maxHeartbeats 4000000 in
theorem l_mall {E : zE} {S : zM} {X : List Nat} {y : Option zV} {Z : Except (Nat × Nat) zPi} (hE : zOKE E) : ∀ (m : Nat) (v : zPi) (T : zM), zK zXp S T → mPd T X v → zIv v → (v.1.2.1 = 0 ∨ zisS v.1 59 = true) → X.length < v.1.1 + m → Z = (if v.1.2.1 = 0 then (if 0 < v.2.2.2.1.length then .ok v else .error (5, v.1.2.2.1)) else if zisS v.1 59 = true then zrA X m (zadv X v.1.1, v.2) else .error (1, v.1.2.2.1)) → zJ E 8 0 0 mX12_readAll cX12_readAll 38 [some (zR 123), y] [] T (fun r T => mPQ X S r T Z) := by
  intro m
  induction m with
  | zero =>
    intro v T f h hi hv hm hZ
    have := h.2.2.2.1.le.1
    omega
  | succ m ih =>
    intro v T f h hi hv hm hZ
    have hlN := h.2.2.2.2.1.2.1
    have hle := h.2.2.2.1.le
    have hO4 := h.2.2.2.2.2.1.2.1
    by_cases hs : v.1.2.1 = 0
    case pos =>
      rw [if_pos hs] at hZ
      refine j_aload_n (pc := 38) dX12_readAll_38 rfl ?_
      refine j_getIv (pc := 39) dX12_readAll_39 f_X12_152 (Or.inl rfl) h.1.1 (h.2.2.1.2.2.1) ?_
      refine j_bipush (pc := 42) (v := 59) dX12_readAll_42 (by decide) ?_
      refine j_icmp_ne (pc := 44) (tgt := 60) dX12_readAll_44 (by decide) (fun h44 => ?_) (fun h44 => absurd ((h.2.2.2.1.cc (c := 59) (by decide)).mp h44) (fun q => by have := zisS_3 q; rw [hs] at this; cases this))
      refine j_aload_n (pc := 60) dX12_readAll_60 rfl ?_
      refine j_getIv (pc := 61) dX12_readAll_61 f_X12_152 (Or.inl rfl) h.1.1 (h.2.2.1.2.2.1) ?_
      refine j_if_eq (pc := 64) (tgt := 73) dX12_readAll_64 (by decide) (fun h64 => ?_) (fun h64 => absurd (h.2.2.2.1.c0.mpr hs) h64)
      refine j_aload_n (pc := 73) dX12_readAll_73 rfl ?_
      refine j_getIv (pc := 74) dX12_readAll_74 f_X12_217 (Or.inl rfl) h.1.1 (h.2.2.2.2.2.1.1) ?_
      refine j_if_gt (pc := 77) (tgt := 88) dX12_readAll_77 (by decide) (fun h77 => ?_) (fun h77 => ?_)
      · refine j_iconst (pc := 88) (v := 1) dX12_readAll_88 (by decide) ?_
        refine j_goto (pc := 89) (tgt := 93) dX12_readAll_89 (by decide) ?_
        refine j_zret (pc := 93) dX12_readAll_93 rfl (by first | assumption | decide) ?_
        have hp : 0 < v.2.2.2.1.length := nI_pos2 h77
        rw [hZ, if_pos hp]
        exact ⟨rfl, f, h⟩
      · refine j_aload_n (pc := 80) dX12_readAll_80 rfl ?_
        refine j_iconst (pc := 81) (v := 5) dX12_readAll_81 (by decide) ?_
        refine j_callV (pc := 82) (t := 12) (n_err h) dX12_readAll_82 l_X12_195 mk_X12_errs mv_X12_errs (by decide) rfl h.1.1 (by decide) rfl rfl (Nat.le_of_ble_eq_true rfl) (Nat.le_refl _) (Nat.le_refl _) (fun r T h_1 => ?_)
        obtain ⟨rfl, q2, q3, q4⟩ := h_1
        refine j_if_eq (pc := 85) (tgt := 92) dX12_readAll_85 (by decide) (fun h85 => ?_) (fun h85 => absurd rfl h85)
        refine j_iconst (pc := 92) (v := 0) dX12_readAll_92 (by decide) ?_
        refine j_zret (pc := 93) dX12_readAll_93 rfl (by first | assumption | decide) ?_
        have hp : ¬ 0 < v.2.2.2.1.length := fun q => h77 (nI_lt q (by omega))
        rw [hZ, if_neg hp]
        exact ⟨rfl, f.tr q2, q3, q4⟩
    case neg =>
      have hc := hv.resolve_left hs
      rw [if_neg hs, if_pos hc] at hZ
      refine j_aload_n (pc := 38) dX12_readAll_38 rfl ?_
      refine j_getIv (pc := 39) dX12_readAll_39 f_X12_152 (Or.inl rfl) h.1.1 (h.2.2.1.2.2.1) ?_
      refine j_bipush (pc := 42) (v := 59) dX12_readAll_42 (by decide) ?_
      refine j_icmp_ne (pc := 44) (tgt := 60) dX12_readAll_44 (by decide) (fun h44 => absurd ((h.2.2.2.1.cc (c := 59) (by decide)).mpr hc) h44) (fun h44 => ?_)
      refine j_aload_n (pc := 47) dX12_readAll_47 rfl ?_
      refine j_callV (pc := 48) (t := 12) (n_adv h) dX12_readAll_48 l_X12_202 mk_X12_goesOn mv_X12_goesOn (by decide) rfl h.1.1 (by decide) rfl rfl (Nat.le_of_ble_eq_true rfl) (Nat.le_refl _) (Nat.le_refl _) (fun r T1 h_1 => ?_)
      obtain ⟨rfl, k1, h1⟩ := h_1
      refine j_aload_n (pc := 51) dX12_readAll_51 rfl ?_
      refine j_callV (pc := 52) (t := 12) (n_readLine hE h1 hi) dX12_readAll_52 l_X12_253 mk_X12_readLine mv_X12_readLine (by decide) rfl h1.1.1 (by decide) rfl rfl (Nat.le_of_ble_eq_true rfl) (Nat.le_refl _) (Nat.le_refl _) (fun r T2 h_1 => ?_)
      skip
      cases hq : zrL X (zadv X v.1.1, v.2) with
      | error e =>
        rw [hq] at h_1
        obtain ⟨rfl, q2, q3⟩ := h_1
        rw [hZ, show zrA X (m + 1) (zadv X v.1.1, v.2) = .error e by rw [zrA, hq]]
        refine j_if_ne (pc := 55) (tgt := 38) dX12_readAll_55 (by decide) (fun h55 => absurd rfl h55) (fun h55 => ?_)
        refine j_iconst (pc := 58) (v := 0) dX12_readAll_58 (by decide) ?_
        refine j_zret (pc := 59) dX12_readAll_59 rfl (by first | assumption | decide) ?_
        exact ⟨rfl, (f.tr (k1.mo (fun c k z => zXo.p z))).tr q2, q3⟩
      | ok v2 =>
        have hp := zrL_pos hq (zadv_le hle.1).1 hi hlN.1
        have hp1 : (zadv X v.1.1).1 < v2.1.1 := hp.2.1
        have hp2 := (zadv_le hle.1).2
        rw [hq, zrM] at h_1
        by_cases he : v2.1.2.1 = 0 ∨ zisS v2.1 59 = true
        · rw [if_pos he] at h_1
          obtain ⟨rfl, q2, h2⟩ := h_1
          refine j_if_ne (pc := 55) (tgt := 38) dX12_readAll_55 (by decide) (fun h55 => ?_) (fun h55 => absurd h55 (by decide))
          exact ih v2 _ ((f.tr (k1.mo (fun c k z => zXo.p z))).tr q2) h2 hp.2.2.2 he (by omega) (hZ.trans (by rw [zrA, hq]))
        · rw [if_neg he] at h_1
          obtain ⟨rfl, q2, q3⟩ := h_1
          rw [hZ, show zrA X (m + 1) (zadv X v.1.1, v.2) = .error (1, v2.1.2.2.1) by rw [zrA, hq]; simp only []; rw [if_neg (fun q => he (Or.inl q)), if_neg (fun q => he (Or.inr q))]]
          refine j_if_ne (pc := 55) (tgt := 38) dX12_readAll_55 (by decide) (fun h55 => absurd rfl h55) (fun h55 => ?_)
          refine j_iconst (pc := 58) (v := 0) dX12_readAll_58 (by decide) ?_
          refine j_zret (pc := 59) dX12_readAll_59 rfl (by first | assumption | decide) ?_
          exact ⟨rfl, (f.tr (k1.mo (fun c k z => zXo.p z))).tr q2, q3⟩
set_option maxRecDepth 20000 in
set_option maxHeartbeats 4000000 in
theorem n_readAll {E : zE} {S : zM} {X : List Nat} (hE : zOKE E) (hM : zMs S) (hA : ∀ i, i < X.length → zgI S 124 i = nI (X.getD i 0)) (h9 : X.length ≤ 900) (hb : ∀ b ∈ X, b < 256) : zSp E 8 0 0 mX12_readAll cX12_readAll [zR 123, zI (nI X.length)] S (fun r T => mPQ X S r T (zrt X)) := by
  refine zSp.of (by decide) rfl (Nat.le_of_ble_eq_true rfl) rfl ?_
  refine j_aload_n (pc := 0) dX12_readAll_0 rfl ?_
  refine j_iload_n (pc := 1) dX12_readAll_1 rfl ?_
  refine j_putI (pc := 2) dX12_readAll_2 f_X12_139 rfl hM.1 rfl ?_
  refine j_aload_n (pc := 5) dX12_readAll_5 rfl ?_
  refine j_iconst (pc := 6) (v := 0) dX12_readAll_6 (by decide) ?_
  refine j_putI (pc := 7) dX12_readAll_7 f_X12_142 rfl hM.1 rfl ?_
  refine j_aload_n (pc := 10) dX12_readAll_10 rfl ?_
  refine j_iconst (pc := 11) (v := 0) dX12_readAll_11 (by decide) ?_
  refine j_putI (pc := 12) dX12_readAll_12 f_X12_188 rfl hM.1 rfl ?_
  refine j_aload_n (pc := 15) dX12_readAll_15 rfl ?_
  refine j_iconst (pc := 16) (v := 0) dX12_readAll_16 (by decide) ?_
  refine j_putI (pc := 17) dX12_readAll_17 f_X12_217 rfl hM.1 rfl ?_
  refine j_aload_n (pc := 20) dX12_readAll_20 rfl ?_
  refine j_iconst (pc := 21) (v := 0) dX12_readAll_21 (by decide) ?_
  refine j_putI (pc := 22) dX12_readAll_22 f_X12_233 rfl hM.1 rfl ?_
  have hXU : mTx (zwI (zwI (zwI (zwI (zwI S 123 22 (nI X.length)) 123 24 0) 123 13 0) 123 16 0) 123 20 0) X := ⟨by rw [zgI_nk (by decide), zgI_nk (by decide), zgI_nk (by decide), zgI_nk (by decide), zgI_self], fun i hi => hA i hi, h9, hb⟩
  refine j_aload_n (pc := 25) dX12_readAll_25 rfl ?_
  refine j_callV (pc := 26) (t := 12) (n_goesOn (X := X) (i := 0) (by exact hM) hXU (by rw [zgI_nk (by decide), zgI_nk (by decide), zgI_nk (by decide), zgI_self]; rfl) (Nat.zero_le _)) dX12_readAll_26 l_X12_202 mk_X12_goesOn mv_X12_goesOn (by decide) rfl hM.1 (by decide) rfl rfl (Nat.le_of_ble_eq_true rfl) (Nat.le_refl _) (Nat.le_refl _) (fun r T1 h_1 => ?_)
  obtain ⟨rfl, k1, o1⟩ := h_1
  have kU : zK zXp S (zwI (zwI (zwI (zwI (zwI S 123 22 (nI X.length)) 123 24 0) 123 13 0) 123 16 0) 123 20 0) := (((((zK.wI (Or.inr (by omega))).tr (zK.wI (Or.inr (by omega)))).tr (zK.wI (Or.inr (by omega)))).tr (zK.wI (Or.inr (by omega)))).tr (zK.wI (Or.inr (by omega))))
  have kA : zK zXp S T1 := kU.tr (k1.mo (fun c k z => zXo.p z))
  have h1 : mPd T1 X (zadv X 0, [], [], [], 0, fun _ _ => 0) := ⟨kA.ms hM, hXU.xo k1, o1, ⟨0, Nat.zero_le _, rfl⟩, ⟨(k1.2.2.2.1 _ _ (by unfold zXo; omega)).trans (by rw [zgI_nk (by decide), zgI_nk (by decide), zgI_self]; rfl), ⟨rfl, Nat.zero_le _⟩, fun i x hx => by simp at hx, fun i x hx => by simp at hx⟩, ⟨(k1.2.2.2.1 _ _ (by unfold zXo; omega)).trans (by rw [zgI_nk (by decide), zgI_self]; rfl), Nat.zero_le _, fun i x hx => by simp at hx⟩, ⟨(k1.2.2.2.1 _ _ (by unfold zXo; omega)).trans zgI_self, Nat.zero_le _⟩, fun i c hc => absurd hc (Nat.not_lt_zero c)⟩
  have hi0 : zIv (zadv X 0, [], [], [], 0, fun _ _ => 0) := ⟨zOk_nil rfl, fun q => absurd q (Nat.lt_irrefl 0)⟩
  refine j_aload_n (pc := 29) dX12_readAll_29 rfl ?_
  refine j_callV (pc := 30) (t := 12) (n_readLine hE h1 hi0) dX12_readAll_30 l_X12_253 mk_X12_readLine mv_X12_readLine (by decide) rfl h1.1.1 (by decide) rfl rfl (Nat.le_of_ble_eq_true rfl) (Nat.le_refl _) (Nat.le_refl _) (fun r T2 h_1 => ?_)
  skip
  cases hq : zrL X (zadv X 0, [], [], [], 0, fun _ _ => 0) with
  | error e =>
    rw [hq] at h_1
    obtain ⟨rfl, q2, q3⟩ := h_1
    rw [show zrt X = .error e by rw [zrt, zrA, hq]]
    refine j_if_ne (pc := 33) (tgt := 38) dX12_readAll_33 (by decide) (fun h33 => absurd rfl h33) (fun h33 => ?_)
    refine j_iconst (pc := 36) (v := 0) dX12_readAll_36 (by decide) ?_
    refine j_zret (pc := 37) dX12_readAll_37 rfl (by first | assumption | decide) ?_
    exact ⟨rfl, kA.tr q2, q3⟩
  | ok v2 =>
    have hp := zrL_pos hq (zadv_le (Nat.zero_le _)).1 hi0 rfl
    have hp0 := zadv_0 (X := X) (i := 0) (by rw [show (zadv X 0).2.1 = 1 from hp.1]; decide)
    have hp1 : (zadv X 0).1 < v2.1.1 := hp.2.1
    rw [hq, zrM] at h_1
    by_cases he : v2.1.2.1 = 0 ∨ zisS v2.1 59 = true
    · rw [if_pos he] at h_1
      obtain ⟨rfl, q2, h2⟩ := h_1
      refine j_if_ne (pc := 33) (tgt := 38) dX12_readAll_33 (by decide) (fun h33 => ?_) (fun h33 => absurd h33 (by decide))
      exact l_mall hE 899 v2 _ (kA.tr q2) h2 hp.2.2.2 he (by omega) (by rw [zrt, zrA, hq])
    · rw [if_neg he] at h_1
      obtain ⟨rfl, q2, q3⟩ := h_1
      rw [show zrt X = .error (1, v2.1.2.2.1) by rw [zrt, zrA, hq]; simp only []; rw [if_neg (fun q => he (Or.inl q)), if_neg (fun q => he (Or.inr q))]]
      refine j_if_ne (pc := 33) (tgt := 38) dX12_readAll_33 (by decide) (fun h33 => absurd rfl h33) (fun h33 => ?_)
      refine j_iconst (pc := 36) (v := 0) dX12_readAll_36 (by decide) ?_
      refine j_zret (pc := 37) dX12_readAll_37 rfl (by first | assumption | decide) ?_
      exact ⟨rfl, kA.tr q2, q3⟩
