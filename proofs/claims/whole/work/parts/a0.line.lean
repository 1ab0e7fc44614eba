set_option maxRecDepth 20000 in
set_option maxHeartbeats 4000000 in
theorem l_tail3 {E : zE} {S T : zM} {X : List Nat} {v : zPi} {y : Option zV} (h : mPd T X v) (f : zK zXp S T) : zJ E 6 0 0 mX12_readRow cX12_readRow 68 [some (zR 123), y] [] T (fun r T => mPQ X S r T (zrM (.ok v))) := by
  refine j_aload_n (pc := 68) dX12_readRow_68 rfl ?_
  refine j_getIv (pc := 69) dX12_readRow_69 f_X12_152 (Or.inl rfl) h.1.1 (h.2.2.1.2.2.1) ?_
  refine j_bipush (pc := 72) (v := 59) dX12_readRow_72 (by decide) ?_
  refine j_icmp_eq (pc := 74) (tgt := 92) dX12_readRow_74 (by decide) (fun h74 => ?_) (fun h74 => ?_)
  · refine j_iconst (pc := 92) (v := 1) dX12_readRow_92 (by decide) ?_
    refine j_goto (pc := 93) (tgt := 97) dX12_readRow_93 (by decide) ?_
    refine j_zret (pc := 97) dX12_readRow_97 rfl (by first | assumption | decide) ?_
    have hc := (h.2.2.2.1.cc (c := 59) (by decide)).mp h74
    rw [zrM, if_pos (Or.inr hc)]
    exact ⟨rfl, f, h⟩
  · refine j_aload_n (pc := 77) dX12_readRow_77 rfl ?_
    refine j_getIv (pc := 78) dX12_readRow_78 f_X12_152 (Or.inl rfl) h.1.1 (h.2.2.1.2.2.1) ?_
    refine j_if_eq (pc := 81) (tgt := 92) dX12_readRow_81 (by decide) (fun h81 => ?_) (fun h81 => ?_)
    · refine j_iconst (pc := 92) (v := 1) dX12_readRow_92 (by decide) ?_
      refine j_goto (pc := 93) (tgt := 97) dX12_readRow_93 (by decide) ?_
      refine j_zret (pc := 97) dX12_readRow_97 rfl (by first | assumption | decide) ?_
      have hc := h.2.2.2.1.c0.mp h81
      rw [zrM, if_pos (Or.inl hc)]
      exact ⟨rfl, f, h⟩
    · refine j_aload_n (pc := 84) dX12_readRow_84 rfl ?_
      refine j_iconst (pc := 85) (v := 1) dX12_readRow_85 (by decide) ?_
      refine j_callV (pc := 86) (t := 12) (n_err h) dX12_readRow_86 l_X12_195 mk_X12_errs mv_X12_errs (by decide) rfl h.1.1 (by decide) rfl rfl (Nat.le_of_ble_eq_true rfl) (Nat.le_refl _) (Nat.le_refl _) (fun r T h_1 => ?_)
      obtain ⟨rfl, q2, q3, q4⟩ := h_1
      refine j_if_eq (pc := 89) (tgt := 96) dX12_readRow_89 (by decide) (fun h89 => ?_) (fun h89 => absurd rfl h89)
      refine j_iconst (pc := 96) (v := 0) dX12_readRow_96 (by decide) ?_
      refine j_zret (pc := 97) dX12_readRow_97 rfl (by first | assumption | decide) ?_
      rw [zrM, if_neg (fun q => q.elim (fun q => h81 (h.2.2.2.1.c0.mpr q)) (fun q => h74 ((h.2.2.2.1.cc (c := 59) (by decide)).mpr q)))]
      exact ⟨rfl, f.tr q2, q3, q4⟩
theorem mPr.done {S T : zM} {X : List Nat} {w : zPi} {g j : Nat} (h : mPr S X w g j) (hj : j = w.2.2.1.length) (hg : w.2.2.2.2.1 = g + 1) (hg3 : g < 30) (f : zK (fun c k => c = 123 ∧ k = 20) S T) (e : zgI T 123 20 = nI (g + 1)) : mPd T X w := by
  obtain ⟨a0, a1, a2, a3, a4, a5, ⟨v1, v2⟩⟩ := h
  refine ⟨f.ms a0, a1.k f (by omega) (fun k => by omega), a2.k f (fun i _ _ => by omega), a3, a4.k f (by omega) (fun i => by omega) (fun i => by omega), a5.k f (by omega) (fun c i _ _ => by omega), ⟨⟨by rw [hg]; exact e, by omega⟩, fun i c hc hi => ?_⟩⟩
  exact (f.2.2.2.2 _ _ (by omega)).trans (v2 i c hc (by omega))
set_option maxRecDepth 20000 in
set_option maxHeartbeats 4000000 in
theorem l_mrow {E : zE} {S : zM} {X : List Nat} {g : Nat} {Z : Except (Nat × Nat) zPi} (hE : zOKE E) (hg : g < 30) : ∀ (bs : List Bool) (j : Nat) (v : zPi) (T : zM), j + bs.length = v.2.2.1.length → (∀ k x, bs[k]? = some x → v.2.2.1[j + k]? = some x) → v.2.2.2.2.1 = g + 1 → zK zXp S T → mPr T X v g j → Z = zrM (zrRs X g bs j v) → zJ E 6 0 0 mX12_readRow cX12_readRow 34 [some (zR 123), some (zI (nI j))] [] T (fun r T => mPQ X S r T Z) := by
  intro bs
  induction bs with
  | nil =>
    intro j v T hj hbs hr f h hZ
    have hlN := h.2.2.2.2.1.2.1
    have hj : j = v.2.2.1.length := hj
    rw [zrRs] at hZ
    refine j_iload_n (pc := 34) dX12_readRow_34 rfl ?_
    refine j_aload_n (pc := 35) dX12_readRow_35 rfl ?_
    refine j_getIv (pc := 36) dX12_readRow_36 f_X12_188 (Or.inl rfl) h.1.1 (h.2.2.2.2.1.1) ?_
    refine j_icmp_ge (pc := 39) (tgt := 58) dX12_readRow_39 (by decide) (fun h39 => ?_) (fun h39 => absurd (nI_le (show v.2.1.length ≤ j by omega) (by omega)) h39)
    refine j_aload_n (pc := 58) dX12_readRow_58 rfl ?_
    refine j_dup (pc := 59) dX12_readRow_59 rfl ?_
    refine j_getIv (pc := 60) dX12_readRow_60 f_X12_233 (Or.inl rfl) h.1.1 (h.2.2.2.2.2.2.1.1) ?_
    refine j_iconst (pc := 63) (v := 1) dX12_readRow_63 (by decide) ?_
    refine j_iadd (pc := 64) dX12_readRow_64 ?_
    rw [nI_1]
    refine j_putI (pc := 65) dX12_readRow_65 f_X12_233 rfl h.1.1 rfl ?_
    rw [hZ]
    exact l_tail3 (h.done hj hr hg (zK.wI ⟨rfl, rfl⟩) zgI_self) (f.tr (zK.wI (Or.inr (by omega))))
  | cons b bs ih =>
    intro j v T hj hbs hr f h hZ
    have hlN := h.2.2.2.2.1.2.1
    rw [List.length_cons] at hj
    have hb0 : v.2.2.1[j]? = some b := hbs 0 b rfl
    refine j_iload_n (pc := 34) dX12_readRow_34 rfl ?_
    refine j_aload_n (pc := 35) dX12_readRow_35 rfl ?_
    refine j_getIv (pc := 36) dX12_readRow_36 f_X12_188 (Or.inl rfl) h.1.1 (h.2.2.2.2.1.1) ?_
    refine j_icmp_ge (pc := 39) (tgt := 58) dX12_readRow_39 (by decide) (fun h39 => absurd h39 (nI_ge (show j < v.2.1.length by omega) (by omega))) (fun h39 => ?_)
    refine j_aload_n (pc := 42) dX12_readRow_42 rfl ?_
    refine j_iload_n (pc := 43) dX12_readRow_43 rfl ?_
    refine j_callV (pc := 44) (t := 12) (n_readValue hE h hb0 hg) dX12_readRow_44 l_X12_236 mk_X12_readValue mv_X12_readValue (by decide) rfl h.1.1 (by decide) rfl rfl (Nat.le_of_ble_eq_true rfl) (Nat.le_refl _) (Nat.le_refl _) (fun r T2 h_1 => ?_)
    skip
    cases hq : zrW X v g j b with
    | error e =>
      rw [hq] at h_1
      obtain ⟨rfl, q2, q3⟩ := h_1
      rw [hZ, zrRs, hq]
      refine j_if_ne (pc := 47) (tgt := 52) dX12_readRow_47 (by decide) (fun h47 => absurd rfl h47) (fun h47 => ?_)
      refine j_iconst (pc := 50) (v := 0) dX12_readRow_50 (by decide) ?_
      refine j_zret (pc := 51) dX12_readRow_51 rfl (by first | assumption | decide) ?_
      exact ⟨rfl, f.tr q2, q3⟩
    | ok v2 =>
      rw [hq] at h_1
      obtain ⟨rfl, q2, h2⟩ := h_1
      refine j_if_ne (pc := 47) (tgt := 52) dX12_readRow_47 (by decide) (fun h47 => ?_) (fun h47 => absurd h47 (by decide))
      refine j_iinc (pc := 52) (v := _ + 1) (ls' := [_, _]) dX12_readRow_52 rfl rfl (by decide) rfl rfl ?_
      refine j_goto (pc := 55) (tgt := 34) dX12_readRow_55 (by decide) ?_
      rw [nI_1]
      have hv := zrW_ok hq
      exact ih (j + 1) v2 _ (by rw [hv.2.1]; omega) (fun k x hx => by rw [hv.2.1, show j + 1 + k = j + (k + 1) by omega]; exact hbs (k + 1) x hx) (by rw [hv.2.2.2]; exact hr) (f.tr q2) h2 (hZ.trans (by rw [zrRs, hq]))
/-- what is so of all that is read -/
def zIv (w : zPi) : Prop := zOk w ∧ (0 < w.2.2.2.2.1 → w.2.2.2.1 ≠ [])
theorem zIv.K {w : zPi} (h : zIv w) (ho : w.2.2.2.1 ≠ []) : ¬ w.2.2.1.length = 0 := by
  have hOp : 0 < w.2.2.2.1.length := List.length_pos_iff.mpr ho
  have := h.1.2 _ (List.mem_map.mpr ⟨_, List.mem_of_getElem? (gD (0, false, false, false) hOp), rfl⟩)
  omega
set_option maxRecDepth 20000 in
set_option maxHeartbeats 4000000 in
theorem n_readRow {E : zE} {S : zM} {X : List Nat} {w : zPi} (hE : zOKE E) (h : mPd S X w) (hi : zIv w) : zSp E 6 0 0 mX12_readRow cX12_readRow [zR 123] S (fun r T => mPQ X S r T (zrM (zrR X w))) := by
  refine zSp.of (by decide) rfl (Nat.le_of_ble_eq_true rfl) rfl ?_
  have hlN := h.2.2.2.2.1.2.1
  have hO4 := h.2.2.2.2.2.1.2.1
  have hg3 := h.2.2.2.2.2.2.1.2
  have hKp : w.2.2.2.1 ≠ [] → ¬ w.2.2.1.length = 0 := fun q => hi.K q
  refine j_aload_n (pc := 0) dX12_readRow_0 rfl ?_
  refine j_getIv (pc := 1) dX12_readRow_1 f_X12_233 (Or.inl rfl) h.1.1 (h.2.2.2.2.2.2.1.1) ?_
  refine j_bipush (pc := 4) (v := 30) dX12_readRow_4 (by decide) ?_
  refine j_icmp_ne (pc := 6) (tgt := 15) dX12_readRow_6 (by decide) (fun h6 => ?_) (fun h6 => ?_)
  · have h30 : w.2.2.2.2.1 < 30 := Nat.lt_of_le_of_ne hg3 (fun q => h6 (by rw [q]; rfl))
    refine j_aload_n (pc := 15) dX12_readRow_15 rfl ?_
    refine j_getIv (pc := 16) dX12_readRow_16 f_X12_217 (Or.inl rfl) h.1.1 (h.2.2.2.2.2.1.1) ?_
    refine j_if_ne (pc := 19) (tgt := 28) dX12_readRow_19 (by decide) (fun h19 => ?_) (fun h19 => ?_)
    · have hOp : ¬ w.2.2.2.1.length = 0 := fun q => h19 (by rw [q]; rfl)
      refine j_aload_n (pc := 28) dX12_readRow_28 rfl ?_
      refine j_callV (pc := 29) (t := 12) (n_advR (w := (w.1, w.2.1, w.2.2.1, w.2.2.2.1, w.2.2.2.2.1 + 1, w.2.2.2.2.2)) (g := w.2.2.2.2.1) (j := 0) h) dX12_readRow_29 l_X12_202 mk_X12_goesOn mv_X12_goesOn (by decide) rfl h.1.1 (by decide) rfl rfl (Nat.le_of_ble_eq_true rfl) (Nat.le_refl _) (Nat.le_refl _) (fun r T1 h_1 => ?_)
      obtain ⟨rfl, k1, h1⟩ := h_1
      refine j_iconst (pc := 32) (v := 0) dX12_readRow_32 (by decide) ?_
      refine j_istore_n (pc := 33) (ls' := [_, _]) dX12_readRow_33 (by decide) rfl rfl ?_
      have hOn : w.2.2.2.1 ≠ [] := fun q => hOp (by rw [q]; rfl)
      exact l_mrow hE h30 w.2.2.1 0 (zadv X w.1.1, w.2.1, w.2.2.1, w.2.2.2.1, w.2.2.2.2.1 + 1, w.2.2.2.2.2) _ (Nat.zero_add _) (fun k x hx => by rw [Nat.zero_add]; exact hx) rfl (k1.mo (fun c k z => zXo.p z)) h1 (by rw [zrR, if_neg (fun q => q.elim (fun q => hKp hOn q) hOp), if_neg (by omega)])
    · refine j_aload_n (pc := 22) dX12_readRow_22 rfl ?_
      refine j_iconst (pc := 23) (v := 5) dX12_readRow_23 (by decide) ?_
      refine j_callV (pc := 24) (t := 12) (n_err h) dX12_readRow_24 l_X12_195 mk_X12_errs mv_X12_errs (by decide) rfl h.1.1 (by decide) rfl rfl (Nat.le_of_ble_eq_true rfl) (Nat.le_refl _) (Nat.le_refl _) (fun r T h_1 => ?_)
      obtain ⟨rfl, q2, q3, q4⟩ := h_1
      refine j_zret (pc := 27) dX12_readRow_27 rfl (by first | assumption | decide) ?_
      have hO0 : w.2.2.2.1.length = 0 := (nI_eq (b := 0) (by omega) (by decide)).mp h19
      rw [zrR, if_pos (Or.inr hO0)]
      exact ⟨rfl, q2, q3, q4⟩
  · refine j_aload_n (pc := 9) dX12_readRow_9 rfl ?_
    refine j_iconst (pc := 10) (v := 4) dX12_readRow_10 (by decide) ?_
    refine j_callV (pc := 11) (t := 12) (n_err h) dX12_readRow_11 l_X12_195 mk_X12_errs mv_X12_errs (by decide) rfl h.1.1 (by decide) rfl rfl (Nat.le_of_ble_eq_true rfl) (Nat.le_refl _) (Nat.le_refl _) (fun r T h_1 => ?_)
    obtain ⟨rfl, q2, q3, q4⟩ := h_1
    refine j_zret (pc := 14) dX12_readRow_14 rfl (by first | assumption | decide) ?_
    have h30 : w.2.2.2.2.1 = 30 := (nI_eq (b := 30) (by omega) (by decide)).mp h6
    have hOp := hi.2 (by omega)
    have hO1 : ¬ w.2.2.2.1.length = 0 := fun q => hOp (List.eq_nil_of_length_eq_zero q)
    rw [zrR, if_neg (fun q => q.elim (fun q => hKp hOp q) hO1), if_pos (by omega)]
    exact ⟨rfl, q2, q3, q4⟩
theorem mPQ.b {X : List Nat} {S T : zM} {r : Option zV} {q : Except (Nat × Nat) zPi} (h : mPQ X S r T q) : ∃ x : Int32, r = some (zI x) ∧ narrow .boolean (.int x) = .int x := by
  cases q with
  | error e => exact ⟨0, h.1, by decide⟩
  | ok w => exact ⟨1, h.1, by decide⟩
set_option maxRecDepth 20000 in
set_option maxHeartbeats 4000000 in
theorem n_readLine {E : zE} {S : zM} {X : List Nat} {w : zPi} (hE : zOKE E) (h : mPd S X w) (hi : zIv w) : zSp E 7 0 0 mX12_readLine cX12_readLine [zR 123] S (fun r T => mPQ X S r T (zrM (zrL X w))) := by
  refine zSp.of (by decide) rfl (Nat.le_of_ble_eq_true rfl) rfl ?_
  have hz0 : w.2.2.1.length = 0 → w.2.2.2.2.1 = 0 := fun q => Nat.eq_zero_of_not_pos (fun z => hi.K (hi.2 z) q)
  refine j_aload_n (pc := 0) dX12_readLine_0 rfl ?_
  refine j_ldcQ (pc := 1) (j := 2) hE dX12_readLine_1 rfl (by decide) rfl ?_
  refine j_callV (pc := 3) (t := 12) (n_isW hE h (j := 2) (by decide)) dX12_readLine_3 l_X12_207 mk_X12_isWord mv_X12_isWord (by decide) rfl h.1.1 (by decide) rfl rfl (Nat.le_of_ble_eq_true rfl) (Nat.le_refl _) (Nat.le_refl _) (fun r T h_1 => ?_)
  obtain ⟨rfl, rfl⟩ := h_1
  refine j_if_eq (pc := 6) (tgt := 14) dX12_readLine_6 (by decide) (fun h6 => ?_) (fun h6 => ?_)
  · refine j_aload_n (pc := 14) dX12_readLine_14 rfl ?_
    refine j_ldcQ (pc := 15) (j := 3) hE dX12_readLine_15 rfl (by decide) rfl ?_
    refine j_callV (pc := 17) (t := 12) (n_isW hE h (j := 3) (by decide)) dX12_readLine_17 l_X12_207 mk_X12_isWord mv_X12_isWord (by decide) rfl h.1.1 (by decide) rfl rfl (Nat.le_of_ble_eq_true rfl) (Nat.le_refl _) (Nat.le_refl _) (fun r T h_1 => ?_)
    obtain ⟨rfl, rfl⟩ := h_1
    refine j_if_eq (pc := 20) (tgt := 28) dX12_readLine_20 (by decide) (fun h20 => ?_) (fun h20 => ?_)
    · refine j_aload_n (pc := 28) dX12_readLine_28 rfl ?_
      refine j_ldcQ (pc := 29) (j := 4) hE dX12_readLine_29 rfl (by decide) rfl ?_
      refine j_callV (pc := 31) (t := 12) (n_isW hE h (j := 4) (by decide)) dX12_readLine_31 l_X12_207 mk_X12_isWord mv_X12_isWord (by decide) rfl h.1.1 (by decide) rfl rfl (Nat.le_of_ble_eq_true rfl) (Nat.le_refl _) (Nat.le_refl _) (fun r T h_1 => ?_)
      obtain ⟨rfl, rfl⟩ := h_1
      refine j_if_eq (pc := 34) (tgt := 44) dX12_readLine_34 (by decide) (fun h34 => ?_) (fun h34 => ?_)
      · refine j_aload_n (pc := 44) dX12_readLine_44 rfl ?_
        refine j_iconst (pc := 45) (v := 1) dX12_readLine_45 (by decide) ?_
        refine j_callV (pc := 46) (t := 12) (n_err h) dX12_readLine_46 l_X12_195 mk_X12_errs mv_X12_errs (by decide) rfl h.1.1 (by decide) rfl rfl (Nat.le_of_ble_eq_true rfl) (Nat.le_refl _) (Nat.le_refl _) (fun r T h_1 => ?_)
        obtain ⟨rfl, q2, q3, q4⟩ := h_1
        refine j_zret (pc := 49) dX12_readLine_49 rfl (by first | assumption | decide) ?_
        rw [zrL, ← zWd_2, ← zWd_3, ← zWd_4, if_neg (by rw [zbi_eq0.mp h6]; decide), if_neg (by rw [zbi_eq0.mp h20]; decide), if_neg (by rw [zbi_eq0.mp h34]; decide)]
        exact ⟨rfl, q2, q3, q4⟩
      · refine j_aload_n (pc := 37) dX12_readLine_37 rfl ?_
        refine j_callV (pc := 38) (t := 12) (n_readRow hE h hi) dX12_readLine_38 l_X12_250 mk_X12_readRow mv_X12_readRow (by decide) rfl h.1.1 (by decide) rfl rfl (Nat.le_of_ble_eq_true rfl) (Nat.le_refl _) (Nat.le_refl _) (fun r T h_1 => ?_)
        have ez : zrL X w = zrR X w := by rw [zrL, ← zWd_2, ← zWd_3, ← zWd_4, if_neg (by rw [zbi_eq0.mp h6]; decide), if_neg (by rw [zbi_eq0.mp h20]; decide), if_pos (zbi_ne0 h34)]
        rw [← ez] at h_1
        have hr := mPQ.b h_1
        obtain ⟨x, rfl, hx⟩ := hr
        refine j_goto (pc := 41) (tgt := 49) dX12_readLine_41 (by decide) ?_
        refine j_zret (pc := 49) dX12_readLine_49 rfl (by first | assumption | decide) ?_
        exact h_1
    · refine j_aload_n (pc := 23) dX12_readLine_23 rfl ?_
      refine j_callV (pc := 24) (t := 12) (n_readOrders hE h hi.1) dX12_readLine_24 l_X12_245 mk_X12_readOrders mv_X12_readOrders (by decide) rfl h.1.1 (by decide) rfl rfl (Nat.le_of_ble_eq_true rfl) (Nat.le_refl _) (Nat.le_refl _) (fun r T h_1 => ?_)
      have ez : zrL X w = zrOO X w := by rw [zrL, ← zWd_2, ← zWd_3, if_neg (by rw [zbi_eq0.mp h6]; decide), if_pos (zbi_ne0 h20)]
      rw [← ez] at h_1
      have hr := mPQ.b h_1
      obtain ⟨x, rfl, hx⟩ := hr
      refine j_zret (pc := 27) dX12_readLine_27 rfl (by first | assumption | decide) ?_
      exact h_1
  · refine j_aload_n (pc := 9) dX12_readLine_9 rfl ?_
    refine j_callV (pc := 10) (t := 12) (n_readTable hE h hz0) dX12_readLine_10 l_X12_241 mk_X12_readTable mv_X12_readTable (by decide) rfl h.1.1 (by decide) rfl rfl (Nat.le_of_ble_eq_true rfl) (Nat.le_refl _) (Nat.le_refl _) (fun r T h_1 => ?_)
    have ez : zrL X w = zrCC X w := by rw [zrL, ← zWd_2, if_pos (zbi_ne0 h6)]
    rw [← ez] at h_1
    have hr := mPQ.b h_1
    obtain ⟨x, rfl, hx⟩ := hr
    refine j_zret (pc := 13) dX12_readLine_13 rfl (by first | assumption | decide) ?_
    exact h_1
