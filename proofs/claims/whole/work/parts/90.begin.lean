theorem zsr16_8 (x : Int32) : x >>> (16 &&& 31) >>> (8 &&& 31) = x >>> (24 &&& 31) := by
  rw [fa_eq, pk_shr _ _ 8 (by decide), pk_shr _ _ 16 (by decide), pk_shr _ _ 24 (by decide), ← Int.shiftRight_add]
theorem zsr0 (x : Int32) : x >>> ((0 : Int32) &&& 31) = x := by
  rw [fa_eq, pk_shr _ _ 0 (by decide), Int.shiftRight_zero]
theorem z4_at (x : Int32) : ∀ i, i < 4 → (x >>> ((24 - 8 * nI i) &&& 31)) &&& 255 = nI ((z4 x).getD i 0)
  | 0, _ => by rw [zb8_and, show (24 - 8 * nI 0 : Int32) = 24 from by decide, ← zsr16_8]; rfl
  | 1, _ => by rw [zb8_and, show (24 - 8 * nI 1 : Int32) = 16 from by decide]; rfl
  | 2, _ => by rw [zb8_and, show (24 - 8 * nI 2 : Int32) = 8 from by decide]; rfl
  | 3, _ => by rw [zb8_and, show (24 - 8 * nI 3 : Int32) = 0 from by decide, zsr0]; rfl
  | i + 4, h => absurd h (by omega)
set_option maxRecDepth 20000 in
set_option maxHeartbeats 4000000 in
theorem n_laysWord {E : zE} {S : zM} {F : List Nat} (hM : zMs S) (hA : mA S F) (hl : F.length + 4 ≤ 900) (x : Int32) : zSp E 0 0 0 mX12_laysWord cX12_laysWord [zR 123, zI x] S (fun r T => r = none ∧ zK (fun c k => c = 124 ∨ (c = 123 ∧ k = 5)) S T ∧ mA T (F ++ z4 x)) := by
  refine zSp.of (by decide) rfl (Nat.le_of_ble_eq_true rfl) rfl ?_
  have lp : ∀ (m i : Nat) (T : zM), i + m = 4 → zK (fun c k => c = 124) S T → (∀ j, j < F.length → zgI T 124 j = nI (F.getD j 0)) → (∀ j, j < i → zgI T 124 (F.length + j) = nI ((z4 x).getD j 0)) → zJ E 0 0 0 mX12_laysWord cX12_laysWord 2 [some (zR 123), some (zI x), some (zI (nI i))] [] T (fun r T => r = none ∧ zK (fun c k => c = 124 ∨ (c = 123 ∧ k = 5)) S T ∧ mA T (F ++ z4 x)) := by
    intro m
    induction m with
    | zero =>
      intro i T hi hk hq hz
      have ei : i = 4 := by omega
      subst ei
      have hMT := hk.ms hM
      have e5 : zgI T 123 5 = nI F.length := (hk.2.2.2.1 123 5 (by decide)).trans hA.1
      refine j_iload_n (pc := 2) dX12_laysWord_2 rfl ?_
      refine j_iconst (pc := 3) (v := 4) dX12_laysWord_3 (by decide) ?_
      refine j_icmp_ge (pc := 4) (tgt := 37) dX12_laysWord_4 (by decide) (fun h4 => ?_) (fun h4 => absurd (nI_le (a := 4) (Nat.le_refl _) (by decide)) h4)
      refine j_aload_n (pc := 37) dX12_laysWord_37 rfl ?_
      refine j_dup (pc := 38) dX12_laysWord_38 rfl ?_
      refine j_getIv (pc := 39) dX12_laysWord_39 f_X12_132 (Or.inl rfl) hMT.1 (e5) ?_
      refine j_iconst (pc := 42) (v := 4) dX12_laysWord_42 (by decide) ?_
      refine j_iadd (pc := 43) dX12_laysWord_43 ?_
      rw [show nI F.length + 4 = nI (F.length + 4) from nI_add _ 4]
      refine j_putI (pc := 44) dX12_laysWord_44 f_X12_132 rfl hMT.1 rfl ?_
      refine j_vret (pc := 47) dX12_laysWord_47 rfl ?_
      refine ⟨rfl, (hk.mo (fun c k z => Or.inl z)).tr (zK.wI (Or.inr ⟨rfl, rfl⟩)), zgI_self.trans (by rw [List.length_append]; rfl), fun i hi => ?_⟩
      rw [List.length_append, z4_len] at hi
      rw [zgI_ne (by decide)]
      by_cases g : i < F.length
      · rw [hq i g, List.getD_eq_getElem?_getD, List.getD_eq_getElem?_getD, List.getElem?_append_left g]
      · have := hz (i - F.length) (by omega)
        rw [show F.length + (i - F.length) = i by omega] at this
        rw [this, List.getD_eq_getElem?_getD, List.getD_eq_getElem?_getD, List.getElem?_append_right (by omega)]
    | succ m ih =>
      intro i T hi hk hq hz
      have hMT := hk.ms hM
      have e5 : zgI T 123 5 = nI F.length := (hk.2.2.2.1 123 5 (by decide)).trans hA.1
      refine j_iload_n (pc := 2) dX12_laysWord_2 rfl ?_
      refine j_iconst (pc := 3) (v := 4) dX12_laysWord_3 (by decide) ?_
      refine j_icmp_ge (pc := 4) (tgt := 37) dX12_laysWord_4 (by decide) (fun h4 => absurd h4 (nI_ge (b := 4) (by omega) (by decide))) (fun h4 => ?_)
      refine j_aload_n (pc := 7) dX12_laysWord_7 rfl ?_
      refine j_getPv (pc := 8) dX12_laysWord_8 f_X12_15 (Or.inr ⟨_, rfl⟩) hMT.1 (mp_tape hMT) ?_
      refine j_aload_n (pc := 11) dX12_laysWord_11 rfl ?_
      refine j_getIv (pc := 12) dX12_laysWord_12 f_X12_132 (Or.inl rfl) hMT.1 (e5) ?_
      refine j_iload_n (pc := 15) dX12_laysWord_15 rfl ?_
      refine j_iadd (pc := 16) dX12_laysWord_16 ?_
      rw [nI_add]
      refine j_iload_n (pc := 17) dX12_laysWord_17 rfl ?_
      refine j_bipush (pc := 18) (v := 24) dX12_laysWord_18 (by decide) ?_
      refine j_bipush (pc := 20) (v := 8) dX12_laysWord_20 (by decide) ?_
      refine j_iload_n (pc := 22) dX12_laysWord_22 rfl ?_
      refine j_imul (pc := 23) dX12_laysWord_23 ?_
      refine j_isub (pc := 24) dX12_laysWord_24 ?_
      refine j_ishr (pc := 25) dX12_laysWord_25 ?_
      refine j_sipush (pc := 26) (v := 255) dX12_laysWord_26 (by decide) ?_
      refine j_iand (pc := 29) dX12_laysWord_29 ?_
      rw [z4_at x i (by omega)]
      refine j_iastn (pc := 30) dX12_laysWord_30 (mk_tape hMT) (by omega) (Nat.le_of_ble_eq_true rfl) ?_
      refine j_iinc (pc := 31) (v := _ + 1) (ls' := [_, _, _]) dX12_laysWord_31 rfl rfl (by decide) rfl rfl ?_
      refine j_goto (pc := 34) (tgt := 2) dX12_laysWord_34 (by decide) ?_
      rw [nI_1]
      refine ih (i + 1) _ (by omega) (hk.tr (zK.wI rfl)) (fun j hj => ?_) (fun j hj => ?_)
      · rw [zgI_wI, if_neg (by omega)]
        exact hq j hj
      · rw [zgI_wI]
        by_cases e : j = i
        · subst e
          rw [if_pos ⟨rfl, rfl⟩]
        · rw [if_neg (by omega)]
          exact hz j (by omega)
  refine j_iconst (pc := 0) (v := 0) dX12_laysWord_0 (by decide) ?_
  refine j_istore_n (pc := 1) (ls' := [_, _, _]) dX12_laysWord_1 (by decide) rfl rfl ?_
  exact lp 4 0 S (by omega) zK.rf hA.2 (fun j hj => absurd hj (Nat.not_lt_zero j))
theorem zMO.fed {S T : zM} {s : zST} {X : Nat → Nat → Prop} {F : List Nat} (h : zMO S s) (f : zK X S T) (hx : ∀ c k, X c k → c = 124 ∨ (c = 123 ∧ (k = 5 ∨ k = 0))) (hA' : mA T F) : zMO T (F, s.2) := by
  obtain ⟨h0, hA, hB, h12, hT, hP, hR⟩ := h
  have g : ∀ c k, ¬ (c = 124 ∨ (c = 123 ∧ (k = 5 ∨ k = 0))) → ¬ X c k := fun c k q z => q (hx c k z)
  have gi : ∀ k, k ≠ 5 → k ≠ 0 → zgI T 123 k = zgI S 123 k := fun k q q2 => f.2.2.2.1 _ _ (g _ _ (by omega))
  exact ⟨f.ms h0, hA', ⟨(gi 1 (by omega) (by omega)).trans hB.1, (gi 2 (by omega) (by omega)).trans hB.2.1, fun q => (gi 3 (by omega) (by omega)).trans (hB.2.2 q)⟩, ⟨(gi 12 (by omega) (by omega)).trans h12.1, fun q => (gi 29 (by omega) (by omega)).trans (h12.2 q)⟩, fun t ht => ⟨(hT t ht).1.k f (fun k hk => g _ _ (by omega)) (fun c k hc => g _ _ (by omega)), (hT t ht).2.k f (fun k => g _ _ (by omega))⟩, hP.k f ⟨g _ _ (by omega), g _ _ (by omega)⟩ (fun c k _ _ => g _ _ (by omega)), fun r hr => (hR r hr).k f (fun c k _ _ => g _ _ (by omega))⟩
set_option maxRecDepth 20000 in
set_option maxHeartbeats 4000000 in
theorem m_feed {E : zE} {S : zM} {s : zST} {n : Nat} (h : zMO S s) (hw : zWF n s) (a b c d e : Int32) : zSp E 1 0 0 mX12_feed cX12_feed [zR 123, zI a, zI b, zI c, zI d, zI e] S (fun r T => r = some (zI (q_feed s a b c d e).1) ∧ zMO T (q_feed s a b c d e).2 ∧ zF zMX S T) := by
  refine zSp.of (by decide) rfl (Nat.le_of_ble_eq_true rfl) rfl ?_
  have hM := h.1
  have l9 := hw.2.1.1
  have m0 : zMs (zwI S 123 0 0) := hM
  have a0 : mA (zwI S 123 0 0) (sF s) := (h.th 0).2.1
  have f0 : zK (fun c k => c = 124 ∨ (c = 123 ∧ (k = 5 ∨ k = 0))) S (zwI S 123 0 0) := zK.wI (by omega)
  refine j_aload_n (pc := 0) dX12_feed_0 rfl ?_
  refine j_iconst (pc := 1) (v := 0) dX12_feed_1 (by decide) ?_
  refine j_putI (pc := 2) dX12_feed_2 f_X12_126 rfl hM.1 rfl ?_
  refine j_aload_n (pc := 5) dX12_feed_5 rfl ?_
  refine j_getIv (pc := 6) dX12_feed_6 f_X12_132 (Or.inl rfl) hM.1 (h.2.1.1) ?_
  refine j_sipush (pc := 9) (v := 880) dX12_feed_9 (by decide) ?_
  refine j_icmp_le (pc := 12) (tgt := 17) dX12_feed_12 (by decide) (fun h12 => ?_) (fun h12 => ?_)
  · have h880 : ¬ 880 < (sF s).length := fun q => nI_ge (a := 880) q (by omega) h12
    refine j_aload_n (pc := 17) dX12_feed_17 rfl ?_
    refine j_iload_n (pc := 18) dX12_feed_18 rfl ?_
    refine j_callV (pc := 19) (t := 12) (n_laysWord (F := (sF s)) m0 a0 (by omega) a) dX12_feed_19 l_X12_135 mk_X12_laysWord mv_X12_laysWord (by decide) rfl m0.1 (by decide) rfl rfl (Nat.le_of_ble_eq_true rfl) (Nat.le_refl _) (Nat.le_refl _) (fun r T1 h_1 => ?_)
    obtain ⟨rfl, f1, a1⟩ := h_1
    have m1 := f1.ms m0
    refine j_aload_n (pc := 22) dX12_feed_22 rfl ?_
    refine j_iload_n (pc := 23) dX12_feed_23 rfl ?_
    refine j_callV (pc := 24) (t := 12) (n_laysWord (F := ((sF s) ++ z4 a)) m1 a1 (by simp only [List.length_append, z4_len]; omega) b) dX12_feed_24 l_X12_135 mk_X12_laysWord mv_X12_laysWord (by decide) rfl m1.1 (by decide) rfl rfl (Nat.le_of_ble_eq_true rfl) (Nat.le_refl _) (Nat.le_refl _) (fun r T2 h_1 => ?_)
    obtain ⟨rfl, f2, a2⟩ := h_1
    have m2 := f2.ms m1
    refine j_aload_n (pc := 27) dX12_feed_27 rfl ?_
    refine j_iload_n (pc := 28) dX12_feed_28 rfl ?_
    refine j_callV (pc := 29) (t := 12) (n_laysWord (F := (((sF s) ++ z4 a) ++ z4 b)) m2 a2 (by simp only [List.length_append, z4_len]; omega) c) dX12_feed_29 l_X12_135 mk_X12_laysWord mv_X12_laysWord (by decide) rfl m2.1 (by decide) rfl rfl (Nat.le_of_ble_eq_true rfl) (Nat.le_refl _) (Nat.le_refl _) (fun r T3 h_1 => ?_)
    obtain ⟨rfl, f3, a3⟩ := h_1
    have m3 := f3.ms m2
    refine j_aload_n (pc := 32) dX12_feed_32 rfl ?_
    refine j_iload (pc := 33) dX12_feed_33 rfl ?_
    refine j_callV (pc := 35) (t := 12) (n_laysWord (F := ((((sF s) ++ z4 a) ++ z4 b) ++ z4 c)) m3 a3 (by simp only [List.length_append, z4_len]; omega) d) dX12_feed_35 l_X12_135 mk_X12_laysWord mv_X12_laysWord (by decide) rfl m3.1 (by decide) rfl rfl (Nat.le_of_ble_eq_true rfl) (Nat.le_refl _) (Nat.le_refl _) (fun r T4 h_1 => ?_)
    obtain ⟨rfl, f4, a4⟩ := h_1
    have m4 := f4.ms m3
    refine j_aload_n (pc := 38) dX12_feed_38 rfl ?_
    refine j_iload (pc := 39) dX12_feed_39 rfl ?_
    refine j_callV (pc := 41) (t := 12) (n_laysWord (F := (((((sF s) ++ z4 a) ++ z4 b) ++ z4 c) ++ z4 d)) m4 a4 (by simp only [List.length_append, z4_len]; omega) e) dX12_feed_41 l_X12_135 mk_X12_laysWord mv_X12_laysWord (by decide) rfl m4.1 (by decide) rfl rfl (Nat.le_of_ble_eq_true rfl) (Nat.le_refl _) (Nat.le_refl _) (fun r T5 h_1 => ?_)
    obtain ⟨rfl, f5, a5⟩ := h_1
    have m5 := f5.ms m4
    refine j_aload_n (pc := 44) dX12_feed_44 rfl ?_
    refine j_getIv (pc := 45) dX12_feed_45 f_X12_132 (Or.inl rfl) m5.1 (a5.1) ?_
    refine j_iret (pc := 48) dX12_feed_48 rfl ?_
    have f9 := (((((f0.tr (f1.mo (fun c k z => by omega))).tr (f2.mo (fun c k z => by omega))).tr (f3.mo (fun c k z => by omega))).tr (f4.mo (fun c k z => by omega))).tr (f5.mo (fun c k z => by omega)))
    refine ⟨?_, ?_, f9.f (fun c k z => by unfold zMX; omega)⟩
    · rw [q_feed, if_neg h880]
      simp only [List.length_append, z4_len, Nat.add_assoc]
    · rw [q_feed, if_neg h880]
      exact h.fed f9 (fun c k z => z) a5
  · refine j_iconst (pc := 15) (v := (-1)) dX12_feed_15 (by decide) ?_
    refine j_iret (pc := 16) dX12_feed_16 rfl ?_
    have h880 : 880 < (sF s).length := Nat.lt_of_not_le (fun q => h12 (nI_le (b := 880) q (by decide)))
    exact ⟨by rw [q_feed, if_pos h880], by rw [q_feed, if_pos h880]; exact h.th 0, zth.f⟩
/-- a reader is written -/
theorem zMO.rd {S T : zM} {s : zST} {X : Nat → Nat → Prop} {j : Nat} {y : zRDR} (h : zMO S s) (f : zK X S T) (hj : j < 4) (hx : ∀ c k, X c k → zXs c k ∨ (151 ≤ c ∧ c ≤ 158) ∨ (c = 123 ∧ (k = 1 ∨ k = 3))) (h1 : zgI T 123 1 = 0) (hR' : ∀ r, r < 4 → mr T r (va_up (sR s) j (some y) r)) (hC : ∀ t, sT s = some t → mC T t (va_up (sR s) j (some y))) : zMO T (sF s, (0, s.2.1.2), sT s, sP s, va_up (sR s) j (some y)) := by
  obtain ⟨h0, hA, hB, h12, hT, hP, hR⟩ := h
  have g : ∀ c k, ¬ (zXs c k ∨ (151 ≤ c ∧ c ≤ 158) ∨ (c = 123 ∧ (k = 1 ∨ k = 3))) → ¬ X c k := fun c k q z => q (hx c k z)
  have gi : ∀ k, ¬ (zXs 123 k ∨ k = 1 ∨ k = 3) → zgI T 123 k = zgI S 123 k := fun k q => f.2.2.2.1 _ _ (g _ _ (fun z => q (z.elim Or.inl (fun z => Or.inr (by omega)))))
  exact ⟨f.ms h0, hA.k f (g _ _ (by unfold zXs; omega)) (fun k => g _ _ (by unfold zXs; omega)), ⟨h1, (gi 2 (by unfold zXs; omega)).trans hB.2.1, fun q => by cases q⟩, ⟨(gi 12 (by unfold zXs; omega)).trans h12.1, fun q => (gi 29 (by unfold zXs; omega)).trans (h12.2 q)⟩, fun t ht => ⟨(hT t ht).1.k f (fun k hk => g _ _ (by unfold zXs; omega)) (fun c k hc => g _ _ (by unfold zXs; omega)), hC t ht⟩, hP.k f ⟨g _ _ (by unfold zXs; omega), g _ _ (by unfold zXs; omega)⟩ (fun c k _ _ => g _ _ (by unfold zXs; omega)), hR'⟩
theorem mr.k2 {X : Nat → Nat → Prop} {S T : zM} {r : Nat} {x : Option zRDR} (h : mr S r x) (f : zK X S T) (h1 : ∀ c, 151 ≤ c → c ≤ 155 → ¬ X c r) (h2 : ∀ k, k < 36 → ¬ X 156 (36 * r + k)) (h3 : ∀ i, i < 64 → ¬ X 157 (64 * r + i) ∧ ¬ X 158 (64 * r + i)) (hl : ∀ y, x = some y → y.2.2.2.2.2.2.2.length ≤ 34) : mr T r x := by
  have g : ∀ c, 151 ≤ c → c ≤ 155 → zgI T c r = zgI S c r := fun c a b => f.2.2.2.1 _ _ (h1 c a b)
  cases x with
  | none => exact (g 151 (by decide) (by decide)).trans h
  | some x =>
    have hl := hl x rfl
    obtain ⟨a1, a2, a3, a4, a5, a6, a7⟩ := h
    exact ⟨(g 151 (by decide) (by decide)).trans a1, (g 152 (by decide) (by decide)).trans a2, (g 153 (by decide) (by decide)).trans a3, (g 154 (by decide) (by decide)).trans a4, (g 155 (by decide) (by decide)).trans a5, fun k hk => (f.2.2.2.1 _ _ (h2 k (by omega))).trans (a6 k hk), fun i hi => ⟨(f.2.2.2.1 _ _ (h3 i hi).1).trans (a7 i hi).1, fun hp => (f.2.2.2.1 _ _ (h3 i hi).2).trans ((a7 i hi).2 hp)⟩⟩
set_option maxRecDepth 20000 in
set_option maxHeartbeats 4000000 in
theorem m_begin {E : zE} {S : zM} {s : zST} {n : Nat} (h : zMO S s) (hw : zWF n s) (x z : Int32) (st : Bool) : zSp E 1 0 0 mX12_begin cX12_begin [zR 123, zI x, zI z, zI (zbi st)] S (fun r T => r = some (zI (q_begin s x z st).1) ∧ zMO T (q_begin s x z st).2 ∧ zF zMX S T) := by
  refine zSp.of (by decide) rfl (Nat.le_of_ble_eq_true rfl) rfl ?_
  have hM := h.1
  have hst := zbi_01 st
  cases ht : sT s with
  | none =>
    have hto : zgI S 123 12 = 0 := by have := h.2.2.2.1.1; rw [ht] at this; exact this
    refine j_aload_n (pc := 0) dX12_begin_0 rfl ?_
    refine j_aload_n (pc := 1) dX12_begin_1 rfl ?_
    refine j_getIv (pc := 2) dX12_begin_2 f_X12_296 (Or.inr rfl) hM.1 (hto) ?_
    refine j_if_eq (pc := 5) (tgt := 20) dX12_begin_5 (by decide) (fun h5 => ?_) (fun h5 => absurd rfl h5)
    refine j_iconst (pc := 20) (v := 1) dX12_begin_20 (by decide) ?_
    refine j_goto (pc := 21) (tgt := 41) dX12_begin_21 (by decide) ?_
    refine j_callV (pc := 41) (t := 12) (n_rf1 hM) dX12_begin_41 l_X12_256 mk_X12_isRefused mv_X12_isRefused (by decide) rfl hM.1 (by decide) rfl rfl (Nat.le_of_ble_eq_true rfl) (Nat.le_refl _) (Nat.le_refl _) (fun r T h_1 => ?_)
    obtain ⟨rfl, rfl⟩ := h_1
    refine j_if_eq (pc := 44) (tgt := 49) dX12_begin_44 (by decide) (fun h44 => absurd h44 (by decide)) (fun h44 => ?_)
    refine j_iconst (pc := 47) (v := 0) dX12_begin_47 (by decide) ?_
    refine j_zret (pc := 48) dX12_begin_48 rfl (by first | assumption | decide) ?_
    refine ⟨?_, ?_, zNw.f⟩
    · rw [q_begin, ht]
    · rw [q_begin, ht]
      exact h.no (n := 1) (by decide)
  | some t =>
    have hto : zgI S 123 12 = 1 := by have := h.2.2.2.1.1; rw [ht] at this; exact this
    have hv := hw.v ht
    refine j_aload_n (pc := 0) dX12_begin_0 rfl ?_
    refine j_aload_n (pc := 1) dX12_begin_1 rfl ?_
    refine j_getIv (pc := 2) dX12_begin_2 f_X12_296 (Or.inr rfl) hM.1 (hto) ?_
    refine j_if_eq (pc := 5) (tgt := 20) dX12_begin_5 (by decide) (fun h5 => absurd h5 (by decide)) (fun h5 => ?_)
    refine j_iload_n (pc := 8) dX12_begin_8 rfl ?_
    refine j_i2l (pc := 9) dX12_begin_9 ?_
    refine j_lconst (pc := 10) (v := 0) dX12_begin_10 (by decide) ?_
    refine j_ldcL (pc := 11) dX12_begin_11 k_X12_437 ?_
    refine j_callS (pc := 14) (n_in _ _ _) dX12_begin_14 l_X12_159 mk_X12_in ms_X12_in (by decide) rfl rfl (Nat.le_of_ble_eq_true rfl) (Nat.le_refl _) (Nat.le_refl _) (fun r T h_1 => ?_)
    obtain ⟨rfl, rfl⟩ := h_1
    rw [show decide (¬ x.toInt64 < 0 ∧ ¬ (3 : Int64) < x.toInt64) = zcl2 4 x from zin_lit (m := 3) (by decide) x]
    refine j_if_ne (pc := 17) (tgt := 24) dX12_begin_17 (by decide) (fun h17 => ?_) (fun h17 => ?_)
    · refine j_iload_n (pc := 24) dX12_begin_24 rfl ?_
      refine j_i2l (pc := 25) dX12_begin_25 ?_
      refine j_lconst (pc := 26) (v := 1) dX12_begin_26 (by decide) ?_
      refine j_ldcL (pc := 27) dX12_begin_27 k_X12_412 ?_
      refine j_callS (pc := 30) (n_in _ _ _) dX12_begin_30 l_X12_159 mk_X12_in ms_X12_in (by decide) rfl rfl (Nat.le_of_ble_eq_true rfl) (Nat.le_refl _) (Nat.le_refl _) (fun r T h_1 => ?_)
      obtain ⟨rfl, rfl⟩ := h_1
      rw [zin_sz]
      refine j_if_eq (pc := 33) (tgt := 40) dX12_begin_33 (by decide) (fun h33 => ?_) (fun h33 => ?_)
      · refine j_iconst (pc := 40) (v := 2) dX12_begin_40 (by decide) ?_
        refine j_callV (pc := 41) (t := 12) (n_rf2 hM) dX12_begin_41 l_X12_256 mk_X12_isRefused mv_X12_isRefused (by decide) rfl hM.1 (by decide) rfl rfl (Nat.le_of_ble_eq_true rfl) (Nat.le_refl _) (Nat.le_refl _) (fun r T h_1 => ?_)
        obtain ⟨rfl, rfl⟩ := h_1
        refine j_if_eq (pc := 44) (tgt := 49) dX12_begin_44 (by decide) (fun h44 => absurd h44 (by decide)) (fun h44 => ?_)
        refine j_iconst (pc := 47) (v := 0) dX12_begin_47 (by decide) ?_
        refine j_zret (pc := 48) dX12_begin_48 rfl (by first | assumption | decide) ?_
        refine ⟨?_, ?_, zNw.f⟩
        · simp only [q_begin, ht]
          rw [if_neg (bnf2 (zbi_ne0 h17)), if_pos (zbi_eq0.mp h33)]
        · simp only [q_begin, ht]
          rw [if_neg (bnf2 (zbi_ne0 h17)), if_pos (zbi_eq0.mp h33)]
          exact h.no (n := 2) (by decide)
      · refine j_iconst (pc := 36) (v := 0) dX12_begin_36 (by decide) ?_
        refine j_goto (pc := 37) (tgt := 41) dX12_begin_37 (by decide) ?_
        refine j_callV (pc := 41) (t := 12) (n_ok hM) dX12_begin_41 l_X12_256 mk_X12_isRefused mv_X12_isRefused (by decide) rfl hM.1 (by decide) rfl rfl (Nat.le_of_ble_eq_true rfl) (Nat.le_refl _) (Nat.le_refl _) (fun r T h_1 => ?_)
        obtain ⟨rfl, rfl⟩ := h_1
        refine j_if_eq (pc := 44) (tgt := 49) dX12_begin_44 (by decide) (fun h44 => ?_) (fun h44 => absurd rfl h44)
        have hj4 := zbi_ne0 h17
        obtain ⟨j, hj, rfl⟩ := zcl2_t (by decide) hj4
        have hz20 := zbi_ne0 h33
        obtain ⟨k, hk1, hk20, rfl⟩ := zsz_t hz20
        refine j_aload_n (pc := 49) dX12_begin_49 rfl ?_
        refine j_getPv (pc := 50) dX12_begin_50 f_X12_99 (Or.inr ⟨_, rfl⟩) hM.1 (mp_readerSize hM) ?_
        refine j_iload_n (pc := 53) dX12_begin_53 rfl ?_
        refine j_iload_n (pc := 54) dX12_begin_54 rfl ?_
        refine j_iastn (pc := 55) dX12_begin_55 (mk_readerSize hM) (by omega) (Nat.le_of_ble_eq_true rfl) ?_
        refine j_aload_n (pc := 56) dX12_begin_56 rfl ?_
        refine j_getPv (pc := 57) dX12_begin_57 f_X12_102 (Or.inr ⟨_, rfl⟩) hM.1 (mp_readerView hM) ?_
        refine j_iload_n (pc := 60) dX12_begin_60 rfl ?_
        refine j_iload_n (pc := 61) dX12_begin_61 rfl ?_
        refine j_if_eq (pc := 62) (tgt := 72) dX12_begin_62 (by decide) (fun h62 => ?_) (fun h62 => ?_)
        · refine j_iconst (pc := 72) (v := (-1)) dX12_begin_72 (by decide) ?_
          refine j_iastn (pc := 73) dX12_begin_73 (mk_readerView hM) (by omega) (Nat.le_of_ble_eq_true rfl) ?_
          refine j_aload_n (pc := 74) dX12_begin_74 rfl ?_
          refine j_getPv (pc := 75) dX12_begin_75 f_X12_105 (Or.inr ⟨_, rfl⟩) hM.1 (mp_isEnded hM) ?_
          refine j_iload_n (pc := 78) dX12_begin_78 rfl ?_
          refine j_iconst (pc := 79) (v := 0) dX12_begin_79 (by decide) ?_
          refine j_zastn (pc := 80) dX12_begin_80 (mk_isEnded hM) (by omega) (Nat.le_of_ble_eq_true rfl) (by first | assumption | decide) ?_
          refine j_aload_n (pc := 81) dX12_begin_81 rfl ?_
          refine j_getPv (pc := 82) dX12_begin_82 f_X12_108 (Or.inr ⟨_, rfl⟩) hM.1 (mp_readerPages hM) ?_
          refine j_iload_n (pc := 85) dX12_begin_85 rfl ?_
          refine j_iconst (pc := 86) (v := 0) dX12_begin_86 (by decide) ?_
          refine j_iastn (pc := 87) dX12_begin_87 (mk_readerPages hM) (by omega) (Nat.le_of_ble_eq_true rfl) ?_
          refine j_aload_n (pc := 88) dX12_begin_88 rfl ?_
          refine j_getPv (pc := 89) dX12_begin_89 f_X12_111 (Or.inr ⟨_, rfl⟩) hM.1 (mp_standLong hM) ?_
          refine j_iload_n (pc := 92) dX12_begin_92 rfl ?_
          refine j_iconst (pc := 93) (v := 0) dX12_begin_93 (by decide) ?_
          refine j_iastn (pc := 94) dX12_begin_94 (mk_standLong hM) (by omega) (Nat.le_of_ble_eq_true rfl) ?_
          refine j_iconst (pc := 95) (v := 0) dX12_begin_95 (by decide) ?_
          refine j_istore (pc := 96) (ls' := [_, _, _, _, _]) dX12_begin_96 (by decide) rfl rfl ?_
          have lp : ∀ (m i : Nat) (T : zM), i + m = 64 → zK (fun c k => c = 157 ∧ 64 * j ≤ k ∧ k < 64 * j + 64) (zwI (zwI (zwI (zwI (zwI (zNw S 0) 151 j (nI k)) 152 j (if st then nI (tv t) else -1)) 153 j 0) 154 j 0) 155 j 0) T → (∀ i', i' < i → zgI T 157 (64 * j + i') = nI 0) → zJ E 1 0 0 mX12_begin cX12_begin 98 [some (zR 123), some (zI (nI j)), some (zI (nI k)), some (zI (zbi st)), some (zI (nI i))] [] T (fun r T => r = some (zI (q_begin s (nI j) (nI k) st).1) ∧ zMO T (q_begin s (nI j) (nI k) st).2 ∧ zF zMX S T) := by
            intro m
            induction m with
            | zero =>
              intro i T hi hk hq
              have ei : i = 64 := by omega
              subst ei
              refine j_iload (pc := 98) dX12_begin_98 rfl ?_
              refine j_bipush (pc := 100) (v := 64) dX12_begin_100 (by decide) ?_
              refine j_icmp_ge (pc := 102) (tgt := 124) dX12_begin_102 (by decide) (fun h102 => ?_) (fun h102 => absurd (nI_le (a := 64) (Nat.le_refl _) (by decide)) h102)
              refine j_iconst (pc := 124) (v := 1) dX12_begin_124 (by decide) ?_
              refine j_zret (pc := 125) dX12_begin_125 rfl (by first | assumption | decide) ?_
              have f5 : zK (fun c k => (151 ≤ c ∧ c ≤ 155 ∧ k = j) ∨ (c = 123 ∧ (k = 0 ∨ k = 1 ∨ k = 3))) S (zwI (zwI (zwI (zwI (zwI (zNw S 0) 151 j (nI k)) 152 j (if st then nI (tv t) else -1)) 153 j 0) 154 j 0) 155 j 0) := (((((((zK.wI (by omega)).tr (zK.wI (by omega))).tr (zK.wI (by omega))).tr (zK.wI (by omega))).tr (zK.wI (by omega))).tr (zK.wI (by omega))).tr (zK.wI (by omega))).tr (zK.wI (by omega))
              have f9 : zK (fun c k => (151 ≤ c ∧ c ≤ 155 ∧ k = j) ∨ (c = 157 ∧ 64 * j ≤ k ∧ k < 64 * j + 64) ∨ (c = 123 ∧ (k = 0 ∨ k = 1 ∨ k = 3))) S T := (f5.mo (fun c k z => by omega)).tr (hk.mo (fun c k z => by omega))
              have ez : q_begin s (nI j) (nI k) st = (1, (sF s, (0, s.2.1.2), sT s, sP s, va_up (sR s) j (some (st, false, k, tv t, 0, fun _ => 0, fun _ => 0, [])))) := by
                simp only [q_begin, ht]
                rw [if_neg (bnf2 hj4), if_neg (bnf2 hz20)]
                simp only [zn, nI_clamp (show j < 2 ^ 31 by omega), nI_clamp (show k < 2 ^ 31 by omega)]
              rw [ez]
              have gv : ∀ c, 151 ≤ c → c ≤ 155 → zgI T c j = zgI (zwI (zwI (zwI (zwI (zwI (zNw S 0) 151 j (nI k)) 152 j (if st then nI (tv t) else -1)) 153 j 0) 154 j 0) 155 j 0) c j := fun c a b => hk.2.2.2.1 _ _ (by omega)
              refine ⟨rfl, h.rd f9 hj (fun c k z => by unfold zXs; omega) (hk.2.2.2.1 123 1 (by omega)) (fun r hr => ?_) (fun t' ht' => ?_), f9.f (fun c k z => by unfold zMX; omega)⟩
              · by_cases e : r = j
                · subst e
                  rw [va_up, if_pos rfl]
                  refine ⟨(gv 151 (by decide) (by decide)).trans ?_, (gv 152 (by decide) (by decide)).trans ?_, (gv 153 (by decide) (by decide)).trans ?_, (gv 154 (by decide) (by decide)).trans ?_, (gv 155 (by decide) (by decide)).trans ?_, fun k hk => absurd hk (Nat.not_lt_zero k), fun i hi => ⟨hq i hi, fun z => absurd z (Nat.lt_irrefl 0)⟩⟩
                  · exact (zgI_ne (by decide)).trans ((zgI_ne (by decide)).trans ((zgI_ne (by decide)).trans ((zgI_ne (by decide)).trans zgI_self)))
                  · exact (zgI_ne (by decide)).trans ((zgI_ne (by decide)).trans ((zgI_ne (by decide)).trans zgI_self))
                  · exact (zgI_ne (by decide)).trans ((zgI_ne (by decide)).trans zgI_self)
                  · exact (zgI_ne (by decide)).trans zgI_self
                  · exact zgI_self
                · rw [va_up, if_neg e]
                  exact (h.2.2.2.2.2.2 r hr).k2 f9 (fun c a b => by omega) (fun k hk => by omega) (fun i hi => by omega) (fun y hy => ((hw.t ht).2.2 r y hy).2.2.1.1)
              · obtain ⟨⟨ca, hca⟩, hz⟩ := (h.2.2.2.2.1 t' ht').2.k f9 (fun k => by omega)
                refine ⟨⟨ca, fun i hi => ⟨(hca i hi).1, (hca i hi).2.1, (hca i hi).2.2.elim Or.inl (fun e => Or.inr ⟨e.1, fun r x hr hx hp => ?_, e.2.2⟩)⟩⟩, hz.1, fun r x hr hx => ?_⟩
                · unfold va_up at hx
                  split at hx
                  · cases hx
                    exact absurd hp (Nat.lt_irrefl 0)
                  · exact e.2.1 r x hr hx hp
                · unfold va_up at hx
                  split at hx
                  · cases hx
                    exact fun i _ => rfl
                  · exact hz.2 r x hr hx
            | succ m ih =>
              intro i T hi hk hq
              refine j_iload (pc := 98) dX12_begin_98 rfl ?_
              refine j_bipush (pc := 100) (v := 64) dX12_begin_100 (by decide) ?_
              refine j_icmp_ge (pc := 102) (tgt := 124) dX12_begin_102 (by decide) (fun h102 => absurd h102 (nI_ge (b := 64) (by omega) (by decide))) (fun h102 => ?_)
              refine j_aload_n (pc := 105) dX12_begin_105 rfl ?_
              refine j_getPv (pc := 106) dX12_begin_106 f_X12_117 (Or.inr ⟨_, rfl⟩) (hk.ms (by exact hM)).1 (mp_sawMany (hk.ms (by exact hM))) ?_
              refine j_bipush (pc := 109) (v := 64) dX12_begin_109 (by decide) ?_
              refine j_iload_n (pc := 111) dX12_begin_111 rfl ?_
              refine j_imul (pc := 112) dX12_begin_112 ?_
              rw [show (64 : Int32) * nI j = nI (64 * j) from pk_mul 64 _]
              refine j_iload (pc := 113) dX12_begin_113 rfl ?_
              refine j_iadd (pc := 115) dX12_begin_115 ?_
              rw [nI_add]
              refine j_iconst (pc := 116) (v := 0) dX12_begin_116 (by decide) ?_
              refine j_iastn (pc := 117) dX12_begin_117 (mk_sawMany (hk.ms (by exact hM))) (show 64 * j + i < 256 by omega) (Nat.le_of_ble_eq_true rfl) ?_
              refine j_iinc (pc := 118) (v := _ + 1) (ls' := [_, _, _, _, _]) dX12_begin_118 rfl rfl (by decide) rfl rfl ?_
              refine j_goto (pc := 121) (tgt := 98) dX12_begin_121 (by decide) ?_
              rw [nI_1]
              refine ih (i + 1) _ (by omega) (hk.tr (zK.wI (by omega))) (fun i' hi' => ?_)
              rw [zgI_wI]
              by_cases e : i' = i
              · rw [if_pos ⟨rfl, by omega⟩]
                rfl
              · rw [if_neg (by omega)]
                exact hq i' (by omega)
          have := lp 64 0 (zwI (zwI (zwI (zwI (zwI (zNw S 0) 151 j (nI k)) 152 j (if st then nI (tv t) else -1)) 153 j 0) 154 j 0) 155 j 0) (by omega) zK.rf (fun i' hi' => absurd hi' (Nat.not_lt_zero i'))
          rw [show (if st then nI (tv t) else -1) = (-1 : Int32) by rw [zbi_eq0.mp h62]; rfl] at this
          exact this
        · refine j_aload_n (pc := 65) dX12_begin_65 rfl ?_
          refine j_getIv (pc := 66) dX12_begin_66 f_X12_277 (Or.inl rfl) hM.1 ((h.2.2.2.2.1 t ht).1.2.2.2.1.1) ?_
          refine j_goto (pc := 69) (tgt := 73) dX12_begin_69 (by decide) ?_
          refine j_iastn (pc := 73) dX12_begin_73 (mk_readerView hM) (by omega) (Nat.le_of_ble_eq_true rfl) ?_
          refine j_aload_n (pc := 74) dX12_begin_74 rfl ?_
          refine j_getPv (pc := 75) dX12_begin_75 f_X12_105 (Or.inr ⟨_, rfl⟩) hM.1 (mp_isEnded hM) ?_
          refine j_iload_n (pc := 78) dX12_begin_78 rfl ?_
          refine j_iconst (pc := 79) (v := 0) dX12_begin_79 (by decide) ?_
          refine j_zastn (pc := 80) dX12_begin_80 (mk_isEnded hM) (by omega) (Nat.le_of_ble_eq_true rfl) (by first | assumption | decide) ?_
          refine j_aload_n (pc := 81) dX12_begin_81 rfl ?_
          refine j_getPv (pc := 82) dX12_begin_82 f_X12_108 (Or.inr ⟨_, rfl⟩) hM.1 (mp_readerPages hM) ?_
          refine j_iload_n (pc := 85) dX12_begin_85 rfl ?_
          refine j_iconst (pc := 86) (v := 0) dX12_begin_86 (by decide) ?_
          refine j_iastn (pc := 87) dX12_begin_87 (mk_readerPages hM) (by omega) (Nat.le_of_ble_eq_true rfl) ?_
          refine j_aload_n (pc := 88) dX12_begin_88 rfl ?_
          refine j_getPv (pc := 89) dX12_begin_89 f_X12_111 (Or.inr ⟨_, rfl⟩) hM.1 (mp_standLong hM) ?_
          refine j_iload_n (pc := 92) dX12_begin_92 rfl ?_
          refine j_iconst (pc := 93) (v := 0) dX12_begin_93 (by decide) ?_
          refine j_iastn (pc := 94) dX12_begin_94 (mk_standLong hM) (by omega) (Nat.le_of_ble_eq_true rfl) ?_
          refine j_iconst (pc := 95) (v := 0) dX12_begin_95 (by decide) ?_
          refine j_istore (pc := 96) (ls' := [_, _, _, _, _]) dX12_begin_96 (by decide) rfl rfl ?_
          have lp : ∀ (m i : Nat) (T : zM), i + m = 64 → zK (fun c k => c = 157 ∧ 64 * j ≤ k ∧ k < 64 * j + 64) (zwI (zwI (zwI (zwI (zwI (zNw S 0) 151 j (nI k)) 152 j (if st then nI (tv t) else -1)) 153 j 0) 154 j 0) 155 j 0) T → (∀ i', i' < i → zgI T 157 (64 * j + i') = nI 0) → zJ E 1 0 0 mX12_begin cX12_begin 98 [some (zR 123), some (zI (nI j)), some (zI (nI k)), some (zI (zbi st)), some (zI (nI i))] [] T (fun r T => r = some (zI (q_begin s (nI j) (nI k) st).1) ∧ zMO T (q_begin s (nI j) (nI k) st).2 ∧ zF zMX S T) := by
            intro m
            induction m with
            | zero =>
              intro i T hi hk hq
              have ei : i = 64 := by omega
              subst ei
              refine j_iload (pc := 98) dX12_begin_98 rfl ?_
              refine j_bipush (pc := 100) (v := 64) dX12_begin_100 (by decide) ?_
              refine j_icmp_ge (pc := 102) (tgt := 124) dX12_begin_102 (by decide) (fun h102 => ?_) (fun h102 => absurd (nI_le (a := 64) (Nat.le_refl _) (by decide)) h102)
              refine j_iconst (pc := 124) (v := 1) dX12_begin_124 (by decide) ?_
              refine j_zret (pc := 125) dX12_begin_125 rfl (by first | assumption | decide) ?_
              have f5 : zK (fun c k => (151 ≤ c ∧ c ≤ 155 ∧ k = j) ∨ (c = 123 ∧ (k = 0 ∨ k = 1 ∨ k = 3))) S (zwI (zwI (zwI (zwI (zwI (zNw S 0) 151 j (nI k)) 152 j (if st then nI (tv t) else -1)) 153 j 0) 154 j 0) 155 j 0) := (((((((zK.wI (by omega)).tr (zK.wI (by omega))).tr (zK.wI (by omega))).tr (zK.wI (by omega))).tr (zK.wI (by omega))).tr (zK.wI (by omega))).tr (zK.wI (by omega))).tr (zK.wI (by omega))
              have f9 : zK (fun c k => (151 ≤ c ∧ c ≤ 155 ∧ k = j) ∨ (c = 157 ∧ 64 * j ≤ k ∧ k < 64 * j + 64) ∨ (c = 123 ∧ (k = 0 ∨ k = 1 ∨ k = 3))) S T := (f5.mo (fun c k z => by omega)).tr (hk.mo (fun c k z => by omega))
              have ez : q_begin s (nI j) (nI k) st = (1, (sF s, (0, s.2.1.2), sT s, sP s, va_up (sR s) j (some (st, false, k, tv t, 0, fun _ => 0, fun _ => 0, [])))) := by
                simp only [q_begin, ht]
                rw [if_neg (bnf2 hj4), if_neg (bnf2 hz20)]
                simp only [zn, nI_clamp (show j < 2 ^ 31 by omega), nI_clamp (show k < 2 ^ 31 by omega)]
              rw [ez]
              have gv : ∀ c, 151 ≤ c → c ≤ 155 → zgI T c j = zgI (zwI (zwI (zwI (zwI (zwI (zNw S 0) 151 j (nI k)) 152 j (if st then nI (tv t) else -1)) 153 j 0) 154 j 0) 155 j 0) c j := fun c a b => hk.2.2.2.1 _ _ (by omega)
              refine ⟨rfl, h.rd f9 hj (fun c k z => by unfold zXs; omega) (hk.2.2.2.1 123 1 (by omega)) (fun r hr => ?_) (fun t' ht' => ?_), f9.f (fun c k z => by unfold zMX; omega)⟩
              · by_cases e : r = j
                · subst e
                  rw [va_up, if_pos rfl]
                  refine ⟨(gv 151 (by decide) (by decide)).trans ?_, (gv 152 (by decide) (by decide)).trans ?_, (gv 153 (by decide) (by decide)).trans ?_, (gv 154 (by decide) (by decide)).trans ?_, (gv 155 (by decide) (by decide)).trans ?_, fun k hk => absurd hk (Nat.not_lt_zero k), fun i hi => ⟨hq i hi, fun z => absurd z (Nat.lt_irrefl 0)⟩⟩
                  · exact (zgI_ne (by decide)).trans ((zgI_ne (by decide)).trans ((zgI_ne (by decide)).trans ((zgI_ne (by decide)).trans zgI_self)))
                  · exact (zgI_ne (by decide)).trans ((zgI_ne (by decide)).trans ((zgI_ne (by decide)).trans zgI_self))
                  · exact (zgI_ne (by decide)).trans ((zgI_ne (by decide)).trans zgI_self)
                  · exact (zgI_ne (by decide)).trans zgI_self
                  · exact zgI_self
                · rw [va_up, if_neg e]
                  exact (h.2.2.2.2.2.2 r hr).k2 f9 (fun c a b => by omega) (fun k hk => by omega) (fun i hi => by omega) (fun y hy => ((hw.t ht).2.2 r y hy).2.2.1.1)
              · obtain ⟨⟨ca, hca⟩, hz⟩ := (h.2.2.2.2.1 t' ht').2.k f9 (fun k => by omega)
                refine ⟨⟨ca, fun i hi => ⟨(hca i hi).1, (hca i hi).2.1, (hca i hi).2.2.elim Or.inl (fun e => Or.inr ⟨e.1, fun r x hr hx hp => ?_, e.2.2⟩)⟩⟩, hz.1, fun r x hr hx => ?_⟩
                · unfold va_up at hx
                  split at hx
                  · cases hx
                    exact absurd hp (Nat.lt_irrefl 0)
                  · exact e.2.1 r x hr hx hp
                · unfold va_up at hx
                  split at hx
                  · cases hx
                    exact fun i _ => rfl
                  · exact hz.2 r x hr hx
            | succ m ih =>
              intro i T hi hk hq
              refine j_iload (pc := 98) dX12_begin_98 rfl ?_
              refine j_bipush (pc := 100) (v := 64) dX12_begin_100 (by decide) ?_
              refine j_icmp_ge (pc := 102) (tgt := 124) dX12_begin_102 (by decide) (fun h102 => absurd h102 (nI_ge (b := 64) (by omega) (by decide))) (fun h102 => ?_)
              refine j_aload_n (pc := 105) dX12_begin_105 rfl ?_
              refine j_getPv (pc := 106) dX12_begin_106 f_X12_117 (Or.inr ⟨_, rfl⟩) (hk.ms (by exact hM)).1 (mp_sawMany (hk.ms (by exact hM))) ?_
              refine j_bipush (pc := 109) (v := 64) dX12_begin_109 (by decide) ?_
              refine j_iload_n (pc := 111) dX12_begin_111 rfl ?_
              refine j_imul (pc := 112) dX12_begin_112 ?_
              rw [show (64 : Int32) * nI j = nI (64 * j) from pk_mul 64 _]
              refine j_iload (pc := 113) dX12_begin_113 rfl ?_
              refine j_iadd (pc := 115) dX12_begin_115 ?_
              rw [nI_add]
              refine j_iconst (pc := 116) (v := 0) dX12_begin_116 (by decide) ?_
              refine j_iastn (pc := 117) dX12_begin_117 (mk_sawMany (hk.ms (by exact hM))) (show 64 * j + i < 256 by omega) (Nat.le_of_ble_eq_true rfl) ?_
              refine j_iinc (pc := 118) (v := _ + 1) (ls' := [_, _, _, _, _]) dX12_begin_118 rfl rfl (by decide) rfl rfl ?_
              refine j_goto (pc := 121) (tgt := 98) dX12_begin_121 (by decide) ?_
              rw [nI_1]
              refine ih (i + 1) _ (by omega) (hk.tr (zK.wI (by omega))) (fun i' hi' => ?_)
              rw [zgI_wI]
              by_cases e : i' = i
              · rw [if_pos ⟨rfl, by omega⟩]
                rfl
              · rw [if_neg (by omega)]
                exact hq i' (by omega)
          have := lp 64 0 (zwI (zwI (zwI (zwI (zwI (zNw S 0) 151 j (nI k)) 152 j (if st then nI (tv t) else -1)) 153 j 0) 154 j 0) 155 j 0) (by omega) zK.rf (fun i' hi' => absurd hi' (Nat.not_lt_zero i'))
          rw [show (if st then nI (tv t) else -1) = nI (tv t) by rw [zbi_ne0 h62]; rfl] at this
          exact this
    · refine j_iconst (pc := 20) (v := 1) dX12_begin_20 (by decide) ?_
      refine j_goto (pc := 21) (tgt := 41) dX12_begin_21 (by decide) ?_
      refine j_callV (pc := 41) (t := 12) (n_rf1 hM) dX12_begin_41 l_X12_256 mk_X12_isRefused mv_X12_isRefused (by decide) rfl hM.1 (by decide) rfl rfl (Nat.le_of_ble_eq_true rfl) (Nat.le_refl _) (Nat.le_refl _) (fun r T h_1 => ?_)
      obtain ⟨rfl, rfl⟩ := h_1
      refine j_if_eq (pc := 44) (tgt := 49) dX12_begin_44 (by decide) (fun h44 => absurd h44 (by decide)) (fun h44 => ?_)
      refine j_iconst (pc := 47) (v := 0) dX12_begin_47 (by decide) ?_
      refine j_zret (pc := 48) dX12_begin_48 rfl (by first | assumption | decide) ?_
      refine ⟨?_, ?_, zNw.f⟩
      · simp only [q_begin, ht]
        rw [if_pos (zbi_eq0.mp h17)]
      · simp only [q_begin, ht]
        rw [if_pos (zbi_eq0.mp h17)]
        exact h.no (n := 1) (by decide)
