/-- a version more in the model -/
theorem mH.new {S T : zM} {n v : Nat} {ch ch' : Nat → zRW} (h : mH S n v ch) (f1 : ∀ u, u ≤ v → v + 1 ≤ u + 40 → ∀ i, i < 64 → zgI T 135 (64 * (u % 41) + i) = zgI S 135 (64 * (u % 41) + i)) (f2 : ∀ u, u ≤ v → v + 1 ≤ u + 40 → ∀ i c, i < 64 → c < n → zgL T 136 (4 * (64 * (u % 41) + i) + c) = zgL S 136 (4 * (64 * (u % 41) + i) + c)) (e : ∀ u, u ≤ v → zeq (ch u) (ch' u)) (g1 : ∀ i, i < 64 → zgI T 135 (64 * ((v + 1) % 41) + i) = zbi ((ch' (v + 1)).1 i)) (g2 : ∀ i, i < 64 → (ch' (v + 1)).1 i = true → ∀ c, c < n → zgL T 136 (4 * (64 * ((v + 1) % 41) + i) + c) = (ch' (v + 1)).2 i c) : mH T n (v + 1) ch' := by
  intro u hu1 hu2 i hi
  by_cases q : u = v + 1
  · subst q
    exact ⟨g1 i hi, g2 i hi⟩
  · have hu : u ≤ v := by omega
    have hh := h u hu (by omega) i hi
    have ee := e u hu
    refine ⟨(f1 u hu hu2 i hi).trans (hh.1.trans (by rw [ee.1])), fun ht c hc => (f2 u hu hu2 i c hi hc).trans ((hh.2 (by rw [ee.1]; exact ht) c hc).trans (ee.2 i c ht))⟩
theorem zMO.act {S T : zM} {s : zST} {t t' : zTB} {X : Nat → Nat → Prop} (h : zMO S s) (ht : sT s = some t) (f : zK X S T) (hx : ∀ c k, X c k → zXs c k ∨ (135 ≤ c ∧ c ≤ 137) ∨ (c = 123 ∧ (k = 1 ∨ k = 3 ∨ k = 29 ∨ k = 31))) (h1 : zgI T 123 1 = 0) (eK : tK t' = tK t) (eO : tO t' = tO t) (eV : tV t' = tV t) (en : tn t' = tn t) (h29 : zgI T 123 29 = nI (tv t')) (h31 : zgI T 123 31 = nI (tG t')) (hH : mH T (tK t).length (tv t') (tH t')) (hC : mC T t' (sR s)) : zMO T (sF s, (0, s.2.1.2), some t', sP s, sR s) := by
  obtain ⟨h0, hA, hB, h12, hT, hP, hR⟩ := h
  have g : ∀ c k, ¬ (zXs c k ∨ (135 ≤ c ∧ c ≤ 137) ∨ (c = 123 ∧ (k = 1 ∨ k = 3 ∨ k = 29 ∨ k = 31))) → ¬ X c k := fun c k q z => q (hx c k z)
  have gi : ∀ k, ¬ (zXs 123 k ∨ k = 1 ∨ k = 3 ∨ k = 29 ∨ k = 31) → zgI T 123 k = zgI S 123 k := fun k q => f.2.2.2.1 _ _ (g _ _ (fun z => q (z.elim Or.inl (fun z => Or.inr (by omega)))))
  obtain ⟨⟨a1, a2, a3, ⟨a4, a5, a6⟩, a7⟩, aC⟩ := hT t ht
  have et : (sT s).isSome = true := by rw [ht]; rfl
  refine ⟨f.ms h0, hA.k f (g _ _ (by unfold zXs; omega)) (fun k => g _ _ (by unfold zXs; omega)), ⟨h1, (gi 2 (by unfold zXs; omega)).trans hB.2.1, fun q => by cases q⟩, ⟨(gi 12 (by unfold zXs; omega)).trans (h12.1.trans (by rw [et]; rfl)), fun q => by cases q⟩, fun t2 ht2 => ?_, ?_, fun r hr' => (hR r hr').k f (fun c k _ _ => g _ _ (by unfold zXs; omega))⟩
  · cases ht2
    refine ⟨⟨?_, ?_, ?_, ⟨h29, ?_, h31⟩, ?_⟩, hC⟩
    · rw [eK]
      exact a1.k f (g _ _ (by unfold zXs; omega)) (fun k => g _ _ (by unfold zXs; omega))
    · rw [eO]
      exact a2.k f (g _ _ (by unfold zXs; omega)) (fun c k _ _ => g _ _ (by unfold zXs; omega))
    · rw [eV]
      exact a3.k f (g _ _ (by unfold zXs; omega)) (fun c k _ _ => g _ _ (by unfold zXs; omega))
    · rw [en]
      exact (gi 30 (by unfold zXs; omega)).trans a5
    · rw [eK]
      exact hH
  · have := hP.k f ⟨g _ _ (by unfold zXs; omega), g _ _ (by unfold zXs; omega)⟩ (fun c k _ _ => g _ _ (by unfold zXs; omega))
    rw [sk_s ht] at this
    show mP T (sP s) (sk (sF s, (0, s.2.1.2), some t', sP s, sR s))
    rw [show sk (sF s, (0, s.2.1.2), some t', sP s, sR s) = (tK t').length from rfl, eK]
    exact this
/-- the slot of the next version holds what the latest one has -/
def zcopy (S T : zM) (A B : Nat) (i c : Nat) : Prop := (∀ i', i' < i → zgI T 135 (64 * B + i') = zgI S 135 (64 * A + i')) ∧ (∀ i' c', i' < i → c' < 4 → zgL T 136 (4 * (64 * B + i') + c') = zgL S 136 (4 * (64 * A + i') + c')) ∧ ∀ c', c' < c → zgL T 136 (4 * (64 * B + i) + c') = zgL S 136 (4 * (64 * A + i) + c')
abbrev zXc (B : Nat) (c k : Nat) : Prop := (c = 135 ∧ 64 * B ≤ k ∧ k < 64 * B + 64) ∨ (c = 136 ∧ 256 * B ≤ k ∧ k < 256 * B + 256)
set_option maxRecDepth 20000 in
set_option maxHeartbeats 4000000 in
theorem n_acts {E : zE} {S : zM} {s : zST} {t : zTB} {n : Nat} (h : zMO S s) (hw : zWF n s) (ht : sT s = some t) : zSp E 1 0 0 mX12_acts cX12_acts [zR 123] S (fun r T => r = none ∧ zK (fun c k => zXc ((tv t + 1) % 41) c k ∨ (c = 123 ∧ k = 29)) S T ∧ zgI T 123 29 = nI (tv t + 1) ∧ zcopy S T (tv t % 41) ((tv t + 1) % 41) 64 0) := by
  refine zSp.of (by decide) rfl (Nat.le_of_ble_eq_true rfl) rfl ?_
  have hM := h.1
  have hv := hw.v ht
  have hv29 := (h.2.2.2.2.1 t ht).1.2.2.2.1.1
  have hH0 : ∀ i, i < 64 → zgI S 135 (64 * (tv t % 41) + i) = zbi ((tW t).1 i) := fun i hi => ((h.2.2.2.2.1 t ht).1.2.2.2.2 (tv t) (Nat.le_refl _) (Nat.le_add_right _ _) i hi).1
  have lp : ∀ (m i : Nat) (y : Option zV) (T : zM), i + m = 64 → zK (zXc ((tv t + 1) % 41)) S T → zcopy S T (tv t % 41) ((tv t + 1) % 41) i 0 → zJ E 1 0 0 mX12_acts cX12_acts 2 [some (zR 123), some (zI (nI i)), y] [] T (fun r T => r = none ∧ zK (fun c k => zXc ((tv t + 1) % 41) c k ∨ (c = 123 ∧ k = 29)) S T ∧ zgI T 123 29 = nI (tv t + 1) ∧ zcopy S T (tv t % 41) ((tv t + 1) % 41) 64 0) := by
    intro m
    induction m with
    | zero =>
      intro i y T hi hk hq
      have ei : i = 64 := by omega
      subst ei
      have hMT := hk.ms hM
      have e29 : zgI T 123 29 = nI (tv t) := (hk.2.2.2.1 123 29 (by unfold zXc; omega)).trans hv29
      refine j_iload_n (pc := 2) dX12_acts_2 rfl ?_
      refine j_bipush (pc := 3) (v := 64) dX12_acts_3 (by decide) ?_
      refine j_icmp_ge (pc := 5) (tgt := 91) dX12_acts_5 (by decide) (fun h5 => ?_) (fun h5 => absurd (nI_le (a := 64) (Nat.le_refl _) (by decide)) h5)
      refine j_aload_n (pc := 91) dX12_acts_91 rfl ?_
      refine j_dup (pc := 92) dX12_acts_92 rfl ?_
      refine j_getIv (pc := 93) dX12_acts_93 f_X12_277 (Or.inl rfl) hMT.1 (e29) ?_
      refine j_iconst (pc := 96) (v := 1) dX12_acts_96 (by decide) ?_
      refine j_iadd (pc := 97) dX12_acts_97 ?_
      rw [nI_1]
      refine j_putI (pc := 98) dX12_acts_98 f_X12_277 rfl hMT.1 rfl ?_
      refine j_vret (pc := 101) dX12_acts_101 rfl ?_
      exact ⟨rfl, (hk.mo (fun c k z => Or.inl z)).tr (zK.wI (Or.inr ⟨rfl, rfl⟩)), zgI_self, fun i' hi' => (zgI_ne (by decide)).trans (hq.1 i' hi'), hq.2.1, fun c' hc' => absurd hc' (Nat.not_lt_zero c')⟩
    | succ m ih =>
      intro i y T hi hk hq
      have hMT := hk.ms hM
      have e29 : zgI T 123 29 = nI (tv t) := (hk.2.2.2.1 123 29 (by unfold zXc; omega)).trans hv29
      refine j_iload_n (pc := 2) dX12_acts_2 rfl ?_
      refine j_bipush (pc := 3) (v := 64) dX12_acts_3 (by decide) ?_
      refine j_icmp_ge (pc := 5) (tgt := 91) dX12_acts_5 (by decide) (fun h5 => absurd h5 (nI_ge (b := 64) (by omega) (by decide))) (fun h5 => ?_)
      refine j_aload_n (pc := 8) dX12_acts_8 rfl ?_
      refine j_getPv (pc := 9) dX12_acts_9 f_X12_51 (Or.inr ⟨_, rfl⟩) hMT.1 (mp_isThere hMT) ?_
      refine j_aload_n (pc := 12) dX12_acts_12 rfl ?_
      refine j_getIv (pc := 13) dX12_acts_13 f_X12_277 (Or.inl rfl) hMT.1 (e29) ?_
      refine j_iconst (pc := 16) (v := 1) dX12_acts_16 (by decide) ?_
      refine j_iadd (pc := 17) dX12_acts_17 ?_
      rw [nI_1]
      refine j_iload_n (pc := 18) dX12_acts_18 rfl ?_
      refine j_callS (pc := 19) (n_rowAt (show tv t + 1 < 2 ^ 20 by omega)) dX12_acts_19 l_X12_301 mk_X12_rowAt ms_X12_rowAt (by decide) rfl rfl (Nat.le_of_ble_eq_true rfl) (Nat.le_refl _) (Nat.le_refl _) (fun r T h_1 => ?_)
      obtain ⟨rfl, rfl⟩ := h_1
      refine j_aload_n (pc := 22) dX12_acts_22 rfl ?_
      refine j_getPv (pc := 23) dX12_acts_23 f_X12_51 (Or.inr ⟨_, rfl⟩) hMT.1 (mp_isThere hMT) ?_
      refine j_aload_n (pc := 26) dX12_acts_26 rfl ?_
      refine j_getIv (pc := 27) dX12_acts_27 f_X12_277 (Or.inl rfl) hMT.1 (e29) ?_
      refine j_iload_n (pc := 30) dX12_acts_30 rfl ?_
      refine j_callS (pc := 31) (n_rowAt (show tv t < 2 ^ 20 by omega)) dX12_acts_31 l_X12_301 mk_X12_rowAt ms_X12_rowAt (by decide) rfl rfl (Nat.le_of_ble_eq_true rfl) (Nat.le_refl _) (Nat.le_refl _) (fun r T h_1 => ?_)
      obtain ⟨rfl, rfl⟩ := h_1
      refine j_zaldn (pc := 34) dX12_acts_34 (mk_isThere hMT) (show 64 * (tv t % 41) + i < 2624 by omega) (Nat.le_of_ble_eq_true rfl) ((hk.2.2.2.1 135 _ (by unfold zXc; omega)).trans (hH0 i (by omega))) ?_
      refine j_zastn (pc := 35) dX12_acts_35 (mk_isThere hMT) (show 64 * ((tv t + 1) % 41) + i < 2624 by omega) (Nat.le_of_ble_eq_true rfl) (by first | assumption | exact zbi_01 _ | decide) ?_
      refine j_iconst (pc := 36) (v := 0) dX12_acts_36 (by decide) ?_
      refine j_istore_n (pc := 37) (ls' := [_, _, _]) dX12_acts_37 (by decide) rfl rfl ?_
      have hkA : zK (zXc ((tv t + 1) % 41)) S (zwI T 135 (64 * ((tv t + 1) % 41) + i) (zbi ((tW t).1 i))) := hk.tr (zK.wI (by unfold zXc; omega))
      have lp2 : ∀ (m2 c : Nat) (T2 : zM), c + m2 = 4 → zK (zXc ((tv t + 1) % 41)) S T2 → zgI T2 135 (64 * ((tv t + 1) % 41) + i) = zgI S 135 (64 * (tv t % 41) + i) → zcopy S T2 (tv t % 41) ((tv t + 1) % 41) i c → zJ E 1 0 0 mX12_acts cX12_acts 38 [some (zR 123), some (zI (nI i)), some (zI (nI c))] [] T2 (fun r T => r = none ∧ zK (fun c k => zXc ((tv t + 1) % 41) c k ∨ (c = 123 ∧ k = 29)) S T ∧ zgI T 123 29 = nI (tv t + 1) ∧ zcopy S T (tv t % 41) ((tv t + 1) % 41) 64 0) := by
        intro m2
        induction m2 with
        | zero =>
          intro c T2 hc hk2 hq1 hq2
          have ec : c = 4 := by omega
          subst ec
          have hM2 := hk2.ms hM
          refine j_iload_n (pc := 38) dX12_acts_38 rfl ?_
          refine j_iconst (pc := 39) (v := 4) dX12_acts_39 (by decide) ?_
          refine j_icmp_ge (pc := 40) (tgt := 85) dX12_acts_40 (by decide) (fun h40 => ?_) (fun h40 => absurd (nI_le (a := 4) (Nat.le_refl _) (by decide)) h40)
          refine j_iinc (pc := 85) (v := _ + 1) (ls' := [_, _, _]) dX12_acts_85 rfl rfl (by decide) rfl rfl ?_
          refine j_goto (pc := 88) (tgt := 2) dX12_acts_88 (by decide) ?_
          rw [nI_1]
          refine ih (i + 1) _ T2 (by omega) hk2 ⟨fun i' hi' => ?_, fun i' c' hi' hc' => ?_, fun c' hc' => absurd hc' (Nat.not_lt_zero c')⟩
          · by_cases g : i' = i
            · subst g
              exact hq1
            · exact hq2.1 i' (by omega)
          · by_cases g : i' = i
            · subst g
              exact hq2.2.2 c' hc'
            · exact hq2.2.1 i' c' (by omega) hc'
        | succ m2 ih2 =>
          intro c T2 hc hk2 hq1 hq2
          have hM2 := hk2.ms hM
          have e292 : zgI T2 123 29 = nI (tv t) := (hk2.2.2.2.1 123 29 (by unfold zXc; omega)).trans hv29
          refine j_iload_n (pc := 38) dX12_acts_38 rfl ?_
          refine j_iconst (pc := 39) (v := 4) dX12_acts_39 (by decide) ?_
          refine j_icmp_ge (pc := 40) (tgt := 85) dX12_acts_40 (by decide) (fun h40 => absurd h40 (nI_ge (b := 4) (by omega) (by decide))) (fun h40 => ?_)
          refine j_aload_n (pc := 43) dX12_acts_43 rfl ?_
          refine j_getPv (pc := 44) dX12_acts_44 f_X12_54 (Or.inr ⟨_, rfl⟩) hM2.1 (mp_values hM2) ?_
          refine j_iconst (pc := 47) (v := 4) dX12_acts_47 (by decide) ?_
          refine j_aload_n (pc := 48) dX12_acts_48 rfl ?_
          refine j_getIv (pc := 49) dX12_acts_49 f_X12_277 (Or.inl rfl) hM2.1 (e292) ?_
          refine j_iconst (pc := 52) (v := 1) dX12_acts_52 (by decide) ?_
          refine j_iadd (pc := 53) dX12_acts_53 ?_
          rw [nI_1]
          refine j_iload_n (pc := 54) dX12_acts_54 rfl ?_
          refine j_callS (pc := 55) (n_rowAt (show tv t + 1 < 2 ^ 20 by omega)) dX12_acts_55 l_X12_301 mk_X12_rowAt ms_X12_rowAt (by decide) rfl rfl (Nat.le_of_ble_eq_true rfl) (Nat.le_refl _) (Nat.le_refl _) (fun r T h_1 => ?_)
          obtain ⟨rfl, rfl⟩ := h_1
          refine j_imul (pc := 58) dX12_acts_58 ?_
          rw [show (4 : Int32) * nI (64 * ((tv t + 1) % 41) + i) = nI (4 * (64 * ((tv t + 1) % 41) + i)) from pk_mul 4 _]
          refine j_iload_n (pc := 59) dX12_acts_59 rfl ?_
          refine j_iadd (pc := 60) dX12_acts_60 ?_
          rw [nI_add]
          refine j_aload_n (pc := 61) dX12_acts_61 rfl ?_
          refine j_getPv (pc := 62) dX12_acts_62 f_X12_54 (Or.inr ⟨_, rfl⟩) hM2.1 (mp_values hM2) ?_
          refine j_iconst (pc := 65) (v := 4) dX12_acts_65 (by decide) ?_
          refine j_aload_n (pc := 66) dX12_acts_66 rfl ?_
          refine j_getIv (pc := 67) dX12_acts_67 f_X12_277 (Or.inl rfl) hM2.1 (e292) ?_
          refine j_iload_n (pc := 70) dX12_acts_70 rfl ?_
          refine j_callS (pc := 71) (n_rowAt (show tv t < 2 ^ 20 by omega)) dX12_acts_71 l_X12_301 mk_X12_rowAt ms_X12_rowAt (by decide) rfl rfl (Nat.le_of_ble_eq_true rfl) (Nat.le_refl _) (Nat.le_refl _) (fun r T h_1 => ?_)
          obtain ⟨rfl, rfl⟩ := h_1
          refine j_imul (pc := 74) dX12_acts_74 ?_
          rw [show (4 : Int32) * nI (64 * (tv t % 41) + i) = nI (4 * (64 * (tv t % 41) + i)) from pk_mul 4 _]
          refine j_iload_n (pc := 75) dX12_acts_75 rfl ?_
          refine j_iadd (pc := 76) dX12_acts_76 ?_
          rw [nI_add]
          refine j_laldn (pc := 77) dX12_acts_77 (mk_values hM2) (show 4 * (64 * (tv t % 41) + i) + c < 10496 by omega) (Nat.le_of_ble_eq_true rfl) ((hk2.2.2.2.2 136 _ (by unfold zXc; omega)).trans rfl) ?_
          refine j_lastn (pc := 78) dX12_acts_78 (mk_values hM2) (show 4 * (64 * ((tv t + 1) % 41) + i) + c < 10496 by omega) (Nat.le_of_ble_eq_true rfl) ?_
          refine j_iinc (pc := 79) (v := _ + 1) (ls' := [_, _, _]) dX12_acts_79 rfl rfl (by decide) rfl rfl ?_
          refine j_goto (pc := 82) (tgt := 38) dX12_acts_82 (by decide) ?_
          rw [nI_1]
          refine ih2 (c + 1) _ (by omega) (hk2.tr (zK.wL (by unfold zXc; omega))) hq1 ⟨fun i' hi' => hq2.1 i' hi', fun i' c' hi' hc' => ?_, fun c' hc' => ?_⟩
          · rw [zgL_wL, if_neg (by omega)]
            exact hq2.2.1 i' c' hi' hc'
          · rw [zgL_wL]
            by_cases g : c' = c
            · rw [if_pos ⟨rfl, by omega⟩, g]
            · rw [if_neg (by omega)]
              exact hq2.2.2 c' (by omega)
      exact lp2 4 0 _ (by omega) hkA (zgI_self.trans (hH0 i (by omega)).symm) ⟨fun i' hi' => by rw [zgI_wI, if_neg (by omega)]; exact hq.1 i' hi', hq.2.1, fun c' hc' => absurd hc' (Nat.not_lt_zero c')⟩
  refine j_iconst (pc := 0) (v := 0) dX12_acts_0 (by decide) ?_
  refine j_istore_n (pc := 1) (ls' := [_, _, _]) dX12_acts_1 (by decide) rfl rfl ?_
  exact lp 64 0 none S (by omega) zK.rf ⟨fun i' hi' => absurd hi' (Nat.not_lt_zero i'), fun i' c' hi' => absurd hi' (Nat.not_lt_zero i'), fun c' hc' => absurd hc' (Nat.not_lt_zero c')⟩
