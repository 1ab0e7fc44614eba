set_option maxRecDepth 20000 in
set_option maxHeartbeats 4000000 in
theorem l_show1 {E : zE} {S : zM} {O : List zOe} {V : List zSe} {t : zRW} {a w tn g : Nat} (ha : 93 ≤ a) (hta : zkd S a = (10, 0)) (hsv0 : zSv S (a + 8) V) (hps0 : zgP S a 3 = a + 8) (hO0 : zOr S (a + 3) O) (hpo0 : zgP S a 2 = a + 3) (hct : fb_ct t.1 64 ≤ 40) (hgv : ∀ i, g ≤ i → i < 64 → t.1 i = false) :
    ∀ (n i : Nat) (q : Nat → Nat) (T : zM), i + n = g → zV0 T q → zRo T 7 t.1 t.2 g → zV1 T q (zsr (zkf O t) t.1 i) (zkf O t) → zgI T 6 5 = 0 → (zgP T 6 8 = a ∧ zgI T 6 9 = nI w ∧ zgI T 6 10 = nI tn) → zG zXV S T → zJ E 4 0 0 mX10_show cX10_show 81 [some (zR 6), some (zR a), some (zI (nI w)), some (zI (nI i))] [] T (fun r T => r = none ∧ zVC T O V t ∧ (zgP T 6 8 = a ∧ zgI T 6 9 = nI w ∧ zgI T 6 10 = nI tn) ∧ zG zXV S T) := by
  have hkk : ∀ x y, x < 64 → y < 64 → zkf O t x = zkf O t y → x = y := fun x y hx hy e => zkey_inj hx hy e
  intro n
  induction n with
  | zero =>
    intro i q T hi h0 hR h1 h65 hf hG
    have ei : i = g := by omega
    subst ei
    have k6 := h0.1.1
    have k7 := hR.1
    have h64 := hR.2.2.2.2.2.2.2.2.2
    refine j_iload_n (pc := 81) dX10_show_81 rfl ?_
    refine j_aload_n (pc := 82) dX10_show_82 rfl ?_
    refine j_getP (pc := 83) dX10_show_83 f_X10_12 (Or.inl ⟨_, rfl⟩) (by assumption) ?_
    rw [h0.1.2.2.2.2.1]
    refine j_getI (pc := 86) dX10_show_86 f_X10_75 (Or.inl rfl) (by assumption) ?_
    rw [hR.2.2.2.2.2.1]
    refine j_icmp_ge (pc := 89) (tgt := 118) dX10_show_89 (by decide) (fun h89 => ?_) (fun h89 => ?_)
    · refine j_iconst (pc := 118) (v := 0) dX10_show_118 (by decide) ?_
      refine j_istore_n (pc := 119) (ls' := [_, _, _, _]) dX10_show_119 (by decide) rfl rfl ?_
      refine l_show2 rfl ha hta hsv0 hps0 (zsr (zkf O t) t.1 64).length 0 _ (by omega) h0 hR ?_ h65 (fun k y hy => by simp at hy) hf hG
      rw [zsr_ext hgv hR.2.2.2.2.2.2.2.2.2 (Nat.le_refl _)]
      exact h1
    · exact absurd (nI_le (Nat.le_refl _) (by omega)) h89
  | succ n ih =>
    intro i q T hi h0 hR h1 h65 hf hG
    have k6 := h0.1.1
    have k7 := hR.1
    have h64 := hR.2.2.2.2.2.2.2.2.2
    have ea := hG.2.2 a (by unfold zXV; omega)
    have kta : zkd T a = (10, 0) := ea.1.trans hta
    have hpo : zgP T a 2 = a + 3 := (ea.2.2.2 2).trans hpo0
    have hO : zOr T (a + 3) O := hO0.ag (fun k hk => hG.2.2 _ (by unfold zXV; omega))
    have hso : zSo (zkf O t) (zsr (zkf O t) t.1 i) := zsr_so hkk (by omega)
    refine j_iload_n (pc := 81) dX10_show_81 rfl ?_
    refine j_aload_n (pc := 82) dX10_show_82 rfl ?_
    refine j_getP (pc := 83) dX10_show_83 f_X10_12 (Or.inl ⟨_, rfl⟩) (by assumption) ?_
    rw [h0.1.2.2.2.2.1]
    refine j_getI (pc := 86) dX10_show_86 f_X10_75 (Or.inl rfl) (by assumption) ?_
    rw [hR.2.2.2.2.2.1]
    refine j_icmp_ge (pc := 89) (tgt := 118) dX10_show_89 (by decide) (fun h89 => ?_) (fun h89 => ?_)
    · exact absurd h89 (nI_ge (by omega) (by omega))
    · refine j_aload_n (pc := 92) dX10_show_92 rfl ?_
      refine j_getP (pc := 93) dX10_show_93 f_X10_12 (Or.inl ⟨_, rfl⟩) (by assumption) ?_
      rw [h0.1.2.2.2.2.1]
      refine j_iload_n (pc := 96) dX10_show_96 rfl ?_
      refine j_callV (pc := 97) (t := 7) (c_has hR _) dX10_show_97 l_X10_78 mk_X7_has mv_X7_has (by decide) rfl (by assumption) (by decide) rfl rfl (Nat.le_of_ble_eq_true rfl) (Nat.le_refl _) (Nat.le_refl _) (fun r T2 h_1 => ?_)
      obtain ⟨rfl, rfl⟩ := h_1
      dsimp only [Option.toList, List.cons_append, List.nil_append]
      rw [zth_nI _ (show i < 64 by omega)]
      refine j_if_eq (pc := 100) (tgt := 112) dX10_show_100 (by decide) (fun h100 => ?_) (fun h100 => ?_)
      · refine j_iinc (pc := 112) (v := _ + 1) (ls' := [_, _, _, _]) dX10_show_112 rfl rfl (by decide) rfl rfl ?_
        refine j_goto (pc := 115) (tgt := 81) dX10_show_115 (by decide) ?_
        rw [nI_1]
        refine ih (i + 1) q T (by omega) h0 hR ?_ h65 hf hG
        rw [zsr, if_neg (by rw [zbi_eq0.mp h100]; decide)]
        exact h1
      · have hti : t.1 i = true := by cases z : t.1 i with | true => rfl | false => exact absurd (by rw [z]; rfl) h100
        have hlen : (zsr (zkf O t) t.1 i).length < 40 := by rw [zsr_len]; have m1 := fb_ct_mono t.1 (show i + 1 ≤ 64 by omega); rw [fb_ct_succ, if_pos hti] at m1; omega
        refine j_aload_n (pc := 103) dX10_show_103 rfl ?_
        refine j_iload_n (pc := 104) dX10_show_104 rfl ?_
        refine j_aload_n (pc := 105) dX10_show_105 rfl ?_
        refine j_getP (pc := 106) dX10_show_106 f_X10_82 (Or.inl ⟨_, rfl⟩) (by assumption) ?_
        rw [hpo]
        refine j_callV (pc := 109) (t := 10) (c_enter h0 h1 hso hO (by omega) hR (by omega) hlen rfl) dX10_show_109 l_X10_86 mk_X10_enter mv_X10_enter (by decide) rfl (by assumption) (by decide) rfl rfl (Nat.le_of_ble_eq_true rfl) (Nat.le_refl _) (Nat.le_refl _) (fun r T2 h_1 => ?_)
        obtain ⟨rfl, q2, e0, e1, e2, e3, e4⟩ := h_1
        refine j_iinc (pc := 112) (v := _ + 1) (ls' := [_, _, _, _]) dX10_show_112 rfl rfl (by decide) rfl rfl ?_
        refine j_goto (pc := 115) (tgt := 81) dX10_show_115 (by decide) ?_
        rw [nI_1]
        refine ih (i + 1) q2 T2 (by omega) e0 (hR.ag (fun k hk => e2.2.2 _ (by omega))) ?_ ((e3 5 (by decide)).trans h65) ⟨(e4 8).trans hf.1, (e3 9 (by decide)).trans hf.2.1, (e3 10 (by decide)).trans hf.2.2⟩ (hG.tr (e2.mo (fun c z => by unfold zXV; omega)))
        rw [zsr, if_pos hti]
        exact e1
set_option maxRecDepth 20000 in
set_option maxHeartbeats 4000000 in
theorem c_show {E : zE} {S : zM} {K : List Bool} {O : List zOe} {V : List zSe} {ch : Nat → zRW} {a g v w tn : Nat} {so si sc : Nat → Nat} {ol : Nat → Int64} {tc : Nat → Nat} (hT : zTA S a K O V (ch v) g so si sc ol v tn tc) (hH : zHi so si sc ol v ch) (ha : 93 ≤ a) (hw1 : w ≤ v) (hw2 : v ≤ w + 40) (hct : fb_ct (ch w).1 64 ≤ 40) (hgv : ∀ i, g ≤ i → i < 64 → (ch w).1 i = false) (hV : zVW S) (hC : zgP S 6 8 = a → zgI S 6 9 = nI w → zgI S 6 10 = nI tn → zVC S O V (ch w)) : zSp E 4 0 0 mX10_show cX10_show [zR 6, zR a, zI (nI w)] S (fun r T => r = none ∧ zVC T O V (ch w) ∧ (zgP T 6 8 = a ∧ zgI T 6 9 = nI w ∧ zgI T 6 10 = nI tn) ∧ zG zXV S T) := by
  refine zSp.of (by decide) rfl (Nat.le_of_ble_eq_true rfl) rfl ?_
  obtain ⟨q, t0, gv, h0, hR0⟩ := hV
  have k6 := h0.1.1
  have kta := hT.1.1.1
  have htn := hT.2.2.2.2.2.2.2.1
  have hp4 := hT.2.1.2.2.1
  have hp5 := hT.2.1.2.2.2.1
  have hAc := hT.2.2.2.2.2.1
  have hrest : zJ E 4 0 0 mX10_show cX10_show 28 [some (zR 6), some (zR a), some (zI (nI w)), none] [] S (fun r T => r = none ∧ zVC T O V (ch w) ∧ (zgP T 6 8 = a ∧ zgI T 6 9 = nI w ∧ zgI T 6 10 = nI tn) ∧ zG zXV S T) := by
    have hG3 : zG zXV S (zwI (zwI (zwP S 6 8 a) 6 9 (nI w)) 6 10 (nI tn)) := ((zG.wP (by decide)).tr (zF.wI (by decide)).g).tr (zF.wI (by decide)).g
    have r0 : zRo (zwI (zwI (zwP S 6 8 a) 6 9 (nI w)) 6 10 (nI tn)) 7 t0.1 t0.2 gv := hR0.ag (fun k hk => (((zG.wP (X := fun c => c = 6) rfl).tr (zF.wI (X := fun c => c = 6) rfl).g).tr (zF.wI (X := fun c => c = 6) rfl).g).2.2 _ (by omega))
    have rT : zRo (zwI (zwI (zwP S 6 8 a) 6 9 (nI w)) 6 10 (nI tn)) (a + 13) (ch v).1 (ch v).2 g := hT.2.2.2.2.1.ag (fun k hk => hG3.2.2 _ (by unfold zXV; omega))
    have k70 := r0.1
    have kt0 := rT.1
    refine j_aload_n (pc := 28) dX10_show_28 rfl ?_
    refine j_aload_n (pc := 29) dX10_show_29 rfl ?_
    refine j_putP (pc := 30) dX10_show_30 f_X10_47 (Or.inl ⟨_, rfl⟩) (by assumption) rfl ?_
    refine j_aload_n (pc := 33) dX10_show_33 rfl ?_
    refine j_iload_n (pc := 34) dX10_show_34 rfl ?_
    refine j_putI (pc := 35) dX10_show_35 f_X10_51 rfl (by assumption) rfl ?_
    refine j_aload_n (pc := 38) dX10_show_38 rfl ?_
    refine j_aload_n (pc := 39) dX10_show_39 rfl ?_
    refine j_getI (pc := 40) dX10_show_40 f_X10_57 (Or.inl rfl) (by assumption) ?_
    rw [show zgI (zwI (zwP S 6 8 a) 6 9 (nI w)) a 8 = nI tn from (zgI_ne (S := zwP S 6 8 a) (by omega)).trans htn]
    refine j_putI (pc := 43) dX10_show_43 f_X10_54 rfl (by assumption) rfl ?_
    refine j_aload_n (pc := 46) dX10_show_46 rfl ?_
    refine j_getP (pc := 47) dX10_show_47 f_X10_12 (Or.inl ⟨_, rfl⟩) (by assumption) ?_
    rw [show zgP (zwI (zwI (zwP S 6 8 a) 6 9 (nI w)) 6 10 (nI tn)) 6 0 = 7 from (zgP_nk (S := S) (by decide)).trans h0.1.2.2.2.2.1]
    refine j_aload_n (pc := 50) dX10_show_50 rfl ?_
    refine j_getP (pc := 51) dX10_show_51 f_X10_60 (Or.inl ⟨_, rfl⟩) (by assumption) ?_
    rw [show zgP (zwI (zwI (zwP S 6 8 a) 6 9 (nI w)) 6 10 (nI tn)) a 4 = a + 13 from (zgP_ne (by omega)).trans hp4]
    refine j_callV (pc := 54) (t := 7) (c_copy (th := t0.1) (vl := t0.2) r0 rT (Or.inl (by omega))) dX10_show_54 l_X10_61 mk_X7_copy mv_X7_copy (by decide) rfl (by assumption) (by decide) rfl rfl (Nat.le_of_ble_eq_true rfl) (Nat.le_refl _) (Nat.le_refl _) (fun r T h_1 => ?_)
    obtain ⟨rfl, r1, f1⟩ := h_1
    have b6 : zAg (zwI (zwI (zwP S 6 8 a) 6 9 (nI w)) 6 10 (nI tn)) T 6 := f1.ag (by unfold zX3; omega)
    have ba : zAg (zwI (zwI (zwP S 6 8 a) 6 9 (nI w)) 6 10 (nI tn)) T a := f1.ag (by unfold zX3; omega)
    have hG1 : zG zXV S T := hG3.tr (f1.g.mo (fun c z => by unfold zX3 at z; unfold zXV; omega))
    have kT6 : zkd T 6 = (11, 0) := b6.1.trans h0.1.1
    have kTa : zkd T a = (10, 0) := (hG1.2.2 a (by unfold zXV; omega)).1.trans hT.1.1.1
    have hA1 : zAc T (a + 16) so si sc ol v := hAc.ag (fun k hk => hG1.2.2 _ (by unfold zXV; omega))
    have kTA := hA1.1.1
    have kT7 := r1.1
    refine j_aload_n (pc := 57) dX10_show_57 rfl ?_
    refine j_getP (pc := 58) dX10_show_58 f_X10_65 (Or.inl ⟨_, rfl⟩) (by assumption) ?_
    rw [((hG1.2.2 a (by unfold zXV; omega)).2.2.2 5).trans hp5]
    refine j_aload_n (pc := 61) dX10_show_61 rfl ?_
    refine j_getP (pc := 62) dX10_show_62 f_X10_12 (Or.inl ⟨_, rfl⟩) (by assumption) ?_
    rw [(b6.2.2.2 0).trans ((zgP_nk (S := S) (by decide)).trans h0.1.2.2.2.2.1)]
    refine j_iload_n (pc := 65) dX10_show_65 rfl ?_
    refine j_callV (pc := 66) (t := 0) (c_takeBack hA1 r1 (Or.inl (by omega)) hw1 (by omega)) dX10_show_66 l_X10_69 mk_X0_takeBack mv_X0_takeBack (by decide) rfl (by assumption) (by decide) rfl rfl (Nat.le_of_ble_eq_true rfl) (Nat.le_refl _) (Nat.le_refl _) (fun r T2 h_1 => ?_)
    obtain ⟨rfl, r2, f2⟩ := h_1
    rw [show v - w = v - w from rfl] at r2
    have ebk : zbk so si sc ol (v - w) v (ch v) = ch w := by
      have := hH.bk (v - w) w (by omega) (by omega)
      rwa [Nat.add_sub_cancel' hw1] at this
    rw [show ((ch v).1, (ch v).2) = ch v from rfl, ebk] at r2
    have b6' : zAg (zwI (zwI (zwP S 6 8 a) 6 9 (nI w)) 6 10 (nI tn)) T2 6 := b6.tr (f2.ag (by unfold zX3; omega))
    have hG2 : zG zXV S T2 := hG1.tr (f2.g.mo (fun c z => by unfold zX3 at z; unfold zXV; omega))
    have kT26 : zkd T2 6 = (11, 0) := b6'.1.trans h0.1.1
    refine j_aload_n (pc := 69) dX10_show_69 rfl ?_
    refine j_iconst (pc := 70) (v := 0) dX10_show_70 (by decide) ?_
    refine j_putI (pc := 71) dX10_show_71 f_X10_34 rfl (by assumption) rfl ?_
    refine j_aload_n (pc := 74) dX10_show_74 rfl ?_
    refine j_iconst (pc := 75) (v := 0) dX10_show_75 (by decide) ?_
    refine j_putI (pc := 76) dX10_show_76 f_X10_38 rfl (by assumption) rfl ?_
    refine j_iconst (pc := 79) (v := 0) dX10_show_79 (by decide) ?_
    refine j_istore_n (pc := 80) (ls' := [_, _, _, _]) dX10_show_80 (by decide) rfl rfl ?_
    obtain ⟨T3, hT3⟩ : ∃ U, U = zwI (zwI T2 6 4 0) 6 5 0 := ⟨_, rfl⟩
    rw [← hT3]
    have hF3 : zF (fun c => c = 6) T2 T3 := by rw [hT3]; exact (zF.wI (X := fun c => c = 6) rfl).tr (zF.wI (X := fun c => c = 6) rfl)
    have hne : ∀ c, c ≠ 6 → zAg T2 T3 c := fun c hc => hF3.ag hc
    have p63 : ∀ k, zgP T3 6 k = zgP (zwI (zwI (zwP S 6 8 a) 6 9 (nI w)) 6 10 (nI tn)) 6 k := fun k => by rw [hF3.2.2.1]; exact b6'.2.2.2 k
    have hS3 : ∀ c, c ≠ 6 → ¬ (7 ≤ c ∧ c ≤ 9) → zAg S T3 c := fun c h1 h2 => ((((zG.wP (X := fun c => c = 6) rfl).tr (zF.wI (X := fun c => c = 6) rfl).g).tr (zF.wI (X := fun c => c = 6) rfl).g).2.2 c h1).tr (((f1.ag (by unfold zX3; omega)).tr (f2.ag (by unfold zX3; omega))).tr (hne c h1))
    have h03 : zV0 T3 q := by
      obtain ⟨⟨z1, z2, z3, z4, z5, z6, z7, z8⟩, y2, y3⟩ := h0
      refine ⟨⟨(by rw [hF3.1]; exact kT26), (hS3 10 (by decide) (by decide)).1.trans z2, (hS3 11 (by decide) (by decide)).1.trans z3, (hS3 92 (by decide) (by decide)).1.trans z4, (p63 0).trans ((zgP_nk (S := S) (by decide)).trans z5), (p63 1).trans ((zgP_nk (S := S) (by decide)).trans z6), (p63 2).trans ((zgP_nk (S := S) (by decide)).trans z7), (p63 3).trans ((zgP_nk (S := S) (by decide)).trans z8)⟩, fun i hi => ?_, y3⟩
      obtain ⟨e1, ⟨j, hj, e2⟩, L, hL⟩ := y2 i hi
      exact ⟨((hS3 11 (by decide) (by decide)).2.2.2 i).trans e1, ⟨j, hj, e2⟩, L, hL.ag (hS3 _ (by omega) (by omega)) (hS3 _ (by omega) (by omega))⟩
    refine l_show1 (g := g) ha hT.1.1.1 hT.2.2.2.1 hT.2.1.2.1 hT.2.2.1 hT.2.1.1 hct hgv g 0 q T3 (by omega) h03 (r2.ag (fun k hk => hne _ (by omega))) ?_ ?_ ?_ (hG2.tr (hF3.g.mo (fun c z => by unfold zXV; omega)))
    · rw [hT3]
      exact ⟨(zgI_nk (by decide)).trans (zgI_self.trans nI_0.symm), Nat.zero_le _, fun i x hx => by simp [zsr] at hx⟩
    · rw [hT3]
      exact zgI_self
    · rw [hT3]
      refine ⟨?_, ?_, ?_⟩
      · exact (b6'.2.2.2 8).trans (zgP_self (S := S))
      · exact (zgI_nk (by decide)).trans ((zgI_nk (by decide)).trans ((b6'.2.1 9).trans ((zgI_nk (by decide)).trans zgI_self)))
      · exact (zgI_nk (by decide)).trans ((zgI_nk (by decide)).trans ((b6'.2.1 10).trans zgI_self))
  refine j_aload_n (pc := 0) dX10_show_0 rfl ?_
  refine j_getP (pc := 1) dX10_show_1 f_X10_47 (Or.inl ⟨_, rfl⟩) (by assumption) ?_
  
  refine j_aload_n (pc := 4) dX10_show_4 rfl ?_
  refine j_acmp_ne (pc := 5) (tgt := 28) dX10_show_5 (by decide) (fun h5 => ?_) (fun h5 => ?_)
  · exact hrest
  · refine j_aload_n (pc := 8) dX10_show_8 rfl ?_
    refine j_getI (pc := 9) dX10_show_9 f_X10_51 (Or.inl rfl) (by assumption) ?_
    refine j_iload_n (pc := 12) dX10_show_12 rfl ?_
    refine j_icmp_ne (pc := 13) (tgt := 28) dX10_show_13 (by decide) (fun h13 => ?_) (fun h13 => ?_)
    · exact hrest
    · refine j_aload_n (pc := 16) dX10_show_16 rfl ?_
      refine j_getI (pc := 17) dX10_show_17 f_X10_54 (Or.inl rfl) (by assumption) ?_
      refine j_aload_n (pc := 20) dX10_show_20 rfl ?_
      refine j_getI (pc := 21) dX10_show_21 f_X10_57 (Or.inl rfl) (by assumption) ?_
      rw [htn]
      refine j_icmp_ne (pc := 24) (tgt := 28) dX10_show_24 (by decide) (fun h24 => ?_) (fun h24 => ?_)
      · exact hrest
      · refine j_vret (pc := 27) dX10_show_27 rfl ?_
        exact ⟨rfl, hC h5 h13 h24, ⟨h5, h13, h24⟩, zG.rf⟩
