
set_option maxRecDepth 20000 in
set_option maxHeartbeats 4000000 in
theorem c_vinit {E : zE} {S : zM}  (ha : zkd S 6 = (11, 0)) (hgS : zgn S = 6) : zSp E 2 86 1884 mX10_init cX10_init [zR 6] S (fun r T => r = none ∧ zVW T ∧ zgP T 6 8 = 0 ∧ zgn T = 92 ∧ zNF (fun c => c = 6) S T) := by
  refine zSp.of (by decide) rfl (Nat.le_of_ble_eq_true rfl) rfl ?_
  have sE : ∀ (U : zM) (y : Option zV), zgn U = 91 → (zkd U 6 = (11, 0) ∧ zgP U 6 0 = 7 ∧ zRo U 7 (fun _ => false) (fun _ _ => 0) 0 ∧ zkd U 10 = (14, 40) ∧ zkd U 11 = (17, 40) ∧ zgP U 6 1 = 10 ∧ zgP U 6 2 = 11) → (∀ o, o < 40 → zgP U 11 o = 12 + 2 * o ∧ zBy U (12 + 2 * o) (12 + 2 * o + 1) 34 []) → zNF (fun c => c = 6) S U → zJ E 2 1 40 mX10_init cX10_init 61 [some (zR 6), y] [] U (fun r T => r = none ∧ zVW T ∧ zgP T 6 8 = 0 ∧ zgn T = 92 ∧ zNF (fun c => c = 6) S T) := by
    intro U y hg hF hl hN
    obtain ⟨k6, p0, hr, k10, k11, p1, p2⟩ := hF
    have k6n : zkd (znw U 14 40) 6 = (11, 0) := (znw_ok (by omega)).trans k6
    refine j_aload_n (pc := 61) dX10_init_61 rfl ?_
    refine j_bipush (pc := 62) (v := 40) dX10_init_62 (by decide) ?_
    refine j_newa (pc := 64) (n := 40) (mc2 := 0) (ms2 := 0) dX10_init_64 (Or.inl ⟨rfl, rfl⟩) ac_int (by decide) (by decide) (by decide) (Nat.le_of_ble_eq_true rfl) (Nat.le_of_ble_eq_true rfl) ?_
    refine j_putFP (pc := 66) dX10_init_66 f_X10_31 (Or.inr ⟨_, rfl⟩) rfl rfl fp_X10_31 (by first | assumption | exact k6n) rfl ?_
    refine j_aload_n (pc := 69) dX10_init_69 rfl ?_
    refine j_iconst (pc := 70) (v := 0) dX10_init_70 (by decide) ?_
    refine j_putI (pc := 71) dX10_init_71 f_X10_34 rfl (by first | assumption | exact k6n) rfl ?_
    refine j_aload_n (pc := 74) dX10_init_74 rfl ?_
    refine j_iconst (pc := 75) (v := 0) dX10_init_75 (by decide) ?_
    refine j_putI (pc := 76) dX10_init_76 f_X10_38 rfl (by first | assumption | exact k6n) rfl ?_
    refine j_aload_n (pc := 79) dX10_init_79 rfl ?_
    refine j_iconst (pc := 80) (v := 0) dX10_init_80 (by decide) ?_
    refine j_putI (pc := 81) dX10_init_81 f_X10_41 rfl (by first | assumption | exact k6n) rfl ?_
    refine j_aload_n (pc := 84) dX10_init_84 rfl ?_
    refine j_iconst (pc := 85) (v := 0) dX10_init_85 (by decide) ?_
    refine j_putI (pc := 86) dX10_init_86 f_X10_44 rfl (by first | assumption | exact k6n) rfl ?_
    refine j_aload_n (pc := 89) dX10_init_89 rfl ?_
    refine j_null (pc := 90) dX10_init_90 ?_
    refine j_putP (pc := 91) dX10_init_91 f_X10_47 (Or.inl ⟨_, rfl⟩) (by first | assumption | exact k6n) rfl ?_
    refine j_aload_n (pc := 94) dX10_init_94 rfl ?_
    refine j_iconst (pc := 95) (v := 0) dX10_init_95 (by decide) ?_
    refine j_putI (pc := 96) dX10_init_96 f_X10_51 rfl (by first | assumption | exact k6n) rfl ?_
    refine j_aload_n (pc := 99) dX10_init_99 rfl ?_
    refine j_iconst (pc := 100) (v := 0) dX10_init_100 (by decide) ?_
    refine j_putI (pc := 101) dX10_init_101 f_X10_54 rfl (by first | assumption | exact k6n) rfl ?_
    refine j_vret (pc := 104) dX10_init_104 rfl ?_
    have a1 : ∀ c, c ≤ 91 → zAg U (znw U 14 40) c := fun c hc => (zNF.nw (X := fun _ => False)).2 c (by omega) (fun z => z)
    have a2 : ∀ c, c ≠ 6 → zAg (znw U 14 40) (zwI (zwI (zwP (zwI (zwI (zwI (zwI (zwP (znw U 14 40) 6 3 (zgn U + 1)) 6 4 0) 6 5 0) 6 6 0) 6 7 0) 6 8 0) 6 9 0) 6 10 0) c := fun c hc => ⟨rfl, fun k => (zgI_ne hc).trans ((zgI_ne hc).trans ((zgI_ne hc).trans ((zgI_ne hc).trans ((zgI_ne hc).trans (zgI_ne hc))))), fun k => rfl, fun k => (zgP_ne hc).trans (zgP_ne hc)⟩
    have fo : ∀ c, c ≤ 91 ∧ c ≠ 6 → zAg U (zwI (zwI (zwP (zwI (zwI (zwI (zwI (zwP (znw U 14 40) 6 3 (zgn U + 1)) 6 4 0) 6 5 0) 6 6 0) 6 7 0) 6 8 0) 6 9 0) 6 10 0) c := fun c hc => (a1 c hc.1).tr (a2 c hc.2)
    have pk : ∀ k, k ≠ 3 → k ≠ 8 → zgP (zwI (zwI (zwP (zwI (zwI (zwI (zwI (zwP (znw U 14 40) 6 3 (zgn U + 1)) 6 4 0) 6 5 0) 6 6 0) 6 7 0) 6 8 0) 6 9 0) 6 10 0) 6 k = zgP U 6 k := fun k h3 h8 => (zgP_nk (S := zwP (znw U 14 40) 6 3 (zgn U + 1)) h8).trans ((zgP_nk (S := znw U 14 40) h3).trans ((a1 6 (by decide)).2.2.2 k))
    refine ⟨rfl, ⟨fun i => 12 + 2 * i, (fun _ => false, fun _ _ => 0), 0, ⟨⟨k6n, (fo 10 (by decide)).1.trans k10, (fo 11 (by decide)).1.trans k11, ?_, (pk 0 (by decide) (by decide)).trans p0, (pk 1 (by decide) (by decide)).trans p1, (pk 2 (by decide) (by decide)).trans p2, ?_⟩, fun i hi => ⟨((fo 11 (by decide)).2.2.2 i).trans (hl i hi).1, ⟨i, hi, rfl⟩, [], ?_⟩, fun i j _ _ e => by have e : 12 + 2 * i = 12 + 2 * j := e; omega⟩, ?_⟩, zgP_self (S := zwP (znw U 14 40) 6 3 (zgn U + 1)), by show zgn U + 1 = 92; omega, ?_⟩
    · show zkd (znw U 14 40) 92 = (14, 40)
      rw [show 92 = zgn U + 1 by omega]
      exact znw_kd
    · refine (zgP_nk (S := zwP (znw U 14 40) 6 3 (zgn U + 1)) (by decide)).trans ((zgP_self (S := znw U 14 40)).trans ?_)
      omega
    · exact (hl i hi).2.ag (fo _ (by omega)) (fo _ (by omega))
    · exact hr.ag (fun k hk => fo _ (by omega))
    · exact hN.tr ⟨Nat.le_succ _, fun c hc hx => fo c ⟨by omega, hx⟩⟩
  have lp : ∀ (m i : Nat) (U : zM), i + m = 40 → zgn U = 11 + 2 * i → (zkd U 6 = (11, 0) ∧ zgP U 6 0 = 7 ∧ zRo U 7 (fun _ => false) (fun _ _ => 0) 0 ∧ zkd U 10 = (14, 40) ∧ zkd U 11 = (17, 40) ∧ zgP U 6 1 = 10 ∧ zgP U 6 2 = 11) → (∀ o, o < i → zgP U 11 o = 12 + 2 * o ∧ zBy U (12 + 2 * o) (12 + 2 * o + 1) 34 []) → zNF (fun c => c = 6) S U → zJ E 2 (2 * m + 1) (36 * m + 40) mX10_init cX10_init 34 [some (zR 6), some (zI (nI i))] [] U (fun r T => r = none ∧ zVW T ∧ zgP T 6 8 = 0 ∧ zgn T = 92 ∧ zNF (fun c => c = 6) S T) := by
    intro m
    induction m with
    | zero =>
      intro i U hi hg hF hl hN
      refine j_iload_n (pc := 34) dX10_init_34 rfl ?_
      refine j_bipush (pc := 35) (v := 40) dX10_init_35 (by decide) ?_
      refine j_icmp_ge (pc := 37) (tgt := 61) dX10_init_37 (by decide) (fun h37 => ?_) (fun h37 => absurd (nI_le (a := 40) (show 40 ≤ i by omega) (by omega)) h37)
      have ei : i = 40 := by omega
      rw [ei] at hl
      exact sE U _ (by omega) hF hl hN
    | succ m ih =>
      intro i U hi hg hF hl hN
      obtain ⟨k6, p0, hr, k10, k11, p1, p2⟩ := hF
      refine j_iload_n (pc := 34) dX10_init_34 rfl ?_
      refine j_bipush (pc := 35) (v := 40) dX10_init_35 (by decide) ?_
      refine j_icmp_ge (pc := 37) (tgt := 61) dX10_init_37 (by decide) (fun h37 => absurd h37 (nI_ge (b := 40) (show i < 40 by omega) (by decide))) (fun h37 => ?_)
      refine j_aload_n (pc := 40) dX10_init_40 rfl ?_
      refine j_getP (pc := 41) dX10_init_41 f_X10_24 (Or.inr ⟨_, rfl⟩) (by first | assumption | exact (znw_ok (by omega)).trans k6) ?_
      rw [p2]
      refine j_iload_n (pc := 44) dX10_init_44 rfl ?_
      refine j_new (pc := 45) (mc2 := 2 * m + 2) (ms2 := 36 * m + 74) dX10_init_45 nl_X10_22 (by show _ + 1 ≤ _; omega) (by show _ + 2 ≤ _; omega) ?_
      refine j_dup (pc := 48) dX10_init_48 rfl ?_
      refine j_bipush (pc := 49) (v := 34) dX10_init_49 (by decide) ?_
      refine j_callI (pc := 51) (mc2 := 2 * m + 1) (ms2 := 36 * m + 40) (c_binit (cap := 34) znw_kd (Nat.succ_pos _) (Nat.le_refl _) (by decide)) dX10_init_51 l_X10_28 mk_X1_init rfl rfl mi_X1_init (Nat.succ_pos _) (by decide) rfl rfl (Nat.le_of_ble_eq_true rfl) (by omega) (by omega) (fun r T1 h_1 => ?_)
      obtain ⟨rfl, hb, hgT, hn⟩ := h_1
      have hb : zBy T1 (zgn U + 1) (zgn U + 1 + 1) 34 [] := hb
      have hgT : zgn T1 = zgn U + 1 + 1 := hgT
      have hn : zNF (fun c => c = zgn U + 1) (znw U 2 0) T1 := hn
      have ag0 : ∀ c, c ≤ 11 + 2 * i → zAg U T1 c := fun c hc => hn.mk0 (by omega)
      have k11n : zkd T1 11 = (14 + 3, 40) := (ag0 11 (by omega)).1.trans k11
      have hv : zkd T1 (zgn U + 1) = (1 + 1, 0) := hb.1
      have hin : vp_in (nI i) 40 := vp_in_nI (by omega) (by decide)
      refine j_aast (pc := 54) (j := 3) (t := 1) dX10_init_54 (by first | assumption | exact (znw_ok (by omega)).trans k6) (by decide) (by first | assumption | exact (znw_ok (by omega)).trans k6) (by assumption) ?_
      refine j_iinc (pc := 55) (v := _ + 1) (ls' := [_, _]) dX10_init_55 rfl rfl (by decide) rfl rfl ?_
      refine j_goto (pc := 58) (tgt := 34) dX10_init_58 (by decide) ?_
      rw [nI_1, nI_clamp (by omega)]
      have ag : ∀ c, c ≤ 11 + 2 * i ∧ c ≠ 11 → zAg U (zwP T1 11 i (zgn U + 1)) c := fun c hc => (ag0 c hc.1).tr (zAg.wP hc.2)
      refine ih (i + 1) _ (by omega) (by show zgn T1 = 11 + 2 * (i + 1); omega) ⟨(ag 6 (by omega)).1.trans k6, ((ag 6 (by omega)).2.2.2 0).trans p0, hr.ag (fun k hk => ag _ (by omega)), (ag 10 (by omega)).1.trans k10, k11n, ((ag 6 (by omega)).2.2.2 1).trans p1, ((ag 6 (by omega)).2.2.2 2).trans p2⟩ (fun o ho => ?_) ⟨Nat.le_trans hN.1 (by show zgn U ≤ zgn T1; omega), fun c hc hx => (hN.2 c hc hx).tr (ag c ⟨by omega, by omega⟩)⟩
      · by_cases e : o = i
        · refine ⟨by rw [e]; exact zgP_self.trans (by omega), ?_⟩
          rw [e, show 12 + 2 * i = zgn U + 1 by omega]
          exact hb.ag (zAg.wP (by omega)) (zAg.wP (by omega))
        · have := hl o (by omega)
          exact ⟨(zgP_nk e).trans (((ag0 11 (by omega)).2.2.2 o).trans this.1), this.2.ag (ag _ (by omega)) (ag _ (by omega))⟩
  refine j_aload_n (pc := 0) dX10_init_0 rfl ?_
  refine j_objInit (pc := 1) dX10_init_1 oi_X10_3 (by omega) (by decide) (Nat.le_of_ble_eq_true rfl) ?_
  refine j_aload_n (pc := 4) dX10_init_4 rfl ?_
  refine j_new (pc := 5) (mc2 := 85) (ms2 := 1880) dX10_init_5 nl_X10_9 (Nat.le_of_ble_eq_true rfl) (Nat.le_of_ble_eq_true rfl) ?_
  refine j_dup (pc := 8) dX10_init_8 rfl ?_
  refine j_callI (pc := 9) (mc2 := 83) (ms2 := 1560) (c_roinit (a := zgn S + 1) znw_kd rfl (Nat.succ_pos _)) dX10_init_9 l_X10_11 mk_X7_init rfl rfl mi_X7_init (Nat.succ_pos _) (by decide) rfl rfl (Nat.le_of_ble_eq_true rfl) (Nat.le_of_ble_eq_true rfl) (Nat.le_of_ble_eq_true rfl) (fun r T1 h_1 => ?_)
  obtain ⟨rfl, hro, hgT, hn⟩ := h_1
  have hro : zRo T1 (zgn S + 1) (fun _ => false) (fun _ _ => 0) 0 := hro
  rw [hgS] at hro
  have hgT : zgn T1 = zgn S + 1 + 2 := hgT
  have hn : zNF (fun c => c = zgn S + 1) (znw S 8 0) T1 := hn
  have ag0 : ∀ c, c ≤ 6 → zAg S T1 c := fun c hc => hn.mk0 (by omega)
  have k6 : zkd T1 6 = (11, 0) := (ag0 6 (by decide)).1.trans ha
  have hg9 : zgn T1 = 9 := by omega
  refine j_putFP (pc := 12) dX10_init_12 f_X10_12 (Or.inl ⟨_, rfl⟩) rfl rfl fp_X10_12 (by first | assumption | (simp [zkd_wP, zkd_nw, zgP_wP, zgP_nw, zgn_wP, zgn_nw, hg9, k6])) rfl ?_
  refine j_aload_n (pc := 15) dX10_init_15 rfl ?_
  refine j_bipush (pc := 16) (v := 40) dX10_init_16 (by decide) ?_
  refine j_newa (pc := 18) (n := 40) (mc2 := 82) (ms2 := 1520) dX10_init_18 (Or.inl ⟨rfl, rfl⟩) ac_int (by decide) (by decide) (by decide) (Nat.le_of_ble_eq_true rfl) (Nat.le_of_ble_eq_true rfl) ?_
  refine j_putFP (pc := 20) dX10_init_20 f_X10_18 (Or.inr ⟨_, rfl⟩) rfl rfl fp_X10_18 (by first | assumption | (simp [zkd_wP, zkd_nw, zgP_wP, zgP_nw, zgn_wP, zgn_nw, hg9, k6])) rfl ?_
  refine j_aload_n (pc := 23) dX10_init_23 rfl ?_
  refine j_bipush (pc := 24) (v := 40) dX10_init_24 (by decide) ?_
  refine j_anew (pc := 26) (n := 40) (mc2 := 81) (ms2 := 1480) dX10_init_26 (Or.inl ⟨rfl, rfl⟩) n_X10_22 (by decide) (by decide) (by decide) (Nat.le_of_ble_eq_true rfl) (Nat.le_of_ble_eq_true rfl) ?_
  refine j_putFP (pc := 29) dX10_init_29 f_X10_24 (Or.inr ⟨_, rfl⟩) rfl rfl fp_X10_24 (by first | assumption | (simp [zkd_wP, zkd_nw, zgP_wP, zgP_nw, zgn_wP, zgn_nw, hg9, k6])) rfl ?_
  refine j_iconst (pc := 32) (v := 0) dX10_init_32 (by decide) ?_
  refine j_istore_n (pc := 33) (ls' := [_, _]) dX10_init_33 (by decide) rfl rfl ?_
  have n1 : zNF (fun c => c = 6) S T1 := ⟨by omega, fun c hc _ => ag0 c (by omega)⟩
  have n2 := (((((n1.tr (zNF.wP (X := fun c => c = 6) (a := 6) (k := 0) (v := zgn S + 1) rfl)).tr (zNF.nw (t := 14) (n := 40))).tr (zNF.wP (X := fun c => c = 6) (a := 6) (k := 1) (v := zgn T1 + 1) rfl)).tr (zNF.nw (t := 17) (n := 40))).tr (zNF.wP (X := fun c => c = 6) (a := 6) (k := 2) (v := zgn T1 + 1 + 1) rfl))
  have ag7 : ∀ c, c ≤ 9 ∧ c ≠ 6 → zAg T1 (zwP (znw (zwP (znw (zwP T1 6 0 (zgn S + 1)) 14 40) 6 1 (zgn T1 + 1)) 17 40) 6 2 (zgn T1 + 1 + 1)) c := fun c hc => ((((zNF.wP (X := fun c => c = 6) rfl).tr zNF.nw).tr (zNF.wP rfl)).tr zNF.nw |>.tr (zNF.wP rfl)).2 c (by omega) hc.2
  refine lp 40 0 _ rfl (by simp [zkd_wP, zkd_nw, zgP_wP, zgP_nw, zgn_wP, zgn_nw, hg9, k6]) ⟨?_, ?_, hro.ag (fun k hk => ag7 _ (by omega)), ?_, ?_, ?_, ?_⟩ (fun o ho => absurd ho (Nat.not_lt_zero o)) n2
  · simp [zkd_wP, zkd_nw, zgP_wP, zgP_nw, zgn_wP, zgn_nw, hg9, k6]
  · simp [zkd_wP, zkd_nw, zgP_wP, zgP_nw, zgn_wP, zgn_nw, hg9, k6, hgS]
  · simp [zkd_wP, zkd_nw, zgP_wP, zgP_nw, zgn_wP, zgn_nw, hg9, k6]
  · simp [zkd_wP, zkd_nw, zgP_wP, zgP_nw, zgn_wP, zgn_nw, hg9, k6]
  · simp [zkd_wP, zkd_nw, zgP_wP, zgP_nw, zgn_wP, zgn_nw, hg9, k6]
  · simp [zkd_wP, zkd_nw, zgP_wP, zgP_nw, zgn_wP, zgn_nw, hg9, k6]
