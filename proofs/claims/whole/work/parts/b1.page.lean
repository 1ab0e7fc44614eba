/-! a page is made -/
theorem zNF.mk0 {U T : zM} {t n : Nat} (h : zNF (fun c => c = zgn U + 1) (znw U t n) T) {c : Nat} (hc : c ≤ zgn U) : zAg U T c := ((zNF.nw (X := fun _ => False)).2 c hc (fun z => z)).tr (h.2 c (show c ≤ zgn U + 1 by omega) (show c ≠ zgn U + 1 by omega))
/-- a cell's references but one, all else as it was -/
theorem zAg.wP {T : zM} {a k v c : Nat} (hc : c ≠ a) : zAg T (zwP T a k v) c := ⟨rfl, fun _ => rfl, fun _ => rfl, fun _ => zgP_ne hc⟩
set_option maxRecDepth 20000 in
set_option maxHeartbeats 4000000 in
theorem c_ginit {E : zE} {S : zM}  (ha : zkd S 93 = (5, 0)) (hg : zgn S = 93) : zSp E 2 8 1086 mX4_init cX4_init [zR 93] S (fun r T => r = none ∧ zPg T false [] (fun _ _ => 0) [] [] [] 0 0 ∧ zgn T = 101 ∧ zNF (fun c => c = 93) S T) := by
  refine zSp.of (by decide) rfl (Nat.le_of_ble_eq_true rfl) rfl ?_
  have s3 : ∀ U : zM, zgn U = 101 → (zkd U 93 = (5, 0) ∧ zkd U 94 = (14, 20) ∧ zkd U 95 = (15, 80) ∧ zgP U 93 0 = 94 ∧ zgP U 93 1 = 95 ∧ zgP U 93 2 = 96 ∧ zBy U 96 97 40 [] ∧ zgP U 93 3 = 98 ∧ zBy U 98 99 40 [] ∧ zgP U 93 4 = 100 ∧ zBy U 100 101 900 []) → zNF (fun c => c = 93) S U → zJ E 2 0 0 mX4_init cX4_init 60 [some (zR 93)] [] U (fun r T => r = none ∧ zPg T false [] (fun _ _ => 0) [] [] [] 0 0 ∧ zgn T = 101 ∧ zNF (fun c => c = 93) S T) := by
    intro U hg hF hN
    obtain ⟨k0, k1, k2, p0, p1, q0, b0, q1, b1, q2, b2⟩ := hF
    refine j_aload_n (pc := 60) dX4_init_60 rfl ?_
    refine j_iconst (pc := 61) (v := 0) dX4_init_61 (by decide) ?_
    refine j_putZ (pc := 62) dX4_init_62 f_X4_34 rfl (by first | assumption | decide) (by assumption) rfl ?_
    refine j_aload_n (pc := 65) dX4_init_65 rfl ?_
    refine j_iconst (pc := 66) (v := 0) dX4_init_66 (by decide) ?_
    refine j_putI (pc := 67) dX4_init_67 f_X4_38 rfl (by assumption) rfl ?_
    refine j_aload_n (pc := 70) dX4_init_70 rfl ?_
    refine j_iconst (pc := 71) (v := 0) dX4_init_71 (by decide) ?_
    refine j_putI (pc := 72) dX4_init_72 f_X4_42 rfl (by assumption) rfl ?_
    refine j_aload_n (pc := 75) dX4_init_75 rfl ?_
    refine j_iconst (pc := 76) (v := 0) dX4_init_76 (by decide) ?_
    refine j_putI (pc := 77) dX4_init_77 f_X4_45 rfl (by assumption) rfl ?_
    refine j_vret (pc := 80) dX4_init_80 rfl ?_
    have fo : ∀ c, c ≠ 93 → zAg U (zwI (zwI (zwI (zwI U 93 5 0) 93 6 0) 93 7 0) 93 8 0) c := fun c hc => ⟨rfl, fun k => (zgI_ne hc).trans ((zgI_ne hc).trans ((zgI_ne hc).trans (zgI_ne hc))), fun k => rfl, fun k => rfl⟩
    exact ⟨rfl, ⟨⟨k0, k1, k2, p0, p1, q0, q1, q2⟩, (zgI_nk (by decide)).trans ((zgI_nk (by decide)).trans ((zgI_nk (by decide)).trans zgI_self)), (zgI_nk (by decide)).trans ((zgI_nk (by decide)).trans zgI_self), Nat.zero_le _, (zgI_nk (by decide)).trans zgI_self, zgI_self, fun i x hx => by simp at hx, fun i j hi => absurd hi (Nat.not_lt_zero i), b0.ag (fo _ (by decide)) (fo _ (by decide)), b1.ag (fo _ (by decide)) (fo _ (by decide)), b2.ag (fo _ (by decide)) (fo _ (by decide))⟩, hg, hN.tr ⟨Nat.le_refl _, fun c _ hx => fo c hx⟩⟩
  have s2 : ∀ U : zM, zgn U = 99 → (zkd U 93 = (5, 0) ∧ zkd U 94 = (14, 20) ∧ zkd U 95 = (15, 80) ∧ zgP U 93 0 = 94 ∧ zgP U 93 1 = 95 ∧ zgP U 93 2 = 96 ∧ zBy U 96 97 40 [] ∧ zgP U 93 3 = 98 ∧ zBy U 98 99 40 []) → zNF (fun c => c = 93) S U → zJ E 2 2 902 mX4_init cX4_init 46 [some (zR 93)] [] U (fun r T => r = none ∧ zPg T false [] (fun _ _ => 0) [] [] [] 0 0 ∧ zgn T = 101 ∧ zNF (fun c => c = 93) S T) := by
    intro U hg hF hN
    obtain ⟨k0, k1, k2, p0, p1, q0, b0, q1, b1⟩ := hF
    refine j_aload_n (pc := 46) dX4_init_46 rfl ?_
    refine j_new (pc := 47) (mc2 := 1) (ms2 := 900) dX4_init_47 nl_X4_19 (Nat.le_of_ble_eq_true rfl) (Nat.le_of_ble_eq_true rfl) ?_
    refine j_dup (pc := 50) dX4_init_50 rfl ?_
    refine j_sipush (pc := 51) (v := 900) dX4_init_51 (by decide) ?_
    refine j_callI (pc := 54) (mc2 := 0) (ms2 := 0) (c_binit (cap := 900) znw_kd (Nat.succ_pos _) (Nat.le_refl _) (by decide)) dX4_init_54 l_X4_21 mk_X1_init rfl rfl mi_X1_init (Nat.succ_pos _) (by decide) rfl rfl (Nat.le_of_ble_eq_true rfl) (Nat.le_of_ble_eq_true rfl) (Nat.le_of_ble_eq_true rfl) (fun r T1 h_1 => ?_)
    obtain ⟨rfl, hb, hgT, hn⟩ := h_1
    have hb : zBy T1 (zgn U + 1) (zgn U + 1 + 1) 900 [] := hb
    have hgT : zgn T1 = zgn U + 1 + 1 := hgT
    have hn : zNF (fun c => c = zgn U + 1) (znw U 2 0) T1 := hn
    have ag0 : ∀ c, c ≤ 99 → zAg U T1 c := fun c hc => hn.mk0 (by omega)
    have ka : zkd T1 93 = (5, 0) := (ag0 93 (by decide)).1.trans k0
    refine j_putFP (pc := 57) dX4_init_57 f_X4_31 (Or.inl ⟨_, rfl⟩) rfl rfl fp_X4_31 (by first | assumption | exact (znw_ok (by omega)).trans k0) rfl ?_
    have ag : ∀ c, c ≤ 99 ∧ c ≠ 93 → zAg U (zwP T1 93 4 (zgn U + 1)) c := fun c hc => (ag0 c hc.1).tr (zAg.wP hc.2)
    have g93 : ∀ j, j ≠ 4 → zgP (zwP T1 93 4 (zgn U + 1)) 93 j = zgP U 93 j := fun j hj => (zgP_nk hj).trans ((ag0 93 (by decide)).2.2.2 j)
    refine s3 _ (by show zgn T1 = 101; omega) ⟨ka, (ag 94 (by decide)).1.trans k1, (ag 95 (by decide)).1.trans k2, (g93 0 (by decide)).trans p0, (g93 1 (by decide)).trans p1, (g93 2 (by decide)).trans q0, b0.ag (ag _ (by omega)) (ag _ (by omega)), (g93 3 (by decide)).trans q1, b1.ag (ag _ (by omega)) (ag _ (by omega)), zgP_self.trans (by omega), ?_⟩ (hN.tr ⟨by show zgn U ≤ zgn T1; omega, fun c hc hx => ag c ⟨by omega, hx⟩⟩)
    have e1 : zgn U + 1 = 100 := by omega
    rw [e1] at hb ⊢
    exact hb.ag (zAg.wP (by decide)) (zAg.wP (by decide))
  have s1 : ∀ U : zM, zgn U = 97 → (zkd U 93 = (5, 0) ∧ zkd U 94 = (14, 20) ∧ zkd U 95 = (15, 80) ∧ zgP U 93 0 = 94 ∧ zgP U 93 1 = 95 ∧ zgP U 93 2 = 96 ∧ zBy U 96 97 40 []) → zNF (fun c => c = 93) S U → zJ E 2 4 944 mX4_init cX4_init 33 [some (zR 93)] [] U (fun r T => r = none ∧ zPg T false [] (fun _ _ => 0) [] [] [] 0 0 ∧ zgn T = 101 ∧ zNF (fun c => c = 93) S T) := by
    intro U hg hF hN
    obtain ⟨k0, k1, k2, p0, p1, q0, b0⟩ := hF
    refine j_aload_n (pc := 33) dX4_init_33 rfl ?_
    refine j_new (pc := 34) (mc2 := 3) (ms2 := 942) dX4_init_34 nl_X4_19 (Nat.le_of_ble_eq_true rfl) (Nat.le_of_ble_eq_true rfl) ?_
    refine j_dup (pc := 37) dX4_init_37 rfl ?_
    refine j_bipush (pc := 38) (v := 40) dX4_init_38 (by decide) ?_
    refine j_callI (pc := 40) (mc2 := 2) (ms2 := 902) (c_binit (cap := 40) znw_kd (Nat.succ_pos _) (Nat.le_refl _) (by decide)) dX4_init_40 l_X4_21 mk_X1_init rfl rfl mi_X1_init (Nat.succ_pos _) (by decide) rfl rfl (Nat.le_of_ble_eq_true rfl) (Nat.le_of_ble_eq_true rfl) (Nat.le_of_ble_eq_true rfl) (fun r T1 h_1 => ?_)
    obtain ⟨rfl, hb, hgT, hn⟩ := h_1
    have hb : zBy T1 (zgn U + 1) (zgn U + 1 + 1) 40 [] := hb
    have hgT : zgn T1 = zgn U + 1 + 1 := hgT
    have hn : zNF (fun c => c = zgn U + 1) (znw U 2 0) T1 := hn
    have ag0 : ∀ c, c ≤ 97 → zAg U T1 c := fun c hc => hn.mk0 (by omega)
    have ka : zkd T1 93 = (5, 0) := (ag0 93 (by decide)).1.trans k0
    refine j_putFP (pc := 43) dX4_init_43 f_X4_28 (Or.inl ⟨_, rfl⟩) rfl rfl fp_X4_28 (by first | assumption | exact (znw_ok (by omega)).trans k0) rfl ?_
    have ag : ∀ c, c ≤ 97 ∧ c ≠ 93 → zAg U (zwP T1 93 3 (zgn U + 1)) c := fun c hc => (ag0 c hc.1).tr (zAg.wP hc.2)
    have g93 : ∀ j, j ≠ 3 → zgP (zwP T1 93 3 (zgn U + 1)) 93 j = zgP U 93 j := fun j hj => (zgP_nk hj).trans ((ag0 93 (by decide)).2.2.2 j)
    refine s2 _ (by show zgn T1 = 99; omega) ⟨ka, (ag 94 (by decide)).1.trans k1, (ag 95 (by decide)).1.trans k2, (g93 0 (by decide)).trans p0, (g93 1 (by decide)).trans p1, (g93 2 (by decide)).trans q0, b0.ag (ag _ (by omega)) (ag _ (by omega)), zgP_self.trans (by omega), ?_⟩ (hN.tr ⟨by show zgn U ≤ zgn T1; omega, fun c hc hx => ag c ⟨by omega, hx⟩⟩)
    have e1 : zgn U + 1 = 98 := by omega
    rw [e1] at hb ⊢
    exact hb.ag (zAg.wP (by decide)) (zAg.wP (by decide))
  have s0 : ∀ U : zM, zgn U = 95 → (zkd U 93 = (5, 0) ∧ zkd U 94 = (14, 20) ∧ zkd U 95 = (15, 80) ∧ zgP U 93 0 = 94 ∧ zgP U 93 1 = 95) → zNF (fun c => c = 93) S U → zJ E 2 6 986 mX4_init cX4_init 20 [some (zR 93)] [] U (fun r T => r = none ∧ zPg T false [] (fun _ _ => 0) [] [] [] 0 0 ∧ zgn T = 101 ∧ zNF (fun c => c = 93) S T) := by
    intro U hg hF hN
    obtain ⟨k0, k1, k2, p0, p1⟩ := hF
    refine j_aload_n (pc := 20) dX4_init_20 rfl ?_
    refine j_new (pc := 21) (mc2 := 5) (ms2 := 984) dX4_init_21 nl_X4_19 (Nat.le_of_ble_eq_true rfl) (Nat.le_of_ble_eq_true rfl) ?_
    refine j_dup (pc := 24) dX4_init_24 rfl ?_
    refine j_bipush (pc := 25) (v := 40) dX4_init_25 (by decide) ?_
    refine j_callI (pc := 27) (mc2 := 4) (ms2 := 944) (c_binit (cap := 40) znw_kd (Nat.succ_pos _) (Nat.le_refl _) (by decide)) dX4_init_27 l_X4_21 mk_X1_init rfl rfl mi_X1_init (Nat.succ_pos _) (by decide) rfl rfl (Nat.le_of_ble_eq_true rfl) (Nat.le_of_ble_eq_true rfl) (Nat.le_of_ble_eq_true rfl) (fun r T1 h_1 => ?_)
    obtain ⟨rfl, hb, hgT, hn⟩ := h_1
    have hb : zBy T1 (zgn U + 1) (zgn U + 1 + 1) 40 [] := hb
    have hgT : zgn T1 = zgn U + 1 + 1 := hgT
    have hn : zNF (fun c => c = zgn U + 1) (znw U 2 0) T1 := hn
    have ag0 : ∀ c, c ≤ 95 → zAg U T1 c := fun c hc => hn.mk0 (by omega)
    have ka : zkd T1 93 = (5, 0) := (ag0 93 (by decide)).1.trans k0
    refine j_putFP (pc := 30) dX4_init_30 f_X4_24 (Or.inl ⟨_, rfl⟩) rfl rfl fp_X4_24 (by first | assumption | exact (znw_ok (by omega)).trans k0) rfl ?_
    have ag : ∀ c, c ≤ 95 ∧ c ≠ 93 → zAg U (zwP T1 93 2 (zgn U + 1)) c := fun c hc => (ag0 c hc.1).tr (zAg.wP hc.2)
    have g93 : ∀ j, j ≠ 2 → zgP (zwP T1 93 2 (zgn U + 1)) 93 j = zgP U 93 j := fun j hj => (zgP_nk hj).trans ((ag0 93 (by decide)).2.2.2 j)
    refine s1 _ (by show zgn T1 = 97; omega) ⟨ka, (ag 94 (by decide)).1.trans k1, (ag 95 (by decide)).1.trans k2, (g93 0 (by decide)).trans p0, (g93 1 (by decide)).trans p1, zgP_self.trans (by omega), ?_⟩ (hN.tr ⟨by show zgn U ≤ zgn T1; omega, fun c hc hx => ag c ⟨by omega, hx⟩⟩)
    have e1 : zgn U + 1 = 96 := by omega
    rw [e1] at hb ⊢
    exact hb.ag (zAg.wP (by decide)) (zAg.wP (by decide))
  refine j_aload_n (pc := 0) dX4_init_0 rfl ?_
  refine j_objInit (pc := 1) dX4_init_1 oi_X4_3 (by omega) (by decide) (Nat.le_of_ble_eq_true rfl) ?_
  refine j_aload_n (pc := 4) dX4_init_4 rfl ?_
  refine j_bipush (pc := 5) (v := 20) dX4_init_5 (by decide) ?_
  refine j_newa (pc := 7) (n := 20) (mc2 := 7) (ms2 := 1066) dX4_init_7 (Or.inl ⟨rfl, rfl⟩) ac_int (by decide) (by decide) (by decide) (Nat.le_of_ble_eq_true rfl) (Nat.le_of_ble_eq_true rfl) ?_
  refine j_putFP (pc := 9) dX4_init_9 f_X4_9 (Or.inr ⟨_, rfl⟩) rfl rfl fp_X4_9 (by first | assumption | (simp [zkd_wP, zkd_nw, zgn_wP, zgn_nw, hg, ha])) rfl ?_
  refine j_aload_n (pc := 12) dX4_init_12 rfl ?_
  refine j_bipush (pc := 13) (v := 80) dX4_init_13 (by decide) ?_
  refine j_newa (pc := 15) (n := 80) (mc2 := 6) (ms2 := 986) dX4_init_15 (Or.inr (Or.inl ⟨rfl, rfl⟩)) ac_long (by decide) (by decide) (by decide) (Nat.le_of_ble_eq_true rfl) (Nat.le_of_ble_eq_true rfl) ?_
  refine j_putFP (pc := 17) dX4_init_17 f_X4_15 (Or.inr ⟨_, rfl⟩) rfl rfl fp_X4_15 (by first | assumption | (simp [zkd_wP, zkd_nw, zgn_wP, zgn_nw, hg, ha])) rfl ?_
  refine s0 _ (by simp [zgn_wP, zgn_nw, hg]) ⟨?_, ?_, ?_, ?_, ?_⟩ ((((zNF.nw (X := fun c => c = 93)).tr (zNF.wP rfl)).tr zNF.nw).tr (zNF.wP rfl))
  · simp [zkd_wP, zkd_nw, zgn_wP, zgn_nw, hg, ha]
  · simp [zkd_wP, zkd_nw, zgn_wP, zgn_nw, hg]
  · simp [zkd_wP, zkd_nw, zgn_wP, zgn_nw, hg]
  · simp [zgP_wP, zgP_nw, zgn_wP, zgn_nw, hg]
  · simp [zgP_wP, zgP_nw, zgn_wP, zgn_nw, hg]
