set_option maxRecDepth 20000 in
set_option maxHeartbeats 4000000 in
theorem c_rinit {E : zE} {S : zM} {a : Nat} (ha : zkd S a = (7, 0)) (hg : zgn S = a) (h0 : 0 < a) : zSp E 2 4 164 mX6_init cX6_init [zR a] S (fun r T => r = none ∧ zRd T a false false false 0 0 0 (fun _ => 0) (fun _ => 0) [] ∧ zgn T = a + 4 ∧ zNF (fun c => c = a) S T) := by
  refine zSp.of (by decide) rfl (Nat.le_of_ble_eq_true rfl) rfl ?_
  subst hg
  refine j_aload_n (pc := 0) dX6_init_0 rfl ?_
  refine j_objInit (pc := 1) dX6_init_1 oi_X6_3 (by omega) (by decide) (Nat.le_of_ble_eq_true rfl) ?_
  refine j_aload_n (pc := 4) dX6_init_4 rfl ?_
  refine j_bipush (pc := 5) (v := 64) dX6_init_5 (by decide) ?_
  refine j_newa (pc := 7) (n := 64) (mc2 := 3) (ms2 := 100) dX6_init_7 (Or.inl ⟨rfl, rfl⟩) ac_int (by decide) (by decide) (by decide) (Nat.le_of_ble_eq_true rfl) (Nat.le_of_ble_eq_true rfl) ?_
  refine j_putFP (pc := 9) dX6_init_9 f_X6_9 (Or.inr ⟨_, rfl⟩) rfl rfl fp_X6_9 (by first | assumption | (simp [zkd_wP, zkd_wI, zkd_nw, zgn_wP, zgn_wI, zgn_nw, ha, Nat.add_assoc])) rfl ?_
  refine j_aload_n (pc := 12) dX6_init_12 rfl ?_
  refine j_bipush (pc := 13) (v := 64) dX6_init_13 (by decide) ?_
  refine j_newa (pc := 15) (n := 64) (mc2 := 2) (ms2 := 36) dX6_init_15 (Or.inl ⟨rfl, rfl⟩) ac_int (by decide) (by decide) (by decide) (Nat.le_of_ble_eq_true rfl) (Nat.le_of_ble_eq_true rfl) ?_
  refine j_putFP (pc := 17) dX6_init_17 f_X6_15 (Or.inr ⟨_, rfl⟩) rfl rfl fp_X6_15 (by first | assumption | (simp [zkd_wP, zkd_wI, zkd_nw, zgn_wP, zgn_wI, zgn_nw, ha, Nat.add_assoc])) rfl ?_
  refine j_aload_n (pc := 20) dX6_init_20 rfl ?_
  refine j_new (pc := 21) (mc2 := 1) (ms2 := 34) dX6_init_21 nl_X6_18 (Nat.le_of_ble_eq_true rfl) (Nat.le_of_ble_eq_true rfl) ?_
  refine j_dup (pc := 24) dX6_init_24 rfl ?_
  refine j_bipush (pc := 25) (v := 34) dX6_init_25 (by decide) ?_
  refine j_callI (pc := 27) (mc2 := 0) (ms2 := 0) (c_binit (cap := 34) (by first | assumption | (simp [zkd_wP, zkd_wI, zkd_nw, zgn_wP, zgn_wI, zgn_nw, ha, Nat.add_assoc])) (Nat.succ_pos _) (Nat.le_refl _) (by decide)) dX6_init_27 l_X6_20 mk_X1_init rfl rfl mi_X1_init (Nat.succ_pos _) (by decide) rfl rfl (Nat.le_of_ble_eq_true rfl) (Nat.le_of_ble_eq_true rfl) (Nat.le_of_ble_eq_true rfl) (fun r T1 h_1 => ?_)
  obtain ⟨rfl, hb, hgT, hn⟩ := h_1
  have hb : zBy T1 (zgn S + 3) (zgn S + 4) 34 [] := hb
  have hgT : zgn T1 = zgn S + 4 := hgT
  have hn : zNF (fun c => c = zgn S + 3) (znw (zwP (znw (zwP (znw S 14 64) (zgn S) 0 (zgn S + 1)) 14 64) (zgn S) 1 (zgn S + 2)) 2 0) T1 := hn
  have hag : ∀ c, c ≤ zgn S + 2 → zAg (znw (zwP (znw (zwP (znw S 14 64) (zgn S) 0 (zgn S + 1)) 14 64) (zgn S) 1 (zgn S + 2)) 2 0) T1 c := fun c hc => hn.2 c (show c ≤ zgn S + 3 by omega) (show c ≠ zgn S + 3 by omega)
  have ka : zkd T1 (zgn S) = (7, 0) := (hag _ (by omega)).1.trans (by simp [zkd_wP, zkd_wI, zkd_nw, zgn_wP, zgn_wI, zgn_nw, ha, Nat.add_assoc])
  refine j_putFP (pc := 30) dX6_init_30 f_X6_23 (Or.inl ⟨_, rfl⟩) rfl rfl fp_X6_23 (by first | assumption | (simp [zkd_wP, zkd_wI, zkd_nw, zgn_wP, zgn_wI, zgn_nw, ha, Nat.add_assoc])) rfl ?_
  refine j_aload_n (pc := 33) dX6_init_33 rfl ?_
  refine j_iconst (pc := 34) (v := 0) dX6_init_34 (by decide) ?_
  refine j_putZ (pc := 35) dX6_init_35 f_X6_27 rfl (by first | assumption | decide) (by first | assumption | (simp [zkd_wP, zkd_wI, zkd_nw, zgn_wP, zgn_wI, zgn_nw, ha, Nat.add_assoc])) rfl ?_
  refine j_aload_n (pc := 38) dX6_init_38 rfl ?_
  refine j_iconst (pc := 39) (v := 0) dX6_init_39 (by decide) ?_
  refine j_putZ (pc := 40) dX6_init_40 f_X6_31 rfl (by first | assumption | decide) (by first | assumption | (simp [zkd_wP, zkd_wI, zkd_nw, zgn_wP, zgn_wI, zgn_nw, ha, Nat.add_assoc])) rfl ?_
  refine j_aload_n (pc := 43) dX6_init_43 rfl ?_
  refine j_iconst (pc := 44) (v := 0) dX6_init_44 (by decide) ?_
  refine j_putZ (pc := 45) dX6_init_45 f_X6_34 rfl (by first | assumption | decide) (by first | assumption | (simp [zkd_wP, zkd_wI, zkd_nw, zgn_wP, zgn_wI, zgn_nw, ha, Nat.add_assoc])) rfl ?_
  refine j_aload_n (pc := 48) dX6_init_48 rfl ?_
  refine j_iconst (pc := 49) (v := 0) dX6_init_49 (by decide) ?_
  refine j_putI (pc := 50) dX6_init_50 f_X6_37 rfl (by first | assumption | (simp [zkd_wP, zkd_wI, zkd_nw, zgn_wP, zgn_wI, zgn_nw, ha, Nat.add_assoc])) rfl ?_
  refine j_aload_n (pc := 53) dX6_init_53 rfl ?_
  refine j_iconst (pc := 54) (v := 0) dX6_init_54 (by decide) ?_
  refine j_putI (pc := 55) dX6_init_55 f_X6_41 rfl (by first | assumption | (simp [zkd_wP, zkd_wI, zkd_nw, zgn_wP, zgn_wI, zgn_nw, ha, Nat.add_assoc])) rfl ?_
  refine j_aload_n (pc := 58) dX6_init_58 rfl ?_
  refine j_iconst (pc := 59) (v := 0) dX6_init_59 (by decide) ?_
  refine j_putI (pc := 60) dX6_init_60 f_X6_44 rfl (by first | assumption | (simp [zkd_wP, zkd_wI, zkd_nw, zgn_wP, zgn_wI, zgn_nw, ha, Nat.add_assoc])) rfl ?_
  refine j_vret (pc := 63) dX6_init_63 rfl ?_
  have p0 : zgP T1 (zgn S) 0 = zgn S + 1 := ((hag _ (by omega)).2.2.2 0).trans (by simp [zgI_wP, zgI_nw, zgP_wP, zgP_nw, zkd_wP, zkd_nw, zgn_wP, zgn_nw, Nat.add_assoc, ha])
  have p1 : zgP T1 (zgn S) 1 = zgn S + 2 := ((hag _ (by omega)).2.2.2 1).trans (by simp [zgI_wP, zgI_nw, zgP_wP, zgP_nw, zkd_wP, zkd_nw, zgn_wP, zgn_nw, Nat.add_assoc, ha])
  have k1 : zkd T1 (zgn S + 1) = (14, 64) := (hag _ (by omega)).1.trans (by simp [zgI_wP, zgI_nw, zgP_wP, zgP_nw, zkd_wP, zkd_nw, zgn_wP, zgn_nw, Nat.add_assoc, ha])
  have k2 : zkd T1 (zgn S + 2) = (14, 64) := (hag _ (by omega)).1.trans (by simp [zgI_wP, zgI_nw, zgP_wP, zgP_nw, zkd_wP, zkd_nw, zgn_wP, zgn_nw, Nat.add_assoc, ha])
  have z1 : ∀ i, zgI T1 (zgn S + 1) i = 0 := fun i => ((hag _ (by omega)).2.1 i).trans (by simp [zgI_wP, zgI_nw, zgP_wP, zgP_nw, zkd_wP, zkd_nw, zgn_wP, zgn_nw, Nat.add_assoc, ha])
  have z2 : ∀ i, zgI T1 (zgn S + 2) i = 0 := fun i => ((hag _ (by omega)).2.1 i).trans (by simp [zgI_wP, zgI_nw, zgP_wP, zgP_nw, zkd_wP, zkd_nw, zgn_wP, zgn_nw, Nat.add_assoc, ha])
  have fo : ∀ c, c ≠ zgn S → zAg T1 (zwI (zwI (zwI (zwI (zwI (zwI (zwP T1 (zgn S) 2 (zgn S + 3)) (zgn S) 3 0) (zgn S) 4 0) (zgn S) 5 0) (zgn S) 6 0) (zgn S) 7 0) (zgn S) 8 0) c := fun c hc => ⟨rfl, fun k => (zgI_ne hc).trans ((zgI_ne hc).trans ((zgI_ne hc).trans ((zgI_ne hc).trans ((zgI_ne hc).trans (zgI_ne hc))))), fun k => rfl, fun k => zgP_ne hc⟩
  refine ⟨rfl, ⟨⟨ka, k1, k2, (zgP_nk (S := T1) (by decide)).trans p0, (zgP_nk (S := T1) (by decide)).trans p1, zgP_self (S := T1)⟩, hb.ag (fo _ (by omega)) (fo _ (by omega)), ⟨(zgI_nk (by decide)).trans ((zgI_nk (by decide)).trans ((zgI_nk (by decide)).trans ((zgI_nk (by decide)).trans ((zgI_nk (by decide)).trans (zgI_self))))), (zgI_nk (by decide)).trans ((zgI_nk (by decide)).trans ((zgI_nk (by decide)).trans ((zgI_nk (by decide)).trans (zgI_self)))), (zgI_nk (by decide)).trans ((zgI_nk (by decide)).trans ((zgI_nk (by decide)).trans (zgI_self))), (zgI_nk (by decide)).trans ((zgI_nk (by decide)).trans (zgI_self)), (zgI_nk (by decide)).trans (zgI_self), zgI_self⟩, fun i hi => ⟨((fo (zgn S + 1) (by omega)).2.1 i).trans (z1 i), ((fo (zgn S + 2) (by omega)).2.1 i).trans (z2 i)⟩⟩, hgT, ⟨by show zgn S ≤ zgn T1; omega, fun c hc hx => ?_⟩⟩
  have u1 : zAg S (znw (zwP (znw (zwP (znw S 14 64) (zgn S) 0 (zgn S + 1)) 14 64) (zgn S) 1 (zgn S + 2)) 2 0) c := (((((zNF.nw (X := fun c => c = zgn S)).tr (zNF.wP rfl)).tr zNF.nw).tr (zNF.wP rfl)).tr zNF.nw).2 c hc hx
  exact (u1.tr (hag c (by omega))).tr (fo c hx)
