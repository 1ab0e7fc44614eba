set_option maxRecDepth 20000 in
set_option maxHeartbeats 4000000 in
theorem c_sinit {E : zE} {S : zM} {a : Nat} (ha : zkd S a = (9, 0)) (hg : zgn S = a) (h0 : 0 < a) : zSp E 1 4 8 mX8_init cX8_init [zR a] S (fun r T => r = none ∧ zSv T a [] ∧ zgn T = a + 4 ∧ zNF (fun c => c = a) S T) := by
  refine zSp.of (by decide) rfl (Nat.le_of_ble_eq_true rfl) rfl ?_
  refine j_aload_n (pc := 0) dX8_init_0 rfl ?_
  refine j_objInit (pc := 1) dX8_init_1 oi_X8_3 (by omega) (by decide) (Nat.le_of_ble_eq_true rfl) ?_
  refine j_aload_n (pc := 4) dX8_init_4 rfl ?_
  refine j_iconst (pc := 5) (v := 2) dX8_init_5 (by decide) ?_
  refine j_newa (n := 2) (pc := 6) dX8_init_6 (Or.inl ⟨rfl, rfl⟩) ac_int (by decide) (by decide) (by decide) (Nat.le_refl _) (Nat.le_refl _) ?_
  refine j_putFP (pc := 8) dX8_init_8 f_X8_9 (Or.inr ⟨_, rfl⟩) rfl rfl fp_X8_9 (by first | assumption | (simp [zkd_wP, zkd_wI, zkd_nw, zgn_wP, zgn_wI, zgn_nw, hg, ha, Nat.add_assoc])) rfl ?_
  refine j_aload_n (pc := 11) dX8_init_11 rfl ?_
  refine j_iconst (pc := 12) (v := 2) dX8_init_12 (by decide) ?_
  refine j_newa (n := 2) (pc := 13) dX8_init_13 (Or.inl ⟨rfl, rfl⟩) ac_int (by decide) (by decide) (by decide) (Nat.le_refl _) (Nat.le_refl _) ?_
  refine j_putFP (pc := 15) dX8_init_15 f_X8_15 (Or.inr ⟨_, rfl⟩) rfl rfl fp_X8_15 (by first | assumption | (simp [zkd_wP, zkd_wI, zkd_nw, zgn_wP, zgn_wI, zgn_nw, hg, ha, Nat.add_assoc])) rfl ?_
  refine j_aload_n (pc := 18) dX8_init_18 rfl ?_
  refine j_iconst (pc := 19) (v := 2) dX8_init_19 (by decide) ?_
  refine j_newa (n := 2) (pc := 20) dX8_init_20 (Or.inl ⟨rfl, rfl⟩) ac_int (by decide) (by decide) (by decide) (Nat.le_refl _) (Nat.le_refl _) ?_
  refine j_putFP (pc := 22) dX8_init_22 f_X8_18 (Or.inr ⟨_, rfl⟩) rfl rfl fp_X8_18 (by first | assumption | (simp [zkd_wP, zkd_wI, zkd_nw, zgn_wP, zgn_wI, zgn_nw, hg, ha, Nat.add_assoc])) rfl ?_
  refine j_aload_n (pc := 25) dX8_init_25 rfl ?_
  refine j_iconst (pc := 26) (v := 2) dX8_init_26 (by decide) ?_
  refine j_newa (n := 2) (pc := 27) dX8_init_27 (Or.inr (Or.inl ⟨rfl, rfl⟩)) ac_long (by decide) (by decide) (by decide) (Nat.le_refl _) (Nat.le_refl _) ?_
  refine j_putFP (pc := 29) dX8_init_29 f_X8_21 (Or.inr ⟨_, rfl⟩) rfl rfl fp_X8_21 (by first | assumption | (simp [zkd_wP, zkd_wI, zkd_nw, zgn_wP, zgn_wI, zgn_nw, hg, ha, Nat.add_assoc])) rfl ?_
  refine j_aload_n (pc := 32) dX8_init_32 rfl ?_
  refine j_iconst (pc := 33) (v := 0) dX8_init_33 (by decide) ?_
  refine j_putI (pc := 34) dX8_init_34 f_X8_25 rfl (by first | assumption | (simp [zkd_wP, zkd_wI, zkd_nw, zgn_wP, zgn_wI, zgn_nw, hg, ha, Nat.add_assoc])) rfl ?_
  refine j_vret (pc := 37) dX8_init_37 rfl ?_
  refine ⟨rfl, ⟨⟨?_, ?_, ?_, ?_, ?_⟩, ⟨?_, ?_, ?_, ?_⟩, zgI_self, Nat.zero_le _, fun i e he => absurd he (by simp)⟩, ?_, ?_⟩
  · simp [zkd_wP, zkd_wI, zkd_nw, zgn_wP, zgn_wI, zgn_nw, hg, ha, Nat.add_assoc]
  · simp [zkd_wP, zkd_wI, zkd_nw, zgn_wP, zgn_wI, zgn_nw, hg, ha, Nat.add_assoc]
  · simp [zkd_wP, zkd_wI, zkd_nw, zgn_wP, zgn_wI, zgn_nw, hg, ha, Nat.add_assoc]
  · simp [zkd_wP, zkd_wI, zkd_nw, zgn_wP, zgn_wI, zgn_nw, hg, ha, Nat.add_assoc]
  · simp [zkd_wP, zkd_wI, zkd_nw, zgn_wP, zgn_wI, zgn_nw, hg, ha, Nat.add_assoc]
  · simp [zgP_wP, zgP_nw, zgP_fI, zgn_wP, zgn_wI, zgn_nw, hg, Nat.add_assoc]
  · simp [zgP_wP, zgP_nw, zgP_fI, zgn_wP, zgn_wI, zgn_nw, hg, Nat.add_assoc]
  · simp [zgP_wP, zgP_nw, zgP_fI, zgn_wP, zgn_wI, zgn_nw, hg, Nat.add_assoc]
  · simp [zgP_wP, zgP_nw, zgP_fI, zgn_wP, zgn_wI, zgn_nw, hg, Nat.add_assoc]
  · simp [zgn_wP, zgn_wI, zgn_nw, hg, Nat.add_assoc]
  · exact ((((((((zNF.nw (X := fun c => c = a)).tr (zNF.wP (X := fun c => c = a) rfl)).tr (zNF.nw (X := fun c => c = a))).tr (zNF.wP (X := fun c => c = a) rfl)).tr (zNF.nw (X := fun c => c = a))).tr (zNF.wP (X := fun c => c = a) rfl)).tr (zNF.nw (X := fun c => c = a))).tr (zNF.wP (X := fun c => c = a) rfl)).tr (zF.wI (X := fun c => c = a) rfl).nf
set_option maxRecDepth 20000 in
set_option maxHeartbeats 4000000 in
theorem c_ainit {E : zE} {S : zM} {a : Nat} (ha : zkd S a = (1, 0)) (hg : zgn S = a) (h0 : 0 < a) : zSp E 1 4 160 mX0_init cX0_init [zR a] S (fun r T => r = none ∧ zAc T a (fun _ => 0) (fun _ => 0) (fun _ => 0) (fun _ => 0) 0 ∧ zgn T = a + 4 ∧ zNF (fun c => c = a) S T) := by
  refine zSp.of (by decide) rfl (Nat.le_of_ble_eq_true rfl) rfl ?_
  refine j_aload_n (pc := 0) dX0_init_0 rfl ?_
  refine j_objInit (pc := 1) dX0_init_1 oi_X0_3 (by omega) (by decide) (Nat.le_of_ble_eq_true rfl) ?_
  refine j_aload_n (pc := 4) dX0_init_4 rfl ?_
  refine j_bipush (pc := 5) (v := 40) dX0_init_5 (by decide) ?_
  refine j_newa (n := 40) (pc := 7) dX0_init_7 (Or.inl ⟨rfl, rfl⟩) ac_int (by decide) (by decide) (by decide) (Nat.le_refl _) (Nat.le_refl _) ?_
  refine j_putFP (pc := 9) dX0_init_9 f_X0_9 (Or.inr ⟨_, rfl⟩) rfl rfl fp_X0_9 (by first | assumption | (simp [zkd_wP, zkd_wI, zkd_nw, zgn_wP, zgn_wI, zgn_nw, hg, ha, Nat.add_assoc])) rfl ?_
  refine j_aload_n (pc := 12) dX0_init_12 rfl ?_
  refine j_bipush (pc := 13) (v := 40) dX0_init_13 (by decide) ?_
  refine j_newa (n := 40) (pc := 15) dX0_init_15 (Or.inl ⟨rfl, rfl⟩) ac_int (by decide) (by decide) (by decide) (Nat.le_refl _) (Nat.le_refl _) ?_
  refine j_putFP (pc := 17) dX0_init_17 f_X0_15 (Or.inr ⟨_, rfl⟩) rfl rfl fp_X0_15 (by first | assumption | (simp [zkd_wP, zkd_wI, zkd_nw, zgn_wP, zgn_wI, zgn_nw, hg, ha, Nat.add_assoc])) rfl ?_
  refine j_aload_n (pc := 20) dX0_init_20 rfl ?_
  refine j_bipush (pc := 21) (v := 40) dX0_init_21 (by decide) ?_
  refine j_newa (n := 40) (pc := 23) dX0_init_23 (Or.inl ⟨rfl, rfl⟩) ac_int (by decide) (by decide) (by decide) (Nat.le_refl _) (Nat.le_refl _) ?_
  refine j_putFP (pc := 25) dX0_init_25 f_X0_18 (Or.inr ⟨_, rfl⟩) rfl rfl fp_X0_18 (by first | assumption | (simp [zkd_wP, zkd_wI, zkd_nw, zgn_wP, zgn_wI, zgn_nw, hg, ha, Nat.add_assoc])) rfl ?_
  refine j_aload_n (pc := 28) dX0_init_28 rfl ?_
  refine j_bipush (pc := 29) (v := 40) dX0_init_29 (by decide) ?_
  refine j_newa (n := 40) (pc := 31) dX0_init_31 (Or.inr (Or.inl ⟨rfl, rfl⟩)) ac_long (by decide) (by decide) (by decide) (Nat.le_refl _) (Nat.le_refl _) ?_
  refine j_putFP (pc := 33) dX0_init_33 f_X0_21 (Or.inr ⟨_, rfl⟩) rfl rfl fp_X0_21 (by first | assumption | (simp [zkd_wP, zkd_wI, zkd_nw, zgn_wP, zgn_wI, zgn_nw, hg, ha, Nat.add_assoc])) rfl ?_
  refine j_aload_n (pc := 36) dX0_init_36 rfl ?_
  refine j_iconst (pc := 37) (v := 0) dX0_init_37 (by decide) ?_
  refine j_putI (pc := 38) dX0_init_38 f_X0_25 rfl (by first | assumption | (simp [zkd_wP, zkd_wI, zkd_nw, zgn_wP, zgn_wI, zgn_nw, hg, ha, Nat.add_assoc])) rfl ?_
  refine j_vret (pc := 41) dX0_init_41 rfl ?_
  refine ⟨rfl, ⟨⟨?_, ?_, ?_, ?_, ?_⟩, ⟨?_, ?_, ?_, ?_⟩, zgI_self, by decide, fun k hk => ⟨?_, ?_, ?_, ?_⟩, fun k hk => ⟨Nat.succ_pos _, Nat.succ_pos _, Nat.succ_pos _⟩⟩, ?_, ?_⟩
  · simp [zkd_wP, zkd_wI, zkd_nw, zgn_wP, zgn_wI, zgn_nw, hg, ha, Nat.add_assoc]
  · simp [zkd_wP, zkd_wI, zkd_nw, zgn_wP, zgn_wI, zgn_nw, hg, ha, Nat.add_assoc]
  · simp [zkd_wP, zkd_wI, zkd_nw, zgn_wP, zgn_wI, zgn_nw, hg, ha, Nat.add_assoc]
  · simp [zkd_wP, zkd_wI, zkd_nw, zgn_wP, zgn_wI, zgn_nw, hg, ha, Nat.add_assoc]
  · simp [zkd_wP, zkd_wI, zkd_nw, zgn_wP, zgn_wI, zgn_nw, hg, ha, Nat.add_assoc]
  · simp [zgP_wP, zgP_nw, zgP_fI, zgn_wP, zgn_wI, zgn_nw, hg, Nat.add_assoc]
  · simp [zgP_wP, zgP_nw, zgP_fI, zgn_wP, zgn_wI, zgn_nw, hg, Nat.add_assoc]
  · simp [zgP_wP, zgP_nw, zgP_fI, zgn_wP, zgn_wI, zgn_nw, hg, Nat.add_assoc]
  · simp [zgP_wP, zgP_nw, zgP_fI, zgn_wP, zgn_wI, zgn_nw, hg, Nat.add_assoc]
  · simp [zgI_wI, zgI_wP, zgI_nw, zgn_wP, zgn_wI, zgn_nw, hg, Nat.add_assoc]
    rfl
  · simp [zgI_wI, zgI_wP, zgI_nw, zgn_wP, zgn_wI, zgn_nw, hg, Nat.add_assoc]
    rfl
  · simp [zgI_wI, zgI_wP, zgI_nw, zgn_wP, zgn_wI, zgn_nw, hg, Nat.add_assoc]
    rfl
  · simp [zgL_wP, zgL_fI, zgL_nw, zgn_wP, zgn_wI, zgn_nw, hg, Nat.add_assoc]
  · simp [zgn_wP, zgn_wI, zgn_nw, hg, Nat.add_assoc]
  · exact ((((((((zNF.nw (X := fun c => c = a)).tr (zNF.wP (X := fun c => c = a) rfl)).tr (zNF.nw (X := fun c => c = a))).tr (zNF.wP (X := fun c => c = a) rfl)).tr (zNF.nw (X := fun c => c = a))).tr (zNF.wP (X := fun c => c = a) rfl)).tr (zNF.nw (X := fun c => c = a))).tr (zNF.wP (X := fun c => c = a) rfl)).tr (zF.wI (X := fun c => c = a) rfl).nf
