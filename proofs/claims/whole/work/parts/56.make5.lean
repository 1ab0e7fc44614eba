theorem zgP_fI {S : zM} {a k b j : Nat} {v : Int32} : zgP (zwI S a k v) b j = zgP S b j := rfl
set_option maxRecDepth 20000 in
set_option maxHeartbeats 4000000 in
theorem c_oinit {E : zE} {S : zM} {a : Nat} (ha : zkd S a = (4, 0)) (hg : zgn S = a) (h0 : 0 < a) : zSp E 1 4 16 mX3_init cX3_init [zR a] S (fun r T => r = none ∧ zOr T a [] ∧ zgn T = a + 4 ∧ zNF (fun c => c = a) S T) := by
  refine zSp.of (by decide) rfl (Nat.le_of_ble_eq_true rfl) rfl ?_
  have kk : ∀ t n, zkd (znw S t n) a = (4, 0) := fun t n => (znw_ok (by omega)).trans ha
  have k2 : ∀ (U : zM) (t n : Nat), a ≤ zgn U → zkd U a = (4, 0) → zkd (znw U t n) a = (4, 0) := fun U t n h1 h2 => (znw_ok h1).trans h2
  refine j_aload_n (pc := 0) dX3_init_0 rfl ?_
  refine j_objInit (pc := 1) dX3_init_1 oi_X3_3 (by omega) (by decide) (Nat.le_of_ble_eq_true rfl) ?_
  refine j_aload_n (pc := 4) dX3_init_4 rfl ?_
  refine j_iconst (pc := 5) (v := 4) dX3_init_5 (by decide) ?_
  refine j_newa (n := 4) (pc := 6) dX3_init_6 (Or.inl ⟨rfl, rfl⟩) ac_int (by decide) (by decide) (by decide) (Nat.le_refl _) (Nat.le_refl _) ?_
  refine j_putFP (pc := 8) dX3_init_8 f_X3_9 (Or.inr ⟨_, rfl⟩) rfl rfl fp_X3_9 (by first | assumption | (simp [zkd_wP, zkd_wI, zkd_nw, zgn_wP, zgn_wI, zgn_nw, hg, ha, Nat.add_assoc])) rfl ?_
  refine j_aload_n (pc := 11) dX3_init_11 rfl ?_
  refine j_iconst (pc := 12) (v := 4) dX3_init_12 (by decide) ?_
  refine j_newa (n := 4) (pc := 13) dX3_init_13 (Or.inl ⟨rfl, rfl⟩) ac_int (by decide) (by decide) (by decide) (Nat.le_refl _) (Nat.le_refl _) ?_
  refine j_putFP (pc := 15) dX3_init_15 f_X3_15 (Or.inr ⟨_, rfl⟩) rfl rfl fp_X3_15 (by first | assumption | (simp [zkd_wP, zkd_wI, zkd_nw, zgn_wP, zgn_wI, zgn_nw, hg, ha, Nat.add_assoc])) rfl ?_
  refine j_aload_n (pc := 18) dX3_init_18 rfl ?_
  refine j_iconst (pc := 19) (v := 4) dX3_init_19 (by decide) ?_
  refine j_newa (n := 4) (pc := 20) dX3_init_20 (Or.inr (Or.inr ⟨rfl, rfl⟩)) ac_boolean (by decide) (by decide) (by decide) (Nat.le_refl _) (Nat.le_refl _) ?_
  refine j_putFP (pc := 22) dX3_init_22 f_X3_18 (Or.inr ⟨_, rfl⟩) rfl rfl fp_X3_18 (by first | assumption | (simp [zkd_wP, zkd_wI, zkd_nw, zgn_wP, zgn_wI, zgn_nw, hg, ha, Nat.add_assoc])) rfl ?_
  refine j_aload_n (pc := 25) dX3_init_25 rfl ?_
  refine j_iconst (pc := 26) (v := 4) dX3_init_26 (by decide) ?_
  refine j_newa (n := 4) (pc := 27) dX3_init_27 (Or.inr (Or.inr ⟨rfl, rfl⟩)) ac_boolean (by decide) (by decide) (by decide) (Nat.le_refl _) (Nat.le_refl _) ?_
  refine j_putFP (pc := 29) dX3_init_29 f_X3_22 (Or.inr ⟨_, rfl⟩) rfl rfl fp_X3_22 (by first | assumption | (simp [zkd_wP, zkd_wI, zkd_nw, zgn_wP, zgn_wI, zgn_nw, hg, ha, Nat.add_assoc])) rfl ?_
  refine j_aload_n (pc := 32) dX3_init_32 rfl ?_
  refine j_iconst (pc := 33) (v := 0) dX3_init_33 (by decide) ?_
  refine j_putI (pc := 34) dX3_init_34 f_X3_25 rfl (by first | assumption | (simp [zkd_wP, zkd_wI, zkd_nw, zgn_wP, zgn_wI, zgn_nw, hg, ha, Nat.add_assoc])) rfl ?_
  refine j_vret (pc := 37) dX3_init_37 rfl ?_
  refine ⟨rfl, ⟨⟨?_, ?_, ?_, ?_, ?_⟩, ⟨?_, ?_, ?_, ?_⟩, zgI_self, Nat.zero_le _, fun i e he => absurd he (by simp)⟩, ?_, ?_⟩
  · simp [zkd_wP, zkd_wI, zkd_nw, zgn_wP, zgn_wI, zgn_nw, hg, ha, Nat.add_assoc]
  · simp [zkd_wP, zkd_wI, zkd_nw, zgn_wP, zgn_wI, zgn_nw, hg, ha, Nat.add_assoc]
  · simp [zkd_wP, zkd_wI, zkd_nw, zgn_wP, zgn_wI, zgn_nw, hg, ha, Nat.add_assoc]
  · simp [zkd_wP, zkd_wI, zkd_nw, zgn_wP, zgn_wI, zgn_nw, hg, ha, Nat.add_assoc]
  · simp [zkd_wP, zkd_wI, zkd_nw, zgn_wP, zgn_wI, zgn_nw, hg, ha, Nat.add_assoc]
  · simp [zgP_wP, zgP_nw, zgP_fI, zgn_wP, zgn_wI, zgn_nw, hg, Nat.add_assoc]
  · simp [zgP_wP, zgP_nw, zgP_fI, zgn_wP, zgn_wI, zgn_nw, hg, Nat.add_assoc]
  · simp [zgP_wP, zgP_nw, zgP_fI, zgn_wP, zgn_wI, zgn_nw, hg, Nat.add_assoc]
  · simp [zgP_wP, zgP_nw, zgP_fI, zgn_wP, zgn_wI, zgn_nw, hg, Nat.add_assoc]
  · simp [zgn_wP, zgn_wI, zgn_nw, hg, Nat.add_assoc]
  · exact ((((((((zNF.nw (X := fun c => c = a)).tr (zNF.wP (X := fun c => c = a) rfl)).tr (zNF.nw (X := fun c => c = a))).tr (zNF.wP (X := fun c => c = a) rfl)).tr (zNF.nw (X := fun c => c = a))).tr (zNF.wP (X := fun c => c = a) rfl)).tr (zNF.nw (X := fun c => c = a))).tr (zNF.wP (X := fun c => c = a) rfl)).tr (zF.wI (X := fun c => c = a) rfl).nf
