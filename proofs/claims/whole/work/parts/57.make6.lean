theorem zgI_wP {S : zM} {a k v b j : Nat} : zgI (zwP S a k v) b j = zgI S b j := rfl
theorem zgL_wP {S : zM} {a k v b j : Nat} : zgL (zwP S a k v) b j = zgL S b j := rfl
theorem zgL_fI {S : zM} {a k b j : Nat} {v : Int32} : zgL (zwI S a k v) b j = zgL S b j := rfl
theorem fb_ct_0 : ∀ n, fb_ct (fun _ => false) n = 0
  | 0 => rfl
  | n + 1 => by rw [fb_ct_succ, fb_ct_0 n]; rfl
set_option maxRecDepth 20000 in
set_option maxHeartbeats 4000000 in
theorem c_roinit {E : zE} {S : zM} {a : Nat} (ha : zkd S a = (8, 0)) (hg : zgn S = a) (h0 : 0 < a) : zSp E 1 2 320 mX7_init cX7_init [zR a] S (fun r T => r = none ∧ zRo T a (fun _ => false) (fun _ _ => 0) 0 ∧ zgn T = a + 2 ∧ zNF (fun c => c = a) S T) := by
  refine zSp.of (by decide) rfl (Nat.le_of_ble_eq_true rfl) rfl ?_
  refine j_aload_n (pc := 0) dX7_init_0 rfl ?_
  refine j_objInit (pc := 1) dX7_init_1 oi_X7_3 (by omega) (by decide) (Nat.le_of_ble_eq_true rfl) ?_
  refine j_aload_n (pc := 4) dX7_init_4 rfl ?_
  refine j_bipush (pc := 5) (v := 64) dX7_init_5 (by decide) ?_
  refine j_newa (n := 64) (pc := 7) dX7_init_7 (Or.inr (Or.inr ⟨rfl, rfl⟩)) ac_boolean (by decide) (by decide) (by decide) (Nat.le_refl _) (Nat.le_refl _) ?_
  refine j_putFP (pc := 9) dX7_init_9 f_X7_9 (Or.inr ⟨_, rfl⟩) rfl rfl fp_X7_9 (by first | assumption | (simp [zkd_wP, zkd_wI, zkd_nw, zgn_wP, zgn_wI, zgn_nw, hg, ha, Nat.add_assoc])) rfl ?_
  refine j_aload_n (pc := 12) dX7_init_12 rfl ?_
  refine j_sipush (pc := 13) (v := 256) dX7_init_13 (by decide) ?_
  refine j_newa (n := 256) (pc := 16) dX7_init_16 (Or.inr (Or.inl ⟨rfl, rfl⟩)) ac_long (by decide) (by decide) (by decide) (Nat.le_refl _) (Nat.le_refl _) ?_
  refine j_putFP (pc := 18) dX7_init_18 f_X7_15 (Or.inr ⟨_, rfl⟩) rfl rfl fp_X7_15 (by first | assumption | (simp [zkd_wP, zkd_wI, zkd_nw, zgn_wP, zgn_wI, zgn_nw, hg, ha, Nat.add_assoc])) rfl ?_
  refine j_aload_n (pc := 21) dX7_init_21 rfl ?_
  refine j_iconst (pc := 22) (v := 0) dX7_init_22 (by decide) ?_
  refine j_putI (pc := 23) dX7_init_23 f_X7_19 rfl (by first | assumption | (simp [zkd_wP, zkd_wI, zkd_nw, zgn_wP, zgn_wI, zgn_nw, hg, ha, Nat.add_assoc])) rfl ?_
  refine j_aload_n (pc := 26) dX7_init_26 rfl ?_
  refine j_iconst (pc := 27) (v := 0) dX7_init_27 (by decide) ?_
  refine j_putI (pc := 28) dX7_init_28 f_X7_23 rfl (by first | assumption | (simp [zkd_wP, zkd_wI, zkd_nw, zgn_wP, zgn_wI, zgn_nw, hg, ha, Nat.add_assoc])) rfl ?_
  refine j_vret (pc := 31) dX7_init_31 rfl ?_
  refine ⟨rfl, ⟨?_, ?_, ?_, ?_, ?_, (zgI_nk (by decide)).trans zgI_self, ?_, fun i hi => ?_, fun i j hi hj => ?_, Nat.zero_le _⟩, ?_, ?_⟩
  · simp [zkd_wP, zkd_wI, zkd_nw, zgn_wP, zgn_wI, zgn_nw, hg, ha, Nat.add_assoc]
  · simp [zkd_wP, zkd_wI, zkd_nw, zgn_wP, zgn_wI, zgn_nw, hg, ha, Nat.add_assoc]
  · simp [zkd_wP, zkd_wI, zkd_nw, zgn_wP, zgn_wI, zgn_nw, hg, ha, Nat.add_assoc]
  · simp [zgP_wP, zgP_nw, zgP_fI, zgn_wP, zgn_wI, zgn_nw, hg, Nat.add_assoc]
  · simp [zgP_wP, zgP_nw, zgP_fI, zgn_wP, zgn_wI, zgn_nw, hg, Nat.add_assoc]
  · rw [fb_ct_0]
    exact zgI_self
  · simp [zgI_wI, zgI_wP, zgI_nw, zgn_wP, zgn_wI, zgn_nw, hg, Nat.add_assoc]
  · simp [zgL_wP, zgL_fI, zgL_nw, zgn_wP, zgn_wI, zgn_nw, hg, Nat.add_assoc]
  · simp [zgn_wP, zgn_wI, zgn_nw, hg, Nat.add_assoc]
  · exact (((((zNF.nw (X := fun c => c = a)).tr (zNF.wP (X := fun c => c = a) rfl)).tr (zNF.nw (X := fun c => c = a))).tr (zNF.wP (X := fun c => c = a) rfl)).tr (zF.wI (X := fun c => c = a) rfl).nf).tr (zF.wI (X := fun c => c = a) rfl).nf
