set_option maxRecDepth 20000 in
set_option maxHeartbeats 4000000 in
theorem c_binit {E : zE} {S : zM} {a cap : Nat} (ha : zkd S a = (2, 0)) (h0 : 0 < a) (hg : a ≤ zgn S) (hc : cap ≤ 65536) : zSp E 1 1 (0 + cap) mX1_init cX1_init [zR a, zI (nI cap)] S (fun r T => r = none ∧ zBy T a (zgn S + 1) cap [] ∧ zgn T = zgn S + 1 ∧ zNF (fun c => c = a) S T) := by
  refine zSp.of (by decide) rfl (Nat.le_of_ble_eq_true rfl) rfl ?_
  have ka : zkd (znw S 14 cap) a = (2, 0) := (znw_ok hg).trans ha
  have h31 : ¬ nI cap < 0 := Int32.not_lt.mpr (nI_le (a := 0) (Nat.zero_le _) (by omega))
  have hcl : (nI cap).toNatClampNeg = cap := nI_clamp (by omega)
  refine j_aload_n (pc := 0) dX1_init_0 rfl ?_
  refine j_objInit (pc := 1) dX1_init_1 oi_X1_3 (by omega) (by decide) (Nat.le_of_ble_eq_true rfl) ?_
  refine j_aload_n (pc := 4) dX1_init_4 rfl ?_
  refine j_iload_n (pc := 5) dX1_init_5 rfl ?_
  refine j_if_ge (pc := 6) (tgt := 13) dX1_init_6 (by decide) (fun h6 => ?_) (fun h6 => ?_)
  · refine j_iload_n (pc := 13) dX1_init_13 rfl ?_
    refine j_newa (pc := 14) dX1_init_14 (Or.inl ⟨rfl, rfl⟩) ac_int h31 hcl hc (Nat.le_refl _) (Nat.le_refl _) ?_
    refine j_putFP (pc := 16) dX1_init_16 f_X1_9 (Or.inr ⟨_, rfl⟩) rfl rfl fp_X1_9 (by assumption) rfl ?_
    refine j_aload_n (pc := 19) dX1_init_19 rfl ?_
    refine j_iconst (pc := 20) (v := 0) dX1_init_20 (by decide) ?_
    refine j_putI (pc := 21) dX1_init_21 f_X1_15 rfl (by assumption) rfl ?_
    refine j_vret (pc := 24) dX1_init_24 rfl ?_
    refine ⟨rfl, ⟨ka, znw_kd, (zgP_self (S := znw S 14 cap)), by omega, zgI_self, Nat.zero_le _, fun i hi => absurd hi (Nat.not_lt_zero i)⟩, rfl, ?_⟩
    exact ((zNF.nw (X := fun c => c = a)).tr (zNF.wP (X := fun c => c = a) rfl)).tr (zF.wI (X := fun c => c = a) rfl).nf
  · exact absurd (Int32.not_lt.mp h31) h6
set_option maxRecDepth 20000 in
set_option maxHeartbeats 4000000 in
theorem c_linit {E : zE} {S : zM} {x tp tp2 cap n : Nat} {F : List Nat} (hx : zkd S x = (3, 0)) (h0 : 0 < x) (g : zBy S tp tp2 cap F) (hn : n ≤ F.length) (hd : x ≠ tp ∧ x ≠ tp2) : zSp E 1 0 0 mX2_init cX2_init [zR x, zR tp, zI (nI n)] S (fun r T => r = none ∧ zLx T x tp tp2 cap F n 0 4 0 0 ∧ zgn T = zgn S ∧ zNF (fun c => c = x) S T) := by
  refine zSp.of (by decide) rfl (Nat.le_of_ble_eq_true rfl) rfl ?_
  refine j_aload_n (pc := 0) dX2_init_0 rfl ?_
  refine j_objInit (pc := 1) dX2_init_1 oi_X2_3 (by omega) (by decide) (Nat.le_of_ble_eq_true rfl) ?_
  refine j_aload_n (pc := 4) dX2_init_4 rfl ?_
  refine j_aload_n (pc := 5) dX2_init_5 rfl ?_
  refine j_putFP (pc := 6) dX2_init_6 f_X2_9 (Or.inl ⟨_, rfl⟩) rfl rfl fp_X2_9 (by assumption) rfl ?_
  refine j_aload_n (pc := 9) dX2_init_9 rfl ?_
  refine j_iload_n (pc := 10) dX2_init_10 rfl ?_
  refine j_putFI (pc := 11) dX2_init_11 f_X2_15 rfl rfl rfl fp_X2_15 (by assumption) rfl ?_
  refine j_aload_n (pc := 14) dX2_init_14 rfl ?_
  refine j_iconst (pc := 15) (v := 0) dX2_init_15 (by decide) ?_
  refine j_putI (pc := 16) dX2_init_16 f_X2_19 rfl (by assumption) rfl ?_
  refine j_aload_n (pc := 19) dX2_init_19 rfl ?_
  refine j_iconst (pc := 20) (v := 4) dX2_init_20 (by decide) ?_
  refine j_putI (pc := 21) dX2_init_21 f_X2_22 rfl (by assumption) rfl ?_
  refine j_aload_n (pc := 24) dX2_init_24 rfl ?_
  refine j_iconst (pc := 25) (v := 0) dX2_init_25 (by decide) ?_
  refine j_putI (pc := 26) dX2_init_26 f_X2_25 rfl (by assumption) rfl ?_
  refine j_aload_n (pc := 29) dX2_init_29 rfl ?_
  refine j_lconst (pc := 30) (v := 0) dX2_init_30 (by decide) ?_
  refine j_putL (pc := 31) dX2_init_31 f_X2_28 rfl (by assumption) rfl ?_
  refine j_vret (pc := 34) dX2_init_34 rfl ?_
  have f : zNF (fun c => c = x) S _ := (((((zNF.wP (X := fun c => c = x) (S := S) (a := x) (k := 0) (v := tp) rfl).tr (zF.wI (X := fun c => c = x) (a := x) (k := 1) (v := nI n) rfl).nf).tr (zF.wI (X := fun c => c = x) (a := x) (k := 2) (v := 0) rfl).nf).tr (zF.wI (X := fun c => c = x) (a := x) (k := 3) (v := 4) rfl).nf).tr (zF.wI (X := fun c => c = x) (a := x) (k := 4) (v := 0) rfl).nf).tr (zF.wL (X := fun c => c = x) (a := x) (k := 5) (v := 0) rfl).nf
  have f2 : ∀ c, c ≠ x → zAg S (zwL (zwI (zwI (zwI (zwI (zwP S x 0 tp) x 1 (nI n)) x 2 0) x 3 4) x 4 0) x 5 0) c := fun c hc => ⟨rfl, fun k => (zgI_ne hc).trans ((zgI_ne hc).trans ((zgI_ne hc).trans (zgI_ne hc))), fun k => zgL_ne hc, fun k => zgP_ne hc⟩
  refine ⟨rfl, ⟨hx, zgP_self (S := S), g.ag (f2 tp (fun e => hd.1 e.symm)) (f2 tp2 (fun e => hd.2 e.symm)), ⟨hn, hd⟩, ?_, ?_, ?_, ?_, zgL_self⟩, rfl, f⟩
  · exact (zgI_nk (by decide)).trans ((zgI_nk (by decide)).trans ((zgI_nk (by decide)).trans zgI_self))
  · exact (zgI_nk (by decide)).trans ((zgI_nk (by decide)).trans zgI_self)
  · exact (zgI_nk (by decide)).trans zgI_self
  · exact zgI_self
