theorem zLx.ag {S T : zM} {x tp tp2 cap : Nat} {F : List Nat} {n ps so sr : Nat} {co : Int64} (h : zLx S x tp tp2 cap F n ps so sr co) (fa : zAg S T x) (f1 : zAg S T tp) (f2 : zAg S T tp2) : zLx T x tp tp2 cap F n ps so sr co := by
  obtain ⟨l1, l2, l3, l4, l5, l6, l7, l8, l9⟩ := h
  exact ⟨fa.1.trans l1, (fa.2.2.2 0).trans l2, l3.ag f1 f2, l4, (fa.2.1 1).trans l5, (fa.2.1 2).trans l6, (fa.2.1 3).trans l7, (fa.2.1 4).trans l8, (fa.2.2.1 5).trans l9⟩
set_option maxRecDepth 20000 in
set_option maxHeartbeats 4000000 in
theorem c_pinit {E : zE} {S : zM} {q a tp tp2 cap n : Nat} {F : List Nat} (hq : zkd S q = (6, 0)) (h0 : 0 < q) (hqg : q ≤ zgn S) (g : zBy S tp tp2 cap F) (hn : n ≤ F.length) (ht : tp ≤ zgn S ∧ tp2 ≤ zgn S) (hd : q ≠ tp ∧ q ≠ tp2) : zSp E 2 1 (0 + zN 2) mX5_init cX5_init [zR q, zR tp, zI (nI n), zR a] S (fun r T => r = none ∧ zLx T (zgn S + 1) tp tp2 cap F n 0 4 0 0 ∧ (zkd T q = (6, 0) ∧ zgP T q 0 = zgn S + 1 ∧ zgP T q 1 = a ∧ zgI T q 2 = nI 0) ∧ zgn T = zgn S + 1 ∧ zNF (fun c => c = q) S T) := by
  refine zSp.of (by decide) rfl (Nat.le_of_ble_eq_true rfl) rfl ?_
  have n1 := zNF.nw (X := fun _ => False) (S := S) (t := 3) (n := 0)
  have g1 : zBy (znw S 3 0) tp tp2 cap F := g.ag (n1.2 tp ht.1 (fun z => z)) (n1.2 tp2 ht.2 (fun z => z))
  refine j_aload_n (pc := 0) dX5_init_0 rfl ?_
  refine j_objInit (pc := 1) dX5_init_1 oi_X5_3 (by omega) (by decide) (Nat.le_of_ble_eq_true rfl) ?_
  refine j_aload_n (pc := 4) dX5_init_4 rfl ?_
  refine j_new (pc := 5) dX5_init_5 nl_X5_9 (Nat.le_refl _) (Nat.le_refl _) ?_
  refine j_dup (pc := 8) dX5_init_8 rfl ?_
  refine j_aload_n (pc := 9) dX5_init_9 rfl ?_
  refine j_iload_n (pc := 10) dX5_init_10 rfl ?_
  refine j_callI (pc := 11) (c_linit znw_kd (Nat.succ_pos _) g1 hn ⟨by omega, by omega⟩) dX5_init_11 l_X5_11 mk_X2_init rfl rfl mi_X2_init (by omega) (by decide) rfl rfl (Nat.le_of_ble_eq_true rfl) (Nat.le_refl _) (Nat.le_refl _) (fun r T1 h_1 => ?_)
  obtain ⟨rfl, hL, hgn, f1⟩ := h_1
  have kq : zkd T1 q = (6, 0) := ((f1.2 q (Nat.le_succ_of_le hqg) (show q ≠ zgn S + 1 by omega)).1).trans ((n1.2 q hqg (fun z => z)).1.trans hq)
  refine j_putFP (pc := 14) dX5_init_14 f_X5_14 (Or.inl ⟨_, rfl⟩) rfl rfl fp_X5_14 (by assumption) rfl ?_
  refine j_aload_n (pc := 17) dX5_init_17 rfl ?_
  refine j_aload_n (pc := 18) dX5_init_18 rfl ?_
  refine j_putFP (pc := 19) dX5_init_19 f_X5_20 (Or.inl ⟨_, rfl⟩) rfl rfl fp_X5_20 (by assumption) rfl ?_
  refine j_aload_n (pc := 22) dX5_init_22 rfl ?_
  refine j_iconst (pc := 23) (v := 0) dX5_init_23 (by decide) ?_
  refine j_putI (pc := 24) dX5_init_24 f_X5_24 rfl (by assumption) rfl ?_
  refine j_aload_n (pc := 27) dX5_init_27 rfl ?_
  refine j_iconst (pc := 28) (v := (-1)) dX5_init_28 (by decide) ?_
  refine j_putI (pc := 29) dX5_init_29 f_X5_28 rfl (by assumption) rfl ?_
  refine j_vret (pc := 32) dX5_init_32 rfl ?_
  have f3 : ∀ c, c ≠ q → zAg T1 (zwI (zwI (zwP (zwP T1 q 0 (zgn S + 1)) q 1 a) q 2 0) q 3 (-1)) c := fun c hc => ⟨rfl, fun k => (zgI_ne hc).trans (zgI_ne hc), fun k => rfl, fun k => (zgP_ne hc).trans (zgP_ne hc)⟩
  refine ⟨rfl, hL.ag (f3 _ (by omega)) (f3 _ (fun e => hd.1 e.symm)) (f3 _ (fun e => hd.2 e.symm)), ⟨kq, (zgP_nk (S := zwP T1 q 0 (zgn S + 1)) (by decide)).trans zgP_self, zgP_self (S := zwP T1 q 0 (zgn S + 1)), (zgI_nk (by decide)).trans zgI_self⟩, hgn, ?_⟩
  refine ⟨by show zgn S ≤ zgn T1; rw [hgn]; exact Nat.le_succ _, fun c hc hx => ?_⟩
  exact (n1.2 c hc (fun z => z)).tr ((f1.2 c (Nat.le_succ_of_le hc) (show c ≠ zgn S + 1 by omega)).tr (f3 c hx))
