/-! a cell that is being made: its kind, and the references written so far -/
def zCo (a : Nat) (kd : Nat × Nat) (ps : List (Nat × Nat)) (T : zM) : Prop := zkd T a = kd ∧ ∀ k v, (k, v) ∈ ps → zgP T a k = v
theorem zCo.put {a : Nat} {kd : Nat × Nat} {ps : List (Nat × Nat)} {T : zM} {k v : Nat} (h : zCo a kd ps T) (hk : ∀ q ∈ ps, q.1 ≠ k) : zCo a kd ((k, v) :: ps) (zwP T a k v) := by
  refine ⟨h.1, fun j w hm => ?_⟩
  rcases List.mem_cons.mp hm with e | e
  · cases e
    exact zgP_self
  · exact (zgP_nk (hk _ e)).trans (h.2 j w e)
theorem zCo.ag {a : Nat} {kd : Nat × Nat} {ps : List (Nat × Nat)} {T U : zM} (h : zCo a kd ps T) (f : zAg T U a) : zCo a kd ps U := ⟨f.1.trans h.1, fun k v hm => (f.2.2.2 k).trans (h.2 k v hm)⟩
theorem zCo.nw {a : Nat} {kd : Nat × Nat} {ps : List (Nat × Nat)} {T : zM} {t n : Nat} (h : zCo a kd ps T) (ha : a ≤ zgn T) : zCo a kd ps (znw T t n) := h.ag ((zNF.nw (X := fun _ => False)).2 a ha (fun z => z))
theorem zCo.wI {a b k : Nat} {kd : Nat × Nat} {ps : List (Nat × Nat)} {T : zM} {v : Int32} (h : zCo a kd ps T) : zCo a kd ps (zwI T b k v) := h
theorem zNF.c {X : Nat → Prop} {S T : zM} {c : Nat} (h : zNF X S T) (hc : c ≤ zgn S) (hx : ¬ X c) : zAg S T c := h.2 c hc hx
/-- an object is made, its constructor called, and its reference written into a -/
theorem zNF.mk {S T : zM} {a t k v : Nat} (h : zNF (fun c => c = zgn S + 1) (znw S t 0) T) : zNF (fun c => c = a) S (zwP T a k v) := by
  have h1 : zNF (fun c => c = a) S T := ⟨Nat.le_trans (Nat.le_succ _) h.1, fun c hc hx => ((zNF.nw (X := fun _ => False)).2 c hc (fun z => z)).tr (h.2 c (Nat.le_succ_of_le hc) (show c ≠ zgn S + 1 by omega))⟩
  exact h1.tr (zNF.wP rfl)
theorem zNF.mo2 {S T U : zM} {a : Nat} (h : zNF (fun c => c = a) S T) (g : zNF (fun c => c = a) T U) : zNF (fun c => c = a) S U := h.tr g
set_option maxRecDepth 20000 in
set_option maxHeartbeats 4000000 in
theorem c_tinit {E : zE} {S : zM} {a : Nat} (ha : zkd S a = (10, 0)) (hg : zgn S = a) (h0 : 0 < a) : zSp E 2 21 595 mX9_init cX9_init [zR a] S (fun r T => r = none ∧ zTA T a [] [] [] (fun _ => false, fun _ _ => 0) 0 (fun _ => 0) (fun _ => 0) (fun _ => 0) (fun _ => 0) 0 0 (fun _ => 0) ∧ zTn T a [] ∧ zgn T = a + 21 ∧ zNF (fun c => c = a) S T) := by
  refine zSp.of (by decide) rfl (Nat.le_of_ble_eq_true rfl) rfl ?_
  have st4 : ∀ U : zM, zgn U = a + 20 → zCo a (10, 0) [(5, a + 16), (4, a + 13), (3, a + 8), (2, a + 3), (1, a + 2), (0, a + 1)] U → zNF (fun c => c = a) S U → (zkd U (a + 1) = (15, 4) ∧ zkd U (a + 2) = (14, 4)) → zOr U (a + 3) [] → zSv U (a + 8) [] → zRo U (a + 13) (fun _ => false) (fun _ _ => 0) 0 → zAc U (a + 16) (fun _ => 0) (fun _ => 0) (fun _ => 0) (fun _ => 0) 0 → zJ E 2 1 64 mX9_init cX9_init 62 [some (zR a)] [] U (fun r T => r = none ∧ zTA T a [] [] [] (fun _ => false, fun _ _ => 0) 0 (fun _ => 0) (fun _ => 0) (fun _ => 0) (fun _ => 0) 0 0 (fun _ => 0) ∧ zTn T a [] ∧ zgn T = a + 21 ∧ zNF (fun c => c = a) S T) := by
    intro U hgU c0 hN f0 f1 f2 f3 f4
    refine j_aload_n (pc := 62) dX9_init_62 rfl ?_
    refine j_bipush (pc := 63) (v := 64) dX9_init_63 (by decide) ?_
    refine j_newa (pc := 65) (n := 64) (mc2 := 0) (ms2 := 0) dX9_init_65 (Or.inl ⟨rfl, rfl⟩) ac_int (by decide) (by decide) (by decide) (Nat.le_of_ble_eq_true rfl) (Nat.le_of_ble_eq_true rfl) ?_
    have c1 := c0.nw (t := 14) (n := 64) (by omega)
    refine j_putFP (pc := 67) dX9_init_67 f_X9_47 (Or.inr ⟨_, rfl⟩) rfl rfl fp_X9_47 (by first | exact c0.1 | exact c1.1 | exact c2.1) rfl ?_
    have c2 := c1.put (k := 6) (v := zgn U + 1) (by simp)
    have n1 : zNF (fun c => c = a) U (zwP (znw U 14 64) a 6 (zgn U + 1)) := (zNF.nw (X := fun c => c = a)).tr (zNF.wP rfl)
    have k21 : zkd (zwP (znw U 14 64) a 6 (zgn U + 1)) (a + 21) = (14, 64) := by rw [show a + 21 = zgn U + 1 by omega]; exact znw_kd
    have z21 : ∀ k, zgI (zwP (znw U 14 64) a 6 (zgn U + 1)) (a + 21) k = 0 := fun k => by rw [show a + 21 = zgn U + 1 by omega, zgI_wP, zgI_nw, if_pos rfl]
    refine j_aload_n (pc := 70) dX9_init_70 rfl ?_
    refine j_iconst (pc := 71) (v := 0) dX9_init_71 (by decide) ?_
    refine j_putI (pc := 72) dX9_init_72 f_X9_50 rfl (by first | exact c0.1 | exact c1.1 | exact c2.1) rfl ?_
    refine j_aload_n (pc := 75) dX9_init_75 rfl ?_
    refine j_iconst (pc := 76) (v := 0) dX9_init_76 (by decide) ?_
    refine j_putI (pc := 77) dX9_init_77 f_X9_54 rfl (by first | exact c0.1 | exact c1.1 | exact c2.1) rfl ?_
    refine j_vret (pc := 80) dX9_init_80 rfl ?_
    have n2 : ∀ c, c ≤ a + 20 → c ≠ a → zAg U (zwI (zwI (zwP (znw U 14 64) a 6 (zgn U + 1)) a 7 0) a 8 0) c := fun c hc hx => (n1.c (by omega) hx).tr (((zF.wI (X := fun c => c = a) rfl).tr (zF.wI (X := fun c => c = a) rfl)).ag hx)
    refine ⟨rfl, ⟨⟨⟨c2.1, ((n2 (a + 2) (by omega) (by omega)).1).trans f0.2, c2.2 1 _ (by simp)⟩, ?_, Nat.zero_le _, fun i b hb => absurd hb (by simp)⟩, ⟨c2.2 2 _ (by simp), c2.2 3 _ (by simp), c2.2 4 _ (by simp), c2.2 5 _ (by simp), (c2.2 6 (zgn U + 1) (by simp)).trans (by omega)⟩, f1.ag (fun k hk => n2 _ (by omega) (by omega)), f2.ag (fun k hk => n2 _ (by omega) (by omega)), f3.ag (fun k hk => n2 _ (by omega) (by omega)), f4.ag (fun k hk => n2 _ (by omega) (by omega)), ⟨k21, fun i hi => ?_⟩, zgI_self, by decide⟩, ⟨⟨((n2 (a + 1) (by omega) (by omega)).1).trans f0.1, c2.2 0 _ (by simp)⟩, fun i x hx => absurd hx (by simp)⟩, ?_, ?_⟩
    · exact (zgI_nk (by decide)).trans zgI_self
    · exact (zgI_ne (by omega)).trans ((zgI_ne (by omega)).trans (z21 i))
    · show zgn U + 1 = a + 21
      omega
    · exact hN.tr (n1.tr ((zF.wI (X := fun c => c = a) rfl).tr (zF.wI (X := fun c => c = a) rfl)).nf)
  have st3 : ∀ U : zM, zgn U = a + 15 → zCo a (10, 0) [(4, a + 13), (3, a + 8), (2, a + 3), (1, a + 2), (0, a + 1)] U → zNF (fun c => c = a) S U → (zkd U (a + 1) = (15, 4) ∧ zkd U (a + 2) = (14, 4)) → zOr U (a + 3) [] → zSv U (a + 8) [] → zRo U (a + 13) (fun _ => false) (fun _ _ => 0) 0 → zJ E 2 6 229 mX9_init cX9_init 51 [some (zR a)] [] U (fun r T => r = none ∧ zTA T a [] [] [] (fun _ => false, fun _ _ => 0) 0 (fun _ => 0) (fun _ => 0) (fun _ => 0) (fun _ => 0) 0 0 (fun _ => 0) ∧ zTn T a [] ∧ zgn T = a + 21 ∧ zNF (fun c => c = a) S T) := by
    intro U hgU c0 hN f0 f1 f2 f3
    refine j_aload_n (pc := 51) dX9_init_51 rfl ?_
    refine j_new (pc := 52) (mc2 := 5) (ms2 := 224) dX9_init_52 nl_X9_40 (Nat.le_of_ble_eq_true rfl) (Nat.le_of_ble_eq_true rfl) ?_
    refine j_dup (pc := 55) dX9_init_55 rfl ?_
    
    refine j_callI (pc := 56) (mc2 := 1) (ms2 := 64) (c_ainit (a := zgn U + 1) znw_kd rfl (Nat.succ_pos _)) dX9_init_56 l_X9_42 mk_X0_init rfl rfl mi_X0_init (by omega) (by decide) rfl rfl (Nat.le_of_ble_eq_true rfl) (Nat.le_of_ble_eq_true rfl) (Nat.le_of_ble_eq_true rfl) (fun r T h_1 => ?_)
    obtain ⟨rfl, g1, g2, g3⟩ := h_1
    have c2 := (c0.nw (t := 1) (n := 0) (by omega)).ag (g3.c (show a ≤ zgn U + 1 by omega) (show a ≠ zgn U + 1 by omega))
    have n1 := zNF.mk (a := a) (k := 5) (v := zgn U + 1) g3
    refine j_putFP (pc := 59) dX9_init_59 f_X9_43 (Or.inl ⟨_, rfl⟩) rfl rfl fp_X9_43 c2.1 rfl ?_
    have e1 : zgn U + 1 = a + 16 := by omega
    refine st4 _ (show zgn T = _ by omega) ?_ (hN.tr n1) (⟨((n1.c (by omega) (show a + 1 ≠ a by omega)).1).trans f0.1, ((n1.c (by omega) (show a + 2 ≠ a by omega)).1).trans f0.2⟩) (f1.ag (fun k hk => n1.c (by omega) (show a + 3 + k ≠ a by omega))) (f2.ag (fun k hk => n1.c (by omega) (show a + 8 + k ≠ a by omega))) (f3.ag (fun k hk => n1.c (by omega) (show a + 13 + k ≠ a by omega))) ?_
    · rw [e1]
      exact c2.put (by simp)
    · rw [e1] at g1 ⊢
      exact g1.ag (fun k hk => (zNF.wP (X := fun c => c = a) rfl).c (by omega) (by omega))
  have st2 : ∀ U : zM, zgn U = a + 12 → zCo a (10, 0) [(3, a + 8), (2, a + 3), (1, a + 2), (0, a + 1)] U → zNF (fun c => c = a) S U → (zkd U (a + 1) = (15, 4) ∧ zkd U (a + 2) = (14, 4)) → zOr U (a + 3) [] → zSv U (a + 8) [] → zJ E 2 9 553 mX9_init cX9_init 40 [some (zR a)] [] U (fun r T => r = none ∧ zTA T a [] [] [] (fun _ => false, fun _ _ => 0) 0 (fun _ => 0) (fun _ => 0) (fun _ => 0) (fun _ => 0) 0 0 (fun _ => 0) ∧ zTn T a [] ∧ zgn T = a + 21 ∧ zNF (fun c => c = a) S T) := by
    intro U hgU c0 hN f0 f1 f2
    refine j_aload_n (pc := 40) dX9_init_40 rfl ?_
    refine j_new (pc := 41) (mc2 := 8) (ms2 := 549) dX9_init_41 nl_X9_33 (Nat.le_of_ble_eq_true rfl) (Nat.le_of_ble_eq_true rfl) ?_
    refine j_dup (pc := 44) dX9_init_44 rfl ?_
    
    refine j_callI (pc := 45) (mc2 := 6) (ms2 := 229) (c_roinit (a := zgn U + 1) znw_kd rfl (Nat.succ_pos _)) dX9_init_45 l_X9_35 mk_X7_init rfl rfl mi_X7_init (by omega) (by decide) rfl rfl (Nat.le_of_ble_eq_true rfl) (Nat.le_of_ble_eq_true rfl) (Nat.le_of_ble_eq_true rfl) (fun r T h_1 => ?_)
    obtain ⟨rfl, g1, g2, g3⟩ := h_1
    have c2 := (c0.nw (t := 8) (n := 0) (by omega)).ag (g3.c (show a ≤ zgn U + 1 by omega) (show a ≠ zgn U + 1 by omega))
    have n1 := zNF.mk (a := a) (k := 4) (v := zgn U + 1) g3
    refine j_putFP (pc := 48) dX9_init_48 f_X9_36 (Or.inl ⟨_, rfl⟩) rfl rfl fp_X9_36 c2.1 rfl ?_
    have e1 : zgn U + 1 = a + 13 := by omega
    refine st3 _ (show zgn T = _ by omega) ?_ (hN.tr n1) (⟨((n1.c (by omega) (show a + 1 ≠ a by omega)).1).trans f0.1, ((n1.c (by omega) (show a + 2 ≠ a by omega)).1).trans f0.2⟩) (f1.ag (fun k hk => n1.c (by omega) (show a + 3 + k ≠ a by omega))) (f2.ag (fun k hk => n1.c (by omega) (show a + 8 + k ≠ a by omega))) ?_
    · rw [e1]
      exact c2.put (by simp)
    · rw [e1] at g1 ⊢
      exact g1.ag (fun k hk => (zNF.wP (X := fun c => c = a) rfl).c (by omega) (by omega))
  have st1 : ∀ U : zM, zgn U = a + 7 → zCo a (10, 0) [(2, a + 3), (1, a + 2), (0, a + 1)] U → zNF (fun c => c = a) S U → (zkd U (a + 1) = (15, 4) ∧ zkd U (a + 2) = (14, 4)) → zOr U (a + 3) [] → zJ E 2 14 566 mX9_init cX9_init 29 [some (zR a)] [] U (fun r T => r = none ∧ zTA T a [] [] [] (fun _ => false, fun _ _ => 0) 0 (fun _ => 0) (fun _ => 0) (fun _ => 0) (fun _ => 0) 0 0 (fun _ => 0) ∧ zTn T a [] ∧ zgn T = a + 21 ∧ zNF (fun c => c = a) S T) := by
    intro U hgU c0 hN f0 f1
    refine j_aload_n (pc := 29) dX9_init_29 rfl ?_
    refine j_new (pc := 30) (mc2 := 13) (ms2 := 561) dX9_init_30 nl_X9_26 (Nat.le_of_ble_eq_true rfl) (Nat.le_of_ble_eq_true rfl) ?_
    refine j_dup (pc := 33) dX9_init_33 rfl ?_
    
    refine j_callI (pc := 34) (mc2 := 9) (ms2 := 553) (c_sinit (a := zgn U + 1) znw_kd rfl (Nat.succ_pos _)) dX9_init_34 l_X9_28 mk_X8_init rfl rfl mi_X8_init (by omega) (by decide) rfl rfl (Nat.le_of_ble_eq_true rfl) (Nat.le_of_ble_eq_true rfl) (Nat.le_of_ble_eq_true rfl) (fun r T h_1 => ?_)
    obtain ⟨rfl, g1, g2, g3⟩ := h_1
    have c2 := (c0.nw (t := 9) (n := 0) (by omega)).ag (g3.c (show a ≤ zgn U + 1 by omega) (show a ≠ zgn U + 1 by omega))
    have n1 := zNF.mk (a := a) (k := 3) (v := zgn U + 1) g3
    refine j_putFP (pc := 37) dX9_init_37 f_X9_29 (Or.inl ⟨_, rfl⟩) rfl rfl fp_X9_29 c2.1 rfl ?_
    have e1 : zgn U + 1 = a + 8 := by omega
    refine st2 _ (show zgn T = _ by omega) ?_ (hN.tr n1) (⟨((n1.c (by omega) (show a + 1 ≠ a by omega)).1).trans f0.1, ((n1.c (by omega) (show a + 2 ≠ a by omega)).1).trans f0.2⟩) (f1.ag (fun k hk => n1.c (by omega) (show a + 3 + k ≠ a by omega))) ?_
    · rw [e1]
      exact c2.put (by simp)
    · rw [e1] at g1 ⊢
      exact g1.ag (fun k hk => (zNF.wP (X := fun c => c = a) rfl).c (by omega) (by omega))
  have st0 : ∀ U : zM, zgn U = a + 2 → zCo a (10, 0) [(1, a + 2), (0, a + 1)] U → zNF (fun c => c = a) S U → (zkd U (a + 1) = (15, 4) ∧ zkd U (a + 2) = (14, 4)) → zJ E 2 19 587 mX9_init cX9_init 18 [some (zR a)] [] U (fun r T => r = none ∧ zTA T a [] [] [] (fun _ => false, fun _ _ => 0) 0 (fun _ => 0) (fun _ => 0) (fun _ => 0) (fun _ => 0) 0 0 (fun _ => 0) ∧ zTn T a [] ∧ zgn T = a + 21 ∧ zNF (fun c => c = a) S T) := by
    intro U hgU c0 hN f0
    refine j_aload_n (pc := 18) dX9_init_18 rfl ?_
    refine j_new (pc := 19) (mc2 := 18) (ms2 := 582) dX9_init_19 nl_X9_19 (Nat.le_of_ble_eq_true rfl) (Nat.le_of_ble_eq_true rfl) ?_
    refine j_dup (pc := 22) dX9_init_22 rfl ?_
    
    refine j_callI (pc := 23) (mc2 := 14) (ms2 := 566) (c_oinit (a := zgn U + 1) znw_kd rfl (Nat.succ_pos _)) dX9_init_23 l_X9_21 mk_X3_init rfl rfl mi_X3_init (by omega) (by decide) rfl rfl (Nat.le_of_ble_eq_true rfl) (Nat.le_of_ble_eq_true rfl) (Nat.le_of_ble_eq_true rfl) (fun r T h_1 => ?_)
    obtain ⟨rfl, g1, g2, g3⟩ := h_1
    have c2 := (c0.nw (t := 4) (n := 0) (by omega)).ag (g3.c (show a ≤ zgn U + 1 by omega) (show a ≠ zgn U + 1 by omega))
    have n1 := zNF.mk (a := a) (k := 2) (v := zgn U + 1) g3
    refine j_putFP (pc := 26) dX9_init_26 f_X9_22 (Or.inl ⟨_, rfl⟩) rfl rfl fp_X9_22 c2.1 rfl ?_
    have e1 : zgn U + 1 = a + 3 := by omega
    refine st1 _ (show zgn T = _ by omega) ?_ (hN.tr n1) (⟨((n1.c (by omega) (show a + 1 ≠ a by omega)).1).trans f0.1, ((n1.c (by omega) (show a + 2 ≠ a by omega)).1).trans f0.2⟩) ?_
    · rw [e1]
      exact c2.put (by simp)
    · rw [e1] at g1 ⊢
      exact g1.ag (fun k hk => (zNF.wP (X := fun c => c = a) rfl).c (by omega) (by omega))
  refine j_aload_n (pc := 0) dX9_init_0 rfl ?_
  refine j_objInit (pc := 1) dX9_init_1 oi_X9_3 (by omega) (by decide) (Nat.le_of_ble_eq_true rfl) ?_
  have c0 : zCo a (10, 0) [] S := ⟨ha, fun _ _ h => absurd h List.not_mem_nil⟩
  refine j_aload_n (pc := 4) dX9_init_4 rfl ?_
  refine j_iconst (pc := 5) (v := 4) dX9_init_5 (by decide) ?_
  refine j_newa (pc := 6) (n := 4) (mc2 := 20) (ms2 := 591) dX9_init_6 (Or.inr (Or.inl ⟨rfl, rfl⟩)) ac_long (by decide) (by decide) (by decide) (Nat.le_of_ble_eq_true rfl) (Nat.le_of_ble_eq_true rfl) ?_
  have c1 := c0.nw (t := 15) (n := 4) (by omega)
  refine j_putFP (pc := 8) dX9_init_8 f_X9_9 (Or.inr ⟨_, rfl⟩) rfl rfl fp_X9_9 (by first | exact c3.1 | exact c1.1) rfl ?_
  have c2 := c1.put (k := 0) (v := zgn S + 1) (by simp)
  refine j_aload_n (pc := 11) dX9_init_11 rfl ?_
  refine j_iconst (pc := 12) (v := 4) dX9_init_12 (by decide) ?_
  refine j_newa (pc := 13) (n := 4) (mc2 := 19) (ms2 := 587) dX9_init_13 (Or.inl ⟨rfl, rfl⟩) ac_int (by decide) (by decide) (by decide) (Nat.le_of_ble_eq_true rfl) (Nat.le_of_ble_eq_true rfl) ?_
  have c3 := c2.nw (t := 14) (n := 4) (show a ≤ zgn S + 1 by omega)
  refine j_putFP (pc := 15) dX9_init_15 f_X9_15 (Or.inr ⟨_, rfl⟩) rfl rfl fp_X9_15 (by first | exact c3.1 | exact c1.1) rfl ?_
  have c4 := c3.put (k := 1) (v := zgn S + 1 + 1) (by simp)
  rw [hg] at c4
  refine st0 _ (show zgn S + 1 + 1 = _ by omega) (by rw [← hg] at c4 ⊢; exact c4) ((((zNF.nw (X := fun c => c = a)).tr (zNF.wP rfl)).tr (zNF.nw (X := fun c => c = a))).tr (zNF.wP rfl)) ⟨?_, ?_⟩
  · simp [zkd_wP, zkd_nw, zgn_wP, zgn_nw, hg]
  · simp [zkd_wP, zkd_nw, zgn_wP, zgn_nw, hg]
