/-! a table is taken -/
theorem zCI.i1 {S T : zM} {s : zST} (h : zCI S s) (f : zF (fun c => c = 1) S T) {tr fl : Nat} {pl : Int32} (h6 : zgI T 1 6 = nI tr) (h7 : zgI T 1 7 = nI fl) (h8 : zgI T 1 8 = pl) : zCI T (s.1, (tr, fl, pl), s.2.2) := by
  obtain ⟨h0, hF, ⟨G, hG⟩, -, ⟨hV, hV2⟩, hP, hR, hT⟩ := h
  have ff : ∀ c, c ≠ 1 → zAg S T c := fun c h => f.ag h
  refine ⟨?_, hF.ag (ff 2 (by decide)) (ff 3 (by decide)), ⟨G, hG.ag (ff 4 (by decide)) (ff 5 (by decide))⟩, ⟨h6, h7, h8⟩, ⟨hV.ag (fun c z1 z2 => ff c (by omega)), by rw [f.2.1, f.2.2.1]; exact hV2⟩, hP.ag (fun c z1 z2 => ff c (by omega)), fun r hr => (hR r hr).ag (fun k hk => ff _ (by omega)), ?_⟩
  · unfold zC0
    rw [f.1, f.2.1, f.2.2.1]
    exact h0
  · show zCT _ (sT s)
    generalize sT s = t at hT
    cases t with
    | none =>
      show zgP T 1 5 = 0
      rw [f.2.2.1]
      exact hT
    | some t =>
      obtain ⟨a, h1, h2, h3, h4, h5⟩ := hT
      exact ⟨a, by rw [f.2.2.1]; exact h1, h2, by rw [f.2.1]; exact h3, h4.ag (fun k hk => ff _ (by omega)), h5.ag (fun c z1 z2 => ff c (by omega))⟩
theorem zPg.off {S : zM} {pt : Bool} {ids : List Nat} {vs : Nat → Nat → Int64} {kb ka kk : List Nat} {ah be : Nat} (h : zPg S pt ids vs kb ka kk ah be) : zPg (zwI S 93 5 0) false ids vs kb ka kk ah be := by
  obtain ⟨a1, a2, a3, a4, a5, a6, a7, a8, a9, a10, a11⟩ := h
  have ff : ∀ c, c ≠ 93 → zAg S (zwI S 93 5 0) c := fun c h => (zF.wI (X := fun c => c = 93) rfl).ag h
  exact ⟨a1, zgI_self, (zgI_nk (by decide)).trans a3, a4, (zgI_nk (by decide)).trans a5, (zgI_nk (by decide)).trans a6, fun i x hx => (zgI_ne (by decide)).trans (a7 i x hx), a8, a9.ag (ff _ (by decide)) (ff _ (by decide)), a10.ag (ff _ (by decide)) (ff _ (by decide)), a11.ag (ff _ (by decide)) (ff _ (by decide))⟩
theorem fb_ct_lt : ∀ (g n : Nat), g ≤ n → fb_ct (fun i => decide (i < g)) n = g
  | 0, n, _ => fb_ct_zero.mpr (fun k _ => by simp)
  | g + 1, 0, h => absurd h (Nat.not_succ_le_zero g)
  | g + 1, n + 1, h => by
    rw [fb_ct_succ]
    by_cases e : n < g + 1
    · have en : n = g := by omega
      subst en
      rw [decide_eq_true e, if_pos rfl]
      congr 1
      exact fb_ct_all.mpr (fun k hk => decide_eq_true (by omega))
    · rw [decide_eq_false e, fb_ct_lt (g + 1) n (by omega)]
      rfl
theorem zCI.told {S T : zM} {s : zST} {a : Nat} {t : zTB} (h : zCI S s) (ha : 161 ≤ a) (hg : zgP S 6 8 < a) (hg2 : a + 21 ≤ zgn S) (hT : zTt S a t) (f : zF zXR (zwI (zwP S 1 5 a) 93 5 0) T) (hR : ∀ r, r < 4 → zCr T (103 + 5 * r) none) : zCI T (s.1, s.2.1, some t, none, fun _ => none) := by
  obtain ⟨h0, hF, ⟨G, hG⟩, ⟨i1, i2, i3⟩, ⟨hV, hV2⟩, hP, -, -⟩ := h
  have f1 : ∀ c, c ≠ 1 → c ≠ 93 → zAg S (zwI (zwP S 1 5 a) 93 5 0) c := fun c h1 h2 => ⟨rfl, fun k => zgI_ne h2, fun k => rfl, fun k => zgP_ne h1⟩
  have ff : ∀ c, c ≠ 1 → c ≠ 93 → (c < 103 ∨ 122 < c) → zAg S T c := fun c h1 h2 h3 => (f1 c h1 h2).tr (f.ag (by unfold zXR; omega))
  have fi : ∀ k, zgI T 1 k = zgI S 1 k := fun k => (f.2.2.2.1 1 (by unfold zXR; omega) k).trans (zgI_ne (by decide))
  have fp : ∀ k, k ≠ 5 → zgP T 1 k = zgP S 1 k := fun k hk => by rw [f.2.2.1]; exact zgP_nk (S := S) hk
  have fk : ∀ c, zkd T c = zkd S c := fun c => by rw [f.1]; rfl
  have fn : zgn T = zgn S := f.2.1
  obtain ⟨k1, ⟨p0, p1, p2, p3, p4⟩, k2, pr, hg0⟩ := h0
  have a102 := ff 102 (by decide) (by decide) (by omega)
  refine ⟨⟨(fk 1).trans k1, ⟨(fp 0 (by decide)).trans p0, (fp 1 (by decide)).trans p1, (fp 2 (by decide)).trans p2, (fp 3 (by decide)).trans p3, (fp 4 (by decide)).trans p4⟩, a102.1.trans k2, fun r hr => (a102.2.2.2 r).trans (pr r hr), by rw [fn]; exact hg0⟩, hF.ag (ff 2 (by decide) (by decide) (by omega)) (ff 3 (by decide) (by decide) (by omega)), ⟨G, hG.ag (ff 4 (by decide) (by decide) (by omega)) (ff 5 (by decide) (by decide) (by omega))⟩, ⟨(fi 6).trans i1, (fi 7).trans i2, (fi 8).trans i3⟩, ⟨hV.ag (fun c z1 z2 => ff c (by omega) (by omega) (by omega)), ?_⟩, ?_, hR, ⟨a, ?_, ha, by rw [fn]; exact hg2, hT.ag (fun k hk => ff _ (by omega) (by omega) (by omega)), fun e => ?_⟩⟩
  · rw [(ff 6 (by decide) (by decide) (by omega)).2.2.2 8, fn]
    exact hV2
  · obtain ⟨pt, ids, vs, kb, ka, kk, ah, be, hPg⟩ := hP.any
    have h1 : zPg (zwP S 1 5 a) pt ids vs kb ka kk ah be := hPg.ag (fun c c1 c2 => ⟨rfl, fun k => rfl, fun k => rfl, fun k => zgP_ne (by omega)⟩)
    exact ⟨ids, vs, kb, ka, kk, ah, be, h1.off.ag (fun c c1 c2 => f.ag (by unfold zXR; omega))⟩
  · rw [f.2.2.1]
    exact zgP_self (S := S)
  · have := (ff 6 (by decide) (by decide) (by omega)).2.2.2 8
    omega
set_option maxRecDepth 20000 in
set_option maxHeartbeats 4000000 in
theorem p_table {E : zE} {S : zM} {s : zST} {n : Nat} (h : zCI S s) (hw : zWF n s) (x : Int32) : zSp E 6 24 614 mX11_table cX11_table [zR 1, zI x] S (fun r T => r = some (zI (q_table s x).1) ∧ zCI T (q_table s x).2 ∧ zQF S T) := by
  refine zSp.of (by decide) rfl (Nat.le_of_ble_eq_true rfl) rfl ?_
  obtain ⟨h0, hF, hG4, hi, hV, hP, hR, hT⟩ := _root_.id h
  have k1 := h0.1
  have h160 := h0.2.2.2.2
  have h68 := hV.2
  have l9 := hw.2.1.1
  cases hq : zrt ((sF s).take (zn x)) with
  | error e =>
    refine j_aload_n (pc := 0) dX11_table_0 rfl ?_
    refine j_iload_n (pc := 1) dX11_table_1 rfl ?_
    refine j_callV (pc := 2) (mc2 := 24) (ms2 := 614) (t := 11) (c_isOnTape k1 h0.2.1.1 hF _) dX11_table_2 l_X11_64 mk_X11_isOnTape mv_X11_isOnTape (by decide) rfl (by assumption) (by decide) rfl rfl (Nat.le_of_ble_eq_true rfl) (Nat.le_of_ble_eq_true rfl) (Nat.le_of_ble_eq_true rfl) (fun r T h_1 => ?_)
    obtain ⟨rfl, rfl⟩ := h_1
    refine j_if_ne (pc := 5) (tgt := 14) dX11_table_5 (by decide) (fun h5' => ?_) (fun h5' => ?_)
    · obtain ⟨k, hk, rfl⟩ := zoT_t hw.2.1.1 (zbi_ne0 h5')
      have hcz : (nI k).toNatClampNeg = k := nI_clamp (by omega)
      refine j_new (pc := 14) (mc2 := 23) (ms2 := 605) dX11_table_14 nl_X11_72 (Nat.le_of_ble_eq_true rfl) (Nat.le_of_ble_eq_true rfl) ?_
      refine j_dup (pc := 17) dX11_table_17 rfl ?_
      refine j_callI (pc := 18) (mc2 := 2) (ms2 := 10) (c_tinit (a := zgn S + 1) znw_kd rfl (Nat.succ_pos _)) dX11_table_18 l_X11_74 mk_X9_init rfl rfl mi_X9_init (by omega) (by decide) rfl rfl (Nat.le_of_ble_eq_true rfl) (Nat.le_of_ble_eq_true rfl) (Nat.le_of_ble_eq_true rfl) (fun r T1 h_1 => ?_)
      obtain ⟨rfl, hTA1, hTn1, hg1, n1⟩ := h_1
      have n0 := zNF.nw (X := fun _ => False) (S := S) (t := 10) (n := 0)
      have hal1 : ∀ c, c ≤ zgn S → zAg S T1 c := fun c hc => (n0.2 c hc (fun z => z)).tr (n1.2 c (Nat.le_succ_of_le hc) (show c ≠ zgn S + 1 by omega))
      refine j_astore_n (pc := 21) (ls' := [_, _, _, _, _]) dX11_table_21 (by decide) rfl rfl ?_
      refine j_new (pc := 22) (mc2 := 1) (ms2 := 6) dX11_table_22 nl_X11_75 (Nat.le_of_ble_eq_true rfl) (Nat.le_of_ble_eq_true rfl) ?_
      refine j_dup (pc := 25) dX11_table_25 rfl ?_
      refine j_aload_n (pc := 26) dX11_table_26 rfl ?_
      have k1b : zkd (znw T1 (5 + 1) 0) 1 = (12, 0) := (znw_ok (by omega)).trans ((hal1 1 (by omega)).1.trans k1)
      have p0b : zgP (znw T1 (5 + 1) 0) 1 0 = 2 := by rw [zgP_nw, if_neg (by omega)]; exact ((hal1 1 (by omega)).2.2.2 0).trans h0.2.1.1
      have hFb : zBy (znw T1 (5 + 1) 0) 2 3 900 (sF s) := hF.ag ((hal1 2 (by omega)).tr ((zNF.nw (X := fun _ => False)).2 2 (by omega) (fun z => z))) ((hal1 3 (by omega)).tr ((zNF.nw (X := fun _ => False)).2 3 (by omega) (fun z => z)))
      refine j_getPv (pc := 27) dX11_table_27 f_X11_16 (Or.inl ⟨_, rfl⟩) (by assumption) (p0b) ?_
      refine j_iload_n (pc := 30) dX11_table_30 rfl ?_
      refine j_aload_n (pc := 31) dX11_table_31 rfl ?_
      refine j_callI (pc := 32) (mc2 := 0) (ms2 := 0) (c_pinit (q := zgn T1 + 1) (a := zgn S + 1) (n := k) znw_kd (Nat.succ_pos _) (Nat.le_refl _) hFb hk ⟨show 2 ≤ zgn T1 + 1 by omega, show 3 ≤ zgn T1 + 1 by omega⟩ ⟨by omega, by omega⟩) dX11_table_32 l_X11_77 mk_X5_init rfl rfl mi_X5_init (by omega) (by decide) rfl rfl (Nat.le_of_ble_eq_true rfl) (Nat.le_of_ble_eq_true rfl) (Nat.le_of_ble_eq_true rfl) (fun r T2 h_1 => ?_)
      obtain ⟨rfl, hL2, ⟨k222, p220, p221, i222⟩, hg2', n2⟩ := h_1
      have hg2 : zgn T2 = zgn S + 24 := by rw [hg2']; show zgn T1 + 1 + 1 = _; omega
      have nb := zNF.nw (X := fun _ => False) (S := T1) (t := 6) (n := 0)
      have ha12 : ∀ c, c ≤ zgn T1 → zAg T1 T2 c := fun c hc => (nb.2 c hc (fun z => z)).tr (n2.2 c (Nat.le_succ_of_le hc) (show c ≠ zgn T1 + 1 by omega))
      have hal2 : ∀ c, c ≤ zgn S → zAg S T2 c := fun c hc => (hal1 c hc).tr (ha12 c (by omega))
      have e22 : zgn T1 + 1 = zgn S + 1 + 22 := by omega
      have e23 : zgn (znw T1 (5 + 1) 0) + 1 = zgn S + 1 + 23 := by show zgn T1 + 1 + 1 = _; omega
      rw [e23] at hL2 p220
      have hTA2 := hTA1.ag (T := T2) (fun j hj => ha12 _ (by omega))
      rw [show (fun _ => false : Nat → Bool) = (fun i => decide (i < 0)) from funext fun i => (decide_eq_false (Nat.not_lt_zero i)).symm] at hTA2
      rw [e22] at k222 p220 p221 i222 ⊢
      have hPd : zPd T2 (zgn S + 1) 2 3 900 (sF s) k ((0, 4, 0, 0), [], [], [], 0, fun _ _ => 0) := ⟨⟨k222, p220, p221⟩, hL2, ⟨Nat.zero_le _, by decide, by omega, by omega⟩, i222, hTn1.ag (ha12 _ (by omega)) (ha12 _ (by omega)), rfl, _, _, _, _, hTA2⟩
      refine j_astore_n (pc := 35) (ls' := [_, _, _, _, _]) dX11_table_35 (by decide) rfl rfl ?_
      refine j_aload_n (pc := 36) dX11_table_36 rfl ?_
      refine j_callV (pc := 37) (mc2 := 0) (ms2 := 0) (t := 5) ((c_readTable hPd).post (fun r T hq => (by exact hq : zPQ (zgn S + 1) 2 3 900 (sF s) k T2 r T (zrt ((sF s).take k))))) dX11_table_37 l_X11_80 mk_X5_readTable mv_X5_readTable (by decide) rfl (by assumption) (by decide) rfl rfl (Nat.le_of_ble_eq_true rfl) (Nat.le_of_ble_eq_true rfl) (Nat.le_of_ble_eq_true rfl) (fun r T3 h_1 => ?_)
      rw [show (sF s).take k = (sF s).take (zn (nI k)) by rw [zn, hcz], hq] at h_1
      obtain ⟨rfl, f3, e2, e3⟩ := h_1
      have hal : ∀ c, c ≤ zgn S → zAg S T3 c := fun c hc => (hal2 c hc).tr (f3.ag (by unfold zXa; omega))
      have hg3 : zgn T3 = zgn S + 24 := f3.2.1.trans hg2
      have h3 : zCI T3 s := h.ag (fun c _ _ hc => hal c hc) (by omega)
      have k2c := h3.2.1.1
      have k13 := h3.1.1
      refine j_istore (pc := 40) (ls' := [_, _, _, _, _]) dX11_table_40 (by decide) rfl rfl ?_
      refine j_aload_n (pc := 42) dX11_table_42 rfl ?_
      refine j_getPv (pc := 43) dX11_table_43 f_X11_16 (Or.inl ⟨_, rfl⟩) (by assumption) (h3.1.2.1.1) ?_
      refine j_callV (pc := 46) (mc2 := 0) (ms2 := 0) (t := 1) (c_empty h3.2.1) dX11_table_46 l_X11_84 mk_X1_empty mv_X1_empty (by decide) rfl (by assumption) (by decide) rfl rfl (Nat.le_of_ble_eq_true rfl) (Nat.le_of_ble_eq_true rfl) (Nat.le_of_ble_eq_true rfl) (fun r T h_1 => ?_)
      obtain ⟨rfl, rfl⟩ := h_1
      have h4 := h3.fed (F := []) (zF.wI (X := zAB 2 3) (Or.inl rfl)) h3.2.1.empty
      have k14 := h4.1.1
      have k22 : zkd (zwI T3 2 1 0) (zgn S + 1 + 22) = (6, 0) := by show zkd T3 _ = _; rw [f3.1]; exact k222
      refine j_aload_n (pc := 49) dX11_table_49 rfl ?_
      refine j_aload_n (pc := 50) dX11_table_50 rfl ?_
      refine j_getI (pc := 51) dX11_table_51 f_X11_87 (Or.inl rfl) (by assumption) ?_
      rw [show zgI (zwI T3 2 1 0) (zgn S + 1 + 22) 2 = nI e.1 from (zgI_ne (by omega)).trans e2]
      refine j_putI (pc := 54) dX11_table_54 f_X11_52 rfl (by assumption) rfl ?_
      refine j_iload (pc := 57) dX11_table_57 rfl ?_
      refine j_if_ne (pc := 59) (tgt := 76) dX11_table_59 (by decide) (fun h59 => absurd rfl h59) (fun h59 => ?_)
      refine j_aload_n (pc := 62) dX11_table_62 rfl ?_
      refine j_aload_n (pc := 63) dX11_table_63 rfl ?_
      refine j_getI (pc := 64) dX11_table_64 f_X11_88 (Or.inl rfl) (by assumption) ?_
      rw [show zgI (zwI (zwI T3 2 1 0) 1 7 (nI e.1)) (zgn S + 1 + 22) 3 = nI e.2 from (zgI_ne (by omega)).trans ((zgI_ne (by omega)).trans e3)]
      refine j_putI (pc := 67) dX11_table_67 f_X11_55 rfl (by assumption) rfl ?_
      refine j_aload_n (pc := 70) dX11_table_70 rfl ?_
      refine j_iconst (pc := 71) (v := 4) dX11_table_71 (by decide) ?_
      refine j_callV (pc := 72) (mc2 := 0) (ms2 := 0) (t := 11) (c_refused (by exact k14) _) dX11_table_72 l_X11_68 mk_X11_refused mv_X11_refused (by decide) rfl (by assumption) (by decide) rfl rfl (Nat.le_of_ble_eq_true rfl) (Nat.le_of_ble_eq_true rfl) (Nat.le_of_ble_eq_true rfl) (fun r T h_1 => ?_)
      obtain ⟨rfl, rfl⟩ := h_1
      refine j_iret (pc := 75) dX11_table_75 rfl ?_
      have ez : q_table s (nI k) = (-1, ([], (4, e.1, nI e.2), s.2.2)) := by
        rw [q_table, if_neg (bnf2 (zbi_ne0 h5')), hq]
      rw [ez]
      have hQ : zQF S T3 := ⟨by omega, fun c hc _ => hal c hc⟩
      have f9 : zF (fun c => c = 1) (zwI T3 2 1 0) (zwI (zwI (zwI (zwI T3 2 1 0) 1 7 (nI e.1)) 1 8 (nI e.2)) 1 6 4) := ((zF.wI (X := fun c => c = 1) rfl).tr (zF.wI (X := fun c => c = 1) rfl)).tr (zF.wI (X := fun c => c = 1) rfl)
      exact ⟨rfl, h4.i1 (tr := 4) f9 zgI_self ((zgI_nk (by decide)).trans ((zgI_nk (by decide)).trans zgI_self)) ((zgI_nk (by decide)).trans zgI_self), hQ.tr ((((zF.wI (X := zOM) (Or.inl (by decide))).tr (zF.wI (Or.inl (by decide)))).tr (zF.wI (Or.inl (by decide)))).tr (zF.wI (Or.inl (by decide)))).nf⟩
    · refine j_aload_n (pc := 8) dX11_table_8 rfl ?_
      refine j_iconst (pc := 9) (v := 2) dX11_table_9 (by decide) ?_
      refine j_callV (pc := 10) (mc2 := 24) (ms2 := 614) (t := 11) (c_refused k1 _) dX11_table_10 l_X11_68 mk_X11_refused mv_X11_refused (by decide) rfl (by assumption) (by decide) rfl rfl (Nat.le_of_ble_eq_true rfl) (Nat.le_of_ble_eq_true rfl) (Nat.le_of_ble_eq_true rfl) (fun r T h_1 => ?_)
      obtain ⟨rfl, rfl⟩ := h_1
      refine j_iret (pc := 13) dX11_table_13 rfl ?_
      exact q_ref h zQF.rf (by rw [q_table, if_pos (zbi_eq0.mp h5')])
  | ok w =>
    refine j_aload_n (pc := 0) dX11_table_0 rfl ?_
    refine j_iload_n (pc := 1) dX11_table_1 rfl ?_
    refine j_callV (pc := 2) (mc2 := 24) (ms2 := 614) (t := 11) (c_isOnTape k1 h0.2.1.1 hF _) dX11_table_2 l_X11_64 mk_X11_isOnTape mv_X11_isOnTape (by decide) rfl (by assumption) (by decide) rfl rfl (Nat.le_of_ble_eq_true rfl) (Nat.le_of_ble_eq_true rfl) (Nat.le_of_ble_eq_true rfl) (fun r T h_1 => ?_)
    obtain ⟨rfl, rfl⟩ := h_1
    refine j_if_ne (pc := 5) (tgt := 14) dX11_table_5 (by decide) (fun h5' => ?_) (fun h5' => ?_)
    · obtain ⟨k, hk, rfl⟩ := zoT_t hw.2.1.1 (zbi_ne0 h5')
      have hcz : (nI k).toNatClampNeg = k := nI_clamp (by omega)
      refine j_new (pc := 14) (mc2 := 23) (ms2 := 605) dX11_table_14 nl_X11_72 (Nat.le_of_ble_eq_true rfl) (Nat.le_of_ble_eq_true rfl) ?_
      refine j_dup (pc := 17) dX11_table_17 rfl ?_
      refine j_callI (pc := 18) (mc2 := 2) (ms2 := 10) (c_tinit (a := zgn S + 1) znw_kd rfl (Nat.succ_pos _)) dX11_table_18 l_X11_74 mk_X9_init rfl rfl mi_X9_init (by omega) (by decide) rfl rfl (Nat.le_of_ble_eq_true rfl) (Nat.le_of_ble_eq_true rfl) (Nat.le_of_ble_eq_true rfl) (fun r T1 h_1 => ?_)
      obtain ⟨rfl, hTA1, hTn1, hg1, n1⟩ := h_1
      have n0 := zNF.nw (X := fun _ => False) (S := S) (t := 10) (n := 0)
      have hal1 : ∀ c, c ≤ zgn S → zAg S T1 c := fun c hc => (n0.2 c hc (fun z => z)).tr (n1.2 c (Nat.le_succ_of_le hc) (show c ≠ zgn S + 1 by omega))
      refine j_astore_n (pc := 21) (ls' := [_, _, _, _, _]) dX11_table_21 (by decide) rfl rfl ?_
      refine j_new (pc := 22) (mc2 := 1) (ms2 := 6) dX11_table_22 nl_X11_75 (Nat.le_of_ble_eq_true rfl) (Nat.le_of_ble_eq_true rfl) ?_
      refine j_dup (pc := 25) dX11_table_25 rfl ?_
      refine j_aload_n (pc := 26) dX11_table_26 rfl ?_
      have k1b : zkd (znw T1 (5 + 1) 0) 1 = (12, 0) := (znw_ok (by omega)).trans ((hal1 1 (by omega)).1.trans k1)
      have p0b : zgP (znw T1 (5 + 1) 0) 1 0 = 2 := by rw [zgP_nw, if_neg (by omega)]; exact ((hal1 1 (by omega)).2.2.2 0).trans h0.2.1.1
      have hFb : zBy (znw T1 (5 + 1) 0) 2 3 900 (sF s) := hF.ag ((hal1 2 (by omega)).tr ((zNF.nw (X := fun _ => False)).2 2 (by omega) (fun z => z))) ((hal1 3 (by omega)).tr ((zNF.nw (X := fun _ => False)).2 3 (by omega) (fun z => z)))
      refine j_getPv (pc := 27) dX11_table_27 f_X11_16 (Or.inl ⟨_, rfl⟩) (by assumption) (p0b) ?_
      refine j_iload_n (pc := 30) dX11_table_30 rfl ?_
      refine j_aload_n (pc := 31) dX11_table_31 rfl ?_
      refine j_callI (pc := 32) (mc2 := 0) (ms2 := 0) (c_pinit (q := zgn T1 + 1) (a := zgn S + 1) (n := k) znw_kd (Nat.succ_pos _) (Nat.le_refl _) hFb hk ⟨show 2 ≤ zgn T1 + 1 by omega, show 3 ≤ zgn T1 + 1 by omega⟩ ⟨by omega, by omega⟩) dX11_table_32 l_X11_77 mk_X5_init rfl rfl mi_X5_init (by omega) (by decide) rfl rfl (Nat.le_of_ble_eq_true rfl) (Nat.le_of_ble_eq_true rfl) (Nat.le_of_ble_eq_true rfl) (fun r T2 h_1 => ?_)
      obtain ⟨rfl, hL2, ⟨k222, p220, p221, i222⟩, hg2', n2⟩ := h_1
      have hg2 : zgn T2 = zgn S + 24 := by rw [hg2']; show zgn T1 + 1 + 1 = _; omega
      have nb := zNF.nw (X := fun _ => False) (S := T1) (t := 6) (n := 0)
      have ha12 : ∀ c, c ≤ zgn T1 → zAg T1 T2 c := fun c hc => (nb.2 c hc (fun z => z)).tr (n2.2 c (Nat.le_succ_of_le hc) (show c ≠ zgn T1 + 1 by omega))
      have hal2 : ∀ c, c ≤ zgn S → zAg S T2 c := fun c hc => (hal1 c hc).tr (ha12 c (by omega))
      have e22 : zgn T1 + 1 = zgn S + 1 + 22 := by omega
      have e23 : zgn (znw T1 (5 + 1) 0) + 1 = zgn S + 1 + 23 := by show zgn T1 + 1 + 1 = _; omega
      rw [e23] at hL2 p220
      have hTA2 := hTA1.ag (T := T2) (fun j hj => ha12 _ (by omega))
      rw [show (fun _ => false : Nat → Bool) = (fun i => decide (i < 0)) from funext fun i => (decide_eq_false (Nat.not_lt_zero i)).symm] at hTA2
      rw [e22] at k222 p220 p221 i222 ⊢
      have hPd : zPd T2 (zgn S + 1) 2 3 900 (sF s) k ((0, 4, 0, 0), [], [], [], 0, fun _ _ => 0) := ⟨⟨k222, p220, p221⟩, hL2, ⟨Nat.zero_le _, by decide, by omega, by omega⟩, i222, hTn1.ag (ha12 _ (by omega)) (ha12 _ (by omega)), rfl, _, _, _, _, hTA2⟩
      refine j_astore_n (pc := 35) (ls' := [_, _, _, _, _]) dX11_table_35 (by decide) rfl rfl ?_
      refine j_aload_n (pc := 36) dX11_table_36 rfl ?_
      refine j_callV (pc := 37) (mc2 := 0) (ms2 := 0) (t := 5) ((c_readTable hPd).post (fun r T hq => (by exact hq : zPQ (zgn S + 1) 2 3 900 (sF s) k T2 r T (zrt ((sF s).take k))))) dX11_table_37 l_X11_80 mk_X5_readTable mv_X5_readTable (by decide) rfl (by assumption) (by decide) rfl rfl (Nat.le_of_ble_eq_true rfl) (Nat.le_of_ble_eq_true rfl) (Nat.le_of_ble_eq_true rfl) (fun r T3 h_1 => ?_)
      rw [show (sF s).take k = (sF s).take (zn (nI k)) by rw [zn, hcz], hq] at h_1
      obtain ⟨rfl, f3, hPd3⟩ := h_1
      have hal : ∀ c, c ≤ zgn S → zAg S T3 c := fun c hc => (hal2 c hc).tr (f3.ag (by unfold zXa; omega))
      have hg3 : zgn T3 = zgn S + 24 := f3.2.1.trans hg2
      have h3 : zCI T3 s := h.ag (fun c _ _ hc => hal c hc) (by omega)
      have k2c := h3.2.1.1
      have k13 := h3.1.1
      refine j_istore (pc := 40) (ls' := [_, _, _, _, _]) dX11_table_40 (by decide) rfl rfl ?_
      refine j_aload_n (pc := 42) dX11_table_42 rfl ?_
      refine j_getPv (pc := 43) dX11_table_43 f_X11_16 (Or.inl ⟨_, rfl⟩) (by assumption) (h3.1.2.1.1) ?_
      refine j_callV (pc := 46) (mc2 := 0) (ms2 := 0) (t := 1) (c_empty h3.2.1) dX11_table_46 l_X11_84 mk_X1_empty mv_X1_empty (by decide) rfl (by assumption) (by decide) rfl rfl (Nat.le_of_ble_eq_true rfl) (Nat.le_of_ble_eq_true rfl) (Nat.le_of_ble_eq_true rfl) (fun r T h_1 => ?_)
      obtain ⟨rfl, rfl⟩ := h_1
      have h4 := h3.fed (F := []) (zF.wI (X := zAB 2 3) (Or.inl rfl)) h3.2.1.empty
      have k14 := h4.1.1
      have k22 : zkd (zwI T3 2 1 0) (zgn S + 1 + 22) = (6, 0) := by show zkd T3 _ = _; rw [f3.1]; exact k222
      refine j_aload_n (pc := 49) dX11_table_49 rfl ?_
      refine j_aload_n (pc := 50) dX11_table_50 rfl ?_
      refine j_getI (pc := 51) dX11_table_51 f_X11_87 (Or.inl rfl) (by assumption) ?_
      rw [show zgI (zwI T3 2 1 0) (zgn S + 1 + 22) 2 = nI 0 from (zgI_ne (by omega)).trans hPd3.2.2.2.1]
      refine j_putI (pc := 54) dX11_table_54 f_X11_52 rfl (by assumption) rfl ?_
      refine j_iload (pc := 57) dX11_table_57 rfl ?_
      refine j_if_ne (pc := 59) (tgt := 76) dX11_table_59 (by decide) (fun h59 => ?_) (fun h59 => absurd h59 (by decide))
      refine j_aload_n (pc := 76) dX11_table_76 rfl ?_
      refine j_aload_n (pc := 77) dX11_table_77 rfl ?_
      refine j_putP (pc := 78) dX11_table_78 f_X11_44 (Or.inl ⟨_, rfl⟩) (by assumption) rfl ?_
      have h5 := h4.i1 (T := zwI (zwI T3 2 1 0) 1 7 (nI 0)) (tr := sTr s) (fl := 0) (pl := sPl s) (zF.wI rfl) ((zgI_nk (by decide)).trans h4.2.2.2.1.1) zgI_self ((zgI_nk (by decide)).trans h4.2.2.2.1.2.2)
      have k15 := h5.1.1
      obtain ⟨so, si, sc, ol, hTA3⟩ := hPd3.2.2.2.2.2.2
      have h93 : zgP (zwP (zwI (zwI T3 2 1 0) 1 7 (nI 0)) 1 5 (zgn S + 1)) 1 3 = 93 := (zgP_nk (S := zwI (zwI T3 2 1 0) 1 7 (nI 0)) (by decide)).trans h5.1.2.1.2.2.2.1
      have k93 : zkd (zwP (zwI (zwI T3 2 1 0) 1 7 (nI 0)) 1 5 (zgn S + 1)) 93 = (5, 0) := by
        obtain ⟨pt, ids, vs, kb, ka, kk, ah, be, hPg⟩ := h5.2.2.2.2.2.1.any
        exact hPg.1.1
      have ff6 : ∀ c, c ≠ 1 → c ≠ 93 → zAg (zwI (zwI T3 2 1 0) 1 7 (nI 0)) (zwI (zwP (zwI (zwI T3 2 1 0) 1 7 (nI 0)) 1 5 (zgn S + 1)) 93 5 0) c := fun c h1 h2 => ⟨rfl, fun j => zgI_ne h2, fun j => rfl, fun j => zgP_ne h1⟩
      have h07 : zC0 (zwI (zwP (zwI (zwI T3 2 1 0) 1 7 (nI 0)) 1 5 (zgn S + 1)) 93 5 0) := by
        obtain ⟨c1, ⟨c20, c21, c22, c23, c24⟩, c3, c4, c5⟩ := h5.1
        exact ⟨c1, ⟨(zgP_nk (S := zwI (zwI T3 2 1 0) 1 7 (nI 0)) (by decide)).trans c20, (zgP_nk (S := zwI (zwI T3 2 1 0) 1 7 (nI 0)) (by decide)).trans c21, (zgP_nk (S := zwI (zwI T3 2 1 0) 1 7 (nI 0)) (by decide)).trans c22, (zgP_nk (S := zwI (zwI T3 2 1 0) 1 7 (nI 0)) (by decide)).trans c23, (zgP_nk (S := zwI (zwI T3 2 1 0) 1 7 (nI 0)) (by decide)).trans c24⟩, c3, fun r hr => (zgP_ne (S := zwI (zwI T3 2 1 0) 1 7 (nI 0)) (by decide)).trans (c4 r hr), c5⟩
      have hR7 : ∀ r, r < 4 → zCr (zwI (zwP (zwI (zwI T3 2 1 0) 1 7 (nI 0)) 1 5 (zgn S + 1)) 93 5 0) (103 + 5 * r) (sR s r) := fun r hr => (h5.2.2.2.2.2.2.1 r hr).ag (fun j hj => ff6 _ (by omega) (by omega))
      have hTA5 := hTA3.ag (T := zwI (zwI T3 2 1 0) 1 7 (nI 0)) (fun j hj => ((zF.wI (X := fun c => c = 2 ∨ c = 1) (Or.inl rfl)).tr (zF.wI (Or.inr rfl))).ag (by omega))
      have hTt5 : zTt (zwI (zwI T3 2 1 0) 1 7 (nI 0)) (zgn S + 1) (w.2.2.1, w.2.2.2.1, [], (fun _ => (fun i => decide (i < w.2.2.2.2.1), w.2.2.2.2.2)), w.2.2.2.2.1, 0, 0, fun _ => 0) := ⟨so, si, sc, ol, hTA5, fun u hu => absurd hu (Nat.not_lt_zero u), fun u hu => absurd hu (Nat.not_lt_zero u)⟩
      refine j_aload_n (pc := 81) dX11_table_81 rfl ?_
      refine j_getPv (pc := 82) dX11_table_82 f_X11_33 (Or.inl ⟨_, rfl⟩) (by assumption) (h93) ?_
      refine j_iconst (pc := 85) (v := 0) dX11_table_85 (by decide) ?_
      refine j_putZ (pc := 86) dX11_table_86 f_X11_89 rfl (by first | assumption | decide) (by assumption) rfl ?_
      refine j_aload_n (pc := 89) dX11_table_89 rfl ?_
      refine j_callV (pc := 90) (mc2 := 0) (ms2 := 0) (t := 11) (c_dismiss h07 hR7) dX11_table_90 l_X11_93 mk_X11_dismissReaders mv_X11_dismissReaders (by decide) rfl (by assumption) (by decide) rfl rfl (Nat.le_of_ble_eq_true rfl) (Nat.le_of_ble_eq_true rfl) (Nat.le_of_ble_eq_true rfl) (fun r T8 h_1 => ?_)
      obtain ⟨rfl, f8, hR8⟩ := h_1
      have h68 : zgP (zwI (zwI T3 2 1 0) 1 7 (nI 0)) 6 8 = zgP S 6 8 := (hal 6 (by omega)).2.2.2 8
      have h8 := h5.told (a := zgn S + 1) (by omega) (by omega) (by show zgn S + 1 + 21 ≤ zgn T3; omega) hTt5 f8 hR8
      have k18 := h8.1.1
      have hTA8 := (hTA5.ag (fun j hj => ff6 _ (by omega) (by omega))).ag (T := T8) (fun j hj => f8.ag (by unfold zXR; omega))
      have kt8 := hTA8.1.1.1
      have kr8 := hTA8.2.2.2.2.1.1
      have rg := hTA8.2.2.2.2.1.2.2.2.2.2.2.2.2.2
      refine j_aload_n (pc := 93) dX11_table_93 rfl ?_
      refine j_aload_n (pc := 94) dX11_table_94 rfl ?_
      refine j_getPv (pc := 95) dX11_table_95 f_X11_96 (Or.inl ⟨_, rfl⟩) (by assumption) (hTA8.2.1.2.2.1) ?_
      refine j_getIv (pc := 98) dX11_table_98 f_X11_100 (Or.inl rfl) (by assumption) (hTA8.2.2.2.2.1.2.2.2.2.2.2.1) ?_
      refine j_callV (pc := 101) (mc2 := 0) (ms2 := 0) (t := 11) (c_answered k18 _) dX11_table_101 l_X11_103 mk_X11_answered mv_X11_answered (by decide) rfl (by assumption) (by decide) rfl rfl (Nat.le_of_ble_eq_true rfl) (Nat.le_of_ble_eq_true rfl) (Nat.le_of_ble_eq_true rfl) (fun r T h_1 => ?_)
      obtain ⟨rfl, rfl⟩ := h_1
      refine j_iret (pc := 104) dX11_table_104 rfl ?_
      have ez : q_table s (nI k) = (nI w.2.2.2.2.1, ([], (0, 0, sPl s), some (w.2.2.1, w.2.2.2.1, [], (fun _ => (fun i => decide (i < w.2.2.2.2.1), w.2.2.2.2.2)), w.2.2.2.2.1, 0, 0, fun _ => 0), none, fun _ => none)) := by
        rw [q_table, if_neg (bnf2 (zbi_ne0 h5')), hq]
      rw [ez]
      have hQ : zQF S T3 := ⟨by omega, fun c hc _ => hal c hc⟩
      have fA : zF zOM T3 (zwI (zwI T3 2 1 0) 1 7 (nI 0)) := (zF.wI (Or.inl (by decide))).tr (zF.wI (Or.inl (by decide)))
      have fB : zNF zOM (zwI (zwI T3 2 1 0) 1 7 (nI 0)) (zwI (zwP (zwI (zwI T3 2 1 0) 1 7 (nI 0)) 1 5 (zgn S + 1)) 93 5 0) := (zNF.wP (Or.inl (by decide))).tr (zF.wI (Or.inl (by decide))).nf
      exact ⟨by rw [fb_ct_lt _ _ rg], h8.no 0, ((hQ.tr fA.nf).tr (fB.tr (f8.mo (fun c z => by unfold zXR at z; exact Or.inl (by omega))).nf)).tr zQF.w1⟩
    · refine j_aload_n (pc := 8) dX11_table_8 rfl ?_
      refine j_iconst (pc := 9) (v := 2) dX11_table_9 (by decide) ?_
      refine j_callV (pc := 10) (mc2 := 24) (ms2 := 614) (t := 11) (c_refused k1 _) dX11_table_10 l_X11_68 mk_X11_refused mv_X11_refused (by decide) rfl (by assumption) (by decide) rfl rfl (Nat.le_of_ble_eq_true rfl) (Nat.le_of_ble_eq_true rfl) (Nat.le_of_ble_eq_true rfl) (fun r T h_1 => ?_)
      obtain ⟨rfl, rfl⟩ := h_1
      refine j_iret (pc := 13) dX11_table_13 rfl ?_
      exact q_ref h zQF.rf (by rw [q_table, if_pos (zbi_eq0.mp h5')])
