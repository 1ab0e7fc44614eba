theorem zCI.re {S T : zM} {s s' : zST} (h : zCI S s) (hg : zgn T = zgn S) (f : ∀ c, c = 1 ∨ c = 102 ∨ 161 ≤ c → zAg S T c) (eT : sT s' = sT s) (eI : s'.2.1 = s.2.1) (hF : zBy T 2 3 900 (sF s')) (hG : ∃ G, zBy T 4 5 900 G) (hV : zVW T) (h68 : zgP T 6 8 = zgP S 6 8) (hVI : ∀ a t, zVI S a t → zVI T a t) (hP : zCP T (sP s')) (hR : ∀ r, r < 4 → zCr T (103 + 5 * r) (sR s' r)) : zCI T s' := by
  obtain ⟨h0, -, -, ⟨i1, i2, i3⟩, ⟨-, hV2⟩, -, -, hT⟩ := h
  have f1 := f 1 (Or.inl rfl)
  refine ⟨h0.ag f1 (f 102 (Or.inr (Or.inl rfl))) (Nat.le_of_eq hg.symm), hF, hG, ⟨?_, ?_, ?_⟩, ⟨hV, by rw [h68, hg]; exact hV2⟩, hP, hR, ?_⟩
  · rw [sTr, eI]
    exact (f1.2.1 6).trans i1
  · rw [sFl, eI]
    exact (f1.2.1 7).trans i2
  · rw [sPl, eI]
    exact (f1.2.1 8).trans i3
  · rw [eT]
    generalize sT s = t at hT
    cases t with
    | none => exact (f1.2.2.2 5).trans hT
    | some t =>
      obtain ⟨a, h1, h2, h3, h4, h5⟩ := hT
      exact ⟨a, (f1.2.2.2 5).trans h1, h2, by rw [hg]; exact h3, h4.ag (fun k hk => f _ (Or.inr (Or.inr (by omega)))), hVI a t h5⟩
theorem zVW.six {S T : zM} (h : zVW S) (f : zF (fun c => c = 6) S T) : zVW T := by
  obtain ⟨q, t, gv, h0, hR⟩ := h
  have ha : ∀ c, c ≠ 6 → zAg S T c := fun c hc => f.ag hc
  have q12 : ∀ k, k < 40 → 12 ≤ q k := fun k hk => by obtain ⟨-, ⟨j, hj, e⟩, -⟩ := h0.2.1 k hk; omega
  refine ⟨q, t, gv, ⟨by rw [f.1, f.2.2.1]; exact h0.1, fun k hk => ⟨by rw [f.2.2.1]; exact (h0.2.1 k hk).1, (h0.2.1 k hk).2.1, ?_⟩, h0.2.2⟩, hR.ag (fun k hk => ha _ (by omega))⟩
  obtain ⟨-, -, L, hL⟩ := h0.2.1 k hk
  have := q12 k hk
  exact ⟨L, hL.ag (ha _ (by omega)) (ha _ (by omega))⟩
theorem zVI.six {S T : zM} {a : Nat} {t : zTB} (h : zVI S a t) (f : zF (fun c => c = 6) S T) (g : ∀ k, k ≠ 6 → k ≠ 7 → zgI T 6 k = zgI S 6 k) : zVI T a t := by
  intro q
  rw [f.2.2.1] at q
  obtain ⟨w, u, h1, h2, h3, h4, h5⟩ := h q
  exact ⟨w, u, (g 9 (by decide) (by decide)).trans h1, (g 10 (by decide) (by decide)).trans h2, h3, h4, fun e => (h5 e).six f g⟩
/-- a stretch is chosen -/
theorem zCI.six {S T : zM} {s : zST} {a b : Nat} (h : zCI S s) (f : zFE S T a b) : zCI T s := by
  obtain ⟨f1, f2, -⟩ := f
  have ff : ∀ c, c ≠ 6 → zAg S T c := fun c hc => f1.ag hc
  obtain ⟨h0, hF, ⟨G, hG⟩, hi, ⟨hV, hV2⟩, hP, hR, hT⟩ := _root_.id h
  exact h.re f1.2.1 (fun c hc => ff c (by omega)) rfl rfl (hF.ag (ff 2 (by decide)) (ff 3 (by decide))) ⟨G, hG.ag (ff 4 (by decide)) (ff 5 (by decide))⟩ (hV.six f1) (by rw [f1.2.2.1]) (fun a t g => g.six f1 f2) (hP.ag (fun c z1 z2 => ff c (by omega))) (fun r hr => (hR r hr).ag (fun k hk => ff _ (by omega)))
/-- the edge is written -/
theorem zCI.edge {S T : zM} {s : zST} {G : List Nat} (h : zCI S s) (f : zF (zAB 4 5) S T) (hG : zBy T 4 5 900 G) : zCI T s := by
  have ff : ∀ c, c ≠ 4 → c ≠ 5 → zAg S T c := fun c h1 h2 => f.ag (fun q => q.elim h1 h2)
  obtain ⟨h0, hF, -, hi, ⟨hV, hV2⟩, hP, hR, hT⟩ := _root_.id h
  exact h.re f.2.1 (fun c hc => ff c (by omega) (by omega)) rfl rfl (hF.ag (ff 2 (by decide) (by decide)) (ff 3 (by decide) (by decide))) ⟨G, hG⟩ (hV.ag (fun c z1 z2 => ff c (by omega) (by omega))) (by rw [f.2.2.1]) (fun a t g => g.ag (fun c z1 z2 => ff c (by omega) (by omega))) (hP.ag (fun c z1 z2 => ff c (by omega) (by omega))) (fun r hr => (hR r hr).ag (fun k hk => ff _ (by omega) (by omega)))
/-- the page is written -/
theorem zCI.pg {S T : zM} {s : zST} {P : Option zPGE} (h : zCI S s) (f : zF zXP S T) (hP : zCP T P) : zCI T (sF s, s.2.1, sT s, P, sR s) := by
  have ff : ∀ c, c < 93 ∨ 101 < c → zAg S T c := fun c hc => f.ag (by unfold zXP; omega)
  obtain ⟨h0, hF, ⟨G, hG⟩, hi, ⟨hV, hV2⟩, -, hR, hT⟩ := _root_.id h
  exact h.re f.2.1 (fun c hc => ff c (by omega)) rfl rfl (hF.ag (ff 2 (by decide)) (ff 3 (by decide))) ⟨G, hG.ag (ff 4 (by decide)) (ff 5 (by decide))⟩ (hV.ag (fun c z1 z2 => ff c (by omega))) (by rw [f.2.2.1]) (fun a t g => g.ag (fun c z1 z2 => ff c (by omega))) hP (fun r hr => (hR r hr).ag (fun k hk => ff _ (by omega)))
theorem zbfe (O : List zOe) (V : List zSe) (t : zRW) (F : List Nat) (z : Nat) (on : Bool) : zbf O V t F z on ≤ zbe O V t F z on ∧ zbe O V t F z on ≤ (zBB O V t).length ∧ zbe O V t F z on ≤ zbf O V t F z on + z := by
  have l1 := zTW_le (zBB O V t) (fun x => !zkl F (zkf O t x))
  have l2 := zTW_le (zBB O V t) (fun x => zkl (zkf O t x) F)
  unfold zbf zbe
  cases on
  · simp only [Bool.false_eq_true, if_false]
    omega
  · simp only [if_true]
    omega
theorem zFE.q {S T : zM} {a b : Nat} (f : zFE S T a b) : zQF S T := (f.1.mo (fun c z => Or.inl (by omega))).nf
theorem bnf2 {b : Bool} (h : b = true) : ¬ b = false := by rw [h]; decide
set_option maxRecDepth 20000 in
set_option maxHeartbeats 4000000 in
theorem p_step {E : zE} {S : zM} {s : zST} {n : Nat} (h : zCI S s) (hw : zWF n s) (x : Int32) (on : Bool) : zSp E 5 0 0 mX11_stepReader cX11_stepReader [zR 1, zI x, zI (zbi on)] S (fun r T => r = some (zI (q_step s x on).1) ∧ zCI T (q_step s x on).2 ∧ zQF S T) := by
  refine zSp.of (by decide) rfl (Nat.le_of_ble_eq_true rfl) rfl ?_
  obtain ⟨h0, hF, hG4, hi, hV, hP, hR, hT⟩ := _root_.id h
  have k1 := h0.1
  cases hz : zbeg s x with
  | false =>
    have e : q_step s x on = zrf s 1 := by
      rcases zbeg_f hz with g | ⟨t, g, g2 | ⟨g2, g3⟩⟩
      · simp only [q_step, g]
      · simp only [q_step, g]
        rw [if_pos g2]
      · simp only [q_step, g]
        rw [if_neg (by rw [g2]; decide), g3]
    refine j_aload_n (pc := 0) dX11_stepReader_0 rfl ?_
    refine j_iload_n (pc := 1) dX11_stepReader_1 rfl ?_
    refine j_callV (pc := 2) (t := 11) (c_hasBegun h _) dX11_stepReader_2 l_X11_246 mk_X11_hasBegun mv_X11_hasBegun (by decide) rfl (by assumption) (by decide) rfl rfl (Nat.le_of_ble_eq_true rfl) (Nat.le_refl _) (Nat.le_refl _) (fun r T h_1 => ?_)
    obtain ⟨rfl, rfl⟩ := h_1
    rw [hz]
    refine j_if_ne (pc := 5) (tgt := 14) dX11_stepReader_5 (by decide) (fun h5 => absurd rfl h5) (fun h5 => ?_)
    refine j_aload_n (pc := 8) dX11_stepReader_8 rfl ?_
    refine j_iconst (pc := 9) (v := 1) dX11_stepReader_9 (by decide) ?_
    refine j_callV (pc := 10) (t := 11) (c_refused k1 _) dX11_stepReader_10 l_X11_68 mk_X11_refused mv_X11_refused (by decide) rfl (by assumption) (by decide) rfl rfl (Nat.le_of_ble_eq_true rfl) (Nat.le_refl _) (Nat.le_refl _) (fun r T h_1 => ?_)
    obtain ⟨rfl, rfl⟩ := h_1
    refine j_iret (pc := 13) dX11_stepReader_13 rfl ?_
    exact q_ref h zQF.rf e
  | true =>
    obtain ⟨t, j, y, ht, hj, rfl, hy⟩ := zbeg_t hz
    have hcl : (nI j).toNatClampNeg = j := nI_clamp (by omega)
    have hc4 : ¬ zcl2 4 (nI j) = false := by rw [zcl2_nI hj (by decide)]; decide
    have hyn : sR s (zn (nI j)) = some y := by rw [zn, hcl]; exact hy
    have hRj := hR j hj
    rw [hy] at hRj
    have hRd : zRd S (103 + 5 * j) true y.1 y.2.1 y.2.2.1 y.2.2.2.1 y.2.2.2.2.1 y.2.2.2.2.2.1 y.2.2.2.2.2.2.1 y.2.2.2.2.2.2.2 := hRj
    have krd := hRd.1.1
    have k102 : zkd S 102 = (14 + 4, 4) := h0.2.2.1
    have pr := h0.2.2.2.1 j hj
    rw [ht] at hT
    obtain ⟨a, p5, a161, ag, hTt, hVI⟩ := hT
    obtain ⟨ka, q2, q3, q4, q5, q6, q1, i7, i8⟩ := hTt.d
    have k6 : zkd S 6 = (11, 0) := by obtain ⟨q, t0, g, h1, h2⟩ := hV.1; exact h1.1.1
    obtain ⟨so, si, sc, ol, hTA, hHi⟩ := hTt
    have hOr := hTA.2.2.1
    have hSv := hTA.2.2.2.1
    have hRo := hTA.2.2.2.2.1
    have hAc := hTA.2.2.2.2.2.1
    have kor := hOr.1.1
    have ksv := hSv.1.1
    have kro := hRo.1
    have kac := hAc.1.1
    have iv := hAc.2.2.1
    have hn : n ≤ 600 := Nat.le_of_lt hw.1
    have hwT := hw.2.2.2
    rw [ht] at hwT
    obtain ⟨hWt, hWp, hWr⟩ := hwT
    have hvr : zrv2 t y ≤ tv t := by
      have := (hWr j y hy).2.1
      rw [zrv2]
      split
      · exact this
      · exact Nat.le_refl _
    have hv600 := hWt.2.2.2.2.2.1.1
    have hsz := (hWr j y hy).1
    have hon := zbi_01 on
    refine j_aload_n (pc := 0) dX11_stepReader_0 rfl ?_
    refine j_iload_n (pc := 1) dX11_stepReader_1 rfl ?_
    refine j_callV (pc := 2) (t := 11) (c_hasBegun h _) dX11_stepReader_2 l_X11_246 mk_X11_hasBegun mv_X11_hasBegun (by decide) rfl (by assumption) (by decide) rfl rfl (Nat.le_of_ble_eq_true rfl) (Nat.le_refl _) (Nat.le_refl _) (fun r T h_1 => ?_)
    obtain ⟨rfl, rfl⟩ := h_1
    rw [hz]
    refine j_if_ne (pc := 5) (tgt := 14) dX11_stepReader_5 (by decide) (fun h5 => ?_) (fun h5 => absurd h5 (by decide))
    refine j_aload_n (pc := 14) dX11_stepReader_14 rfl ?_
    refine j_getPv (pc := 15) dX11_stepReader_15 f_X11_39 (Or.inr ⟨_, rfl⟩) (by assumption) (h0.2.1.2.2.2.2) ?_
    refine j_iload_n (pc := 18) dX11_stepReader_18 rfl ?_
    refine j_aaldn (pc := 19) (j := 4) dX11_stepReader_19 k102 (by decide) hj (by decide) pr ?_
    refine j_astore_n (pc := 20) (ls' := [_, _, _, _, _]) dX11_stepReader_20 (by decide) rfl rfl ?_
    refine j_aload_n (pc := 21) dX11_stepReader_21 rfl ?_
    refine j_getIv (pc := 22) dX11_stepReader_22 f_X11_359 (Or.inr rfl) (by assumption) (hRd.2.2.1.2.1) ?_
    refine j_if_eq (pc := 25) (tgt := 35) dX11_stepReader_25 (by decide) (fun h25 => ?_) (fun h25 => ?_)
    · refine j_aload_n (pc := 35) dX11_stepReader_35 rfl ?_
      refine j_getPv (pc := 36) dX11_stepReader_36 f_X11_44 (Or.inl ⟨_, rfl⟩) (by assumption) (p5) ?_
      refine j_getPv (pc := 39) dX11_stepReader_39 f_X11_119 (Or.inl ⟨_, rfl⟩) (by assumption) (q5) ?_
      refine j_getIv (pc := 42) dX11_stepReader_42 f_X11_123 (Or.inl rfl) (by assumption) (iv) ?_
      refine j_istore (pc := 45) (ls' := [_, _, _, _, _]) dX11_stepReader_45 (by decide) rfl rfl ?_
      refine j_aload_n (pc := 47) dX11_stepReader_47 rfl ?_
      refine j_getPv (pc := 48) dX11_stepReader_48 f_X11_44 (Or.inl ⟨_, rfl⟩) (by assumption) (p5) ?_
      refine j_getPv (pc := 51) dX11_stepReader_51 f_X11_119 (Or.inl ⟨_, rfl⟩) (by assumption) (q5) ?_
      refine j_iload (pc := 54) dX11_stepReader_54 rfl ?_
      refine j_callV (pc := 56) (t := 0) (c_canView hAc (nI (tv t))) dX11_stepReader_56 l_X11_166 mk_X0_canView mv_X0_canView (by decide) rfl (by assumption) (by decide) rfl rfl (Nat.le_of_ble_eq_true rfl) (Nat.le_refl _) (Nat.le_refl _) (fun r T h_1 => ?_)
      obtain ⟨rfl, rfl⟩ := h_1
      refine j_if_ne (pc := 59) (tgt := 69) dX11_stepReader_59 (by decide) (fun h59 => ?_) (fun h59 => ?_)
      · have ev : zrv2 t y = tv t := by rw [zrv2, zbi_eq0.mp h25]; rfl
        have hcv1 : zcv (tv t) (nI (zrv2 t y)) = true := by rw [ev]; exact zbi_ne0 h59
        have hcv : ¬ zcv (tv t) (nI (zrv2 t y)) = false := bnf2 hcv1
        rw [show nI (tv t) = nI (zrv2 t y) by rw [ev]]
        have hw2 : tv t ≤ zrv2 t y + 40 := by
          obtain ⟨w', e1, e2, e3⟩ := zcv_t (by omega) hcv1
          have := (nI_eq (by omega) (by omega)).mp e1
          omega
        refine j_aload_n (pc := 69) dX11_stepReader_69 rfl ?_
        refine j_getPv (pc := 70) dX11_stepReader_70 f_X11_26 (Or.inl ⟨_, rfl⟩) (by assumption) (h0.2.1.2.2.1) ?_
        refine j_aload_n (pc := 73) dX11_stepReader_73 rfl ?_
        refine j_getPv (pc := 74) dX11_stepReader_74 f_X11_44 (Or.inl ⟨_, rfl⟩) (by assumption) (p5) ?_
        refine j_iload (pc := 77) dX11_stepReader_77 rfl ?_
        refine j_callV (pc := 79) (t := 10) (c_showS (w := zrv2 t y) h ht hWt hn p5 hvr hw2) dX11_stepReader_79 l_X11_169 mk_X10_show mv_X10_show (by decide) rfl (by assumption) (by decide) rfl rfl (Nat.le_of_ble_eq_true rfl) (Nat.le_refl _) (Nat.le_refl _) (fun r T1 h_1 => ?_)
        obtain ⟨rfl, h2, hC, -, hG⟩ := h_1
        have ag2 : ∀ c, c < 6 ∨ 92 < c → zAg S T1 c := fun c hc => hG.2.2 c (by unfold zXV; omega)
        have hRd2 := hRd.ag (T := T1) (fun k hk => ag2 _ (by omega))
        have k11 := h2.1.1
        have k61 := hC.sh.1
        have krd2 := hRd2.1.1
        have p51 : zgP T1 1 5 = a := ((ag2 1 (by omega)).2.2.2 5).trans p5
        have hTA2 := hTA.ag (T := T1) (fun k hk => ag2 _ (by omega))
        refine j_aload_n (pc := 82) dX11_stepReader_82 rfl ?_
        refine j_getPv (pc := 83) dX11_stepReader_83 f_X11_26 (Or.inl ⟨_, rfl⟩) (by assumption) (h2.1.2.1.2.2.1) ?_
        refine j_aload_n (pc := 86) dX11_stepReader_86 rfl ?_
        refine j_getPv (pc := 87) dX11_stepReader_87 f_X11_363 (Or.inl ⟨_, rfl⟩) (by assumption) (hRd2.1.2.2.2.2.2) ?_
        refine j_aload_n (pc := 90) dX11_stepReader_90 rfl ?_
        refine j_getIv (pc := 91) dX11_stepReader_91 f_X11_366 (Or.inl rfl) (by assumption) (hRd2.2.2.1.2.2.2.1) ?_
        refine j_iload_n (pc := 94) dX11_stepReader_94 rfl ?_
        refine j_callV (pc := 95) (t := 10) (d_chooseBeside hC hRd2.2.1 (show y.2.2.1 < 2 ^ 20 by omega) on) dX11_stepReader_95 l_X11_348 mk_X10_chooseBeside mv_X10_chooseBeside (by decide) rfl (by assumption) (by decide) rfl rfl (Nat.le_of_ble_eq_true rfl) (Nat.le_refl _) (Nat.le_refl _) (fun r T2 h_1 => ?_)
        obtain ⟨rfl, fe⟩ := h_1
        have h3 := h2.six fe
        have hC3 := hC.six fe.1 fe.2.1
        have hRd3 := hRd2.ag (T := T2) (fun k hk => fe.1.ag (by omega))
        have hTA3 := hTA2.ag (T := T2) (fun k hk => fe.1.ag (by omega))
        obtain ⟨z1, z2, z3⟩ := zbfe (tO t) (tV t) (tH t (zrv2 t y)) y.2.2.2.2.2.2.2 y.2.2.1 on
        have k12 := h3.1.1
        have k62 := hC3.sh.1
        have krd3 := hRd3.1.1
        have ka3 := hTA3.1.1.1
        have kac3 := hTA3.2.2.2.2.2.1.1.1
        have p52 : zgP T2 1 5 = a := by rw [fe.1.2.2.1]; exact p51
        have q52 : zgP T2 a 5 = a + 16 := hTA3.2.1.2.2.2.1
        refine j_aload_n (pc := 98) dX11_stepReader_98 rfl ?_
        refine j_aload_n (pc := 99) dX11_stepReader_99 rfl ?_
        refine j_getPv (pc := 100) dX11_stepReader_100 f_X11_26 (Or.inl ⟨_, rfl⟩) (by assumption) (h3.1.2.1.2.2.1) ?_
        refine j_iload_n (pc := 103) dX11_stepReader_103 rfl ?_
        refine j_aload_n (pc := 104) dX11_stepReader_104 rfl ?_
        refine j_getPv (pc := 105) dX11_stepReader_105 f_X11_44 (Or.inl ⟨_, rfl⟩) (by assumption) (p52) ?_
        refine j_getPv (pc := 108) dX11_stepReader_108 f_X11_119 (Or.inl ⟨_, rfl⟩) (by assumption) (q52) ?_
        refine j_getIv (pc := 111) dX11_stepReader_111 f_X11_123 (Or.inl rfl) (by assumption) (hTA3.2.2.2.2.2.1.2.2.1) ?_
        refine j_callV (pc := 114) (t := 6) (d_take hC3 hRd3 (by omega) fe.2.2.1 fe.2.2.2 z1 z2 on) dX11_stepReader_114 l_X11_369 mk_X6_take mv_X6_take (by decide) rfl (by assumption) (by decide) rfl rfl (Nat.le_of_ble_eq_true rfl) (Nat.le_refl _) (Nat.le_refl _) (fun r T3 h_1 => ?_)
        obtain ⟨rfl, hRd4, f4⟩ := h_1
        have h4 := h3.rd (y := (zstep t y on).2) hj f4 hRd4
        have k13 := h4.1.1
        have k63 : zkd T3 6 = (11, 0) := by rw [f4.1]; exact k62
        have e7 : zgI T3 6 7 = nI _ := ((f4.ag (show ¬ zX5 (103 + 5 * j) 6 by unfold zX5; omega)).2.1 7).trans fe.2.2.2
        have e6 : zgI T3 6 6 = nI _ := ((f4.ag (show ¬ zX5 (103 + 5 * j) 6 by unfold zX5; omega)).2.1 6).trans fe.2.2.1
        refine j_aload_n (pc := 117) dX11_stepReader_117 rfl ?_
        refine j_aload_n (pc := 118) dX11_stepReader_118 rfl ?_
        refine j_getPv (pc := 119) dX11_stepReader_119 f_X11_26 (Or.inl ⟨_, rfl⟩) (by assumption) (h4.1.2.1.2.2.1) ?_
        refine j_getIv (pc := 122) dX11_stepReader_122 f_X11_373 (Or.inl rfl) (by assumption) (e7) ?_
        refine j_aload_n (pc := 125) dX11_stepReader_125 rfl ?_
        refine j_getPv (pc := 126) dX11_stepReader_126 f_X11_26 (Or.inl ⟨_, rfl⟩) (by assumption) (h4.1.2.1.2.2.1) ?_
        refine j_getIv (pc := 129) dX11_stepReader_129 f_X11_376 (Or.inl rfl) (by assumption) (e6) ?_
        refine j_isub (pc := 132) dX11_stepReader_132 ?_
        refine j_callV (pc := 133) (t := 11) (c_answered k13 _) dX11_stepReader_133 l_X11_103 mk_X11_answered mv_X11_answered (by decide) rfl (by assumption) (by decide) rfl rfl (Nat.le_of_ble_eq_true rfl) (Nat.le_refl _) (Nat.le_refl _) (fun r T h_1 => ?_)
        obtain ⟨rfl, rfl⟩ := h_1
        refine j_iret (pc := 136) dX11_stepReader_136 rfl ?_
        have ez : q_step s (nI j) on = (nI (zstep t y on).1, (sF s, (0, s.2.1.2), sT s, sP s, va_up (sR s) j (some (zstep t y on).2))) := by
          simp only [q_step, ht]
          rw [if_neg hc4, hyn]
          simp only []
          rw [if_neg hcv, zn, hcl]
        rw [ez]
        rw [pk_sub z1]
        exact ⟨rfl, h4.no 0, ((hG.q.tr fe.q).tr (zQF.x5 hj f4)).tr zQF.w1⟩
      · refine j_aload_n (pc := 62) dX11_stepReader_62 rfl ?_
        refine j_bipush (pc := 63) (v := 8) dX11_stepReader_63 (by decide) ?_
        refine j_callV (pc := 65) (t := 11) (c_refused k1 _) dX11_stepReader_65 l_X11_68 mk_X11_refused mv_X11_refused (by decide) rfl (by assumption) (by decide) rfl rfl (Nat.le_of_ble_eq_true rfl) (Nat.le_refl _) (Nat.le_refl _) (fun r T h_1 => ?_)
        obtain ⟨rfl, rfl⟩ := h_1
        refine j_iret (pc := 68) dX11_stepReader_68 rfl ?_
        exact q_ref h zQF.rf (by simp only [q_step, ht]; rw [if_neg hc4, hyn]; simp only []; rw [if_pos (by rw [zrv2, zbi_eq0.mp h25]; exact zbi_eq0.mp h59)])
    · refine j_aload_n (pc := 28) dX11_stepReader_28 rfl ?_
      refine j_getIv (pc := 29) dX11_stepReader_29 f_X11_362 (Or.inl rfl) (by assumption) (hRd.2.2.1.2.2.2.2.1) ?_
      refine j_goto (pc := 32) (tgt := 45) dX11_stepReader_32 (by decide) ?_
      refine j_istore (pc := 45) (ls' := [_, _, _, _, _]) dX11_stepReader_45 (by decide) rfl rfl ?_
      refine j_aload_n (pc := 47) dX11_stepReader_47 rfl ?_
      refine j_getPv (pc := 48) dX11_stepReader_48 f_X11_44 (Or.inl ⟨_, rfl⟩) (by assumption) (p5) ?_
      refine j_getPv (pc := 51) dX11_stepReader_51 f_X11_119 (Or.inl ⟨_, rfl⟩) (by assumption) (q5) ?_
      refine j_iload (pc := 54) dX11_stepReader_54 rfl ?_
      refine j_callV (pc := 56) (t := 0) (c_canView hAc (nI y.2.2.2.1)) dX11_stepReader_56 l_X11_166 mk_X0_canView mv_X0_canView (by decide) rfl (by assumption) (by decide) rfl rfl (Nat.le_of_ble_eq_true rfl) (Nat.le_refl _) (Nat.le_refl _) (fun r T h_1 => ?_)
      obtain ⟨rfl, rfl⟩ := h_1
      refine j_if_ne (pc := 59) (tgt := 69) dX11_stepReader_59 (by decide) (fun h59 => ?_) (fun h59 => ?_)
      · have ev : zrv2 t y = y.2.2.2.1 := by rw [zrv2, zbi_ne0 h25]; rfl
        have hcv1 : zcv (tv t) (nI (zrv2 t y)) = true := by rw [ev]; exact zbi_ne0 h59
        have hcv : ¬ zcv (tv t) (nI (zrv2 t y)) = false := bnf2 hcv1
        rw [show nI (y.2.2.2.1) = nI (zrv2 t y) by rw [ev]]
        have hw2 : tv t ≤ zrv2 t y + 40 := by
          obtain ⟨w', e1, e2, e3⟩ := zcv_t (by omega) hcv1
          have := (nI_eq (by omega) (by omega)).mp e1
          omega
        refine j_aload_n (pc := 69) dX11_stepReader_69 rfl ?_
        refine j_getPv (pc := 70) dX11_stepReader_70 f_X11_26 (Or.inl ⟨_, rfl⟩) (by assumption) (h0.2.1.2.2.1) ?_
        refine j_aload_n (pc := 73) dX11_stepReader_73 rfl ?_
        refine j_getPv (pc := 74) dX11_stepReader_74 f_X11_44 (Or.inl ⟨_, rfl⟩) (by assumption) (p5) ?_
        refine j_iload (pc := 77) dX11_stepReader_77 rfl ?_
        refine j_callV (pc := 79) (t := 10) (c_showS (w := zrv2 t y) h ht hWt hn p5 hvr hw2) dX11_stepReader_79 l_X11_169 mk_X10_show mv_X10_show (by decide) rfl (by assumption) (by decide) rfl rfl (Nat.le_of_ble_eq_true rfl) (Nat.le_refl _) (Nat.le_refl _) (fun r T1 h_1 => ?_)
        obtain ⟨rfl, h2, hC, -, hG⟩ := h_1
        have ag2 : ∀ c, c < 6 ∨ 92 < c → zAg S T1 c := fun c hc => hG.2.2 c (by unfold zXV; omega)
        have hRd2 := hRd.ag (T := T1) (fun k hk => ag2 _ (by omega))
        have k11 := h2.1.1
        have k61 := hC.sh.1
        have krd2 := hRd2.1.1
        have p51 : zgP T1 1 5 = a := ((ag2 1 (by omega)).2.2.2 5).trans p5
        have hTA2 := hTA.ag (T := T1) (fun k hk => ag2 _ (by omega))
        refine j_aload_n (pc := 82) dX11_stepReader_82 rfl ?_
        refine j_getPv (pc := 83) dX11_stepReader_83 f_X11_26 (Or.inl ⟨_, rfl⟩) (by assumption) (h2.1.2.1.2.2.1) ?_
        refine j_aload_n (pc := 86) dX11_stepReader_86 rfl ?_
        refine j_getPv (pc := 87) dX11_stepReader_87 f_X11_363 (Or.inl ⟨_, rfl⟩) (by assumption) (hRd2.1.2.2.2.2.2) ?_
        refine j_aload_n (pc := 90) dX11_stepReader_90 rfl ?_
        refine j_getIv (pc := 91) dX11_stepReader_91 f_X11_366 (Or.inl rfl) (by assumption) (hRd2.2.2.1.2.2.2.1) ?_
        refine j_iload_n (pc := 94) dX11_stepReader_94 rfl ?_
        refine j_callV (pc := 95) (t := 10) (d_chooseBeside hC hRd2.2.1 (show y.2.2.1 < 2 ^ 20 by omega) on) dX11_stepReader_95 l_X11_348 mk_X10_chooseBeside mv_X10_chooseBeside (by decide) rfl (by assumption) (by decide) rfl rfl (Nat.le_of_ble_eq_true rfl) (Nat.le_refl _) (Nat.le_refl _) (fun r T2 h_1 => ?_)
        obtain ⟨rfl, fe⟩ := h_1
        have h3 := h2.six fe
        have hC3 := hC.six fe.1 fe.2.1
        have hRd3 := hRd2.ag (T := T2) (fun k hk => fe.1.ag (by omega))
        have hTA3 := hTA2.ag (T := T2) (fun k hk => fe.1.ag (by omega))
        obtain ⟨z1, z2, z3⟩ := zbfe (tO t) (tV t) (tH t (zrv2 t y)) y.2.2.2.2.2.2.2 y.2.2.1 on
        have k12 := h3.1.1
        have k62 := hC3.sh.1
        have krd3 := hRd3.1.1
        have ka3 := hTA3.1.1.1
        have kac3 := hTA3.2.2.2.2.2.1.1.1
        have p52 : zgP T2 1 5 = a := by rw [fe.1.2.2.1]; exact p51
        have q52 : zgP T2 a 5 = a + 16 := hTA3.2.1.2.2.2.1
        refine j_aload_n (pc := 98) dX11_stepReader_98 rfl ?_
        refine j_aload_n (pc := 99) dX11_stepReader_99 rfl ?_
        refine j_getPv (pc := 100) dX11_stepReader_100 f_X11_26 (Or.inl ⟨_, rfl⟩) (by assumption) (h3.1.2.1.2.2.1) ?_
        refine j_iload_n (pc := 103) dX11_stepReader_103 rfl ?_
        refine j_aload_n (pc := 104) dX11_stepReader_104 rfl ?_
        refine j_getPv (pc := 105) dX11_stepReader_105 f_X11_44 (Or.inl ⟨_, rfl⟩) (by assumption) (p52) ?_
        refine j_getPv (pc := 108) dX11_stepReader_108 f_X11_119 (Or.inl ⟨_, rfl⟩) (by assumption) (q52) ?_
        refine j_getIv (pc := 111) dX11_stepReader_111 f_X11_123 (Or.inl rfl) (by assumption) (hTA3.2.2.2.2.2.1.2.2.1) ?_
        refine j_callV (pc := 114) (t := 6) (d_take hC3 hRd3 (by omega) fe.2.2.1 fe.2.2.2 z1 z2 on) dX11_stepReader_114 l_X11_369 mk_X6_take mv_X6_take (by decide) rfl (by assumption) (by decide) rfl rfl (Nat.le_of_ble_eq_true rfl) (Nat.le_refl _) (Nat.le_refl _) (fun r T3 h_1 => ?_)
        obtain ⟨rfl, hRd4, f4⟩ := h_1
        have h4 := h3.rd (y := (zstep t y on).2) hj f4 hRd4
        have k13 := h4.1.1
        have k63 : zkd T3 6 = (11, 0) := by rw [f4.1]; exact k62
        have e7 : zgI T3 6 7 = nI _ := ((f4.ag (show ¬ zX5 (103 + 5 * j) 6 by unfold zX5; omega)).2.1 7).trans fe.2.2.2
        have e6 : zgI T3 6 6 = nI _ := ((f4.ag (show ¬ zX5 (103 + 5 * j) 6 by unfold zX5; omega)).2.1 6).trans fe.2.2.1
        refine j_aload_n (pc := 117) dX11_stepReader_117 rfl ?_
        refine j_aload_n (pc := 118) dX11_stepReader_118 rfl ?_
        refine j_getPv (pc := 119) dX11_stepReader_119 f_X11_26 (Or.inl ⟨_, rfl⟩) (by assumption) (h4.1.2.1.2.2.1) ?_
        refine j_getIv (pc := 122) dX11_stepReader_122 f_X11_373 (Or.inl rfl) (by assumption) (e7) ?_
        refine j_aload_n (pc := 125) dX11_stepReader_125 rfl ?_
        refine j_getPv (pc := 126) dX11_stepReader_126 f_X11_26 (Or.inl ⟨_, rfl⟩) (by assumption) (h4.1.2.1.2.2.1) ?_
        refine j_getIv (pc := 129) dX11_stepReader_129 f_X11_376 (Or.inl rfl) (by assumption) (e6) ?_
        refine j_isub (pc := 132) dX11_stepReader_132 ?_
        refine j_callV (pc := 133) (t := 11) (c_answered k13 _) dX11_stepReader_133 l_X11_103 mk_X11_answered mv_X11_answered (by decide) rfl (by assumption) (by decide) rfl rfl (Nat.le_of_ble_eq_true rfl) (Nat.le_refl _) (Nat.le_refl _) (fun r T h_1 => ?_)
        obtain ⟨rfl, rfl⟩ := h_1
        refine j_iret (pc := 136) dX11_stepReader_136 rfl ?_
        have ez : q_step s (nI j) on = (nI (zstep t y on).1, (sF s, (0, s.2.1.2), sT s, sP s, va_up (sR s) j (some (zstep t y on).2))) := by
          simp only [q_step, ht]
          rw [if_neg hc4, hyn]
          simp only []
          rw [if_neg hcv, zn, hcl]
        rw [ez]
        rw [pk_sub z1]
        exact ⟨rfl, h4.no 0, ((hG.q.tr fe.q).tr (zQF.x5 hj f4)).tr zQF.w1⟩
      · refine j_aload_n (pc := 62) dX11_stepReader_62 rfl ?_
        refine j_bipush (pc := 63) (v := 8) dX11_stepReader_63 (by decide) ?_
        refine j_callV (pc := 65) (t := 11) (c_refused k1 _) dX11_stepReader_65 l_X11_68 mk_X11_refused mv_X11_refused (by decide) rfl (by assumption) (by decide) rfl rfl (Nat.le_of_ble_eq_true rfl) (Nat.le_refl _) (Nat.le_refl _) (fun r T h_1 => ?_)
        obtain ⟨rfl, rfl⟩ := h_1
        refine j_iret (pc := 68) dX11_stepReader_68 rfl ?_
        exact q_ref h zQF.rf (by simp only [q_step, ht]; rw [if_neg hc4, hyn]; simp only []; rw [if_pos (by rw [zrv2, zbi_ne0 h25]; exact zbi_eq0.mp h59)])
set_option maxRecDepth 20000 in
set_option maxHeartbeats 4000000 in
theorem p_on {E : zE} {S : zM} {s : zST} {n : Nat} (h : zCI S s) (hw : zWF n s) (x : Int32) : zSp E 6 0 0 mX11_on cX11_on [zR 1, zI x] S (fun r T => r = some (zI (q_step s x true).1) ∧ zCI T (q_step s x true).2 ∧ zQF S T) := by
  refine zSp.of (by decide) rfl (Nat.le_of_ble_eq_true rfl) rfl ?_
  obtain ⟨h0, hF, hG4, hi, hV, hP, hR, hT⟩ := _root_.id h
  have k1 := h0.1
  refine j_aload_n (pc := 0) dX11_on_0 rfl ?_
  refine j_iload_n (pc := 1) dX11_on_1 rfl ?_
  refine j_iconst (pc := 2) (v := 1) dX11_on_2 (by decide) ?_
  refine j_callV (pc := 3) (t := 11) (p_step h hw x true) dX11_on_3 l_X11_243 mk_X11_stepReader mv_X11_stepReader (by decide) rfl (by assumption) (by decide) rfl rfl (Nat.le_of_ble_eq_true rfl) (Nat.le_refl _) (Nat.le_refl _) (fun r T h_1 => ?_)
  obtain ⟨rfl, h2, h3⟩ := h_1
  refine j_iret (pc := 6) dX11_on_6 rfl ?_
  exact ⟨rfl, h2, h3⟩
set_option maxRecDepth 20000 in
set_option maxHeartbeats 4000000 in
theorem p_back {E : zE} {S : zM} {s : zST} {n : Nat} (h : zCI S s) (hw : zWF n s) (x : Int32) : zSp E 6 0 0 mX11_back cX11_back [zR 1, zI x] S (fun r T => r = some (zI (q_step s x false).1) ∧ zCI T (q_step s x false).2 ∧ zQF S T) := by
  refine zSp.of (by decide) rfl (Nat.le_of_ble_eq_true rfl) rfl ?_
  obtain ⟨h0, hF, hG4, hi, hV, hP, hR, hT⟩ := _root_.id h
  have k1 := h0.1
  refine j_aload_n (pc := 0) dX11_back_0 rfl ?_
  refine j_iload_n (pc := 1) dX11_back_1 rfl ?_
  refine j_iconst (pc := 2) (v := 0) dX11_back_2 (by decide) ?_
  refine j_callV (pc := 3) (t := 11) (p_step h hw x false) dX11_back_3 l_X11_243 mk_X11_stepReader mv_X11_stepReader (by decide) rfl (by assumption) (by decide) rfl rfl (Nat.le_of_ble_eq_true rfl) (Nat.le_refl _) (Nat.le_refl _) (fun r T h_1 => ?_)
  obtain ⟨rfl, h2, h3⟩ := h_1
  refine j_iret (pc := 6) dX11_back_6 rfl ?_
  exact ⟨rfl, h2, h3⟩
