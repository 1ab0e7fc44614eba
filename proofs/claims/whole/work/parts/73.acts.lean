/-- the table is written -/
theorem zCI.tab {S T : zM} {s : zST} {t t' : zTB} {a : Nat} {R' : Nat → Option zRDR} (h : zCI S s) (ht : sT s = some t) (p5 : zgP S 1 5 = a) (f : zF (fun c => (a ≤ c ∧ c ≤ a + 21) ∨ zXR c) S T) (hT' : zTt T a t') (hv : zVI S a t → zVI T a t') (hR' : ∀ r, r < 4 → zCr T (103 + 5 * r) (R' r)) : zCI T (sF s, s.2.1, some t', sP s, R') := by
  obtain ⟨h0, hF, ⟨G, hG⟩, ⟨i1, i2, i3⟩, ⟨hV, hV2⟩, hP, hR, hT⟩ := h
  rw [ht] at hT
  obtain ⟨a', p5', a161, ag, hTt, hVI⟩ := hT
  have ea : a' = a := p5'.symm.trans p5
  subst ea
  have ff : ∀ c, c < 103 → zAg S T c := fun c hc => f.ag (by unfold zXR; omega)
  have f1 := ff 1 (by decide)
  exact ⟨h0.ag f1 (ff 102 (by decide)) (Nat.le_of_eq f.2.1.symm), hF.ag (ff 2 (by decide)) (ff 3 (by decide)), ⟨G, hG.ag (ff 4 (by decide)) (ff 5 (by decide))⟩, ⟨(f1.2.1 6).trans i1, (f1.2.1 7).trans i2, (f1.2.1 8).trans i3⟩, ⟨hV.ag (fun c z1 z2 => ff c (by omega)), by rw [f.2.1, f.2.2.1]; exact hV2⟩, hP.ag (fun c z1 z2 => ff c (by omega)), hR', ⟨a', (f1.2.2.2 5).trans p5, a161, by rw [f.2.1]; exact ag, hT', hv hVI⟩⟩
theorem zTA.act {S T : zM} {a : Nat} {K : List Bool} {O : List zOe} {V : List zSe} {t t' : zRW} {g g' : Nat} {so si sc so' si' sc' : Nat → Nat} {ol ol' : Nat → Int64} {v v' tn : Nat} {tc tc' : Nat → Nat} (h : zTA S a K O V t g so si sc ol v tn tc) (f : zF (fun c => a + 13 ≤ c ∧ c ≤ a + 21) S T) (hR : zRo T (a + 13) t'.1 t'.2 g') (hA : zAc T (a + 16) so' si' sc' ol' v') (hc : ∀ i, i < 64 → zgI T (a + 21) i = nI (tc' i)) : zTA T a K O V t' g' so' si' sc' ol' v' tn tc' := by
  obtain ⟨⟨hk, i7, i8, e1⟩, hp, hO, hV, -, -, ⟨k21, e21⟩, h8, h9⟩ := h
  have ff : ∀ c, c < a + 13 → zAg S T c := fun c hc => f.ag (by omega)
  have fa := ff a (by omega)
  exact ⟨⟨by rw [f.1, f.2.2.1]; exact hk, (fa.2.1 7).trans i7, i8, fun i b hb => ((ff (a + 2) (by omega)).2.1 i).trans (e1 i b hb)⟩, by rw [f.2.2.1]; exact hp, hO.ag (fun k _ => ff _ (by omega)), hV.ag (fun k _ => ff _ (by omega)), hR, hA, ⟨by rw [f.1]; exact k21, hc⟩, (fa.2.1 8).trans h8, h9⟩
theorem zHi.act {so si sc : Nat → Nat} {ol : Nat → Int64} {v : Nat} {ch ch' : Nat → zRW} {x i j : Nat} {w : Int64} (h : zHi so si sc ol v ch) (hch : ∀ u, u ≤ v → v ≤ u + 40 → ch' u = ch u) (hinv : (if x = 2 then ((ch' (v + 1)).1, zu2 (ch' (v + 1)).2 i j w) else (va_up (ch' (v + 1)).1 i (decide (x = 1)), (ch' (v + 1)).2)) = ch v) : zHi (va_up so (v % 40) x) (va_up si (v % 40) i) (va_up sc (v % 40) j) (va_up ol (v % 40) w) (v + 1) ch' := by
  intro u hu hv
  by_cases e : u = v
  · subst e
    rw [hch u (Nat.le_refl _) (Nat.le_add_right _ _), zinv]
    simp only [va_up, if_true]
    exact hinv
  · have hne : u % 40 ≠ v % 40 := by omega
    have := h u (by omega) (by omega)
    rw [hch u (by omega) (by omega), hch (u + 1) (by omega) (by omega), ← this]
    unfold zinv
    simp only [va_up, if_neg hne]
theorem zVI.act {S T : zM} {a : Nat} {t t' : zTB} (h : zVI S a t) (f : ∀ c, 6 ≤ c → c ≤ 92 → zAg S T c) (hO : tO t' = tO t) (hV : tV t' = tV t) (hn : tn t' = tn t) (hv : tv t ≤ tv t') (hH : ∀ w, w ≤ tv t → zeq (tH t w) (tH t' w)) : zVI T a t' := by
  intro q
  have f6 := f 6 (by decide) (by decide)
  obtain ⟨w, u, h1, h2, h3, h4, h5⟩ := h ((f6.2.2.2 8).symm.trans q)
  refine ⟨w, u, (f6.2.1 9).trans h1, (f6.2.1 10).trans h2, Nat.le_trans h3 hv, by rw [hn]; exact h4, fun e => ?_⟩
  rw [hO, hV]
  exact ((h5 (e.trans hn)).ag f).eq (hH w h3)
theorem zVI.turned {S T : zM} {a : Nat} {t t' : zTB} (h : zVI S a t) (f : ∀ c, 6 ≤ c → c ≤ 92 → zAg S T c) (hn : tn t' = tn t + 1) (hv : tv t' = tv t) : zVI T a t' := by
  intro q
  have f6 := f 6 (by decide) (by decide)
  obtain ⟨w, u, h1, h2, h3, h4, h5⟩ := h ((f6.2.2.2 8).symm.trans q)
  exact ⟨w, u, (f6.2.1 9).trans h1, (f6.2.1 10).trans h2, by rw [hv]; exact h3, by rw [hn]; omega, fun e => by rw [hn] at e; omega⟩
theorem zWt.act {n : Nat} {t : zTB} {W : zRW} {g : Nat} {c : Nat → Nat} (h : zWt n t) (hg : tG t ≤ g) (hg2 : g ≤ 64) (h1 : ∀ i, g ≤ i → W.1 i = false) (h2 : fb_ct W.1 64 ≤ 40) (h3 : ∀ i k b, W.1 i = true → (tK t)[k]? = some b → zch b (W.2 i k) = true) (h4 : ∀ i, c i ≤ tv t + 1) : zWt (n + 1) (zact t W g c) := by
  obtain ⟨w1, w2, w3, w4, ⟨w5, w6⟩, ⟨w7, w8⟩, w9⟩ := h
  refine ⟨w1, w2, w3, w4, ⟨hg2, fun u hu => ?_⟩, ⟨Nat.succ_le_succ w7, Nat.le_succ_of_le w8⟩, h4⟩
  by_cases e : u = tv t + 1
  · have eh : tH (zact t W g c) u = W := if_pos e
    rw [eh]
    exact ⟨h1, h2, h3⟩
  · have hu' : u ≤ tv t := by
      have : u ≤ tv t + 1 := hu
      omega
    have eh : tH (zact t W g c) u = tH t u := if_neg e
    rw [eh]
    exact ⟨fun i hi => (w6 u hu').1 i (Nat.le_trans hg hi), (w6 u hu').2⟩
theorem zact_W (t : zTB) (W : zRW) (g : Nat) (c : Nat → Nat) : tH (zact t W g c) (tv t + 1) = W := if_pos rfl
theorem zact_o (t : zTB) (W : zRW) (g : Nat) (c : Nat → Nat) {u : Nat} (h : u ≤ tv t) : tH (zact t W g c) u = tH t u := if_neg (by omega)
theorem va_up_up {α : Type} (f : Nat → α) (k : Nat) (v w : α) : va_up (va_up f k v) k w = va_up f k w := bx_uu f k v w
theorem va_up_id {α : Type} {f : Nat → α} {k : Nat} {v : α} (h : f k = v) : va_up f k v = f := by
  funext j
  unfold va_up
  split
  · rename_i e
    rw [e, h]
  · rfl
theorem zu2_id {vl : Nat → Nat → Int64} {i j : Nat} (v : Int64) : zu2 (zu2 vl i j v) i j (vl i j) = vl := by
  funext k l
  unfold zu2
  split
  · rename_i e
    rw [e.1, e.2]
  · rfl
theorem zF.tabq {S T : zM} {a : Nat} (ha : 161 ≤ a) (f : zF (fun c => (a ≤ c ∧ c ≤ a + 21) ∨ zXR c) S T) : zQF S T := (f.mo (fun c z => by unfold zXR at z; unfold zOM; omega)).nf
theorem si_up {si : Nat → Nat} {v i g g' : Nat} (h : ∀ u, u < v → v ≤ u + 40 → si (u % 40) < g) (hg : g ≤ g') (hi : i < g') : ∀ u, u < v + 1 → v + 1 ≤ u + 40 → va_up si (v % 40) i (u % 40) < g' := by
  intro u hu hv
  unfold va_up
  by_cases e : u % 40 = v % 40
  · rw [if_pos e]
    exact hi
  · rw [if_neg e]
    have := h u (by omega) (by omega)
    omega
set_option maxRecDepth 20000 in
set_option maxHeartbeats 4000000 in
theorem p_remove {E : zE} {S : zM} {s : zST} {n : Nat} (h : zCI S s) (hw : zWF n s) (x : Int32) : zSp E 2 0 0 mX11_remove cX11_remove [zR 1, zI x] S (fun r T => r = some (zI (q_remove s x).1) ∧ zCI T (q_remove s x).2 ∧ zQF S T) := by
  refine zSp.of (by decide) rfl (Nat.le_of_ble_eq_true rfl) rfl ?_
  obtain ⟨h0, hF, hG4, hi, hV, hP, hR, hT⟩ := _root_.id h
  have k1 := h0.1
  cases hz : zrow s x with
  | false =>
    have e : q_remove s x = zrf s 1 := by
      unfold q_remove
      split
      · rfl
      · rename_i t ht
        rw [zrow_s ht] at hz
        simp [hz]
    refine j_aload_n (pc := 0) dX11_remove_0 rfl ?_
    refine j_iload_n (pc := 1) dX11_remove_1 rfl ?_
    refine j_callV (pc := 2) (t := 11) (c_isRow h _) dX11_remove_2 l_X11_151 mk_X11_isRow mv_X11_isRow (by decide) rfl (by assumption) (by decide) rfl rfl (Nat.le_of_ble_eq_true rfl) (Nat.le_refl _) (Nat.le_refl _) (fun r T h_1 => ?_)
    obtain ⟨rfl, rfl⟩ := h_1
    rw [hz]
    refine j_if_ne (pc := 5) (tgt := 14) dX11_remove_5 (by decide) (fun h5 => absurd rfl h5) (fun h5 => ?_)
    refine j_aload_n (pc := 8) dX11_remove_8 rfl ?_
    refine j_iconst (pc := 9) (v := 1) dX11_remove_9 (by decide) ?_
    refine j_callV (pc := 10) (t := 11) (c_refused k1 _) dX11_remove_10 l_X11_68 mk_X11_refused mv_X11_refused (by decide) rfl (by assumption) (by decide) rfl rfl (Nat.le_of_ble_eq_true rfl) (Nat.le_refl _) (Nat.le_refl _) (fun r T h_1 => ?_)
    obtain ⟨rfl, rfl⟩ := h_1
    refine j_iret (pc := 13) dX11_remove_13 rfl ?_
    exact q_ref h zQF.rf e
  | true =>
    obtain ⟨t, j, ht, hj, rfl, hjr⟩ := zrow_t hz
    have hjt : zth (tW t).1 (nI j) = true := by rw [zth_nI _ hj]; exact hjr
    have hcl : (nI j).toNatClampNeg = j := nI_clamp (by omega)
    rw [ht] at hT
    obtain ⟨a, p5, a161, ag, hTt, hVI⟩ := hT
    obtain ⟨ka, q2, q3, q4, q5, q6, q1, i7, i8⟩ := hTt.d
    have k6 : zkd S 6 = (11, 0) := by obtain ⟨q, t0, g, h1, h2⟩ := hV.1; exact h1.1.1
    obtain ⟨so, si, sc, ol, hTA, hHi⟩ := hTt
    have hOr := hTA.2.2.1
    have hSv := hTA.2.2.2.1
    have hRo := hTA.2.2.2.2.1
    have hAc := hTA.2.2.2.2.2.1
    have kor := hOr.1.1
    have ksv := hSv.1.1
    have kro := hRo.1
    have kac := hAc.1.1
    have iv := hAc.2.2.1
    have hn : n ≤ 600 := Nat.le_of_lt hw.1
    have hwT := hw.2.2.2
    rw [ht] at hwT
    obtain ⟨hWt, hWp, hWr⟩ := hwT
    have hv600 := hWt.2.2.2.2.2.1.1
    refine j_aload_n (pc := 0) dX11_remove_0 rfl ?_
    refine j_iload_n (pc := 1) dX11_remove_1 rfl ?_
    refine j_callV (pc := 2) (t := 11) (c_isRow h _) dX11_remove_2 l_X11_151 mk_X11_isRow mv_X11_isRow (by decide) rfl (by assumption) (by decide) rfl rfl (Nat.le_of_ble_eq_true rfl) (Nat.le_refl _) (Nat.le_refl _) (fun r T h_1 => ?_)
    obtain ⟨rfl, rfl⟩ := h_1
    rw [hz]
    refine j_if_ne (pc := 5) (tgt := 14) dX11_remove_5 (by decide) (fun h5 => ?_) (fun h5 => absurd h5 (by decide))
    refine j_aload_n (pc := 14) dX11_remove_14 rfl ?_
    refine j_getPv (pc := 15) dX11_remove_15 f_X11_44 (Or.inl ⟨_, rfl⟩) (by assumption) (p5) ?_
    refine j_getPv (pc := 18) dX11_remove_18 f_X11_96 (Or.inl ⟨_, rfl⟩) (by assumption) (q4) ?_
    refine j_iload_n (pc := 21) dX11_remove_21 rfl ?_
    refine j_iconst (pc := 22) (v := 0) dX11_remove_22 (by decide) ?_
    refine j_callV (pc := 23) (t := 7) (c_set hRo hj false) dX11_remove_23 l_X11_273 mk_X7_set mv_X7_set (by decide) rfl (by assumption) (by decide) rfl rfl (Nat.le_of_ble_eq_true rfl) (Nat.le_refl _) (Nat.le_refl _) (fun r Ta h_1 => ?_)
    obtain ⟨rfl, hRa, fa⟩ := h_1
    have k1a : zkd Ta 1 = (12, 0) := by rw [fa.1]; exact k1
    have kaa : zkd Ta a = (10, 0) := by rw [fa.1]; exact ka
    have p5a : zgP Ta 1 5 = a := by rw [fa.2.2.1]; exact p5
    have q5a : zgP Ta a 5 = a + 16 := by rw [fa.2.2.1]; exact q5
    have hAa := hAc.keep fa (by omega)
    have kaca := hAa.1.1
    refine j_aload_n (pc := 26) dX11_remove_26 rfl ?_
    refine j_getPv (pc := 27) dX11_remove_27 f_X11_44 (Or.inl ⟨_, rfl⟩) (by assumption) (p5a) ?_
    refine j_getPv (pc := 30) dX11_remove_30 f_X11_119 (Or.inl ⟨_, rfl⟩) (by assumption) (q5a) ?_
    refine j_iconst (pc := 33) (v := 1) dX11_remove_33 (by decide) ?_
    refine j_iload_n (pc := 34) dX11_remove_34 rfl ?_
    refine j_iconst (pc := 35) (v := 0) dX11_remove_35 (by decide) ?_
    refine j_lconst (pc := 36) (v := 0) dX11_remove_36 (by decide) ?_
    refine j_callV (pc := 37) (t := 0) (c_note (x := 1) (i := j) (j := 0) hAa 0 (by decide) hj (by decide) (by omega)) dX11_remove_37 l_X11_269 mk_X0_note mv_X0_note (by decide) rfl (by assumption) (by decide) rfl rfl (Nat.le_of_ble_eq_true rfl) (Nat.le_refl _) (Nat.le_refl _) (fun r Tb h_1 => ?_)
    obtain ⟨rfl, hAb, fb⟩ := h_1
    have fab : zF (fun c => a + 13 ≤ c ∧ c ≤ a + 21) S Tb := (fa.mo (fun c z => by omega)).tr (fb.mo (fun c z => by unfold zX5 at z; omega))
    have hRb := hRa.keep fb (by unfold zX5; omega) (by unfold zX5; omega) (by unfold zX5; omega)
    have k1b : zkd Tb 1 = (12, 0) := by rw [fab.1]; exact k1
    have kab : zkd Tb a = (10, 0) := by rw [fab.1]; exact ka
    have krb := hRb.1
    have p5b : zgP Tb 1 5 = a := by rw [fab.2.2.1]; exact p5
    have q4b : zgP Tb a 4 = a + 13 := by rw [fab.2.2.1]; exact q4
    have hjg : j < tG t := Nat.lt_of_not_le (fun q => by have := (hWt.2.2.2.2.1.2 (tv t) (Nat.le_refl _)).1 j q; rw [hjr] at this; cases this)
    have hTt' : zTt Tb a (zact t (va_up (tW t).1 j false, (tW t).2) (tG t) (tc t)) := by
      refine ⟨_, _, _, _, hTA.act (t' := tW (zact t (va_up (tW t).1 j false, (tW t).2) (tG t) (tc t))) fab (by rw [show tW (zact t (va_up (tW t).1 j false, (tW t).2) (tG t) (tc t)) = _ from zact_W _ _ _ _]; exact hRb) hAb (fun i hi => ((fb.2.2.2.1 _ (by unfold zX5; omega) i).trans (fa.2.2.2.1 _ (by omega) i)).trans (hTA.2.2.2.2.2.2.1.2 i hi)), hHi.1.act (fun u hu _ => zact_o _ _ _ _ hu) ?_, si_up hHi.2 (Nat.le_refl _) hjg⟩
      rw [zact_W, if_neg (by decide)]
      show (va_up (va_up (tW t).1 j false) j true, (tW t).2) = tW t
      rw [va_up_up, va_up_id hjr]
    have fz := fab.mo (Y := fun c => (a ≤ c ∧ c ≤ a + 21) ∨ zXR c) (fun c z => Or.inl (by omega))
    have h2 := h.tab ht p5 fz hTt' (fun g => g.act (fun c z1 z2 => fab.ag (by omega)) rfl rfl rfl (Nat.le_succ _) (fun w hw => by rw [zact_o _ _ _ _ hw]; exact zeq.rf)) (fun r hr => (hR r hr).ag (fun k hk => fab.ag (by omega)))
    refine j_aload_n (pc := 40) dX11_remove_40 rfl ?_
    refine j_aload_n (pc := 41) dX11_remove_41 rfl ?_
    refine j_getPv (pc := 42) dX11_remove_42 f_X11_44 (Or.inl ⟨_, rfl⟩) (by assumption) (p5b) ?_
    refine j_getPv (pc := 45) dX11_remove_45 f_X11_96 (Or.inl ⟨_, rfl⟩) (by assumption) (q4b) ?_
    refine j_getIv (pc := 48) dX11_remove_48 f_X11_100 (Or.inl rfl) (by assumption) (hRb.2.2.2.2.2.2.1) ?_
    refine j_callV (pc := 51) (t := 11) (c_answered k1b _) dX11_remove_51 l_X11_103 mk_X11_answered mv_X11_answered (by decide) rfl (by assumption) (by decide) rfl rfl (Nat.le_of_ble_eq_true rfl) (Nat.le_refl _) (Nat.le_refl _) (fun r T h_1 => ?_)
    obtain ⟨rfl, rfl⟩ := h_1
    refine j_iret (pc := 54) dX11_remove_54 rfl ?_
    have ez : q_remove s (nI j) = (nI (fb_ct (va_up (tW t).1 j false) 64), (sF s, (0, s.2.1.2), some (zact t (va_up (tW t).1 j false, (tW t).2) (tG t) (tc t)), sP s, sR s)) := by
      simp only [q_remove, ht]
      rw [if_pos hjt]
      simp only [zn, hcl]
    rw [ez]
    exact ⟨rfl, h2.no 0, (fz.tabq a161).tr zQF.w1⟩
