theorem zWt_chg {n : Nat} {t : zTB} {j jc : Nat} {v : Int64} {b : Bool} (h : zWt n t) (hj : (tW t).1 j = true) (hb : (tK t)[jc]? = some b) (hv : zch b v = true) : zWt (n + 1) (zchg t j jc v) := by
  have h6 := h.2.2.2.2.1.2 (tv t) (Nat.le_refl _)
  refine h.act (Nat.le_refl _) h.2.2.2.2.1.1 h6.1 h6.2.1 (fun i k b' hi hb' => ?_) (fun i => ?_)
  · show zch b' (zu2 (tW t).2 j jc v i k) = true
    unfold zu2
    by_cases e : i = j ∧ k = jc
    · rw [if_pos e]
      rw [e.2, hb] at hb'
      cases hb'
      exact hv
    · rw [if_neg e]
      exact h6.2.2 i k b' hi hb'
  · show va_up (tc t) j (tv t + 1) i ≤ tv t + 1
    unfold va_up
    split
    · exact Nat.le_refl _
    · exact Nat.le_succ_of_le (h.2.2.2.2.2.2 i)
set_option maxRecDepth 20000 in
set_option maxHeartbeats 4000000 in
theorem p_change {E : zE} {S : zM} {s : zST} {n : Nat} (h : zCI S s) (hw : zWF n s) (x c : Int32) (v : Int64) : zSp E 7 0 0 mX11_change cX11_change [zR 1, zI x, zI c, zL v] S (fun r T => r = some (zI (q_change s x c v).1) ∧ zCI T (q_change s x c v).2 ∧ zQF S T) := by
  refine zSp.of (by decide) rfl (Nat.le_of_ble_eq_true rfl) rfl ?_
  obtain ⟨h0, hF, hG4, hi, hV, hP, hR, hT⟩ := _root_.id h
  have k1 := h0.1
  cases hz : zrow s x with
  | false =>
    have e : q_change s x c v = zrf s 1 := by
      unfold q_change
      split
      · rfl
      · rename_i t ht
        rw [zrow_s ht] at hz
        simp [hz]
    refine j_aload_n (pc := 0) dX11_change_0 rfl ?_
    refine j_iload_n (pc := 1) dX11_change_1 rfl ?_
    refine j_callV (pc := 2) (t := 11) (c_isRow h _) dX11_change_2 l_X11_151 mk_X11_isRow mv_X11_isRow (by decide) rfl (by assumption) (by decide) rfl rfl (Nat.le_of_ble_eq_true rfl) (Nat.le_refl _) (Nat.le_refl _) (fun r T h_1 => ?_)
    obtain ⟨rfl, rfl⟩ := h_1
    rw [hz]
    refine j_if_eq (pc := 5) (tgt := 16) dX11_change_5 (by decide) (fun h5 => ?_) (fun h5 => absurd rfl h5)
    refine j_aload_n (pc := 16) dX11_change_16 rfl ?_
    refine j_iconst (pc := 17) (v := 1) dX11_change_17 (by decide) ?_
    refine j_callV (pc := 18) (t := 11) (c_refused k1 _) dX11_change_18 l_X11_68 mk_X11_refused mv_X11_refused (by decide) rfl (by assumption) (by decide) rfl rfl (Nat.le_of_ble_eq_true rfl) (Nat.le_refl _) (Nat.le_refl _) (fun r T h_1 => ?_)
    obtain ⟨rfl, rfl⟩ := h_1
    refine j_iret (pc := 21) dX11_change_21 rfl ?_
    exact q_ref h zQF.rf e
  | true =>
    obtain ⟨t, j, ht, hj, rfl, hjr⟩ := zrow_t hz
    have hjt : zth (tW t).1 (nI j) = true := by rw [zth_nI _ hj]; exact hjr
    have hcl : (nI j).toNatClampNeg = j := nI_clamp (by omega)
    rw [ht] at hT
    obtain ⟨a, p5, a161, ag, hTt, hVI⟩ := hT
    obtain ⟨ka, q2, q3, q4, q5, q6, q1, i7, i8⟩ := hTt.d
    have k6 : zkd S 6 = (11, 0) := by obtain ⟨q, t0, g, h1, h2⟩ := hV.1; exact h1.1.1
    obtain ⟨so, si, sc, ol, hTA, hHi⟩ := hTt
    have hOr := hTA.2.2.1
    have hSv := hTA.2.2.2.1
    have hRo := hTA.2.2.2.2.1
    have hAc := hTA.2.2.2.2.2.1
    have kor := hOr.1.1
    have ksv := hSv.1.1
    have kro := hRo.1
    have kac := hAc.1.1
    have iv := hAc.2.2.1
    have hn : n ≤ 600 := Nat.le_of_lt hw.1
    have hwT := hw.2.2.2
    rw [ht] at hwT
    obtain ⟨hWt, hWp, hWr⟩ := hwT
    have hv600 := hWt.2.2.2.2.2.1.1
    refine j_aload_n (pc := 0) dX11_change_0 rfl ?_
    refine j_iload_n (pc := 1) dX11_change_1 rfl ?_
    refine j_callV (pc := 2) (t := 11) (c_isRow h _) dX11_change_2 l_X11_151 mk_X11_isRow mv_X11_isRow (by decide) rfl (by assumption) (by decide) rfl rfl (Nat.le_of_ble_eq_true rfl) (Nat.le_refl _) (Nat.le_refl _) (fun r T h_1 => ?_)
    obtain ⟨rfl, rfl⟩ := h_1
    rw [hz]
    refine j_if_eq (pc := 5) (tgt := 16) dX11_change_5 (by decide) (fun h5 => absurd h5 (by decide)) (fun h5 => ?_)
    refine j_aload_n (pc := 8) dX11_change_8 rfl ?_
    refine j_iload_n (pc := 9) dX11_change_9 rfl ?_
    refine j_callV (pc := 10) (t := 11) (c_isColumn h c) dX11_change_10 l_X11_135 mk_X11_isColumn mv_X11_isColumn (by decide) rfl (by assumption) (by decide) rfl rfl (Nat.le_of_ble_eq_true rfl) (Nat.le_refl _) (Nat.le_refl _) (fun r T h_1 => ?_)
    obtain ⟨rfl, rfl⟩ := h_1
    have hzc := zcol_s ht c
    refine j_if_ne (pc := 13) (tgt := 22) dX11_change_13 (by decide) (fun h13 => ?_) (fun h13 => ?_)
    · obtain ⟨t2, jc, ht2, hjc, rfl, hK4⟩ := zcol_t hw (zbi_ne0 h13)
      rw [ht] at ht2
      cases ht2
      have hcc : (nI jc).toNatClampNeg = jc := nI_clamp (by omega)
      have hKb := gD false hjc
      rw [zbi_ne0 h13] at hzc
      refine j_aload_n (pc := 22) dX11_change_22 rfl ?_
      refine j_getPv (pc := 23) dX11_change_23 f_X11_44 (Or.inl ⟨_, rfl⟩) (by assumption) (p5) ?_
      refine j_iload_n (pc := 26) dX11_change_26 rfl ?_
      refine j_lload_n (pc := 27) dX11_change_27 rfl ?_
      refine j_callV (pc := 28) (t := 9) (c_canHold hTA.1 hKb v) dX11_change_28 l_X11_209 mk_X9_canHold mv_X9_canHold (by decide) rfl (by assumption) (by decide) rfl rfl (Nat.le_of_ble_eq_true rfl) (Nat.le_refl _) (Nat.le_refl _) (fun r T h_1 => ?_)
      obtain ⟨rfl, rfl⟩ := h_1
      refine j_if_ne (pc := 31) (tgt := 40) dX11_change_31 (by decide) (fun h31 => ?_) (fun h31 => ?_)
      · refine j_aload_n (pc := 40) dX11_change_40 rfl ?_
        refine j_getPv (pc := 41) dX11_change_41 f_X11_44 (Or.inl ⟨_, rfl⟩) (by assumption) (p5) ?_
        refine j_getPv (pc := 44) dX11_change_44 f_X11_119 (Or.inl ⟨_, rfl⟩) (by assumption) (q5) ?_
        refine j_iconst (pc := 47) (v := 2) dX11_change_47 (by decide) ?_
        refine j_iload_n (pc := 48) dX11_change_48 rfl ?_
        refine j_iload_n (pc := 49) dX11_change_49 rfl ?_
        refine j_aload_n (pc := 50) dX11_change_50 rfl ?_
        refine j_getPv (pc := 51) dX11_change_51 f_X11_44 (Or.inl ⟨_, rfl⟩) (by assumption) (p5) ?_
        refine j_getPv (pc := 54) dX11_change_54 f_X11_96 (Or.inl ⟨_, rfl⟩) (by assumption) (q4) ?_
        refine j_iload_n (pc := 57) dX11_change_57 rfl ?_
        refine j_iload_n (pc := 58) dX11_change_58 rfl ?_
        refine j_callV (pc := 59) (t := 7) (c_read hRo hj (show jc < 4 by omega)) dX11_change_59 l_X11_158 mk_X7_read mv_X7_read (by decide) rfl (by assumption) (by decide) rfl rfl (Nat.le_of_ble_eq_true rfl) (Nat.le_refl _) (Nat.le_refl _) (fun r T h_1 => ?_)
        obtain ⟨rfl, rfl⟩ := h_1
        refine j_callV (pc := 62) (t := 0) (c_note (x := 2) (i := j) (j := jc) hAc ((tW t).2 j jc) (by decide) hj (by omega) (by omega)) dX11_change_62 l_X11_269 mk_X0_note mv_X0_note (by decide) rfl (by assumption) (by decide) rfl rfl (Nat.le_of_ble_eq_true rfl) (Nat.le_refl _) (Nat.le_refl _) (fun r Ta h_1 => ?_)
        obtain ⟨rfl, hAa, fa⟩ := h_1
        have k1a : zkd Ta 1 = (12, 0) := by rw [fa.1]; exact k1
        have kaa : zkd Ta a = (10, 0) := by rw [fa.1]; exact ka
        have k21a : zkd Ta (a + 21) = (14, 64) := by rw [fa.1]; exact hTA.2.2.2.2.2.2.1.1
        have p5a : zgP Ta 1 5 = a := by rw [fa.2.2.1]; exact p5
        have q4a : zgP Ta a 4 = a + 13 := by rw [fa.2.2.1]; exact q4
        have q5a : zgP Ta a 5 = a + 16 := by rw [fa.2.2.1]; exact q5
        have q6a : zgP Ta a 6 = a + 21 := by rw [fa.2.2.1]; exact q6
        have hRa := hRo.keep fa (by unfold zX5; omega) (by unfold zX5; omega) (by unfold zX5; omega)
        have kra := hRa.1
        have kaca := hAa.1.1
        have iva := hAa.2.2.1
        refine j_aload_n (pc := 65) dX11_change_65 rfl ?_
        refine j_getPv (pc := 66) dX11_change_66 f_X11_44 (Or.inl ⟨_, rfl⟩) (by assumption) (p5a) ?_
        refine j_getPv (pc := 69) dX11_change_69 f_X11_96 (Or.inl ⟨_, rfl⟩) (by assumption) (q4a) ?_
        refine j_iload_n (pc := 72) dX11_change_72 rfl ?_
        refine j_iload_n (pc := 73) dX11_change_73 rfl ?_
        refine j_lload_n (pc := 74) dX11_change_74 rfl ?_
        refine j_callV (pc := 75) (t := 7) (c_write hRa hj (show jc < 4 by omega) v) dX11_change_75 l_X11_265 mk_X7_write mv_X7_write (by decide) rfl (by assumption) (by decide) rfl rfl (Nat.le_of_ble_eq_true rfl) (Nat.le_refl _) (Nat.le_refl _) (fun r T h_1 => ?_)
        obtain ⟨rfl, rfl⟩ := h_1
        refine j_aload_n (pc := 78) dX11_change_78 rfl ?_
        refine j_getPv (pc := 79) dX11_change_79 f_X11_44 (Or.inl ⟨_, rfl⟩) (by assumption) (p5a) ?_
        refine j_getPv (pc := 82) dX11_change_82 f_X11_277 (Or.inr ⟨_, rfl⟩) (by assumption) (q6a) ?_
        refine j_iload_n (pc := 85) dX11_change_85 rfl ?_
        refine j_aload_n (pc := 86) dX11_change_86 rfl ?_
        refine j_getPv (pc := 87) dX11_change_87 f_X11_44 (Or.inl ⟨_, rfl⟩) (by assumption) (p5a) ?_
        refine j_getPv (pc := 90) dX11_change_90 f_X11_119 (Or.inl ⟨_, rfl⟩) (by assumption) (q5a) ?_
        refine j_getIv (pc := 93) dX11_change_93 f_X11_123 (Or.inl rfl) (by assumption) (iva) ?_
        refine j_iastn (pc := 96) dX11_change_96 k21a hj (by decide) ?_
        have fb : zF (fun c => a + 13 ≤ c ∧ c ≤ a + 21) S (zwI (zwL Ta (a + 13 + 2) (j * 4 + jc) v) (a + 21) j (nI (tv t + 1))) := ((fa.mo (fun c z => by unfold zX5 at z; omega)).tr (zF.wL (by omega))).tr (zF.wI (by omega))
        have f9 : zF (fun c => c = a + 15 ∨ c = a + 21) Ta (zwI (zwL Ta (a + 13 + 2) (j * 4 + jc) v) (a + 21) j (nI (tv t + 1))) := (zF.wL (Or.inl (by omega))).tr (zF.wI (Or.inr rfl))
        have hRb := (hRa.write hj (show jc < 4 by omega) v).keep (zF.wI (X := fun c => c = a + 21) (a := a + 21) (k := j) (v := nI (tv t + 1)) rfl) (by omega) (by omega) (by omega)
        have hjg : j < tG t := Nat.lt_of_not_le (fun q => by have := (hWt.2.2.2.2.1.2 (tv t) (Nat.le_refl _)).1 j q; rw [hjr] at this; cases this)
        have hTt' : zTt (zwI (zwL Ta (a + 13 + 2) (j * 4 + jc) v) (a + 21) j (nI (tv t + 1))) a (zchg t j jc v) := by
          refine ⟨_, _, _, _, hTA.act (t' := tW (zchg t j jc v)) fb (by rw [show tW (zchg t j jc v) = _ from zact_W _ _ _ _]; exact hRb) (hAa.keep f9 (by omega)) (fun i hi => ?_), hHi.1.act (fun u hu _ => zact_o _ _ _ _ hu) ?_, si_up hHi.2 (Nat.le_refl _) hjg⟩
          · show _ = nI (va_up (tc t) j (tv t + 1) i)
            rw [zgI_wI]
            unfold va_up
            by_cases g : i = j
            · rw [if_pos ⟨rfl, g⟩, if_pos g]
            · rw [if_neg (fun z => g z.2), if_neg g]
              exact (fa.2.2.2.1 _ (by unfold zX5; omega) i).trans (hTA.2.2.2.2.2.2.1.2 i hi)
          · rw [zact_W, if_pos rfl]
            show ((tW t).1, zu2 (zu2 (tW t).2 j jc v) j jc ((tW t).2 j jc)) = tW t
            rw [zu2_id]
        have fz := fb.mo (Y := fun c => (a ≤ c ∧ c ≤ a + 21) ∨ zXR c) (fun c z => Or.inl (by omega))
        have h2 := h.tab ht p5 fz hTt' (fun g => g.act (fun c z1 z2 => fb.ag (by omega)) rfl rfl rfl (Nat.le_succ _) (fun w hw => by rw [zact_o _ _ _ _ hw]; exact zeq.rf)) (fun r hr => (hR r hr).ag (fun k hk => fb.ag (by omega)))
        have hWt2 := zWt_chg hWt hjr hKb (zbi_ne0 h31)
        have k12 := h2.1.1
        refine j_aload_n (pc := 97) dX11_change_97 rfl ?_
        refine j_aload_n (pc := 98) dX11_change_98 rfl ?_
        refine j_iload_n (pc := 99) dX11_change_99 rfl ?_
        refine j_callV (pc := 100) (t := 11) (c_rankNow h2 rfl hWt2 (by have := hw.1; omega) hj) dX11_change_100 l_X11_187 mk_X11_rankNow mv_X11_rankNow (by decide) rfl (by assumption) (by decide) rfl rfl (Nat.le_of_ble_eq_true rfl) (Nat.le_refl _) (Nat.le_refl _) (fun r Td h_1 => ?_)
        obtain ⟨rfl, h3, hG⟩ := h_1
        have k13 := h3.1.1
        refine j_callV (pc := 103) (t := 11) (c_answered k13 _) dX11_change_103 l_X11_103 mk_X11_answered mv_X11_answered (by decide) rfl (by assumption) (by decide) rfl rfl (Nat.le_of_ble_eq_true rfl) (Nat.le_refl _) (Nat.le_refl _) (fun r T h_1 => ?_)
        obtain ⟨rfl, rfl⟩ := h_1
        refine j_iret (pc := 106) dX11_change_106 rfl ?_
        have ez : q_change s (nI j) (nI jc) v = (zpo (tA (zchg t j jc v)) j, (sF s, (0, s.2.1.2), some (zchg t j jc v), sP s, sR s)) := by
          simp only [q_change, ht]
          rw [if_pos ⟨hjt, hzc.symm⟩]
          simp only [zn, hcl, hcc]
          rw [if_pos (zbi_ne0 h31)]
        rw [ez]
        exact ⟨rfl, h3.no 0, ((fz.tabq a161).tr hG.q).tr zQF.w1⟩
      · refine j_aload_n (pc := 34) dX11_change_34 rfl ?_
        refine j_iconst (pc := 35) (v := 2) dX11_change_35 (by decide) ?_
        refine j_callV (pc := 36) (t := 11) (c_refused k1 _) dX11_change_36 l_X11_68 mk_X11_refused mv_X11_refused (by decide) rfl (by assumption) (by decide) rfl rfl (Nat.le_of_ble_eq_true rfl) (Nat.le_refl _) (Nat.le_refl _) (fun r T h_1 => ?_)
        obtain ⟨rfl, rfl⟩ := h_1
        refine j_iret (pc := 39) dX11_change_39 rfl ?_
        exact q_ref h zQF.rf (by simp only [q_change, ht]; rw [if_pos ⟨hjt, hzc.symm⟩, zn, hcc, if_neg (bnf (zbi_eq0.mp h31))])
    · refine j_aload_n (pc := 16) dX11_change_16 rfl ?_
      refine j_iconst (pc := 17) (v := 1) dX11_change_17 (by decide) ?_
      refine j_callV (pc := 18) (t := 11) (c_refused k1 _) dX11_change_18 l_X11_68 mk_X11_refused mv_X11_refused (by decide) rfl (by assumption) (by decide) rfl rfl (Nat.le_of_ble_eq_true rfl) (Nat.le_refl _) (Nat.le_refl _) (fun r T h_1 => ?_)
      obtain ⟨rfl, rfl⟩ := h_1
      refine j_iret (pc := 21) dX11_change_21 rfl ?_
      rw [zbi_eq0.mp h13] at hzc
      exact q_ref h zQF.rf (by simp only [q_change, ht]; rw [if_neg (fun g => bnf hzc.symm g.2)])
theorem zSv.clear {S : zM} {a : Nat} {V : List zSe} (h : zSv S a V) : zSv (zwI S a 4 0) a [] := by
  obtain ⟨hk, hp, i1, i2, e1⟩ := h
  exact ⟨hk, hp, zgI_self, Nat.zero_le _, fun i c hc => absurd hc (by simp)⟩
theorem zTA.sv {S T : zM} {a : Nat} {K : List Bool} {O O' : List zOe} {V V' : List zSe} {t : zRW} {g : Nat} {so si sc : Nat → Nat} {ol : Nat → Int64} {v tn : Nat} {tc : Nat → Nat} (h : zTA S a K O V t g so si sc ol v tn tc) (f : zF (fun c => a + 3 ≤ c ∧ c < a + 13) S T) (hO : zOr T (a + 3) O') (hV : zSv T (a + 8) V') : zTA T a K O' V' t g so si sc ol v tn tc := by
  obtain ⟨⟨hk, i7, i8, e1⟩, hp, -, -, hR, hA, ⟨k21, e21⟩, h8, h9⟩ := h
  have ff : ∀ c, c < a + 3 ∨ a + 13 ≤ c → zAg S T c := fun c hc => f.ag (by omega)
  have fa := ff a (by omega)
  exact ⟨⟨by rw [f.1, f.2.2.1]; exact hk, (fa.2.1 7).trans i7, i8, fun i b hb => ((ff (a + 2) (by omega)).2.1 i).trans (e1 i b hb)⟩, by rw [f.2.2.1]; exact hp, hO, hV, hR.ag (fun k _ => ff _ (by omega)), hA.ag (fun k _ => ff _ (by omega)), ⟨by rw [f.1]; exact k21, fun i hi => ((ff (a + 21) (by omega)).2.1 i).trans (e21 i hi)⟩, (fa.2.1 8).trans h8, h9⟩
set_option maxRecDepth 20000 in
set_option maxHeartbeats 4000000 in
theorem p_clear {E : zE} {S : zM} {s : zST} {n : Nat} (h : zCI S s) (hw : zWF n s)  : zSp E 2 0 0 mX11_clear cX11_clear [zR 1] S (fun r T => r = some (zI (q_clear s).1) ∧ zCI T (q_clear s).2 ∧ zQF S T) := by
  refine zSp.of (by decide) rfl (Nat.le_of_ble_eq_true rfl) rfl ?_
  obtain ⟨h0, hF, hG4, hi, hV, hP, hR, hT⟩ := _root_.id h
  have k1 := h0.1
  cases ht : sT s with
  | none =>
    rw [ht] at hT
    have p5 : zgP S 1 5 = 0 := hT
    refine j_aload_n (pc := 0) dX11_clear_0 rfl ?_
    refine j_getPv (pc := 1) dX11_clear_1 f_X11_44 (Or.inl ⟨_, rfl⟩) (by assumption) (p5) ?_
    refine j_ifnonnull (pc := 4) (tgt := 13) dX11_clear_4 (by decide) (fun h4 => absurd rfl h4) (fun h4 => ?_)
    refine j_aload_n (pc := 7) dX11_clear_7 rfl ?_
    refine j_iconst (pc := 8) (v := 1) dX11_clear_8 (by decide) ?_
    refine j_callV (pc := 9) (t := 11) (c_refused k1 _) dX11_clear_9 l_X11_68 mk_X11_refused mv_X11_refused (by decide) rfl (by assumption) (by decide) rfl rfl (Nat.le_of_ble_eq_true rfl) (Nat.le_refl _) (Nat.le_refl _) (fun r T h_1 => ?_)
    obtain ⟨rfl, rfl⟩ := h_1
    refine j_iret (pc := 12) dX11_clear_12 rfl ?_
    exact q_ref h zQF.rf (by rw [q_clear, ht])
  | some t =>
    rw [ht] at hT
    obtain ⟨a, p5, a161, ag, hTt, hVI⟩ := hT
    obtain ⟨ka, q2, q3, q4, q5, q6, q1, i7, i8⟩ := hTt.d
    have k6 : zkd S 6 = (11, 0) := by obtain ⟨q, t0, g, h1, h2⟩ := hV.1; exact h1.1.1
    obtain ⟨so, si, sc, ol, hTA, hHi⟩ := hTt
    have hOr := hTA.2.2.1
    have hSv := hTA.2.2.2.1
    have hRo := hTA.2.2.2.2.1
    have hAc := hTA.2.2.2.2.2.1
    have kor := hOr.1.1
    have ksv := hSv.1.1
    have kro := hRo.1
    have kac := hAc.1.1
    have iv := hAc.2.2.1
    have hn : n ≤ 600 := Nat.le_of_lt hw.1
    have hwT := hw.2.2.2
    rw [ht] at hwT
    obtain ⟨hWt, hWp, hWr⟩ := hwT
    have ht600 := hWt.2.2.2.2.2.1.2
    refine j_aload_n (pc := 0) dX11_clear_0 rfl ?_
    refine j_getPv (pc := 1) dX11_clear_1 f_X11_44 (Or.inl ⟨_, rfl⟩) (by assumption) (p5) ?_
    refine j_ifnonnull (pc := 4) (tgt := 13) dX11_clear_4 (by decide) (fun h4 => ?_) (fun h4 => absurd h4 (by omega))
    refine j_aload_n (pc := 13) dX11_clear_13 rfl ?_
    refine j_getPv (pc := 14) dX11_clear_14 f_X11_44 (Or.inl ⟨_, rfl⟩) (by assumption) (p5) ?_
    refine j_getPv (pc := 17) dX11_clear_17 f_X11_294 (Or.inl ⟨_, rfl⟩) (by assumption) (q3) ?_
    refine j_getIv (pc := 20) dX11_clear_20 f_X11_298 (Or.inl rfl) (by assumption) (hSv.2.2.1) ?_
    refine j_istore_n (pc := 23) (ls' := [_, _]) dX11_clear_23 (by decide) rfl rfl ?_
    refine j_aload_n (pc := 24) dX11_clear_24 rfl ?_
    refine j_getPv (pc := 25) dX11_clear_25 f_X11_44 (Or.inl ⟨_, rfl⟩) (by assumption) (p5) ?_
    refine j_getPv (pc := 28) dX11_clear_28 f_X11_294 (Or.inl ⟨_, rfl⟩) (by assumption) (q3) ?_
    refine j_iconst (pc := 31) (v := 0) dX11_clear_31 (by decide) ?_
    refine j_putI (pc := 32) dX11_clear_32 f_X11_298 rfl (by assumption) rfl ?_
    have ft : zF (fun c => a + 3 ≤ c ∧ c < a + 13) S (zwI S (a + 8) 4 0) := zF.wI (by omega)
    have hTA0 := hTA.sv ft (hOr.ag (fun k hk => (zF.wI (X := fun c => c = a + 8) rfl).ag (by omega))) hSv.clear
    have h00 : zC0 (zwI S (a + 8) 4 0) := h0.ag (ft.ag (by omega)) (ft.ag (by omega)) (Nat.le_of_eq ft.2.1.symm)
    have hR0 : ∀ r, r < 4 → zCr (zwI S (a + 8) 4 0) (103 + 5 * r) (sR s r) := fun r hr => (hR r hr).ag (fun k hk => ft.ag (by omega))
    have p50 : zgP (zwI S (a + 8) 4 0) 1 5 = a := by rw [ft.2.2.1]; exact p5
    have k10 := h00.1
    refine j_aload_n (pc := 35) dX11_clear_35 rfl ?_
    refine j_callV (pc := 36) (t := 11) (c_turned h00 hR0 p50 a161 hTA0 (by omega)) dX11_clear_36 l_X11_287 mk_X11_turned mv_X11_turned (by decide) rfl (by assumption) (by decide) rfl rfl (Nat.le_of_ble_eq_true rfl) (Nat.le_refl _) (Nat.le_refl _) (fun r Tz h_1 => ?_)
    obtain ⟨rfl, hTA1, hR1, f1⟩ := h_1
    have fz : zF (fun c => (a ≤ c ∧ c ≤ a + 21) ∨ zXR c) S Tz := (ft.mo (fun c z => Or.inl (by omega))).tr (f1.mo (fun c z => z.elim (fun e => Or.inl (by omega)) Or.inr))
    have hTt' : zTt Tz a (tK t, tO t, [], tH t, tG t, tv t, tn t + 1, tc t) := ⟨so, si, sc, ol, hTA1, hHi⟩
    have h2 := h.tab (R' := fun _ => none) ht p5 fz hTt' (fun g => g.turned (fun c z1 z2 => fz.ag (by unfold zXR; omega)) rfl rfl) hR1
    have k12 := h2.1.1
    have p52 : zgP Tz 1 5 = a := by rw [fz.2.2.1]; exact p5
    have ka2 := hTA1.1.1.1
    have ksv2 := hTA1.2.2.2.1.1.1
    have q32 := hTA1.2.1.2.1
    refine j_aload_n (pc := 39) dX11_clear_39 rfl ?_
    refine j_iload_n (pc := 40) dX11_clear_40 rfl ?_
    refine j_callV (pc := 41) (t := 11) (c_answered k12 _) dX11_clear_41 l_X11_103 mk_X11_answered mv_X11_answered (by decide) rfl (by assumption) (by decide) rfl rfl (Nat.le_of_ble_eq_true rfl) (Nat.le_refl _) (Nat.le_refl _) (fun r T h_1 => ?_)
    obtain ⟨rfl, rfl⟩ := h_1
    refine j_iret (pc := 44) dX11_clear_44 rfl ?_
    have ez : q_clear s = (nI (tV t).length, zturn s t (tO t) []) := by simp only [q_clear, ht]
    rw [ez]
    exact ⟨rfl, h2.no 0, (fz.tabq a161).tr zQF.w1⟩
