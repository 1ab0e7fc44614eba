/-! a row more -/
theorem zin4_at {a b c d : Int64} {i : Nat} {x : Int64} (h : [a, b, c, d][i]? = some x) : zin4 a b c d i = x := by
  match i, h with
  | 0, h => cases h; rfl
  | 1, h => cases h; rfl
  | 2, h => cases h; rfl
  | 3, h => cases h; rfl
  | i + 4, h => cases h
theorem zoff_no {K : List Bool} {f : Nat → Int64} {i : Nat} (hi : i < K.length) (h : zch (K.getD i false) (f i) = false) : zoff K f = false := by
  cases e : zoff K f with
  | false => rfl
  | true =>
    have := List.all_eq_true.mp e i (List.mem_range.mpr hi)
    rw [h] at this
    cases this
theorem zoff_yes {K : List Bool} {f : Nat → Int64} (h : ∀ i, i < K.length → zch (K.getD i false) (f i) = true) : zoff K f = true := List.all_eq_true.mpr (fun i hi => h i (List.mem_range.mp hi))
theorem zgrow_W (t : zTB) (f : Nat → Int64) : tH (zgrow t f) (tv t + 1) = (va_up (tW t).1 (tG t) true, zfil t f (tW t).2) := if_pos rfl
theorem zgrow_o (t : zTB) (f : Nat → Int64) {u : Nat} (h : u ≤ tv t) : tH (zgrow t f) u = ((tH t u).1, zfil t f (tH t u).2) := if_neg (by omega)
/-- the values of the new row, as far as they are written -/
def zfl (t : zTB) (f : Nat → Int64) (n : Nat) (vl : Nat → Nat → Int64) : Nat → Nat → Int64 := fun i k => if i = tG t ∧ k < n then f k else vl i k
theorem zfl_0 (t : zTB) (f : Nat → Int64) (vl : Nat → Nat → Int64) : zfl t f 0 vl = vl := by
  funext i k
  exact if_neg (fun q => Nat.not_lt_zero k q.2)
theorem zfl_1 (t : zTB) (f : Nat → Int64) (n : Nat) (vl : Nat → Nat → Int64) : zu2 (zfl t f n vl) (tG t) n (f n) = zfl t f (n + 1) vl := by
  funext i k
  unfold zu2 zfl
  by_cases h1 : i = tG t ∧ k = n
  · rw [if_pos h1, if_pos ⟨h1.1, by omega⟩, h1.2]
  · rw [if_neg h1]
    by_cases h2 : i = tG t ∧ k < n
    · rw [if_pos h2, if_pos ⟨h2.1, by omega⟩]
    · rw [if_neg h2, if_neg (fun q => by
        rcases Nat.lt_or_ge k n with g | g
        · exact h2 ⟨q.1, g⟩
        · exact h1 ⟨q.1, by omega⟩)]
theorem zHi.grow {so si sc : Nat → Nat} {ol : Nat → Int64} {t : zTB} {f : Nat → Int64} (h : zHi so si sc ol (tv t) (tH t)) (hs : ∀ u, u < tv t → tv t ≤ u + 40 → si (u % 40) < tG t) (hg : (tW t).1 (tG t) = false) : zHi (va_up so (tv t % 40) 0) (va_up si (tv t % 40) (tG t)) (va_up sc (tv t % 40) 0) (va_up ol (tv t % 40) 0) (tv t + 1) (tH (zgrow t f)) := by
  intro u hu hv
  by_cases e : u = tv t
  · subst e
    rw [zgrow_W, zgrow_o _ _ (Nat.le_refl _), zinv]
    simp only [va_up, if_true]
    rw [if_neg (by decide)]
    refine Prod.ext ?_ rfl
    show va_up (va_up (tW t).1 (tG t) true) (tG t) (decide (0 = 1)) = (tW t).1
    rw [va_up_up, va_up_id]
    exact hg
  · have hne : u % 40 ≠ tv t % 40 := by omega
    have h1 := h u (by omega) (by omega)
    have h2 := hs u (by omega) (by omega)
    rw [zgrow_o _ _ (show u ≤ tv t by omega), zgrow_o _ _ (show u + 1 ≤ tv t by omega), ← h1]
    unfold zinv
    simp only [va_up, if_neg hne]
    split
    · refine Prod.ext rfl ?_
      show zu2 (zfil t f (tH t (u + 1)).2) _ _ _ = zfil t f (zu2 (tH t (u + 1)).2 _ _ _)
      funext i k
      unfold zu2 zfil
      dsimp only
      by_cases g : i = si (u % 40) ∧ k = sc (u % 40)
      · rw [if_pos g, if_neg (by omega), if_pos g]
      · rw [if_neg g, if_neg g]
    · rfl
set_option maxRecDepth 20000 in
set_option maxHeartbeats 4000000 in
theorem l_insert {E : zE} {S : zM} {s : zST} {n b : Nat} {t : zTB} {x1 x2 x3 x4 : Int64} (h : zCI S s) (hw : zWF n s) (ht : sT s = some t) (hkb : zkd S b = (15, 4)) (hb : ∀ a, zgP S 1 5 = a → a + 21 < b) (hce : ∀ i x, [x1, x2, x3, x4][i]? = some x → zgL S b i = x) : zJ E 2 0 0 mX11_insert cX11_insert 36 [some (zR 1), some (zL x1), none, some (zL x2), none, some (zL x3), none, some (zL x4), none, some (zR b), none, none] [] S (fun r T => r = some (zI (q_insert s x1 x2 x3 x4).1) ∧ zCI T (q_insert s x1 x2 x3 x4).2 ∧ zQF S T) := by
  obtain ⟨h0, hF, hG4, hi, hV, hP, hR, hT⟩ := _root_.id h
  have k1 := h0.1
  rw [ht] at hT
  obtain ⟨a, p5, a161, ag, hTt, hVI⟩ := hT
  obtain ⟨ka, q2, q3, q4, q5, q6, q1, i7, i8⟩ := hTt.d
  have k6 : zkd S 6 = (11, 0) := by obtain ⟨q, t0, g, h1, h2⟩ := hV.1; exact h1.1.1
  obtain ⟨so, si, sc, ol, hTA, hHi⟩ := hTt
  have hOr := hTA.2.2.1
  have hSv := hTA.2.2.2.1
  have hRo := hTA.2.2.2.2.1
  have hAc := hTA.2.2.2.2.2.1
  have kor := hOr.1.1
  have ksv := hSv.1.1
  have kro := hRo.1
  have kac := hAc.1.1
  have iv := hAc.2.2.1
  have hn : n ≤ 600 := Nat.le_of_lt hw.1
  have hwT := hw.2.2.2
  rw [ht] at hwT
  obtain ⟨hWt, hWp, hWr⟩ := hwT
  have hv600 := hWt.2.2.2.2.2.1.1
  have hK4 := hWt.1.2.2
  have g64 := hWt.2.2.2.2.1.1
  have hb := hb a p5
  refine j_iconst (pc := 36) (v := 0) dX11_insert_36 (by decide) ?_
  refine j_istore (pc := 37) (ls' := [_, _, _, _, _, _, _, _, _, _, _, _]) dX11_insert_37 (by decide) rfl rfl ?_
  have lp : ∀ (m i : Nat), i + m = (tK t).length → (∀ k, k < i → zch ((tK t).getD k false) ((zin4 x1 x2 x3 x4) k) = true) → zJ E 2 0 0 mX11_insert cX11_insert 39 [some (zR 1), some (zL x1), none, some (zL x2), none, some (zL x3), none, some (zL x4), none, some (zR b), some (zI (nI i)), none] [] S (fun r T => r = some (zI (q_insert s x1 x2 x3 x4).1) ∧ zCI T (q_insert s x1 x2 x3 x4).2 ∧ zQF S T) := by
    intro m
    induction m with
    | zero =>
      intro i hi hq
      have ei : i = (tK t).length := by omega
      subst ei
      refine j_iload (pc := 39) dX11_insert_39 rfl ?_
      refine j_aload_n (pc := 41) dX11_insert_41 rfl ?_
      refine j_getPv (pc := 42) dX11_insert_42 f_X11_44 (Or.inl ⟨_, rfl⟩) (by assumption) (p5) ?_
      refine j_getIv (pc := 45) dX11_insert_45 f_X11_106 (Or.inl rfl) (by assumption) (i7) ?_
      refine j_icmp_ge (pc := 48) (tgt := 80) dX11_insert_48 (by decide) (fun h48 => ?_) (fun h48 => absurd (nI_le (Nat.le_refl _) (by omega)) h48)
      refine j_aload_n (pc := 80) dX11_insert_80 rfl ?_
      refine j_getPv (pc := 81) dX11_insert_81 f_X11_44 (Or.inl ⟨_, rfl⟩) (by assumption) (p5) ?_
      refine j_getPv (pc := 84) dX11_insert_84 f_X11_96 (Or.inl ⟨_, rfl⟩) (by assumption) (q4) ?_
      refine j_getIv (pc := 87) dX11_insert_87 f_X11_100 (Or.inl rfl) (by assumption) (hRo.2.2.2.2.2.2.1) ?_
      refine j_bipush (pc := 90) (v := 40) dX11_insert_90 (by decide) ?_
      refine j_icmp_ge (pc := 92) (tgt := 110) dX11_insert_92 (by decide) (fun h92 => ?_) (fun h92 => ?_)
      · refine j_aload_n (pc := 110) dX11_insert_110 rfl ?_
        refine j_iconst (pc := 111) (v := 3) dX11_insert_111 (by decide) ?_
        refine j_callV (pc := 112) (t := 11) (c_refused k1 _) dX11_insert_112 l_X11_68 mk_X11_refused mv_X11_refused (by decide) rfl (by assumption) (by decide) rfl rfl (Nat.le_of_ble_eq_true rfl) (Nat.le_refl _) (Nat.le_refl _) (fun r T h_1 => ?_)
        obtain ⟨rfl, rfl⟩ := h_1
        refine j_iret (pc := 115) dX11_insert_115 rfl ?_
        exact q_ref h zQF.rf (by simp only [q_insert, ht]; rw [if_neg (bnf2 (zoff_yes hq)), if_pos (Or.inl (Nat.le_of_not_lt (fun q => nI_ge (b := 40) q (by decide) h92)))])
      · refine j_aload_n (pc := 95) dX11_insert_95 rfl ?_
        refine j_getPv (pc := 96) dX11_insert_96 f_X11_44 (Or.inl ⟨_, rfl⟩) (by assumption) (p5) ?_
        refine j_getPv (pc := 99) dX11_insert_99 f_X11_96 (Or.inl ⟨_, rfl⟩) (by assumption) (q4) ?_
        refine j_getIv (pc := 102) dX11_insert_102 f_X11_116 (Or.inl rfl) (by assumption) (hRo.2.2.2.2.2.1) ?_
        refine j_bipush (pc := 105) (v := 64) dX11_insert_105 (by decide) ?_
        refine j_icmp_lt (pc := 107) (tgt := 116) dX11_insert_107 (by decide) (fun h107 => ?_) (fun h107 => ?_)
        · have hg64 : tG t < 64 := (nI_ltI (b := 64) (by omega) (by decide)).mp h107
          have h40 : fb_ct (tW t).1 64 < 40 := Nat.lt_of_not_le (fun q => h92 (nI_le (a := 40) q (by have := fb_ct_le (tW t).1 64; omega)))
          have hgF : (tW t).1 (tG t) = false := (hWt.2.2.2.2.1.2 (tv t) (Nat.le_refl _)).1 _ (Nat.le_refl _)
          have hoff := zoff_yes hq
          refine j_aload_n (pc := 116) dX11_insert_116 rfl ?_
          refine j_getPv (pc := 117) dX11_insert_117 f_X11_44 (Or.inl ⟨_, rfl⟩) (by assumption) (p5) ?_
          refine j_getPv (pc := 120) dX11_insert_120 f_X11_96 (Or.inl ⟨_, rfl⟩) (by assumption) (q4) ?_
          refine j_callV (pc := 123) (t := 7) (c_add hRo hg64) dX11_insert_123 l_X11_262 mk_X7_add mv_X7_add (by decide) rfl (by assumption) (by decide) rfl rfl (Nat.le_of_ble_eq_true rfl) (Nat.le_refl _) (Nat.le_refl _) (fun r Ta h_1 => ?_)
          obtain ⟨rfl, hRa, fa⟩ := h_1
          refine j_istore (pc := 126) (ls' := [_, _, _, _, _, _, _, _, _, _, _, _]) dX11_insert_126 (by decide) rfl rfl ?_
          refine j_iconst (pc := 128) (v := 0) dX11_insert_128 (by decide) ?_
          refine j_istore (pc := 129) (ls' := [_, _, _, _, _, _, _, _, _, _, _, _]) dX11_insert_129 (by decide) rfl rfl ?_
          have lp2 : ∀ (m i : Nat) (T : zM), i + m = (tK t).length → zF (fun c => a + 13 ≤ c ∧ c ≤ a + 15) S T → zRo T (a + 13) (va_up (tW t).1 (tG t) true) (zfl t (zin4 x1 x2 x3 x4) i (tW t).2) (tG t + 1) → zJ E 2 0 0 mX11_insert cX11_insert 131 [some (zR 1), some (zL x1), none, some (zL x2), none, some (zL x3), none, some (zL x4), none, some (zR b), some (zI (nI (tG t))), some (zI (nI i))] [] T (fun r T => r = some (zI (q_insert s x1 x2 x3 x4).1) ∧ zCI T (q_insert s x1 x2 x3 x4).2 ∧ zQF S T) := by
            intro m
            induction m with
            | zero =>
              intro i T hi hF0 hRT
              have ei : i = (tK t).length := by omega
              subst ei
              have k1T : zkd T 1 = (12, 0) := by rw [hF0.1]; exact k1
              have kaT : zkd T a = (10, 0) := by rw [hF0.1]; exact ka
              have p5T : zgP T 1 5 = a := by rw [hF0.2.2.1]; exact p5
              have q4T : zgP T a 4 = a + 13 := by rw [hF0.2.2.1]; exact q4
              have q5T : zgP T a 5 = a + 16 := by rw [hF0.2.2.1]; exact q5
              have i7T : zgI T a 7 = nI (tK t).length := (hF0.2.2.2.1 a (by omega) 7).trans i7
              have krT := hRT.1
              refine j_iload (pc := 131) dX11_insert_131 rfl ?_
              refine j_aload_n (pc := 133) dX11_insert_133 rfl ?_
              refine j_getPv (pc := 134) dX11_insert_134 f_X11_44 (Or.inl ⟨_, rfl⟩) (by assumption) (p5T) ?_
              refine j_getIv (pc := 137) dX11_insert_137 f_X11_106 (Or.inl rfl) (by assumption) (i7T) ?_
              refine j_icmp_ge (pc := 140) (tgt := 168) dX11_insert_140 (by decide) (fun h140 => ?_) (fun h140 => absurd (nI_le (Nat.le_refl _) (by omega)) h140)
              have hAT := hAc.keep hF0 (by omega)
              have kacT := hAT.1.1
              refine j_aload_n (pc := 168) dX11_insert_168 rfl ?_
              refine j_getPv (pc := 169) dX11_insert_169 f_X11_44 (Or.inl ⟨_, rfl⟩) (by assumption) (p5T) ?_
              refine j_getPv (pc := 172) dX11_insert_172 f_X11_119 (Or.inl ⟨_, rfl⟩) (by assumption) (q5T) ?_
              refine j_iconst (pc := 175) (v := 0) dX11_insert_175 (by decide) ?_
              refine j_iload (pc := 176) dX11_insert_176 rfl ?_
              refine j_iconst (pc := 178) (v := 0) dX11_insert_178 (by decide) ?_
              refine j_lconst (pc := 179) (v := 0) dX11_insert_179 (by decide) ?_
              refine j_callV (pc := 180) (t := 0) (c_note (x := 0) (i := tG t) (j := 0) hAT 0 (by decide) (by omega) (by decide) (by omega)) dX11_insert_180 l_X11_269 mk_X0_note mv_X0_note (by decide) rfl (by assumption) (by decide) rfl rfl (Nat.le_of_ble_eq_true rfl) (Nat.le_refl _) (Nat.le_refl _) (fun r Tz h_1 => ?_)
              obtain ⟨rfl, hAz, fz0⟩ := h_1
              have fab : zF (fun c => a + 13 ≤ c ∧ c ≤ a + 21) S Tz := (hF0.mo (fun c z => by omega)).tr (fz0.mo (fun c z => by unfold zX5 at z; omega))
              have hRz := hRT.keep fz0 (by unfold zX5; omega) (by unfold zX5; omega) (by unfold zX5; omega)
              have hTt' : zTt Tz a (zgrow t (zin4 x1 x2 x3 x4)) := by
                refine ⟨_, _, _, _, hTA.act (t' := tW (zgrow t (zin4 x1 x2 x3 x4))) fab (by rw [show tW (zgrow t (zin4 x1 x2 x3 x4)) = _ from zgrow_W _ _]; exact hRz) hAz (fun i hi => (fz0.2.2.2.1 _ (by unfold zX5; omega) i).trans ((hF0.2.2.2.1 _ (by omega) i).trans (hTA.2.2.2.2.2.2.1.2 i hi))), hHi.1.grow hHi.2 hgF, si_up (g' := tG t + 1) hHi.2 (Nat.le_succ _) (Nat.lt_succ_self _)⟩
              have fz := fab.mo (Y := fun c => (a ≤ c ∧ c ≤ a + 21) ∨ zXR c) (fun c z => Or.inl (by omega))
              have h2 := h.tab ht p5 fz hTt' (fun g => g.act (fun c z1 z2 => fab.ag (by omega)) rfl rfl rfl (Nat.le_succ _) (fun w hw => by
                rw [zgrow_o _ _ hw]
                refine ⟨rfl, fun i k hi => ?_⟩
                show (tH t w).2 i k = zfil t (zin4 x1 x2 x3 x4) (tH t w).2 i k
                unfold zfil
                rw [if_neg (fun q => by
                  have := (hWt.2.2.2.2.1.2 w hw).1 i (by omega)
                  rw [this] at hi
                  cases hi)])) (fun r hr => (hR r hr).ag (fun k hk => fab.ag (by omega)))
              have k12 := h2.1.1
              refine j_aload_n (pc := 183) dX11_insert_183 rfl ?_
              refine j_iload (pc := 184) dX11_insert_184 rfl ?_
              refine j_callV (pc := 186) (t := 11) (c_answered k12 _) dX11_insert_186 l_X11_103 mk_X11_answered mv_X11_answered (by decide) rfl (by assumption) (by decide) rfl rfl (Nat.le_of_ble_eq_true rfl) (Nat.le_refl _) (Nat.le_refl _) (fun r T h_1 => ?_)
              obtain ⟨rfl, rfl⟩ := h_1
              refine j_iret (pc := 189) dX11_insert_189 rfl ?_
              have ez : q_insert s x1 x2 x3 x4 = (nI (tG t), (sF s, (0, s.2.1.2), some (zgrow t (zin4 x1 x2 x3 x4)), sP s, sR s)) := by
                simp only [q_insert, ht]
                rw [if_neg (bnf2 hoff), if_neg (by omega)]
              rw [ez]
              exact ⟨rfl, h2.no 0, (fz.tabq a161).tr zQF.w1⟩
            | succ m ih =>
              intro i T hi hF0 hRT
              obtain ⟨x, hx⟩ : ∃ x, [x1, x2, x3, x4][i]? = some x := ⟨_, List.getElem?_eq_getElem (by show i < 4; omega)⟩
              have hxT : zgL T b i = x := (hF0.2.2.2.2 b (by omega) i).trans (hce i x hx)
              have kbT : zkd T b = (15, 4) := by rw [hF0.1]; exact hkb
              have k1T : zkd T 1 = (12, 0) := by rw [hF0.1]; exact k1
              have kaT : zkd T a = (10, 0) := by rw [hF0.1]; exact ka
              have p5T : zgP T 1 5 = a := by rw [hF0.2.2.1]; exact p5
              have q4T : zgP T a 4 = a + 13 := by rw [hF0.2.2.1]; exact q4
              have q5T : zgP T a 5 = a + 16 := by rw [hF0.2.2.1]; exact q5
              have i7T : zgI T a 7 = nI (tK t).length := (hF0.2.2.2.1 a (by omega) 7).trans i7
              have krT := hRT.1
              refine j_iload (pc := 131) dX11_insert_131 rfl ?_
              refine j_aload_n (pc := 133) dX11_insert_133 rfl ?_
              refine j_getPv (pc := 134) dX11_insert_134 f_X11_44 (Or.inl ⟨_, rfl⟩) (by assumption) (p5T) ?_
              refine j_getIv (pc := 137) dX11_insert_137 f_X11_106 (Or.inl rfl) (by assumption) (i7T) ?_
              refine j_icmp_ge (pc := 140) (tgt := 168) dX11_insert_140 (by decide) (fun h140 => absurd h140 (nI_ge (by omega) (by omega))) (fun h140 => ?_)
              refine j_aload_n (pc := 143) dX11_insert_143 rfl ?_
              refine j_getPv (pc := 144) dX11_insert_144 f_X11_44 (Or.inl ⟨_, rfl⟩) (by assumption) (p5T) ?_
              refine j_getPv (pc := 147) dX11_insert_147 f_X11_96 (Or.inl ⟨_, rfl⟩) (by assumption) (q4T) ?_
              refine j_iload (pc := 150) dX11_insert_150 rfl ?_
              refine j_iload (pc := 152) dX11_insert_152 rfl ?_
              refine j_aload (pc := 154) dX11_insert_154 rfl ?_
              refine j_iload (pc := 156) dX11_insert_156 rfl ?_
              refine j_laldn (pc := 158) dX11_insert_158 kbT (by omega) (by decide) hxT ?_
              refine j_callV (pc := 159) (t := 7) (c_write hRT (by omega) (show i < 4 by omega) x) dX11_insert_159 l_X11_265 mk_X7_write mv_X7_write (by decide) rfl (by assumption) (by decide) rfl rfl (Nat.le_of_ble_eq_true rfl) (Nat.le_refl _) (Nat.le_refl _) (fun r T h_1 => ?_)
              obtain ⟨rfl, rfl⟩ := h_1
              refine j_iinc (pc := 162) (v := _ + 1) (ls' := [_, _, _, _, _, _, _, _, _, _, _, _]) dX11_insert_162 rfl rfl (by decide) rfl rfl ?_
              refine j_goto (pc := 165) (tgt := 131) dX11_insert_165 (by decide) ?_
              rw [nI_1]
              refine ih (i + 1) _ (by omega) (hF0.tr (zF.wL (by omega))) ?_
              have hRw := hRT.write (show tG t < 64 by omega) (show i < 4 by omega) x
              rw [← zin4_at hx, zfl_1] at hRw
              rw [← zin4_at hx]
              exact hRw
          exact lp2 (tK t).length 0 Ta (by omega) (fa.mo (fun c z => by omega)) (by rw [zfl_0]; exact hRa)
        · refine j_aload_n (pc := 110) dX11_insert_110 rfl ?_
          refine j_iconst (pc := 111) (v := 3) dX11_insert_111 (by decide) ?_
          refine j_callV (pc := 112) (t := 11) (c_refused k1 _) dX11_insert_112 l_X11_68 mk_X11_refused mv_X11_refused (by decide) rfl (by assumption) (by decide) rfl rfl (Nat.le_of_ble_eq_true rfl) (Nat.le_refl _) (Nat.le_refl _) (fun r T h_1 => ?_)
          obtain ⟨rfl, rfl⟩ := h_1
          refine j_iret (pc := 115) dX11_insert_115 rfl ?_
          exact q_ref h zQF.rf (by simp only [q_insert, ht]; rw [if_neg (bnf2 (zoff_yes hq)), if_pos (Or.inr (Nat.le_of_not_lt (fun q => h107 (nI_lt (b := 64) q (by decide)))))])
    | succ m ih =>
      intro i hi hq
      have hlt : i < (tK t).length := by omega
      obtain ⟨x, hx⟩ : ∃ x, [x1, x2, x3, x4][i]? = some x := ⟨_, List.getElem?_eq_getElem (by show i < 4; omega)⟩
      refine j_iload (pc := 39) dX11_insert_39 rfl ?_
      refine j_aload_n (pc := 41) dX11_insert_41 rfl ?_
      refine j_getPv (pc := 42) dX11_insert_42 f_X11_44 (Or.inl ⟨_, rfl⟩) (by assumption) (p5) ?_
      refine j_getIv (pc := 45) dX11_insert_45 f_X11_106 (Or.inl rfl) (by assumption) (i7) ?_
      refine j_icmp_ge (pc := 48) (tgt := 80) dX11_insert_48 (by decide) (fun h48 => absurd h48 (nI_ge (by omega) (by omega))) (fun h48 => ?_)
      refine j_aload_n (pc := 51) dX11_insert_51 rfl ?_
      refine j_getPv (pc := 52) dX11_insert_52 f_X11_44 (Or.inl ⟨_, rfl⟩) (by assumption) (p5) ?_
      refine j_iload (pc := 55) dX11_insert_55 rfl ?_
      refine j_aload (pc := 57) dX11_insert_57 rfl ?_
      refine j_iload (pc := 59) dX11_insert_59 rfl ?_
      refine j_laldn (pc := 61) dX11_insert_61 hkb (by omega) (by decide) (hce i x hx) ?_
      refine j_callV (pc := 62) (t := 9) (c_canHold hTA.1 (gD false hlt) x) dX11_insert_62 l_X11_209 mk_X9_canHold mv_X9_canHold (by decide) rfl (by assumption) (by decide) rfl rfl (Nat.le_of_ble_eq_true rfl) (Nat.le_refl _) (Nat.le_refl _) (fun r T h_1 => ?_)
      obtain ⟨rfl, rfl⟩ := h_1
      refine j_if_ne (pc := 65) (tgt := 74) dX11_insert_65 (by decide) (fun h65 => ?_) (fun h65 => ?_)
      · refine j_iinc (pc := 74) (v := _ + 1) (ls' := [_, _, _, _, _, _, _, _, _, _, _, _]) dX11_insert_74 rfl rfl (by decide) rfl rfl ?_
        refine j_goto (pc := 77) (tgt := 39) dX11_insert_77 (by decide) ?_
        rw [nI_1]
        refine ih (i + 1) (by omega) (fun k hk => ?_)
        by_cases e : k = i
        · subst e
          rw [zin4_at hx]
          exact zbi_ne0 h65
        · exact hq k (by omega)
      · refine j_aload_n (pc := 68) dX11_insert_68 rfl ?_
        refine j_iconst (pc := 69) (v := 2) dX11_insert_69 (by decide) ?_
        refine j_callV (pc := 70) (t := 11) (c_refused k1 _) dX11_insert_70 l_X11_68 mk_X11_refused mv_X11_refused (by decide) rfl (by assumption) (by decide) rfl rfl (Nat.le_of_ble_eq_true rfl) (Nat.le_refl _) (Nat.le_refl _) (fun r T h_1 => ?_)
        obtain ⟨rfl, rfl⟩ := h_1
        refine j_iret (pc := 73) dX11_insert_73 rfl ?_
        exact q_ref h zQF.rf (by simp only [q_insert, ht]; rw [if_pos (zoff_no hlt (by rw [zin4_at hx]; exact zbi_eq0.mp h65))])
  exact lp (tK t).length 0 (by omega) (fun k hk => absurd hk (Nat.not_lt_zero k))
set_option maxRecDepth 20000 in
set_option maxHeartbeats 4000000 in
theorem p_insert {E : zE} {S : zM} {s : zST} {n : Nat} (h : zCI S s) (hw : zWF n s) (x1 x2 x3 x4 : Int64) : zSp E 2 1 4 mX11_insert cX11_insert [zR 1, zL x1, zL x2, zL x3, zL x4] S (fun r T => r = some (zI (q_insert s x1 x2 x3 x4).1) ∧ zCI T (q_insert s x1 x2 x3 x4).2 ∧ zQF S T) := by
  refine zSp.of (by decide) rfl (Nat.le_of_ble_eq_true rfl) rfl ?_
  obtain ⟨h0, hF, hG4, hi, hV, hP, hR, hT⟩ := _root_.id h
  have k1 := h0.1
  cases ht : sT s with
  | none =>
    rw [ht] at hT
    have p5 : zgP S 1 5 = 0 := hT
    refine j_aload_n (pc := 0) dX11_insert_0 rfl ?_
    refine j_getPv (pc := 1) dX11_insert_1 f_X11_44 (Or.inl ⟨_, rfl⟩) (by assumption) (p5) ?_
    refine j_ifnonnull (pc := 4) (tgt := 13) dX11_insert_4 (by decide) (fun h4 => absurd rfl h4) (fun h4 => ?_)
    refine j_aload_n (pc := 7) dX11_insert_7 rfl ?_
    refine j_iconst (pc := 8) (v := 1) dX11_insert_8 (by decide) ?_
    refine j_callV (pc := 9) (t := 11) (c_refused k1 _) dX11_insert_9 l_X11_68 mk_X11_refused mv_X11_refused (by decide) rfl (by assumption) (by decide) rfl rfl (Nat.le_of_ble_eq_true rfl) (Nat.le_refl _) (Nat.le_refl _) (fun r T h_1 => ?_)
    obtain ⟨rfl, rfl⟩ := h_1
    refine j_iret (pc := 12) dX11_insert_12 rfl ?_
    exact q_ref h zQF.rf (by rw [q_insert, ht])
  | some t =>
    rw [ht] at hT
    obtain ⟨a, p5, a161, ag, hTt, hVI⟩ := hT
    obtain ⟨ka, q2, q3, q4, q5, q6, q1, i7, i8⟩ := hTt.d
    have k6 : zkd S 6 = (11, 0) := by obtain ⟨q, t0, g, h1, h2⟩ := hV.1; exact h1.1.1
    obtain ⟨so, si, sc, ol, hTA, hHi⟩ := hTt
    have hOr := hTA.2.2.1
    have hSv := hTA.2.2.2.1
    have hRo := hTA.2.2.2.2.1
    have hAc := hTA.2.2.2.2.2.1
    have kor := hOr.1.1
    have ksv := hSv.1.1
    have kro := hRo.1
    have kac := hAc.1.1
    have iv := hAc.2.2.1
    have hn : n ≤ 600 := Nat.le_of_lt hw.1
    have hwT := hw.2.2.2
    rw [ht] at hwT
    obtain ⟨hWt, hWp, hWr⟩ := hwT
    refine j_aload_n (pc := 0) dX11_insert_0 rfl ?_
    refine j_getPv (pc := 1) dX11_insert_1 f_X11_44 (Or.inl ⟨_, rfl⟩) (by assumption) (p5) ?_
    refine j_ifnonnull (pc := 4) (tgt := 13) dX11_insert_4 (by decide) (fun h4 => ?_) (fun h4 => absurd h4 (by omega))
    refine j_iconst (pc := 13) (v := 4) dX11_insert_13 (by decide) ?_
    refine j_newa (pc := 14) (n := 4) (mc2 := 0) (ms2 := 0) dX11_insert_14 (Or.inr (Or.inl ⟨rfl, rfl⟩)) ac_long (by decide) (by decide) (by decide) (Nat.le_of_ble_eq_true rfl) (Nat.le_of_ble_eq_true rfl) ?_
    refine j_dup (pc := 16) dX11_insert_16 rfl ?_
    refine j_iconst (pc := 17) (v := 0) dX11_insert_17 (by decide) ?_
    refine j_lload_n (pc := 18) dX11_insert_18 rfl ?_
    refine j_lastn (i := 0) (pc := 19) dX11_insert_19 znw_kd (by decide) (by decide) ?_
    refine j_dup (pc := 20) dX11_insert_20 rfl ?_
    refine j_iconst (pc := 21) (v := 1) dX11_insert_21 (by decide) ?_
    refine j_lload_n (pc := 22) dX11_insert_22 rfl ?_
    refine j_lastn (i := 1) (pc := 23) dX11_insert_23 znw_kd (by decide) (by decide) ?_
    refine j_dup (pc := 24) dX11_insert_24 rfl ?_
    refine j_iconst (pc := 25) (v := 2) dX11_insert_25 (by decide) ?_
    refine j_lload (pc := 26) dX11_insert_26 rfl ?_
    refine j_lastn (i := 2) (pc := 28) dX11_insert_28 znw_kd (by decide) (by decide) ?_
    refine j_dup (pc := 29) dX11_insert_29 rfl ?_
    refine j_iconst (pc := 30) (v := 3) dX11_insert_30 (by decide) ?_
    refine j_lload (pc := 31) dX11_insert_31 rfl ?_
    refine j_lastn (i := 3) (pc := 33) dX11_insert_33 znw_kd (by decide) (by decide) ?_
    refine j_astore (pc := 34) (ls' := [_, _, _, _, _, _, _, _, _, _, _, _]) dX11_insert_34 (by decide) rfl rfl ?_
    have hN : zNF (fun _ => False) S (zwL (zwL (zwL (zwL (znw S 15 4) (zgn S + 1) 0 x1) (zgn S + 1) 1 x2) (zgn S + 1) 2 x3) (zgn S + 1) 3 x4) := ⟨Nat.le_succ _, fun c hc _ => ((zNF.nw (X := fun _ => False) (S := S) (t := 15) (n := 4)).2 c hc (fun z => z)).tr (((((zF.wL (X := fun c => c = zgn S + 1) rfl).tr (zF.wL rfl)).tr (zF.wL rfl)).tr (zF.wL rfl)).ag (show c ≠ zgn S + 1 by omega))⟩
    have h1 : zCI (zwL (zwL (zwL (zwL (znw S 15 4) (zgn S + 1) 0 x1) (zgn S + 1) 1 x2) (zgn S + 1) 2 x3) (zgn S + 1) 3 x4) s := h.ag (fun c _ _ hc => hN.2 c hc (fun z => z)) (Nat.le_succ _)
    refine (l_insert (E := E) h1 hw ht (b := zgn S + 1) znw_kd (fun a' e' => ?_) (fun i x hx => ?_)).post (fun r T hq => ⟨hq.1, hq.2.1, (hN.mo (fun c _ z => z.elim)).tr hq.2.2⟩)
    · have e2 : zgP (zwL (zwL (zwL (zwL (znw S 15 4) (zgn S + 1) 0 x1) (zgn S + 1) 1 x2) (zgn S + 1) 2 x3) (zgn S + 1) 3 x4) 1 5 = zgP S 1 5 := (hN.2 1 (by omega) (fun z => z)).2.2.2 5
      omega
    · match i, hx with
      | 0, hx => cases hx; exact (zgL_nk (by decide)).trans ((zgL_nk (by decide)).trans ((zgL_nk (by decide)).trans zgL_self))
      | 1, hx => cases hx; exact (zgL_nk (by decide)).trans ((zgL_nk (by decide)).trans zgL_self)
      | 2, hx => cases hx; exact (zgL_nk (by decide)).trans zgL_self
      | 3, hx => cases hx; exact zgL_self
      | i + 4, hx => cases hx
