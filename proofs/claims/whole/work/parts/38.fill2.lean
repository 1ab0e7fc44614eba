def zid (O : List zOe) (V : List zSe) (t : zRW) (f e : Nat) : List Nat := ((zBB O V t).drop f).take (e - f)
theorem zid_get {O : List zOe} {V : List zSe} {t : zRW} {f e i x : Nat} (h : (zid O V t f e)[i]? = some x) : i < e - f ∧ (zBB O V t)[f + i]? = some x := by
  unfold zid at h
  have hlt := (List.getElem?_eq_some_iff.mp h).1
  rw [List.length_take, List.length_drop] at hlt
  rw [List.getElem?_take_of_lt (by omega), List.getElem?_drop] at h
  exact ⟨by omega, h⟩
theorem zid_len {O : List zOe} {V : List zSe} {t : zRW} {f e : Nat} (h : e ≤ (zBB O V t).length) : (zid O V t f e).length = e - f := by
  unfold zid
  rw [List.length_take, List.length_drop]
  omega
/-- the tokens and the counts of a page that has rows -/
def zpw (O : List zOe) (V : List zSe) (t : zRW) (f e tn sz st : Nat) (kb ka : List Nat) (ah be : Nat) : Prop := if f < e then (∀ x, (zBB O V t)[f]? = some x → kb = ztok tn sz st (zkf O t x)) ∧ (∀ x, (zBB O V t)[e - 1]? = some x → ka = ztok tn sz st (zkf O t x)) ∧ ah = f ∧ be = (zBB O V t).length - e else ah = 0 ∧ be = 0
set_option maxRecDepth 20000 in
set_option maxHeartbeats 4000000 in
theorem c_fill {E : zE} {S : zM} {O : List zOe} {V : List zSe} {t : zRW} {f e tn sz st : Nat} {pt : Bool} {ids : List Nat} {vs : Nat → Nat → Int64} {kb ka kk : List Nat} {ah be : Nat} (h : zVC S O V t) (hg : zPg S pt ids vs kb ka kk ah be) (hf0 : zgI S 6 6 = nI f) (he0 : zgI S 6 7 = nI e) (htn : zgI S 6 10 = nI tn) (htn2 : tn < 2 ^ 20) (hsz : sz ≤ 20) (hst : st < 65536) (hfe : f ≤ e) (he20 : e ≤ f + 20) (heB : e ≤ (zBB O V t).length) : zSp E 3 0 0 mX4_fill cX4_fill [zR 93, zR 6, zI (nI sz), zI (nI st)] S (fun r T => r = none ∧ ∃ kb' ka' ah' be', zPg T true (zid O V t f e) (fun i j => t.2 ((zid O V t f e).getD i 0) j) kb' ka' [] ah' be' ∧ zpw O V t f e tn sz st kb' ka' ah' be' ∧ zF zXP S T) := by
  refine zSp.of (by decide) rfl (Nat.le_of_ble_eq_true rfl) rfl ?_
  have k6 := h.sh.1
  have h93 := hg.1.1
  have hB40 := h.len.2
  have hp2 := hg.1.2.2.2.2.2.1
  have hp3 := hg.1.2.2.2.2.2.2.1
  have hlen : (zid O V t f e).length = e - f := zid_len heB
  have hps : ∀ {T : zM}, zF zXP S T → zPS T := fun hq => hg.1.f hq
  refine j_aload_n (pc := 0) dX4_fill_0 rfl ?_
  refine j_iconst (pc := 1) (v := 1) dX4_fill_1 (by decide) ?_
  refine j_putZ (pc := 2) dX4_fill_2 f_X4_34 rfl (by first | assumption | decide) (by assumption) rfl ?_
  refine j_aload_n (pc := 5) dX4_fill_5 rfl ?_
  refine j_iconst (pc := 6) (v := 0) dX4_fill_6 (by decide) ?_
  refine j_putI (pc := 7) dX4_fill_7 f_X4_38 rfl (by assumption) rfl ?_
  refine j_aload_n (pc := 10) dX4_fill_10 rfl ?_
  refine j_getI (pc := 11) dX4_fill_11 f_X4_48 (Or.inl rfl) (by assumption) ?_
  rw [show zgI (zwI (zwI S 93 5 1) 93 6 0) 6 6 = nI f from (zgI_ne (by decide)).trans ((zgI_ne (by decide)).trans hf0)]
  refine j_istore (pc := 14) (ls' := [_, _, _, _, _, _, _]) dX4_fill_14 (by decide) rfl rfl ?_
  have hS : zF zXP S (zwI (zwI S 93 5 1) 93 6 0) := (zF.wI (by decide)).tr (zF.wI (by decide))
  refine l_fill2 (S := zwI (zwI S 93 5 1) 93 6 0) (h.ag (fun c h1 h2 => hS.ag (by unfold zXP; omega))) ⟨hps hS, fun hq => hps (hS.tr (hq.mo (fun c z => by unfold zXQ at z; unfold zXP; omega)))⟩ hfe he20 heB ((hS.2.2.2.1 6 (by decide) 7).trans he0) (fun U y z hF0 hc6 hk93 hv => ?_) (e - f) 0 _ _ _ (by omega) zF.rf (zgI_self.trans nI_0.symm) (fun k hk => rfl) (fun i x hi => absurd hi (Nat.not_lt_zero i))
  have hF : zF zXP S U := hS.tr (hF0.mo (fun c z => by unfold zXQ at z; unfold zXP; omega))
  have hc5 : zgI U 93 5 = zbi true := (hk93 5 (by decide)).trans ((zgI_nk (by decide)).trans zgI_self)
  have hQ : zF zXQ S U := ((zF.wI (by decide)).tr (zF.wI (by decide))).tr hF0
  have F1 : zF zXP S U := hF
  have ps : zPS U := hps F1
  obtain ⟨u93, u94, u95, q1, q2, q3, q4, q5⟩ := id ps
  have u6 : zkd U 6 = (11, 0) := by rw [F1.1]; exact h.sh.1
  have B96 : zBy U 96 97 40 kb := hg.2.2.2.2.2.2.2.2.1.keep hQ (by decide) (by decide)
  have B98 : zBy U 98 99 40 ka := hg.2.2.2.2.2.2.2.2.2.1.keep hQ (by decide) (by decide)
  have B100 : zBy U 100 101 900 kk := hg.2.2.2.2.2.2.2.2.2.2.keep hQ (by decide) (by decide)
  have u100 := B100.1
  refine j_aload_n (pc := 109) dX4_fill_109 rfl ?_
  refine j_getP (pc := 110) dX4_fill_110 f_X4_31 (Or.inl ⟨_, rfl⟩) (by assumption) ?_
  rw [q5]
  refine j_callV (pc := 113) (t := 1) (c_empty B100) dX4_fill_113 l_X4_70 mk_X1_empty mv_X1_empty (by decide) rfl (by assumption) (by decide) rfl rfl (Nat.le_of_ble_eq_true rfl) (Nat.le_refl _) (Nat.le_refl _) (fun r U1 h_1 => ?_)
  obtain ⟨rfl, rfl⟩ := h_1
  have C0 := B100.empty
  obtain ⟨U2, eU2⟩ : ∃ X, X = zwI (zwI (zwI U 100 1 0) 93 7 0) 93 8 0 := ⟨_, rfl⟩
  have F2 : zF zXP S U2 := by rw [eU2]; exact ((F1.tr (zF.wI (by decide))).tr (zF.wI (by decide))).tr (zF.wI (by decide))
  have c2 : zgI U2 93 6 = nI (e - f) := by rw [eU2]; exact (zgI_nk (by decide)).trans ((zgI_nk (by decide)).trans ((zgI_ne (by decide)).trans hc6))
  refine j_aload_n (pc := 116) dX4_fill_116 rfl ?_
  refine j_iconst (pc := 117) (v := 0) dX4_fill_117 (by decide) ?_
  refine j_putI (pc := 118) dX4_fill_118 f_X4_42 rfl (by assumption) rfl ?_
  refine j_aload_n (pc := 121) dX4_fill_121 rfl ?_
  refine j_iconst (pc := 122) (v := 0) dX4_fill_122 (by decide) ?_
  refine j_putI (pc := 123) dX4_fill_123 f_X4_45 rfl (by assumption) rfl ?_
  rw [← eU2]
  have v93 : zkd U2 93 = (5, 0) := by rw [F2.1]; exact h93
  have v6 : zkd U2 6 = (11, 0) := by rw [F2.1]; exact h.sh.1
  refine j_aload_n (pc := 126) dX4_fill_126 rfl ?_
  refine j_getI (pc := 127) dX4_fill_127 f_X4_38 (Or.inl rfl) (by assumption) ?_
  rw [c2]
  refine j_if_le (pc := 130) (tgt := 184) dX4_fill_130 (by decide) (fun h130 => ?_) (fun h130 => ?_)
  · refine j_vret (pc := 184) dX4_fill_184 rfl ?_
    have hle : e ≤ f := Nat.le_of_not_lt (fun z => absurd h130 (nI_nle (by omega) (by omega)))
    refine ⟨rfl, kb, ka, 0, 0, ⟨hps F2, ?_, by rw [hlen]; exact c2, by omega, ?_, ?_, fun i x hx => absurd (zid_get hx).1 (by omega), fun i j hi => absurd hi (by omega), ?_, ?_, ?_⟩, by rw [zpw, if_neg (by omega)]; exact ⟨rfl, rfl⟩, F2⟩
    · rw [eU2]; exact (zgI_nk (by decide)).trans ((zgI_nk (by decide)).trans ((zgI_ne (by decide)).trans hc5))
    · rw [eU2]; exact (zgI_nk (by decide)).trans (zgI_self.trans nI_0.symm)
    · rw [eU2]; exact zgI_self.trans nI_0.symm
    · rw [eU2]; exact B96.keep (((zF.wI (X := fun c => c = 93 ∨ c = 100) (Or.inr rfl)).tr (zF.wI (Or.inl rfl))).tr (zF.wI (Or.inl rfl))) (by decide) (by decide)
    · rw [eU2]; exact B98.keep (((zF.wI (X := fun c => c = 93 ∨ c = 100) (Or.inr rfl)).tr (zF.wI (Or.inl rfl))).tr (zF.wI (Or.inl rfl))) (by decide) (by decide)
    · rw [eU2]; exact C0.keep ((zF.wI (X := fun c => c = 93) rfl).tr (zF.wI (X := fun c => c = 93) rfl)) (by decide) (by decide)
  · refine j_aload_n (pc := 133) dX4_fill_133 rfl ?_
    refine j_aload_n (pc := 134) dX4_fill_134 rfl ?_
    refine j_getI (pc := 135) dX4_fill_135 f_X4_48 (Or.inl rfl) (by assumption) ?_
    rw [(F2.2.2.2.1 6 (by decide) 6).trans hf0]
    refine j_putI (pc := 138) dX4_fill_138 f_X4_42 rfl (by assumption) rfl ?_
    refine j_aload_n (pc := 141) dX4_fill_141 rfl ?_
    refine j_aload_n (pc := 142) dX4_fill_142 rfl ?_
    refine j_getI (pc := 143) dX4_fill_143 f_X4_73 (Or.inl rfl) (by assumption) ?_
    rw [show zgI (zwI U2 93 7 (nI f)) 6 5 = nI (zBB O V t).length from (zgI_ne (by decide)).trans ((F2.2.2.2.1 6 (by decide) 5).trans h.len.1)]
    refine j_aload_n (pc := 146) dX4_fill_146 rfl ?_
    refine j_getI (pc := 147) dX4_fill_147 f_X4_53 (Or.inl rfl) (by assumption) ?_
    rw [show zgI (zwI U2 93 7 (nI f)) 6 7 = nI e from (zgI_ne (by decide)).trans ((F2.2.2.2.1 6 (by decide) 7).trans he0)]
    refine j_isub (pc := 150) dX4_fill_150 ?_
    rw [pk_sub heB]
    refine j_putI (pc := 151) dX4_fill_151 f_X4_45 rfl (by assumption) rfl ?_
    have hlt : f < e := Nat.lt_of_not_le (fun z => h130 (by rw [show e - f = 0 by omega]; decide))
    obtain ⟨U3, eU3⟩ : ∃ X, X = zwI (zwI U2 93 7 (nI f)) 93 8 (nI ((zBB O V t).length - e)) := ⟨_, rfl⟩
    rw [← eU3]
    have F23 : zF (fun c => c = 93) U2 U3 := by rw [eU3]; exact (zF.wI (X := fun c => c = 93) rfl).tr (zF.wI (X := fun c => c = 93) rfl)
    have F3 : zF zXP S U3 := F2.tr (F23.mo (fun c z => by unfold zXP; omega))
    have w93 : zkd U3 93 = (5, 0) := by rw [F3.1]; exact h93
    have w6 : zkd U3 6 = (11, 0) := by rw [F3.1]; exact h.sh.1
    have V3 : zVC U3 O V t := h.ag (fun c h1 h2 => F3.ag (by unfold zXP; omega))
    obtain ⟨x0, hx0⟩ : ∃ x, (zBB O V t)[f]? = some x := ⟨(zBB O V t)[f]'(by omega), List.getElem?_eq_getElem (by omega)⟩
    obtain ⟨x1, hx1⟩ : ∃ x, (zBB O V t)[e - 1]? = some x := ⟨(zBB O V t)[e - 1]'(by omega), List.getElem?_eq_getElem (by omega)⟩
    have hag : ∀ c, c ≠ 93 → c ≠ 100 → zAg U U3 c := fun c h1 h2 => ((by rw [eU2]; exact (((zF.wI (X := fun c => c = 93 ∨ c = 100) (Or.inr rfl)).tr (zF.wI (Or.inl rfl))).tr (zF.wI (Or.inl rfl))).ag (fun z => z.elim h1 h2) : zAg U U2 c)).tr (F23.ag h1)
    have D96 : zBy U3 96 97 40 kb := B96.ag (hag _ (by decide) (by decide)) (hag _ (by decide) (by decide))
    have D98 : zBy U3 98 99 40 ka := B98.ag (hag _ (by decide) (by decide)) (hag _ (by decide) (by decide))
    have D100 : zBy U3 100 101 900 [] := by
      have : zBy U2 100 101 900 [] := by rw [eU2]; exact C0.keep ((zF.wI (X := fun c => c = 93) rfl).tr (zF.wI (X := fun c => c = 93) rfl)) (by decide) (by decide)
      exact this.keep F23 (by decide) (by decide)
    refine j_aload_n (pc := 154) dX4_fill_154 rfl ?_
    refine j_getP (pc := 155) dX4_fill_155 f_X4_24 (Or.inl ⟨_, rfl⟩) (by assumption) ?_
    rw [show zgP U3 93 2 = 96 from by rw [F3.2.2.1]; exact hp2]
    refine j_aload_n (pc := 158) dX4_fill_158 rfl ?_
    refine j_aload_n (pc := 159) dX4_fill_159 rfl ?_
    refine j_getI (pc := 160) dX4_fill_160 f_X4_48 (Or.inl rfl) (by assumption) ?_
    rw [(F3.2.2.2.1 6 (by decide) 6).trans hf0]
    refine j_iload_n (pc := 163) dX4_fill_163 rfl ?_
    refine j_iload_n (pc := 164) dX4_fill_164 rfl ?_
    refine j_callS (pc := 165) (c_writeToken V3 hx0 ((F3.2.2.2.1 6 (by decide) 10).trans htn) htn2 (by omega) hst D96 (by decide)) dX4_fill_165 l_X4_76 mk_X4_writeToken ms_X4_writeToken (by decide) rfl rfl (Nat.le_of_ble_eq_true rfl) (Nat.le_refl _) (Nat.le_refl _) (fun r U4 h_1 => ?_)
    obtain ⟨rfl, E96, f4⟩ := h_1
    have F4 : zF zXP S U4 := F3.tr (f4.mo (fun c z => by unfold zAB at z; unfold zXP; omega))
    have x93 : zkd U4 93 = (5, 0) := by rw [F4.1]; exact h93
    have x6 : zkd U4 6 = (11, 0) := by rw [F4.1]; exact h.sh.1
    have V4 : zVC U4 O V t := h.ag (fun c h1 h2 => F4.ag (by unfold zXP; omega))
    have E98 := D98.keep f4 (by decide) (by decide)
    have E100 := D100.keep f4 (by decide) (by decide)
    refine j_aload_n (pc := 168) dX4_fill_168 rfl ?_
    refine j_getP (pc := 169) dX4_fill_169 f_X4_28 (Or.inl ⟨_, rfl⟩) (by assumption) ?_
    rw [show zgP U4 93 3 = 98 from by rw [F4.2.2.1]; exact hp3]
    refine j_aload_n (pc := 172) dX4_fill_172 rfl ?_
    refine j_aload_n (pc := 173) dX4_fill_173 rfl ?_
    refine j_getI (pc := 174) dX4_fill_174 f_X4_53 (Or.inl rfl) (by assumption) ?_
    rw [(F4.2.2.2.1 6 (by decide) 7).trans he0]
    refine j_iconst (pc := 177) (v := 1) dX4_fill_177 (by decide) ?_
    refine j_isub (pc := 178) dX4_fill_178 ?_
    rw [show nI e - 1 = nI (e - 1) from pk_sub (a := e) (b := 1) (by omega)]
    refine j_iload_n (pc := 179) dX4_fill_179 rfl ?_
    refine j_iload_n (pc := 180) dX4_fill_180 rfl ?_
    refine j_callS (pc := 181) (c_writeToken V4 hx1 ((F4.2.2.2.1 6 (by decide) 10).trans htn) htn2 (by omega) hst E98 (by decide)) dX4_fill_181 l_X4_76 mk_X4_writeToken ms_X4_writeToken (by decide) rfl rfl (Nat.le_of_ble_eq_true rfl) (Nat.le_refl _) (Nat.le_refl _) (fun r U5 h_1 => ?_)
    obtain ⟨rfl, G98, f5⟩ := h_1
    have F5 : zF zXP S U5 := F4.tr (f5.mo (fun c z => by unfold zAB at z; unfold zXP; omega))
    have G96 := E96.keep f5 (by decide) (by decide)
    have G100 := E100.keep f5 (by decide) (by decide)
    have a93 : zAg U3 U5 93 := (f4.ag (by decide)).tr (f5.ag (by decide))
    have a94 : zAg U U5 94 := ((hag 94 (by decide) (by decide)).tr (f4.ag (by decide))).tr (f5.ag (by decide))
    have a95 : zAg U U5 95 := ((hag 95 (by decide) (by decide)).tr (f4.ag (by decide))).tr (f5.ag (by decide))
    refine j_vret (pc := 184) dX4_fill_184 rfl ?_
    refine ⟨rfl, _, _, f, (zBB O V t).length - e, ⟨hps F5, ?_, ?_, by omega, ?_, ?_, fun i x hx => ?_, fun i j hi hj => ?_, G96, G98, G100⟩, by rw [zpw, if_pos hlt]; exact ⟨fun x hx => by rw [hx0] at hx; cases hx; rfl, fun x hx => by rw [hx1] at hx; cases hx; rfl, rfl, rfl⟩, F5⟩
    · rw [a93.2.1 5, eU3]
      exact (zgI_nk (by decide)).trans ((zgI_nk (by decide)).trans (by rw [eU2]; exact (zgI_nk (by decide)).trans ((zgI_nk (by decide)).trans ((zgI_ne (by decide)).trans hc5))))
    · rw [a93.2.1 6, eU3, hlen]
      exact (zgI_nk (by decide)).trans ((zgI_nk (by decide)).trans c2)
    · rw [a93.2.1 7, eU3]
      exact (zgI_nk (by decide)).trans zgI_self
    · rw [a93.2.1 8, eU3]
      exact zgI_self
    · obtain ⟨g1, g2⟩ := zid_get hx
      rw [a94.2.1 i]
      exact (hv i x g1 g2).1
    · rw [hlen] at hi
      obtain ⟨x, hx⟩ : ∃ x, (zid O V t f e)[i]? = some x := ⟨(zid O V t f e)[i]'(by omega), List.getElem?_eq_getElem (by omega)⟩
      obtain ⟨g1, g2⟩ := zid_get hx
      show zgL U5 95 (i * 4 + j) = t.2 ((zid O V t f e).getD i 0) j
      rw [a95.2.2.1, List.getD_eq_getElem?_getD, hx]
      exact (hv i x g1 g2).2 j hj
