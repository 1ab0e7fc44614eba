/-! what is always so of a state after n calls -/
def zWt (n : Nat) (t : zTB) : Prop := (1 ≤ (tO t).length ∧ (tO t).length ≤ 4 ∧ (tK t).length ≤ 4) ∧ ((tO t).map (fun e => e.1)).Nodup ∧ (∀ e ∈ tO t, (tK t)[e.1]? = some e.2.1) ∧ ((tV t).length ≤ 2 ∧ ∀ c ∈ tV t, (tK t)[c.1]? = some c.2.1 ∧ c.2.2.1 < 5 ∧ (c.2.2.1 < 3 → c.2.2.2 ≠ zMiss ∧ zch c.2.1 c.2.2.2 = true)) ∧ (tG t ≤ 64 ∧ ∀ u, u ≤ tv t → (∀ i, tG t ≤ i → (tH t u).1 i = false) ∧ fb_ct (tH t u).1 64 ≤ 40 ∧ ∀ i c b, (tH t u).1 i = true → (tK t)[c]? = some b → zch b ((tH t u).2 i c) = true) ∧ (tv t ≤ n ∧ tn t ≤ n) ∧ ∀ i, tc t i ≤ tv t
def zWp (q : zPGE) : Prop := q.1.length ≤ 20 ∧ (q.2.2.1.length ≤ 900 ∧ q.2.2.2.1.length ≤ 900) ∧ (∀ b ∈ q.2.2.1, b < 256) ∧ ∀ b ∈ q.2.2.2.1, b < 256
def zWr (t : zTB) (x : zRDR) : Prop := (1 ≤ x.2.2.1 ∧ x.2.2.1 ≤ 20) ∧ x.2.2.2.1 ≤ tv t ∧ (x.2.2.2.2.2.2.2.length ≤ 34 ∧ ∀ b ∈ x.2.2.2.2.2.2.2, b < 256) ∧ ∀ i, x.2.2.2.2.2.2.1 i ≤ tv t
def zWF (n : Nat) (s : zST) : Prop := n < 600 ∧ ((sF s).length ≤ 900 ∧ ∀ b ∈ sF s, b < 256) ∧ (sTr s ≤ 8 ∧ sFl s ≤ 5) ∧ match sT s with
  | none => sP s = none ∧ ∀ r, sR s r = none
  | some t => zWt n t ∧ (∀ q, sP s = some q → zWp q) ∧ ∀ r x, sR s r = some x → zWr t x
theorem zG.nf {X Y : Nat → Prop} {S T : zM} (h : zG X S T) (g : ∀ c, X c → Y c) : zNF Y S T := ⟨Nat.le_of_eq h.2.1.symm, fun c _ hx => h.2.2 c (fun q => hx (g c q))⟩
theorem zVC.vw {S : zM} {O : List zOe} {V : List zSe} {t : zRW} (h : zVC S O V t) : zVW S := by
  obtain ⟨q, g, h0, hR, -, -⟩ := h
  exact ⟨q, t, g, h0, hR⟩
theorem zCI.view {S T : zM} {s : zST} {t : zTB} {a w : Nat} (h : zCI S s) (ht : sT s = some t) (p5 : zgP S 1 5 = a) (hw : w ≤ tv t) (hC : zVQ T (tO t) (tV t) (tH t w)) (h3 : zgP T 6 8 = a ∧ zgI T 6 9 = nI w ∧ zgI T 6 10 = nI (tn t)) (hG : zG zXV S T) : zCI T s := by
  obtain ⟨h0, hF, ⟨G, hG4⟩, ⟨i1, i2, i3⟩, ⟨hV, hV2⟩, hP, hR, hT⟩ := h
  rw [ht] at hT
  obtain ⟨a', p5', a161, ag, hTt, hVI⟩ := hT
  have ea : a' = a := p5'.symm.trans p5
  subst ea
  have ff : ∀ c, c < 6 ∨ 92 < c → zAg S T c := fun c hc => hG.2.2 c (by unfold zXV; omega)
  have f1 := ff 1 (by omega)
  refine ⟨h0.ag f1 (ff 102 (by omega)) (Nat.le_of_eq hG.2.1.symm), hF.ag (ff 2 (by omega)) (ff 3 (by omega)), ⟨G, hG4.ag (ff 4 (by omega)) (ff 5 (by omega))⟩, ⟨(f1.2.1 6).trans i1, (f1.2.1 7).trans i2, (f1.2.1 8).trans i3⟩, ⟨by obtain ⟨t', -, hC⟩ := hC; exact hC.vw, ?_⟩, hP.ag (fun c z1 z2 => ff c (by omega)), fun r hr => (hR r hr).ag (fun k hk => ff _ (by omega)), ?_⟩
  · rw [h3.1, hG.2.1]
    omega
  · rw [ht]
    exact ⟨a', (f1.2.2.2 5).trans p5, a161, by rw [hG.2.1]; exact ag, hTt.ag (fun k hk => ff _ (by omega)), fun _ => ⟨w, tn t, h3.2.1, h3.2.2, hw, Nat.le_refl _, fun _ => hC⟩⟩
set_option maxHeartbeats 1000000 in
theorem c_showS {E : zE} {S : zM} {s : zST} {t : zTB} {n a w : Nat} (h : zCI S s) (ht : sT s = some t) (hw : zWt n t) (hn : n ≤ 600) (p5 : zgP S 1 5 = a) (hw1 : w ≤ tv t) (hw2 : tv t ≤ w + 40) : zSp E 4 0 0 mX10_show cX10_show [zR 6, zR a, zI (nI w)] S (fun r T => r = none ∧ zCI T s ∧ zVQ T (tO t) (tV t) (tH t w) ∧ zgI T 6 10 = nI (tn t) ∧ zG zXV S T) := by
  obtain ⟨h0, hF, hG4, hi, ⟨hV, hV2⟩, hP, hR, hT⟩ := _root_.id h
  rw [ht] at hT
  obtain ⟨a', p5', a161, ag, ⟨so, si, sc, ol, hTA, hHi⟩, hVI⟩ := hT
  have ea : a' = a := p5'.symm.trans p5
  subst ea
  obtain ⟨w1, w2, w3, w4, ⟨w5, w6⟩, ⟨w7, w8⟩, w9⟩ := hw
  by_cases hit : zgP S 6 8 = a' ∧ zgI S 6 9 = nI w ∧ zgI S 6 10 = nI (tn t)
  · obtain ⟨e1, e2, e3⟩ := hit
    obtain ⟨w', u, g1, g2, g3, g4, g5⟩ := hVI e1
    have ew : w' = w := (nI_eq (by omega) (by omega)).mp (g1.symm.trans e2)
    have eu : u = tn t := (nI_eq (by omega) (by omega)).mp (g2.symm.trans e3)
    rw [ew] at g5
    have k6 : zkd S 6 = (11, 0) := by obtain ⟨q, t0, g, h1, h2⟩ := hV; exact h1.1.1
    refine (c_showHit k6 hTA.1.1.1 e1 e2 (e3.trans hTA.2.2.2.2.2.2.2.1.symm)).post (fun r T hq => ?_)
    obtain ⟨hr, rfl⟩ := hq
    exact ⟨hr, h, g5 eu, e3, ⟨rfl, rfl, fun c _ => zAg.rf⟩⟩
  · refine (c_show hTA hHi.1 (by omega) hw1 hw2 (w6 w hw1).2.1 (fun i hi _ => (w6 w hw1).1 i hi) hV (fun e1 e2 e3 => absurd ⟨e1, e2, e3⟩ hit)).post (fun r T hq => ?_)
    obtain ⟨hr, hC, h3, hG⟩ := hq
    exact ⟨hr, h.view ht p5 hw1 hC.vq h3 hG, hC.vq, h3.2.2, hG⟩
theorem zCr.off {S : zM} {a : Nat} {x : Option zRDR} (h : zCr S a x) : zCr (zwI S a 3 0) a none := by
  have key : ∀ (bg sb en : Bool) (sz vr pg : Nat) (sg sa : Nat → Nat) (L : List Nat), zRd S a bg sb en sz vr pg sg sa L → zCr (zwI S a 3 0) a none := by
    intro bg sb en sz vr pg sg sa L h
    obtain ⟨hs, hB, ⟨i1, i2, i3, i4, i5, i6⟩, e1⟩ := h
    refine ⟨sb, en, sz, vr, pg, sg, sa, L, hs, hB.keep (zF.wI (X := fun c => c = a) rfl) (by omega) (by omega), ⟨zgI_self, (zgI_nk (by decide)).trans i2, (zgI_nk (by decide)).trans i3, (zgI_nk (by decide)).trans i4, (zgI_nk (by decide)).trans i5, (zgI_nk (by decide)).trans i6⟩, fun i hi => ?_⟩
    rw [zgI_ne (by omega), zgI_ne (by omega)]
    exact e1 i hi
  cases x with
  | none =>
    obtain ⟨sb, en, sz, vr, pg, sg, sa, L, h⟩ := h
    exact key _ _ _ _ _ _ _ _ _ h
  | some x => exact key _ _ _ _ _ _ _ _ _ h
abbrev zXR : Nat → Prop := fun c => 103 ≤ c ∧ c ≤ 122
set_option maxRecDepth 20000 in
set_option maxHeartbeats 4000000 in
theorem c_dismiss {E : zE} {S : zM} {R : Nat → Option zRDR} (h0 : zC0 S) (hR : ∀ r, r < 4 → zCr S (103 + 5 * r) (R r)) : zSp E 0 0 0 mX11_dismissReaders cX11_dismissReaders [zR 1] S (fun r T => r = none ∧ zF zXR S T ∧ ∀ r, r < 4 → zCr T (103 + 5 * r) none) := by
  refine zSp.of (by decide) rfl (Nat.le_of_ble_eq_true rfl) rfl ?_
  have lp : ∀ (n i : Nat) (T : zM), i + n = 4 → zF zXR S T → (∀ r, r < 4 → zCr T (103 + 5 * r) (if r < i then none else R r)) → zJ E 0 0 0 mX11_dismissReaders cX11_dismissReaders 2 [some (zR 1), some (zI (nI i))] [] T (fun r T => r = none ∧ zF zXR S T ∧ ∀ r, r < 4 → zCr T (103 + 5 * r) none) := by
    intro n
    induction n with
    | zero =>
      intro i T hi hf hc
      have ei : i = 4 := by omega
      subst ei
      refine j_iload_n (pc := 2) dX11_dismissReaders_2 rfl ?_
      refine j_iconst (pc := 3) (v := 4) dX11_dismissReaders_3 (by decide) ?_
      refine j_icmp_ge (pc := 4) (tgt := 23) dX11_dismissReaders_4 (by decide) (fun h4 => ?_) (fun h4 => absurd (nI_le (a := 4) (Nat.le_refl _) (by decide)) h4)
      refine j_vret (pc := 23) dX11_dismissReaders_23 rfl ?_
      exact ⟨rfl, hf, fun r hr => by have := hc r hr; rwa [if_pos hr] at this⟩
    | succ n ih =>
      intro i T hi hf hc
      have k1 : zkd T 1 = (12, 0) := by rw [hf.1]; exact h0.1
      have k102 : zkd T 102 = (14 + 4, 4) := by rw [hf.1]; exact h0.2.2.1
      have p4 : zgP T 1 4 = 102 := by rw [hf.2.2.1]; exact h0.2.1.2.2.2.2
      have pr : ∀ r, r < 4 → zgP T 102 r = 103 + 5 * r := by rw [hf.2.2.1]; exact h0.2.2.2.1
      have kr := (hc i (by omega)).k.1
      refine j_iload_n (pc := 2) dX11_dismissReaders_2 rfl ?_
      refine j_iconst (pc := 3) (v := 4) dX11_dismissReaders_3 (by decide) ?_
      refine j_icmp_ge (pc := 4) (tgt := 23) dX11_dismissReaders_4 (by decide) (fun h4 => absurd h4 (nI_ge (b := 4) (by omega) (by decide))) (fun h4 => ?_)
      refine j_aload_n (pc := 7) dX11_dismissReaders_7 rfl ?_
      refine j_getPv (pc := 8) dX11_dismissReaders_8 f_X11_39 (Or.inr ⟨_, rfl⟩) (by assumption) (p4) ?_
      refine j_iload_n (pc := 11) dX11_dismissReaders_11 rfl ?_
      refine j_aaldn (pc := 12) (j := 4) dX11_dismissReaders_12 k102 (by decide) (by omega) (by decide) (pr i (by omega)) ?_
      refine j_iconst (pc := 13) (v := 0) dX11_dismissReaders_13 (by decide) ?_
      refine j_putZ (pc := 14) dX11_dismissReaders_14 f_X11_332 rfl (by first | assumption | decide) (by assumption) rfl ?_
      refine j_iinc (pc := 17) (v := _ + 1) (ls' := [_, _]) dX11_dismissReaders_17 rfl rfl (by decide) rfl rfl ?_
      refine j_goto (pc := 20) (tgt := 2) dX11_dismissReaders_20 (by decide) ?_
      rw [nI_1]
      have hci := hc i (by omega)
      refine ih (i + 1) _ (by omega) (hf.tr (zF.wI (by unfold zXR; omega))) (fun r hr => ?_)
      by_cases e : r = i
      · subst e
        rw [if_pos (Nat.lt_succ_self _)]
        exact hci.off
      · have := (hc r hr).ag (T := zwI T (103 + 5 * i) 3 0) (fun k hk => (zF.wI (X := fun c => c = 103 + 5 * i) rfl).ag (by omega))
        by_cases e2 : r < i
        · rw [if_pos e2] at this
          rw [if_pos (by omega)]
          exact this
        · rw [if_neg e2] at this
          rw [if_neg (by omega)]
          exact this
  refine j_iconst (pc := 0) (v := 0) dX11_dismissReaders_0 (by decide) ?_
  refine j_istore_n (pc := 1) (ls' := [_, _]) dX11_dismissReaders_1 (by decide) rfl rfl ?_
  exact lp 4 0 S (by omega) zF.rf (fun r hr => by rw [if_neg (Nat.not_lt_zero r)]; exact hR r hr)
def zcR (R : Nat → Option zRDR) (n : Nat) : Nat := fb_ct (fun r => (R r).isSome) n
set_option maxRecDepth 20000 in
set_option maxHeartbeats 4000000 in
theorem c_countReaders {E : zE} {S : zM} {R : Nat → Option zRDR} (h0 : zC0 S) (hR : ∀ r, r < 4 → zCr S (103 + 5 * r) (R r)) : zSp E 0 0 0 mX11_countReaders cX11_countReaders [zR 1] S (fun r T => S = T ∧ r = some (zI (nI (zcR R 4)))) := by
  refine zSp.of (by decide) rfl (Nat.le_of_ble_eq_true rfl) rfl ?_
  have k1 := h0.1
  have k102 : zkd S 102 = (14 + 4, 4) := h0.2.2.1
  have pr := h0.2.2.2.1
  have lp : ∀ (n i : Nat), i + n = 4 → zJ E 0 0 0 mX11_countReaders cX11_countReaders 4 [some (zR 1), some (zI (nI (zcR R i))), some (zI (nI i))] [] S (fun r T => S = T ∧ r = some (zI (nI (zcR R 4)))) := by
    intro n
    induction n with
    | zero =>
      intro i hi
      have ei : i = 4 := by omega
      subst ei
      refine j_iload_n (pc := 4) dX11_countReaders_4 rfl ?_
      refine j_iconst (pc := 5) (v := 4) dX11_countReaders_5 (by decide) ?_
      refine j_icmp_ge (pc := 6) (tgt := 30) dX11_countReaders_6 (by decide) (fun h6 => ?_) (fun h6 => absurd (nI_le (a := 4) (Nat.le_refl _) (by decide)) h6)
      refine j_iload_n (pc := 30) dX11_countReaders_30 rfl ?_
      refine j_iret (pc := 31) dX11_countReaders_31 rfl ?_
      exact ⟨rfl, rfl⟩
    | succ n ih =>
      intro i hi
      have hr := (hR i (by omega)).k
      have kr := hr.1
      refine j_iload_n (pc := 4) dX11_countReaders_4 rfl ?_
      refine j_iconst (pc := 5) (v := 4) dX11_countReaders_5 (by decide) ?_
      refine j_icmp_ge (pc := 6) (tgt := 30) dX11_countReaders_6 (by decide) (fun h6 => absurd h6 (nI_ge (b := 4) (by omega) (by decide))) (fun h6 => ?_)
      refine j_aload_n (pc := 9) dX11_countReaders_9 rfl ?_
      refine j_getPv (pc := 10) dX11_countReaders_10 f_X11_39 (Or.inr ⟨_, rfl⟩) (by assumption) (h0.2.1.2.2.2.2) ?_
      refine j_iload_n (pc := 13) dX11_countReaders_13 rfl ?_
      refine j_aaldn (pc := 14) (j := 4) dX11_countReaders_14 k102 (by decide) (by omega) (by decide) (pr i (by omega)) ?_
      refine j_getIv (pc := 15) dX11_countReaders_15 f_X11_332 (Or.inr rfl) (by assumption) (hr.2) ?_
      refine j_if_eq (pc := 18) (tgt := 24) dX11_countReaders_18 (by decide) (fun h18 => ?_) (fun h18 => ?_)
      · refine j_iinc (pc := 24) (v := _ + 1) (ls' := [_, _, _]) dX11_countReaders_24 rfl rfl (by decide) rfl rfl ?_
        refine j_goto (pc := 27) (tgt := 4) dX11_countReaders_27 (by decide) ?_
        rw [nI_1]
        have e : zcR R (i + 1) = zcR R i := by rw [zcR, fb_ct_succ, zbi_eq0.mp h18]; rfl
        have := ih (i + 1) (by omega)
        rwa [e] at this
      · refine j_iinc (pc := 21) (v := _ + 1) (ls' := [_, _, _]) dX11_countReaders_21 rfl rfl (by decide) rfl rfl ?_
        refine j_iinc (pc := 24) (v := _ + 1) (ls' := [_, _, _]) dX11_countReaders_24 rfl rfl (by decide) rfl rfl ?_
        refine j_goto (pc := 27) (tgt := 4) dX11_countReaders_27 (by decide) ?_
        rw [nI_1, nI_1]
        have e : zcR R (i + 1) = zcR R i + 1 := by rw [zcR, fb_ct_succ, zbi_ne0 h18]; rfl
        have := ih (i + 1) (by omega)
        rwa [e] at this
  refine j_iconst (pc := 0) (v := 0) dX11_countReaders_0 (by decide) ?_
  refine j_istore_n (pc := 1) (ls' := [_, _, _]) dX11_countReaders_1 (by decide) rfl rfl ?_
  refine j_iconst (pc := 2) (v := 0) dX11_countReaders_2 (by decide) ?_
  refine j_istore_n (pc := 3) (ls' := [_, _, _]) dX11_countReaders_3 (by decide) rfl rfl ?_
  exact lp 4 0 (by omega)
theorem zTA.turn {S : zM} {a : Nat} {K : List Bool} {O : List zOe} {V : List zSe} {t : zRW} {g : Nat} {so si sc : Nat → Nat} {ol : Nat → Int64} {v tn : Nat} {tc : Nat → Nat} (h : zTA S a K O V t g so si sc ol v tn tc) (hn : tn + 1 < 2 ^ 20) : zTA (zwI S a 8 (nI (tn + 1))) a K O V t g so si sc ol v (tn + 1) tc := by
  obtain ⟨⟨hk, i7, i8, e1⟩, hp, hO, hV, hR, hA, ⟨k21, e21⟩, h8, h9⟩ := h
  have ff : ∀ c, c ≠ a → zAg S (zwI S a 8 (nI (tn + 1))) c := fun c hc => (zF.wI (X := fun c => c = a) rfl).ag hc
  exact ⟨⟨hk, (zgI_nk (by decide)).trans i7, i8, fun i b hb => (zgI_ne (by omega)).trans (e1 i b hb)⟩, hp, hO.ag (fun k _ => ff _ (by omega)), hV.ag (fun k _ => ff _ (by omega)), hR.ag (fun k _ => ff _ (by omega)), hA.ag (fun k _ => ff _ (by omega)), ⟨k21, fun i hi => (zgI_ne (by omega)).trans (e21 i hi)⟩, zgI_self, hn⟩
set_option maxRecDepth 20000 in
set_option maxHeartbeats 4000000 in
theorem c_turned {E : zE} {S : zM} {R : Nat → Option zRDR} {a : Nat} {K : List Bool} {O : List zOe} {V : List zSe} {t : zRW} {g : Nat} {so si sc : Nat → Nat} {ol : Nat → Int64} {v tn : Nat} {tc : Nat → Nat} (h0 : zC0 S) (hR : ∀ r, r < 4 → zCr S (103 + 5 * r) (R r)) (p5 : zgP S 1 5 = a) (ha : 161 ≤ a) (hT : zTA S a K O V t g so si sc ol v tn tc) (hn : tn + 1 < 2 ^ 20) : zSp E 1 0 0 mX11_turned cX11_turned [zR 1] S (fun r T => r = none ∧ zTA T a K O V t g so si sc ol v (tn + 1) tc ∧ (∀ r, r < 4 → zCr T (103 + 5 * r) none) ∧ zF (fun c => c = a ∨ zXR c) S T) := by
  refine zSp.of (by decide) rfl (Nat.le_of_ble_eq_true rfl) rfl ?_
  have k1 := h0.1
  have ka := hT.1.1.1
  have ff : ∀ c, c ≠ a → zAg S (zwI S a 8 (nI (tn + 1))) c := fun c hc => (zF.wI (X := fun c => c = a) rfl).ag hc
  have h01 : zC0 (zwI S a 8 (nI (tn + 1))) := h0.ag (ff 1 (by omega)) (ff 102 (by omega)) (Nat.le_refl _)
  have hR1 : ∀ r, r < 4 → zCr (zwI S a 8 (nI (tn + 1))) (103 + 5 * r) (R r) := fun r hr => (hR r hr).ag (fun k hk => ff _ (by omega))
  refine j_aload_n (pc := 0) dX11_turned_0 rfl ?_
  refine j_getPv (pc := 1) dX11_turned_1 f_X11_44 (Or.inl ⟨_, rfl⟩) (by assumption) (p5) ?_
  refine j_dup (pc := 4) dX11_turned_4 rfl ?_
  refine j_getIv (pc := 5) dX11_turned_5 f_X11_128 (Or.inl rfl) (by assumption) (hT.2.2.2.2.2.2.2.1) ?_
  refine j_iconst (pc := 8) (v := 1) dX11_turned_8 (by decide) ?_
  refine j_iadd (pc := 9) dX11_turned_9 ?_
  rw [nI_1]
  refine j_putI (pc := 10) dX11_turned_10 f_X11_128 rfl (by assumption) rfl ?_
  refine j_aload_n (pc := 13) dX11_turned_13 rfl ?_
  refine j_callV (pc := 14) (t := 11) (c_dismiss h01 hR1) dX11_turned_14 l_X11_93 mk_X11_dismissReaders mv_X11_dismissReaders (by decide) rfl (by assumption) (by decide) rfl rfl (Nat.le_of_ble_eq_true rfl) (Nat.le_refl _) (Nat.le_refl _) (fun r T h_1 => ?_)
  obtain ⟨rfl, f1, g1⟩ := h_1
  refine j_vret (pc := 17) dX11_turned_17 rfl ?_
  refine ⟨rfl, (hT.turn hn).ag (fun k hk => f1.ag (by unfold zXR; omega)), g1, (zF.wI (Or.inl rfl)).tr (f1.mo (fun c z => Or.inr z))⟩
theorem zpo_in {A : List Nat} {id : Nat} (h : id ∈ A) : ∃ i, A[i]? = some id ∧ zpo A id = nI i ∧ A.findIdx? (fun y => decide (y = id)) = some i := by
  cases e : A.findIdx? (fun y => decide (y = id)) with
  | none =>
    have := List.findIdx?_eq_none_iff.mp e id h
    simp at this
  | some i =>
    obtain ⟨hi, h1, -⟩ := List.findIdx?_eq_some_iff_getElem.mp e
    refine ⟨i, ?_, by rw [zpo, e], rfl⟩
    rw [List.getElem?_eq_getElem hi, of_decide_eq_true h1]
set_option maxRecDepth 20000 in
set_option maxHeartbeats 4000000 in
theorem c_rankNow {E : zE} {S : zM} {s : zST} {t : zTB} {n id : Nat} (h : zCI S s) (ht : sT s = some t) (hw : zWt n t) (hn : n ≤ 600) (hid : id < 64) : zSp E 5 0 0 mX11_rankNow cX11_rankNow [zR 1, zI (nI id)] S (fun r T => r = some (zI (zpo (zsr (zkf (tO t) (tW t)) (tW t).1 64) id)) ∧ zCI T s ∧ zG zXV S T) := by
  refine zSp.of (by decide) rfl (Nat.le_of_ble_eq_true rfl) rfl ?_
  obtain ⟨h0, hF, hG4, hi, hV, hP, hR, hT⟩ := _root_.id h
  rw [ht] at hT
  obtain ⟨a, p5, a161, ag, hTt, hVI⟩ := hT
  obtain ⟨ka, q2, q3, q4, q5, q6, q1, i7, i8⟩ := hTt.d
  have k1 := h0.1
  have k6 : zkd S 6 = (11, 0) := by obtain ⟨q, t0, g, h1, h2⟩ := hV.1; exact h1.1.1
  obtain ⟨so, si, sc, ol, hTA, hHi⟩ := hTt
  have kac := hTA.2.2.2.2.2.1.1.1
  have iv := hTA.2.2.2.2.2.1.2.2.1
  refine j_aload_n (pc := 0) dX11_rankNow_0 rfl ?_
  refine j_getPv (pc := 1) dX11_rankNow_1 f_X11_26 (Or.inl ⟨_, rfl⟩) (by assumption) (h0.2.1.2.2.1) ?_
  refine j_aload_n (pc := 4) dX11_rankNow_4 rfl ?_
  refine j_getPv (pc := 5) dX11_rankNow_5 f_X11_44 (Or.inl ⟨_, rfl⟩) (by assumption) (p5) ?_
  refine j_aload_n (pc := 8) dX11_rankNow_8 rfl ?_
  refine j_getPv (pc := 9) dX11_rankNow_9 f_X11_44 (Or.inl ⟨_, rfl⟩) (by assumption) (p5) ?_
  refine j_getPv (pc := 12) dX11_rankNow_12 f_X11_119 (Or.inl ⟨_, rfl⟩) (by assumption) (q5) ?_
  refine j_getIv (pc := 15) dX11_rankNow_15 f_X11_123 (Or.inl rfl) (by assumption) (iv) ?_
  refine j_callV (pc := 18) (t := 10) (c_showS h ht hw hn p5 (Nat.le_refl _) (Nat.le_add_right _ _)) dX11_rankNow_18 l_X11_169 mk_X10_show mv_X10_show (by decide) rfl (by assumption) (by decide) rfl rfl (Nat.le_of_ble_eq_true rfl) (Nat.le_refl _) (Nat.le_refl _) (fun r T h_1 => ?_)
  obtain ⟨rfl, h2, hC, -, hG⟩ := h_1
  have k11 := h2.1.1
  have k61 := hC.sh.1
  refine j_aload_n (pc := 21) dX11_rankNow_21 rfl ?_
  refine j_getPv (pc := 22) dX11_rankNow_22 f_X11_26 (Or.inl ⟨_, rfl⟩) (by assumption) (h2.1.2.1.2.2.1) ?_
  refine j_iload_n (pc := 25) dX11_rankNow_25 rfl ?_
  refine j_callV (pc := 26) (t := 10) (d_place hC hid) dX11_rankNow_26 l_X11_335 mk_X10_placeOf mv_X10_placeOf (by decide) rfl (by assumption) (by decide) rfl rfl (Nat.le_of_ble_eq_true rfl) (Nat.le_refl _) (Nat.le_refl _) (fun r T h_1 => ?_)
  obtain ⟨rfl, rfl⟩ := h_1
  refine j_iret (pc := 29) dX11_rankNow_29 rfl ?_
  exact ⟨rfl, h2, hG⟩
set_option maxRecDepth 20000 in
set_option maxHeartbeats 4000000 in
theorem c_keyNow {E : zE} {S : zM} {s : zST} {t : zTB} {n id : Nat} (h : zCI S s) (ht : sT s = some t) (hw : zWt n t) (hn : n ≤ 600) (hid : id < 64) (hr : (tW t).1 id = true) : zSp E 5 0 0 mX11_keyNow cX11_keyNow [zR 1, zI (nI id)] S (fun r T => zCI T s ∧ zG zXV S T ∧ ∃ c, r = some (zR c) ∧ 12 ≤ c ∧ c ≤ 90 ∧ zBy T c (c + 1) 34 (zkf (tO t) (tW t) id)) := by
  refine zSp.of (by decide) rfl (Nat.le_of_ble_eq_true rfl) rfl ?_
  obtain ⟨h0, hF, hG4, hi, hV, hP, hR, hT⟩ := _root_.id h
  rw [ht] at hT
  obtain ⟨a, p5, a161, ag, hTt, hVI⟩ := hT
  obtain ⟨ka, q2, q3, q4, q5, q6, q1, i7, i8⟩ := hTt.d
  have k1 := h0.1
  have k6 : zkd S 6 = (11, 0) := by obtain ⟨q, t0, g, h1, h2⟩ := hV.1; exact h1.1.1
  obtain ⟨so, si, sc, ol, hTA, hHi⟩ := hTt
  have kac := hTA.2.2.2.2.2.1.1.1
  have iv := hTA.2.2.2.2.2.1.2.2.1
  obtain ⟨i, hi1, hi2, -⟩ := zpo_in (zsr_mem.mpr ⟨hid, hr⟩ : id ∈ zsr (zkf (tO t) (tW t)) (tW t).1 64)
  refine j_aload_n (pc := 0) dX11_keyNow_0 rfl ?_
  refine j_getPv (pc := 1) dX11_keyNow_1 f_X11_26 (Or.inl ⟨_, rfl⟩) (by assumption) (h0.2.1.2.2.1) ?_
  refine j_aload_n (pc := 4) dX11_keyNow_4 rfl ?_
  refine j_getPv (pc := 5) dX11_keyNow_5 f_X11_44 (Or.inl ⟨_, rfl⟩) (by assumption) (p5) ?_
  refine j_aload_n (pc := 8) dX11_keyNow_8 rfl ?_
  refine j_getPv (pc := 9) dX11_keyNow_9 f_X11_44 (Or.inl ⟨_, rfl⟩) (by assumption) (p5) ?_
  refine j_getPv (pc := 12) dX11_keyNow_12 f_X11_119 (Or.inl ⟨_, rfl⟩) (by assumption) (q5) ?_
  refine j_getIv (pc := 15) dX11_keyNow_15 f_X11_123 (Or.inl rfl) (by assumption) (iv) ?_
  refine j_callV (pc := 18) (t := 10) (c_showS h ht hw hn p5 (Nat.le_refl _) (Nat.le_add_right _ _)) dX11_keyNow_18 l_X11_169 mk_X10_show mv_X10_show (by decide) rfl (by assumption) (by decide) rfl rfl (Nat.le_of_ble_eq_true rfl) (Nat.le_refl _) (Nat.le_refl _) (fun r T h_1 => ?_)
  obtain ⟨rfl, h2, hC, -, hG⟩ := h_1
  have k11 := h2.1.1
  have k61 := hC.sh.1
  refine j_aload_n (pc := 21) dX11_keyNow_21 rfl ?_
  refine j_getPv (pc := 22) dX11_keyNow_22 f_X11_26 (Or.inl ⟨_, rfl⟩) (by assumption) (h2.1.2.1.2.2.1) ?_
  refine j_aload_n (pc := 25) dX11_keyNow_25 rfl ?_
  refine j_getPv (pc := 26) dX11_keyNow_26 f_X11_26 (Or.inl ⟨_, rfl⟩) (by assumption) (h2.1.2.1.2.2.1) ?_
  refine j_iload_n (pc := 29) dX11_keyNow_29 rfl ?_
  refine j_callV (pc := 30) (t := 10) (d_place hC hid) dX11_keyNow_30 l_X11_335 mk_X10_placeOf mv_X10_placeOf (by decide) rfl (by assumption) (by decide) rfl rfl (Nat.le_of_ble_eq_true rfl) (Nat.le_refl _) (Nat.le_refl _) (fun r T h_1 => ?_)
  obtain ⟨rfl, rfl⟩ := h_1
  rw [hi2]
  refine j_callV (pc := 33) (t := 10) (d_keyAt hC hi1) dX11_keyNow_33 l_X11_338 mk_X10_keyAt mv_X10_keyAt (by decide) rfl (by assumption) (by decide) rfl rfl (Nat.le_of_ble_eq_true rfl) (Nat.le_refl _) (Nat.le_refl _) (fun r T h_1 => ?_)
  obtain ⟨rfl, c, rfl, c1, c2, hB⟩ := h_1
  refine j_aret (pc := 36) dX11_keyNow_36 rfl ?_
  exact ⟨h2, hG, c, rfl, c1, c2, hB⟩
