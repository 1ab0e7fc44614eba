abbrev zXP : Nat → Prop := fun c => 93 ≤ c ∧ c ≤ 101
abbrev zXQ : Nat → Prop := fun c => 93 ≤ c ∧ c ≤ 95
theorem zPS.f {X : Nat → Prop} {S T : zM} (h : zPS S) (f : zF X S T) : zPS T := by
  unfold zPS
  rw [f.1, f.2.2.1]
  exact h
theorem zVC.ag {S T : zM} {O : List zOe} {V : List zSe} {t : zRW} (h : zVC S O V t) (f : ∀ c, 6 ≤ c → c ≤ 92 → zAg S T c) : zVC T O V t := by
  obtain ⟨q, gv, h0, hR, h1, h2⟩ := h
  have q12 : ∀ k, k < 40 → 12 ≤ q k ∧ q k ≤ 90 := fun k hk => by obtain ⟨-, ⟨j, hj, e⟩, -⟩ := h0.2.1 k hk; omega
  have f6 := f 6 (by decide) (by decide)
  refine ⟨q, gv, ⟨⟨f6.1.trans h0.1.1, (f 10 (by decide) (by decide)).1.trans h0.1.2.1, (f 11 (by decide) (by decide)).1.trans h0.1.2.2.1, (f 92 (by decide) (by decide)).1.trans h0.1.2.2.2.1, (f6.2.2.2 0).trans h0.1.2.2.2.2.1, (f6.2.2.2 1).trans h0.1.2.2.2.2.2.1, (f6.2.2.2 2).trans h0.1.2.2.2.2.2.2.1, (f6.2.2.2 3).trans h0.1.2.2.2.2.2.2.2⟩, fun k hk => ⟨((f 11 (by decide) (by decide)).2.2.2 k).trans (h0.2.1 k hk).1, (h0.2.1 k hk).2.1, ?_⟩, h0.2.2⟩, hR.ag (fun k hk => f _ (by omega) (by omega)), ⟨(f6.2.1 4).trans h1.1, h1.2.1, fun k y hy => ⟨((f 10 (by decide) (by decide)).2.1 k).trans (h1.2.2 k y hy).1, (h1.2.2 k y hy).2.1, ?_⟩⟩, (f6.2.1 5).trans h2.1, fun k i hi => ((f 92 (by decide) (by decide)).2.1 k).trans (h2.2 k i hi)⟩
  · obtain ⟨-, -, L, hL⟩ := h0.2.1 k hk
    have := q12 k hk
    exact ⟨L, hL.ag (f _ (by omega) (by omega)) (f _ (by omega) (by omega))⟩
  · have hk40 : k < 40 := Nat.lt_of_lt_of_le (List.getElem?_eq_some_iff.mp hy).1 h1.2.1
    have := q12 k hk40
    exact (h1.2.2 k y hy).2.2.ag (f _ (by omega) (by omega)) (f _ (by omega) (by omega))
theorem zVC.ro {S : zM} {O : List zOe} {V : List zSe} {t : zRW} (h : zVC S O V t) : ∃ g, zRo S 7 t.1 t.2 g := by
  obtain ⟨q, gv, h0, hR, -⟩ := h
  exact ⟨gv, hR⟩
set_option maxRecDepth 20000 in
set_option maxHeartbeats 4000000 in
theorem l_fill1 {E : zE} {S : zM} {Q : Option zV → zM → Prop} {O : List zOe} {V : List zSe} {t : zRW} {n i x : Nat} {s0 s1 : Int32} (h0 : zVC S O V t) (hps0 : zPS S) (hn : zgI S 93 6 = nI n) (hn20 : n < 20) (hx64 : x < 64)
    (hcont : ∀ (T : zM), zF (fun c => c = 95) S T → (∀ k, k < 4 → zgL T 95 (n * 4 + k) = t.2 x k) → (∀ k, k < n * 4 → zgL T 95 k = zgL S 95 k) → zJ E 3 0 0 mX4_fill cX4_fill 93 [some (zR 93), some (zR 6), some (zI s0), some (zI s1), some (zI (nI i)), some (zI (nI x)), some (zI (nI 4))] [] T Q) :
    ∀ (m j : Nat) (T : zM), j + m = 4 → zF (fun c => c = 95) S T → (∀ k, k < j → zgL T 95 (n * 4 + k) = t.2 x k) → (∀ k, k < n * 4 → zgL T 95 k = zgL S 95 k) → zJ E 3 0 0 mX4_fill cX4_fill 56 [some (zR 93), some (zR 6), some (zI s0), some (zI s1), some (zI (nI i)), some (zI (nI x)), some (zI (nI j))] [] T Q := by
  obtain ⟨gv, hR0⟩ := h0.ro
  intro m
  induction m with
  | zero =>
    intro j T hj hF hv hold
    have ej : j = 4 := by omega
    subst ej
    refine j_iload (pc := 56) dX4_fill_56 rfl ?_
    refine j_iconst (pc := 58) (v := 4) dX4_fill_58 (by decide) ?_
    refine j_icmp_ge (pc := 59) (tgt := 93) dX4_fill_59 (by decide) (fun h59 => ?_) (fun h59 => ?_)
    · exact hcont T hF hv hold
    · exact absurd (nI_le (a := 4) (Nat.le_refl _) (by decide)) h59
  | succ m ih =>
    intro j T hj hF hv hold
    have k93 : zkd T 93 = (5, 0) := by rw [hF.1]; exact hps0.1
    have k95 : zkd T 95 = (15, 80) := by rw [hF.1]; exact hps0.2.2.1
    have k6 : zkd T 6 = (11, 0) := by rw [hF.1]; exact h0.sh.1
    have hp2 : zgP T 93 1 = 95 := by rw [hF.2.2.1]; exact hps0.2.2.2.2.1
    have hp0 : zgP T 6 0 = 7 := by rw [hF.2.2.1]; exact h0.sh.2.2.2.2.1
    have hc6 : zgI T 93 6 = nI n := (hF.2.2.2.1 93 (by decide) 6).trans hn
    have hR : zRo T 7 t.1 t.2 gv := hR0.keep hF (by decide) (by decide) (by decide)
    have k7 := hR.1
    refine j_iload (pc := 56) dX4_fill_56 rfl ?_
    refine j_iconst (pc := 58) (v := 4) dX4_fill_58 (by decide) ?_
    refine j_icmp_ge (pc := 59) (tgt := 93) dX4_fill_59 (by decide) (fun h59 => ?_) (fun h59 => ?_)
    · exact absurd h59 (nI_ge (b := 4) (by omega) (by decide))
    · refine j_aload_n (pc := 62) dX4_fill_62 rfl ?_
      refine j_getP (pc := 63) dX4_fill_63 f_X4_15 (Or.inr ⟨_, rfl⟩) (by assumption) ?_
      rw [hp2]
      refine j_aload_n (pc := 66) dX4_fill_66 rfl ?_
      refine j_getI (pc := 67) dX4_fill_67 f_X4_38 (Or.inl rfl) (by assumption) ?_
      rw [hc6]
      refine j_iconst (pc := 70) (v := 4) dX4_fill_70 (by decide) ?_
      refine j_imul (pc := 71) dX4_fill_71 ?_
      refine j_iload (pc := 72) dX4_fill_72 rfl ?_
      refine j_iadd (pc := 74) dX4_fill_74 ?_
      refine j_aload_n (pc := 75) dX4_fill_75 rfl ?_
      refine j_getP (pc := 76) dX4_fill_76 f_X4_60 (Or.inl ⟨_, rfl⟩) (by assumption) ?_
      rw [hp0]
      refine j_iload (pc := 79) dX4_fill_79 rfl ?_
      refine j_iload (pc := 81) dX4_fill_81 rfl ?_
      refine j_callV (pc := 83) (t := 7) (c_read hR hx64 (by omega)) dX4_fill_83 l_X4_64 mk_X7_read mv_X7_read (by decide) rfl (by assumption) (by decide) rfl rfl (Nat.le_of_ble_eq_true rfl) (Nat.le_refl _) (Nat.le_refl _) (fun r T h_1 => ?_)
      obtain ⟨rfl, rfl⟩ := h_1
      rw [show nI n * 4 + nI j = nI (n * 4 + j) from by rw [show (4 : Int32) = nI 4 from rfl, pk_mul, nI_add]]
      have hin : vp_in (nI (n * 4 + j)) 80 := vp_in_nI (by omega) (by decide)
      have hcl : (nI (n * 4 + j)).toNatClampNeg = n * 4 + j := nI_clamp (by omega)
      refine j_last (pc := 86) dX4_fill_86 (by assumption) (by assumption) ?_
      refine j_iinc (pc := 87) (v := _ + 1) (ls' := [_, _, _, _, _, _, _]) dX4_fill_87 rfl rfl (by decide) rfl rfl ?_
      refine j_goto (pc := 90) (tgt := 56) dX4_fill_90 (by decide) ?_
      rw [nI_1, hcl]
      refine ih (j + 1) _ (by omega) (hF.tr (zF.wL (X := fun c => c = 95) rfl)) (fun k hk => ?_) (fun k hk => ?_)
      · rw [zgL_wL]
        by_cases e : k = j
        · rw [e]
          exact if_pos ⟨rfl, rfl⟩
        · rw [if_neg (fun z => e (by omega))]
          exact hv k (by omega)
      · rw [zgL_nk (by omega)]
        exact hold k hk
set_option maxRecDepth 20000 in
set_option maxHeartbeats 4000000 in
theorem l_fill2 {E : zE} {S : zM} {Q : Option zV → zM → Prop} {O : List zOe} {V : List zSe} {t : zRW} {f e : Nat} {s0 s1 : Int32} (h0 : zVC S O V t) (hps0 : zPS S ∧ ∀ {T : zM}, zF zXQ S T → zPS T) (hfe : f ≤ e) (he20 : e ≤ f + 20) (heB : e ≤ (zBB O V t).length) (he0 : zgI S 6 7 = nI e)
    (hcont : ∀ (T : zM) (y z : Option zV), zF zXQ S T → zgI T 93 6 = nI (e - f) → (∀ k, k ≠ 6 → zgI T 93 k = zgI S 93 k) → (∀ i x, i < e - f → (zBB O V t)[f + i]? = some x → zgI T 94 i = nI x ∧ ∀ j, j < 4 → zgL T 95 (i * 4 + j) = t.2 x j) → zJ E 3 0 0 mX4_fill cX4_fill 109 [some (zR 93), some (zR 6), some (zI s0), some (zI s1), some (zI (nI e)), y, z] [] T Q) :
    ∀ (m n : Nat) (T : zM) (y z : Option zV), f + n + m = e → zF zXQ S T → zgI T 93 6 = nI n → (∀ k, k ≠ 6 → zgI T 93 k = zgI S 93 k) → (∀ i x, i < n → (zBB O V t)[f + i]? = some x → zgI T 94 i = nI x ∧ ∀ j, j < 4 → zgL T 95 (i * 4 + j) = t.2 x j) → zJ E 3 0 0 mX4_fill cX4_fill 16 [some (zR 93), some (zR 6), some (zI s0), some (zI s1), some (zI (nI (f + n))), y, z] [] T Q := by
  have hB40 := h0.len.2
  intro m
  induction m with
  | zero =>
    intro n T y z hm hF hc6 hk93 hv
    have k6 : zkd T 6 = (11, 0) := by rw [hF.1]; exact h0.sh.1
    have k93 : zkd T 93 = (5, 0) := by rw [hF.1]; exact hps0.1.1
    have he : zgI T 6 7 = nI e := (hF.2.2.2.1 6 (by decide) 7).trans he0
    have en : f + n = e := by omega
    rw [show n = e - f by omega] at hc6 hv
    rw [en]
    refine j_iload (pc := 16) dX4_fill_16 rfl ?_
    refine j_aload_n (pc := 18) dX4_fill_18 rfl ?_
    refine j_getI (pc := 19) dX4_fill_19 f_X4_53 (Or.inl rfl) (by assumption) ?_
    rw [he]
    refine j_icmp_ge (pc := 22) (tgt := 109) dX4_fill_22 (by decide) (fun h22 => ?_) (fun h22 => ?_)
    · exact hcont T y z hF hc6 hk93 hv
    · exact absurd (nI_le (by omega) (by omega)) h22
  | succ m ih =>
    intro n T y z hm hF hc6 hk93 hv
    have k6 : zkd T 6 = (11, 0) := by rw [hF.1]; exact h0.sh.1
    have k93 : zkd T 93 = (5, 0) := by rw [hF.1]; exact hps0.1.1
    have k94 : zkd T 94 = (14, 20) := by rw [hF.1]; exact hps0.1.2.1
    have he : zgI T 6 7 = nI e := (hF.2.2.2.1 6 (by decide) 7).trans he0
    have hp1 : zgP T 93 0 = 94 := by rw [hF.2.2.1]; exact hps0.1.2.2.2.1
    have hVT : zVC T O V t := h0.ag (fun c h1 h2 => hF.ag (by unfold zXQ; omega))
    obtain ⟨x, hx⟩ : ∃ x, (zBB O V t)[f + n]? = some x := ⟨(zBB O V t)[f + n]'(by omega), List.getElem?_eq_getElem (by omega)⟩
    have hx64 : x < 64 := zBB_64 (List.mem_of_getElem? hx)
    have hin : vp_in (nI n) 20 := vp_in_nI (by omega) (by decide)
    have hcl : (nI n).toNatClampNeg = n := nI_clamp (by omega)
    refine j_iload (pc := 16) dX4_fill_16 rfl ?_
    refine j_aload_n (pc := 18) dX4_fill_18 rfl ?_
    refine j_getI (pc := 19) dX4_fill_19 f_X4_53 (Or.inl rfl) (by assumption) ?_
    rw [he]
    refine j_icmp_ge (pc := 22) (tgt := 109) dX4_fill_22 (by decide) (fun h22 => ?_) (fun h22 => ?_)
    · exact absurd h22 (nI_ge (by omega) (by omega))
    · refine j_aload_n (pc := 25) dX4_fill_25 rfl ?_
      refine j_getI (pc := 26) dX4_fill_26 f_X4_38 (Or.inl rfl) (by assumption) ?_
      rw [hc6]
      refine j_bipush (pc := 29) (v := 20) dX4_fill_29 (by decide) ?_
      refine j_icmp_ge (pc := 31) (tgt := 109) dX4_fill_31 (by decide) (fun h31 => ?_) (fun h31 => ?_)
      · exact absurd h31 (nI_ge (b := 20) (by omega) (by decide))
      · refine j_aload_n (pc := 34) dX4_fill_34 rfl ?_
        refine j_iload (pc := 35) dX4_fill_35 rfl ?_
        refine j_callV (pc := 37) (t := 10) (c_idPassing hVT hx) dX4_fill_37 l_X4_56 mk_X10_idPassing mv_X10_idPassing (by decide) rfl (by assumption) (by decide) rfl rfl (Nat.le_of_ble_eq_true rfl) (Nat.le_refl _) (Nat.le_refl _) (fun r T h_1 => ?_)
        obtain ⟨rfl, rfl⟩ := h_1
        refine j_istore (pc := 40) (ls' := [_, _, _, _, _, _, _]) dX4_fill_40 (by decide) rfl rfl ?_
        refine j_aload_n (pc := 42) dX4_fill_42 rfl ?_
        refine j_getP (pc := 43) dX4_fill_43 f_X4_9 (Or.inr ⟨_, rfl⟩) (by assumption) ?_
        rw [hp1]
        refine j_aload_n (pc := 46) dX4_fill_46 rfl ?_
        refine j_getI (pc := 47) dX4_fill_47 f_X4_38 (Or.inl rfl) (by assumption) ?_
        rw [hc6]
        refine j_iload (pc := 50) dX4_fill_50 rfl ?_
        refine j_iast (pc := 52) dX4_fill_52 (by assumption) (by assumption) ?_
        refine j_iconst (pc := 53) (v := 0) dX4_fill_53 (by decide) ?_
        refine j_istore (pc := 54) (ls' := [_, _, _, _, _, _, _]) dX4_fill_54 (by decide) rfl rfl ?_
        rw [hcl]
        have hF1 : zF zXQ S (zwI T 94 n (nI x)) := hF.tr (zF.wI (by decide))
        refine l_fill1 (S := zwI T 94 n (nI x)) (n := n) (h0.ag (fun c h1 h2 => hF1.ag (by unfold zXQ; omega))) (hps0.2 hF1) ((zgI_ne (by decide)).trans hc6) (by omega) hx64 (fun U hU hv2 hold => ?_) 4 0 _ (by omega) zF.rf (fun k hk => absurd hk (Nat.not_lt_zero k)) (fun k hk => rfl)
        have u93 : zkd U 93 = (5, 0) := by rw [hU.1]; exact k93
        refine j_aload_n (pc := 93) dX4_fill_93 rfl ?_
        refine j_dup (pc := 94) dX4_fill_94 rfl ?_
        refine j_getI (pc := 95) dX4_fill_95 f_X4_38 (Or.inl rfl) (by assumption) ?_
        rw [(hU.2.2.2.1 93 (by decide) 6).trans ((zgI_ne (by decide)).trans hc6)]
        refine j_iconst (pc := 98) (v := 1) dX4_fill_98 (by decide) ?_
        refine j_iadd (pc := 99) dX4_fill_99 ?_
        rw [nI_1]
        refine j_putI (pc := 100) dX4_fill_100 f_X4_38 rfl (by assumption) rfl ?_
        refine j_iinc (pc := 103) (v := _ + 1) (ls' := [_, _, _, _, _, _, _]) dX4_fill_103 rfl rfl (by decide) rfl rfl ?_
        refine j_goto (pc := 106) (tgt := 16) dX4_fill_106 (by decide) ?_
        rw [nI_1]
        refine ih (n + 1) _ _ _ (by omega) ((hF1.tr (hU.mo (fun c e => by unfold zXQ; omega))).tr (zF.wI (by decide))) zgI_self (fun k hk => (zgI_nk hk).trans (((hU.2.2.2.1 93 (by decide) k).trans (zgI_ne (by decide))).trans (hk93 k hk))) (fun i y hi hy => ?_)
        by_cases e : i = n
        · subst e
          rw [hx] at hy
          cases hy
          refine ⟨?_, fun j hj => hv2 j hj⟩
          rw [zgI_ne (by decide), hU.2.2.2.1 94 (by decide)]
          exact zgI_self
        · obtain ⟨g1, g2⟩ := hv i y (by omega) hy
          refine ⟨?_, fun j hj => ?_⟩
          · rw [zgI_ne (by decide), hU.2.2.2.1 94 (by decide), zgI_nk e]
            exact g1
          · exact (hold (i * 4 + j) (by omega)).trans (g2 j hj)
