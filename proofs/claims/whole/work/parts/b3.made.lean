/-! the class's object is made -/
def zD0 (U : zM) : Prop := zkd U 1 = (12, 0) ∧ (zgP U 1 0 = 2 ∧ zBy U 2 3 900 []) ∧ (zgP U 1 1 = 4 ∧ zBy U 4 5 900 []) ∧ (zgP U 1 2 = 6 ∧ zVW U ∧ zgP U 6 8 = 0) ∧ (zgP U 1 3 = 93 ∧ zPg U false [] (fun _ _ => 0) [] [] [] 0 0) ∧ (zgP U 1 4 = 102 ∧ zkd U 102 = (18, 4)) ∧ (∀ o, o < 4 → zgP U 102 o = 103 + 5 * o ∧ zRd U (103 + 5 * o) false false false 0 0 0 (fun _ => 0) (fun _ => 0) []) ∧ zgP U 1 5 = 0 ∧ (zgI U 1 6 = 0 ∧ zgI U 1 7 = 0 ∧ zgI U 1 8 = -1)
set_option maxRecDepth 20000 in
set_option maxHeartbeats 4000000 in
theorem c_dinit {E : zE} {S : zM}  (ha : zkd S 1 = (12, 0)) (hgS : zgn S = 1) : zSp E 3 121 5490 mX11_init cX11_init [zR 1] S (fun r T => r = none ∧ zD0 T ∧ zgn T = 122 ∧ zNF (fun c => c = 1) S T) := by
  refine zSp.of (by decide) rfl (Nat.le_of_ble_eq_true rfl) rfl ?_
  have sE : ∀ (U : zM) (y : Option zV), zgn U = 122 → (zkd U 1 = (12, 0) ∧ (zgP U 1 0 = 2 ∧ zBy U 2 3 900 []) ∧ (zgP U 1 1 = 4 ∧ zBy U 4 5 900 []) ∧ (zgP U 1 2 = 6 ∧ zVW U ∧ zgP U 6 8 = 0) ∧ (zgP U 1 3 = 93 ∧ zPg U false [] (fun _ _ => 0) [] [] [] 0 0) ∧ (zgP U 1 4 = 102 ∧ zkd U 102 = (18, 4))) → (∀ o, o < 4 → zgP U 102 o = 103 + 5 * o ∧ zRd U (103 + 5 * o) false false false 0 0 0 (fun _ => 0) (fun _ => 0) []) → zNF (fun c => c = 1) S U → zJ E 3 0 0 mX11_init cX11_init 88 [some (zR 1), y] [] U (fun r T => r = none ∧ zD0 T ∧ zgn T = 122 ∧ zNF (fun c => c = 1) S T) := by
    intro U y hg hF hl hN
    obtain ⟨k1, ⟨q0, b0⟩, ⟨q1, b1⟩, ⟨q2, b2, z2⟩, ⟨q3, b3⟩, q4, k102⟩ := hF
    refine j_aload_n (pc := 88) dX11_init_88 rfl ?_
    refine j_null (pc := 89) dX11_init_89 ?_
    refine j_putP (pc := 90) dX11_init_90 f_X11_44 (Or.inl ⟨_, rfl⟩) (by assumption) rfl ?_
    refine j_aload_n (pc := 93) dX11_init_93 rfl ?_
    refine j_iconst (pc := 94) (v := 0) dX11_init_94 (by decide) ?_
    refine j_putI (pc := 95) dX11_init_95 f_X11_48 rfl (by assumption) rfl ?_
    refine j_aload_n (pc := 98) dX11_init_98 rfl ?_
    refine j_iconst (pc := 99) (v := 0) dX11_init_99 (by decide) ?_
    refine j_putI (pc := 100) dX11_init_100 f_X11_52 rfl (by assumption) rfl ?_
    refine j_aload_n (pc := 103) dX11_init_103 rfl ?_
    refine j_iconst (pc := 104) (v := (-1)) dX11_init_104 (by decide) ?_
    refine j_putI (pc := 105) dX11_init_105 f_X11_55 rfl (by assumption) rfl ?_
    refine j_vret (pc := 108) dX11_init_108 rfl ?_
    have ag : ∀ c, c ≠ 1 → zAg U (zwI (zwI (zwI (zwP U 1 5 0) 1 6 0) 1 7 0) 1 8 (-1)) c := fun c hc => ⟨rfl, fun k => (zgI_ne hc).trans ((zgI_ne hc).trans (zgI_ne hc)), fun k => rfl, fun k => zgP_ne hc⟩
    have g1 : ∀ j, j ≠ 5 → zgP (zwI (zwI (zwI (zwP U 1 5 0) 1 6 0) 1 7 0) 1 8 (-1)) 1 j = zgP U 1 j := fun j hj => zgP_nk (S := U) hj
    exact ⟨rfl, ⟨k1, ⟨(g1 0 (by decide)).trans q0, b0.ag (ag _ (by omega)) (ag _ (by omega))⟩, ⟨(g1 1 (by decide)).trans q1, b1.ag (ag _ (by omega)) (ag _ (by omega))⟩, ⟨(g1 2 (by decide)).trans q2, b2.ag (fun c h1 h2 => ag _ (by omega)), ((ag 6 (by omega)).2.2.2 8).trans z2⟩, ⟨(g1 3 (by decide)).trans q3, b3.ag (fun c h1 h2 => ag _ (by omega))⟩, ⟨(g1 4 (by decide)).trans q4, (ag 102 (by decide)).1.trans k102⟩, fun o ho => ⟨((ag 102 (by decide)).2.2.2 o).trans (hl o ho).1, (hl o ho).2.ag (fun k hk => ag _ (by omega))⟩, zgP_self (S := U), (zgI_nk (by decide)).trans ((zgI_nk (by decide)).trans zgI_self), (zgI_nk (by decide)).trans zgI_self, zgI_self⟩, hg, hN.tr ⟨Nat.le_refl _, fun c _ hx => ag c hx⟩⟩
  have lp : ∀ (m i : Nat) (U : zM), i + m = 4 → zgn U = 102 + 5 * i → (zkd U 1 = (12, 0) ∧ (zgP U 1 0 = 2 ∧ zBy U 2 3 900 []) ∧ (zgP U 1 1 = 4 ∧ zBy U 4 5 900 []) ∧ (zgP U 1 2 = 6 ∧ zVW U ∧ zgP U 6 8 = 0) ∧ (zgP U 1 3 = 93 ∧ zPg U false [] (fun _ _ => 0) [] [] [] 0 0) ∧ (zgP U 1 4 = 102 ∧ zkd U 102 = (18, 4))) → (∀ o, o < i → zgP U 102 o = 103 + 5 * o ∧ zRd U (103 + 5 * o) false false false 0 0 0 (fun _ => 0) (fun _ => 0) []) → zNF (fun c => c = 1) S U → zJ E 3 (5 * m) (173 * m) mX11_init cX11_init 64 [some (zR 1), some (zI (nI i))] [] U (fun r T => r = none ∧ zD0 T ∧ zgn T = 122 ∧ zNF (fun c => c = 1) S T) := by
    intro m
    induction m with
    | zero =>
      intro i U hi hg hF hl hN
      refine j_iload_n (pc := 64) dX11_init_64 rfl ?_
      refine j_iconst (pc := 65) (v := 4) dX11_init_65 (by decide) ?_
      refine j_icmp_ge (pc := 66) (tgt := 88) dX11_init_66 (by decide) (fun h66 => ?_) (fun h66 => absurd (nI_le (a := 4) (show 4 ≤ i by omega) (by omega)) h66)
      have ei : i = 4 := by omega
      rw [ei] at hl
      exact sE U _ (by omega) hF hl hN
    | succ m ih =>
      intro i U hi hg hF hl hN
      obtain ⟨k1, ⟨q0, b0⟩, ⟨q1, b1⟩, ⟨q2, b2, z2⟩, ⟨q3, b3⟩, q4, k102⟩ := hF
      refine j_iload_n (pc := 64) dX11_init_64 rfl ?_
      refine j_iconst (pc := 65) (v := 4) dX11_init_65 (by decide) ?_
      refine j_icmp_ge (pc := 66) (tgt := 88) dX11_init_66 (by decide) (fun h66 => absurd h66 (nI_ge (b := 4) (show i < 4 by omega) (by decide))) (fun h66 => ?_)
      refine j_aload_n (pc := 69) dX11_init_69 rfl ?_
      refine j_getP (pc := 70) dX11_init_70 f_X11_39 (Or.inr ⟨_, rfl⟩) (by first | assumption | exact (znw_ok (by omega)).trans k1) ?_
      rw [q4]
      refine j_iload_n (pc := 73) dX11_init_73 rfl ?_
      refine j_new (pc := 74) (mc2 := 5 * m + 4) (ms2 := 173 * m + 164) dX11_init_74 nl_X11_37 (by show _ + 1 ≤ _; omega) (by show _ + 9 ≤ _; omega) ?_
      refine j_dup (pc := 77) dX11_init_77 rfl ?_
      refine j_callI (pc := 78) (mc2 := 5 * m) (ms2 := 173 * m) (c_rinit (a := zgn U + 1) znw_kd rfl (Nat.succ_pos _)) dX11_init_78 l_X11_43 mk_X6_init rfl rfl mi_X6_init (Nat.succ_pos _) (by decide) rfl rfl (Nat.le_of_ble_eq_true rfl) (by omega) (by omega) (fun r T1 h_1 => ?_)
      obtain ⟨rfl, hb, hgT, hn⟩ := h_1
      have hgT : zgn T1 = zgn U + 1 + 4 := hgT
      have hn : zNF (fun c => c = zgn U + 1) (znw U 7 0) T1 := hn
      have ag0 : ∀ c, c ≤ 102 + 5 * i → zAg U T1 c := fun c hc => hn.mk0 (by omega)
      have kan : zkd T1 102 = (14 + 4, 4) := (ag0 102 (by omega)).1.trans k102
      have hv : zkd T1 (zgn U + 1) = (6 + 1, 0) := hb.1.1
      have hin : vp_in (nI i) 4 := vp_in_nI (by omega) (by decide)
      refine j_aast (pc := 81) (j := 4) (t := 6) dX11_init_81 (by first | assumption | exact (znw_ok (by omega)).trans k1) (by decide) (by first | assumption | exact (znw_ok (by omega)).trans k1) (by assumption) ?_
      refine j_iinc (pc := 82) (v := _ + 1) (ls' := [_, _]) dX11_init_82 rfl rfl (by decide) rfl rfl ?_
      refine j_goto (pc := 85) (tgt := 64) dX11_init_85 (by decide) ?_
      rw [nI_1, nI_clamp (by omega)]
      have ag : ∀ c, c ≤ 102 + 5 * i ∧ c ≠ 102 → zAg U (zwP T1 102 i (zgn U + 1)) c := fun c hc => (ag0 c hc.1).tr (zAg.wP hc.2)
      have g1 : ∀ j, j ≠ 99 → zgP (zwP T1 102 i (zgn U + 1)) 1 j = zgP U 1 j := fun j _ => (ag 1 (by omega)).2.2.2 j
      refine ih (i + 1) _ (by omega) (by show zgn T1 = 102 + 5 * (i + 1); omega) ⟨(ag 1 (by omega)).1.trans k1, ⟨(g1 0 (by decide)).trans q0, b0.ag (ag _ (by omega)) (ag _ (by omega))⟩, ⟨(g1 1 (by decide)).trans q1, b1.ag (ag _ (by omega)) (ag _ (by omega))⟩, ⟨(g1 2 (by decide)).trans q2, b2.ag (fun c h1 h2 => ag _ (by omega)), ((ag 6 (by omega)).2.2.2 8).trans z2⟩, ⟨(g1 3 (by decide)).trans q3, b3.ag (fun c h1 h2 => ag _ (by omega))⟩, (g1 4 (by decide)).trans q4, kan⟩ (fun o ho => ?_) ⟨Nat.le_trans hN.1 (by show zgn U ≤ zgn T1; omega), fun c hc hx => (hN.2 c hc hx).tr (ag c ⟨by omega, by omega⟩)⟩
      by_cases e : o = i
      · refine ⟨by rw [e]; exact zgP_self.trans (by omega), ?_⟩
        rw [e, show 103 + 5 * i = zgn U + 1 by omega]
        exact hb.ag (fun k hk => zAg.wP (by omega))
      · have := hl o (by omega)
        exact ⟨(zgP_nk e).trans (((ag0 102 (by omega)).2.2.2 o).trans this.1), this.2.ag (fun k hk => ag _ (by omega))⟩
  have s4 : ∀ U : zM, zgn U = 101 → (zkd U 1 = (12, 0) ∧ (zgP U 1 0 = 2 ∧ zBy U 2 3 900 []) ∧ (zgP U 1 1 = 4 ∧ zBy U 4 5 900 []) ∧ (zgP U 1 2 = 6 ∧ zVW U ∧ zgP U 6 8 = 0) ∧ (zgP U 1 3 = 93 ∧ zPg U false [] (fun _ _ => 0) [] [] [] 0 0)) → zNF (fun c => c = 1) S U → zJ E 3 21 696 mX11_init cX11_init 54 [some (zR 1), none] [] U (fun r T => r = none ∧ zD0 T ∧ zgn T = 122 ∧ zNF (fun c => c = 1) S T) := by
    intro U hg hF hN
    obtain ⟨k1, ⟨q0, b0⟩, ⟨q1, b1⟩, ⟨q2, b2, z2⟩, ⟨q3, b3⟩⟩ := hF
    refine j_aload_n (pc := 54) dX11_init_54 rfl ?_
    refine j_iconst (pc := 55) (v := 4) dX11_init_55 (by decide) ?_
    refine j_anew (pc := 56) (n := 4) (mc2 := 20) (ms2 := 692) dX11_init_56 (Or.inr ⟨rfl, rfl⟩) n_X11_37 (by decide) (by decide) (by decide) (Nat.le_of_ble_eq_true rfl) (Nat.le_of_ble_eq_true rfl) ?_
    refine j_putFP (pc := 59) dX11_init_59 f_X11_39 (Or.inr ⟨_, rfl⟩) rfl rfl fp_X11_39 (by first | assumption | (simp [zkd_wP, zkd_nw, zgP_wP, zgP_nw, zgn_wP, zgn_nw, hg, k1])) rfl ?_
    refine j_iconst (pc := 62) (v := 0) dX11_init_62 (by decide) ?_
    refine j_istore_n (pc := 63) (ls' := [_, _]) dX11_init_63 (by decide) rfl rfl ?_
    have ag : ∀ c, c ≤ 101 ∧ c ≠ 1 → zAg U (zwP (znw U 18 4) 1 4 (zgn U + 1)) c := fun c hc => ((zNF.nw (X := fun c => c = 1)).tr (zNF.wP rfl)).2 c (by omega) hc.2
    have g1 : ∀ j, j ≠ 4 → zgP (zwP (znw U 18 4) 1 4 (zgn U + 1)) 1 j = zgP U 1 j := fun j hj => (zgP_nk (S := znw U 18 4) hj).trans (by rw [zgP_nw, if_neg (by omega)])
    refine lp 4 0 _ rfl (by simp [zkd_wP, zkd_nw, zgP_wP, zgP_nw, zgn_wP, zgn_nw, hg, k1]) ⟨?_, ⟨(g1 0 (by decide)).trans q0, b0.ag (ag _ (by omega)) (ag _ (by omega))⟩, ⟨(g1 1 (by decide)).trans q1, b1.ag (ag _ (by omega)) (ag _ (by omega))⟩, ⟨(g1 2 (by decide)).trans q2, b2.ag (fun c h1 h2 => ag _ (by omega)), ((ag 6 (by omega)).2.2.2 8).trans z2⟩, ⟨(g1 3 (by decide)).trans q3, b3.ag (fun c h1 h2 => ag _ (by omega))⟩, ?_, ?_⟩ (fun o ho => absurd ho (Nat.not_lt_zero o)) ((hN.tr zNF.nw).tr (zNF.wP rfl))
    · simp [zkd_wP, zkd_nw, zgP_wP, zgP_nw, zgn_wP, zgn_nw, hg, k1]
    · simp [zkd_wP, zkd_nw, zgP_wP, zgP_nw, zgn_wP, zgn_nw, hg, k1]
    · simp [zkd_wP, zkd_nw, zgP_wP, zgP_nw, zgn_wP, zgn_nw, hg, k1]
  have s3 : ∀ U : zM, zgn U = 92 → (zkd U 1 = (12, 0) ∧ (zgP U 1 0 = 2 ∧ zBy U 2 3 900 []) ∧ (zgP U 1 1 = 4 ∧ zBy U 4 5 900 []) ∧ (zgP U 1 2 = 6 ∧ zVW U ∧ zgP U 6 8 = 0)) → zNF (fun c => c = 1) S U → zJ E 3 30 1791 mX11_init cX11_init 43 [some (zR 1), none] [] U (fun r T => r = none ∧ zD0 T ∧ zgn T = 122 ∧ zNF (fun c => c = 1) S T) := by
    intro U hg hF hN
    obtain ⟨k1, ⟨q0, b0⟩, ⟨q1, b1⟩, ⟨q2, b2, z2⟩⟩ := hF
    have hk : zkd (znw U 5 0) 93 = (5, 0) := by rw [show 93 = zgn U + 1 by omega]; exact znw_kd
    have hz : zgn (znw U 5 0) = 93 := by show zgn U + 1 = 93; omega
    refine j_aload_n (pc := 43) dX11_init_43 rfl ?_
    refine j_new (pc := 44) (mc2 := 29) (ms2 := 1782) dX11_init_44 nl_X11_30 (Nat.le_of_ble_eq_true rfl) (Nat.le_of_ble_eq_true rfl) ?_
    refine j_dup (pc := 47) dX11_init_47 rfl ?_
    rw [show zgn U + 1 = 93 by omega]
    refine j_callI (pc := 48) (mc2 := 21) (ms2 := 696) (c_ginit (S := znw U 5 0) hk hz) dX11_init_48 l_X11_32 mk_X4_init rfl rfl mi_X4_init (by decide) (by decide) rfl rfl (Nat.le_of_ble_eq_true rfl) (Nat.le_of_ble_eq_true rfl) (Nat.le_of_ble_eq_true rfl) (fun r T1 h_1 => ?_)
    obtain ⟨rfl, hb, hgT, hn⟩ := h_1
    have hn : zNF (fun c => c = zgn U + 1) (znw U 5 0) T1 := by rw [hg]; exact hn
    have ag0 : ∀ c, c ≤ 92 → zAg U T1 c := fun c hc => hn.mk0 (by omega)
    have ka : zkd T1 1 = (12, 0) := (ag0 1 (by decide)).1.trans k1
    have e1 : zgn U + 1 = 93 := by omega
    refine j_putFP (pc := 51) dX11_init_51 f_X11_33 (Or.inl ⟨_, rfl⟩) rfl rfl fp_X11_33 (by first | assumption | exact (znw_ok (by omega)).trans k1) rfl ?_
    have ag : ∀ c, c ≤ 92 ∧ c ≠ 1 → zAg U (zwP T1 1 3 93) c := fun c hc => (ag0 c hc.1).tr (zAg.wP hc.2)
    have g1 : ∀ j, j ≠ 3 → zgP (zwP T1 1 3 93) 1 j = zgP U 1 j := fun j hj => (zgP_nk hj).trans ((ag0 1 (by decide)).2.2.2 j)
    have hgT : zgn T1 = 101 := hgT
    refine s4 _ (by show zgn T1 = 101; omega) ⟨ka, ⟨(g1 0 (by decide)).trans q0, b0.ag (ag _ (by omega)) (ag _ (by omega))⟩, ⟨(g1 1 (by decide)).trans q1, b1.ag (ag _ (by omega)) (ag _ (by omega))⟩, ⟨(g1 2 (by decide)).trans q2, b2.ag (fun c h1 h2 => ag _ (by omega)), ((ag 6 (by omega)).2.2.2 8).trans z2⟩, ⟨zgP_self, ?_⟩⟩ (hN.tr ⟨by show zgn U ≤ zgn T1; omega, fun c hc hx => ag c ⟨by omega, hx⟩⟩)
    exact hb.ag (fun c h1 h2 => zAg.wP (by omega))
  have s2 : ∀ U : zM, zgn U = 5 → (zkd U 1 = (12, 0) ∧ (zgP U 1 0 = 2 ∧ zBy U 2 3 900 []) ∧ (zgP U 1 1 = 4 ∧ zBy U 4 5 900 [])) → zNF (fun c => c = 1) S U → zJ E 3 117 3686 mX11_init cX11_init 32 [some (zR 1), none] [] U (fun r T => r = none ∧ zD0 T ∧ zgn T = 122 ∧ zNF (fun c => c = 1) S T) := by
    intro U hg hF hN
    obtain ⟨k1, ⟨q0, b0⟩, ⟨q1, b1⟩⟩ := hF
    have hk : zkd (znw U 11 0) 6 = (11, 0) := by rw [show 6 = zgn U + 1 by omega]; exact znw_kd
    have hz : zgn (znw U 11 0) = 6 := by show zgn U + 1 = 6; omega
    refine j_aload_n (pc := 32) dX11_init_32 rfl ?_
    refine j_new (pc := 33) (mc2 := 116) (ms2 := 3675) dX11_init_33 nl_X11_23 (Nat.le_of_ble_eq_true rfl) (Nat.le_of_ble_eq_true rfl) ?_
    refine j_dup (pc := 36) dX11_init_36 rfl ?_
    rw [show zgn U + 1 = 6 by omega]
    refine j_callI (pc := 37) (mc2 := 30) (ms2 := 1791) (c_vinit (S := znw U 11 0) hk hz) dX11_init_37 l_X11_25 mk_X10_init rfl rfl mi_X10_init (by decide) (by decide) rfl rfl (Nat.le_of_ble_eq_true rfl) (Nat.le_of_ble_eq_true rfl) (Nat.le_of_ble_eq_true rfl) (fun r T1 h_1 => ?_)
    obtain ⟨rfl, hb, hz, hgT, hn⟩ := h_1
    have hn : zNF (fun c => c = zgn U + 1) (znw U 11 0) T1 := by rw [hg]; exact hn
    have ag0 : ∀ c, c ≤ 5 → zAg U T1 c := fun c hc => hn.mk0 (by omega)
    have ka : zkd T1 1 = (12, 0) := (ag0 1 (by decide)).1.trans k1
    have e1 : zgn U + 1 = 6 := by omega
    refine j_putFP (pc := 40) dX11_init_40 f_X11_26 (Or.inl ⟨_, rfl⟩) rfl rfl fp_X11_26 (by first | assumption | exact (znw_ok (by omega)).trans k1) rfl ?_
    have ag : ∀ c, c ≤ 5 ∧ c ≠ 1 → zAg U (zwP T1 1 2 6) c := fun c hc => (ag0 c hc.1).tr (zAg.wP hc.2)
    have g1 : ∀ j, j ≠ 2 → zgP (zwP T1 1 2 6) 1 j = zgP U 1 j := fun j hj => (zgP_nk hj).trans ((ag0 1 (by decide)).2.2.2 j)
    have hgT : zgn T1 = 92 := hgT
    refine s3 _ (by show zgn T1 = 92; omega) ⟨ka, ⟨(g1 0 (by decide)).trans q0, b0.ag (ag _ (by omega)) (ag _ (by omega))⟩, ⟨(g1 1 (by decide)).trans q1, b1.ag (ag _ (by omega)) (ag _ (by omega))⟩, ⟨zgP_self, ?_, ?_⟩⟩ (hN.tr ⟨by show zgn U ≤ zgn T1; omega, fun c hc hx => ag c ⟨by omega, hx⟩⟩)
    · exact hb.ag (fun c h1 h2 => zAg.wP (by omega))
    · exact (zgP_ne (by decide)).trans hz
  have s1 : ∀ U : zM, zgn U = 3 → (zkd U 1 = (12, 0) ∧ (zgP U 1 0 = 2 ∧ zBy U 2 3 900 [])) → zNF (fun c => c = 1) S U → zJ E 3 119 4588 mX11_init cX11_init 18 [some (zR 1), none] [] U (fun r T => r = none ∧ zD0 T ∧ zgn T = 122 ∧ zNF (fun c => c = 1) S T) := by
    intro U hg hF hN
    obtain ⟨k1, ⟨q0, b0⟩⟩ := hF
    refine j_aload_n (pc := 18) dX11_init_18 rfl ?_
    refine j_new (pc := 19) (mc2 := 118) (ms2 := 4586) dX11_init_19 nl_X11_11 (Nat.le_of_ble_eq_true rfl) (Nat.le_of_ble_eq_true rfl) ?_
    refine j_dup (pc := 22) dX11_init_22 rfl ?_
    refine j_sipush (pc := 23) (v := 900) dX11_init_23 (by decide) ?_
    refine j_callI (pc := 26) (mc2 := 117) (ms2 := 3686) (c_binit (cap := 900) znw_kd (Nat.succ_pos _) (Nat.le_refl _) (by decide)) dX11_init_26 l_X11_13 mk_X1_init rfl rfl mi_X1_init (Nat.succ_pos _) (by decide) rfl rfl (Nat.le_of_ble_eq_true rfl) (Nat.le_of_ble_eq_true rfl) (Nat.le_of_ble_eq_true rfl) (fun r T1 h_1 => ?_)
    obtain ⟨rfl, hb, hgT, hn⟩ := h_1
    have hn : zNF (fun c => c = zgn U + 1) (znw U 2 0) T1 := hn
    have ag0 : ∀ c, c ≤ 3 → zAg U T1 c := fun c hc => hn.mk0 (by omega)
    have ka : zkd T1 1 = (12, 0) := (ag0 1 (by decide)).1.trans k1
    have e1 : zgn U + 1 = 4 := by omega
    refine j_putFP (pc := 29) dX11_init_29 f_X11_20 (Or.inl ⟨_, rfl⟩) rfl rfl fp_X11_20 (by first | assumption | exact (znw_ok (by omega)).trans k1) rfl ?_
    have ag : ∀ c, c ≤ 3 ∧ c ≠ 1 → zAg U (zwP T1 1 1 (zgn U + 1)) c := fun c hc => (ag0 c hc.1).tr (zAg.wP hc.2)
    have g1 : ∀ j, j ≠ 1 → zgP (zwP T1 1 1 (zgn U + 1)) 1 j = zgP U 1 j := fun j hj => (zgP_nk hj).trans ((ag0 1 (by decide)).2.2.2 j)
    have hgT : zgn T1 = zgn U + 1 + 1 := hgT
    refine s2 _ (by show zgn T1 = 5; omega) ⟨ka, ⟨(g1 0 (by decide)).trans q0, b0.ag (ag _ (by omega)) (ag _ (by omega))⟩, ⟨zgP_self.trans e1, ?_⟩⟩ (hN.tr ⟨by show zgn U ≤ zgn T1; omega, fun c hc hx => ag c ⟨by omega, hx⟩⟩)
    have hb : zBy T1 (zgn U + 1) (zgn U + 1 + 1) 900 [] := hb
    rw [e1] at hb ⊢
    exact hb.ag (zAg.wP (by decide)) (zAg.wP (by decide))
  have s0 : ∀ U : zM, zgn U = 1 → (zkd U 1 = (12, 0)) → zNF (fun c => c = 1) S U → zJ E 3 121 5490 mX11_init cX11_init 4 [some (zR 1), none] [] U (fun r T => r = none ∧ zD0 T ∧ zgn T = 122 ∧ zNF (fun c => c = 1) S T) := by
    intro U hg hF hN
    have k1 := hF
    refine j_aload_n (pc := 4) dX11_init_4 rfl ?_
    refine j_new (pc := 5) (mc2 := 120) (ms2 := 5488) dX11_init_5 nl_X11_11 (Nat.le_of_ble_eq_true rfl) (Nat.le_of_ble_eq_true rfl) ?_
    refine j_dup (pc := 8) dX11_init_8 rfl ?_
    refine j_sipush (pc := 9) (v := 900) dX11_init_9 (by decide) ?_
    refine j_callI (pc := 12) (mc2 := 119) (ms2 := 4588) (c_binit (cap := 900) znw_kd (Nat.succ_pos _) (Nat.le_refl _) (by decide)) dX11_init_12 l_X11_13 mk_X1_init rfl rfl mi_X1_init (Nat.succ_pos _) (by decide) rfl rfl (Nat.le_of_ble_eq_true rfl) (Nat.le_of_ble_eq_true rfl) (Nat.le_of_ble_eq_true rfl) (fun r T1 h_1 => ?_)
    obtain ⟨rfl, hb, hgT, hn⟩ := h_1
    have hn : zNF (fun c => c = zgn U + 1) (znw U 2 0) T1 := hn
    have ag0 : ∀ c, c ≤ 1 → zAg U T1 c := fun c hc => hn.mk0 (by omega)
    have ka : zkd T1 1 = (12, 0) := (ag0 1 (by decide)).1.trans k1
    have e1 : zgn U + 1 = 2 := by omega
    refine j_putFP (pc := 15) dX11_init_15 f_X11_16 (Or.inl ⟨_, rfl⟩) rfl rfl fp_X11_16 (by first | assumption | exact (znw_ok (by omega)).trans k1) rfl ?_
    have ag : ∀ c, c ≤ 1 ∧ c ≠ 1 → zAg U (zwP T1 1 0 (zgn U + 1)) c := fun c hc => (ag0 c hc.1).tr (zAg.wP hc.2)
    have g1 : ∀ j, j ≠ 0 → zgP (zwP T1 1 0 (zgn U + 1)) 1 j = zgP U 1 j := fun j hj => (zgP_nk hj).trans ((ag0 1 (by decide)).2.2.2 j)
    have hgT : zgn T1 = zgn U + 1 + 1 := hgT
    refine s1 _ (by show zgn T1 = 3; omega) ⟨ka, ⟨zgP_self.trans e1, ?_⟩⟩ (hN.tr ⟨by show zgn U ≤ zgn T1; omega, fun c hc hx => ag c ⟨by omega, hx⟩⟩)
    have hb : zBy T1 (zgn U + 1) (zgn U + 1 + 1) 900 [] := hb
    rw [e1] at hb ⊢
    exact hb.ag (zAg.wP (by decide)) (zAg.wP (by decide))
  refine j_aload_n (pc := 0) dX11_init_0 rfl ?_
  refine j_objInit (pc := 1) dX11_init_1 oi_X11_5 (by omega) (by decide) (Nat.le_of_ble_eq_true rfl) ?_
  exact s0 S hgS ha zNF.rf
