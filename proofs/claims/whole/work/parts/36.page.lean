/-! PAGE: cells 93 to 101 -/
def zPS (S : zM) : Prop := zkd S 93 = (5, 0) ∧ zkd S 94 = (14, 20) ∧ zkd S 95 = (15, 80) ∧ zgP S 93 0 = 94 ∧ zgP S 93 1 = 95 ∧ zgP S 93 2 = 96 ∧ zgP S 93 3 = 98 ∧ zgP S 93 4 = 100
def zPg (S : zM) (pt : Bool) (ids : List Nat) (vs : Nat → Nat → Int64) (kb ka kk : List Nat) (ah be : Nat) : Prop := zPS S ∧ zgI S 93 5 = zbi pt ∧ zgI S 93 6 = nI ids.length ∧ ids.length ≤ 20 ∧ zgI S 93 7 = nI ah ∧ zgI S 93 8 = nI be ∧ (∀ i x, ids[i]? = some x → zgI S 94 i = nI x) ∧ (∀ i j, i < ids.length → j < 4 → zgL S 95 (i * 4 + j) = vs i j) ∧ zBy S 96 97 40 kb ∧ zBy S 98 99 40 ka ∧ zBy S 100 101 900 kk
theorem zPS.ag {S T : zM} (h : zPS S) (f : zAg S T 93) (f1 : zAg S T 94) (f2 : zAg S T 95) : zPS T := by
  obtain ⟨k1, k2, k3, p1, p2, p3, p4, p5⟩ := h
  exact ⟨f.1.trans k1, f1.1.trans k2, f2.1.trans k3, (f.2.2.2 0).trans p1, (f.2.2.2 1).trans p2, (f.2.2.2 2).trans p3, (f.2.2.2 3).trans p4, (f.2.2.2 4).trans p5⟩
theorem zPg.ag {S T : zM} {pt : Bool} {ids : List Nat} {vs : Nat → Nat → Int64} {kb ka kk : List Nat} {ah be : Nat} (h : zPg S pt ids vs kb ka kk ah be) (f : ∀ c, 93 ≤ c → c ≤ 101 → zAg S T c) : zPg T pt ids vs kb ka kk ah be := by
  obtain ⟨h0, h1, h2, h3, h4, h5, h6, h7, h8, h9, h10⟩ := h
  have f0 := f 93 (by decide) (by decide)
  exact ⟨h0.ag f0 (f 94 (by decide) (by decide)) (f 95 (by decide) (by decide)), (f0.2.1 5).trans h1, (f0.2.1 6).trans h2, h3, (f0.2.1 7).trans h4, (f0.2.1 8).trans h5, fun i x hx => ((f 94 (by decide) (by decide)).2.1 i).trans (h6 i x hx), fun i j hi hj => ((f 95 (by decide) (by decide)).2.2.1 _).trans (h7 i j hi hj), h8.ag (f 96 (by decide) (by decide)) (f 97 (by decide) (by decide)), h9.ag (f 98 (by decide) (by decide)) (f 99 (by decide) (by decide)), h10.ag (f 100 (by decide) (by decide)) (f 101 (by decide) (by decide))⟩
def zin2 (n : Nat) (x : Int32) : Bool := decide (¬ x < 0 ∧ ¬ nI n ≤ x)
set_option maxRecDepth 20000 in
set_option maxHeartbeats 4000000 in
theorem c_phas {E : zE} {S : zM} {pt : Bool} {ids : List Nat} {vs : Nat → Nat → Int64} {kb ka kk : List Nat} {ah be : Nat} (h : zPg S pt ids vs kb ka kk ah be) (x : Int32) : zSp E 0 0 0 mX4_has cX4_has [zR 93, zI x] S (fun r T => S = T ∧ r = some (zI (zbi (pt && zin2 ids.length x)))) := by
  refine zSp.of (by decide) rfl (Nat.le_of_ble_eq_true rfl) rfl ?_
  obtain ⟨⟨k1, k2, k3, p1, p2, p3, p4, p5⟩, h1, h2, h3, h4, h5, h6, h7, h8, h9, h10⟩ := id h
  refine j_aload_n (pc := 0) dX4_has_0 rfl ?_
  refine j_getI (pc := 1) dX4_has_1 f_X4_34 (Or.inr rfl) (by assumption) ?_
  rw [h1]
  refine j_if_eq (pc := 4) (tgt := 23) dX4_has_4 (by decide) (fun h4_1 => ?_) (fun h4_1 => ?_)
  · refine j_iconst (pc := 23) (v := 0) dX4_has_23 (by decide) ?_
    refine j_zret (pc := 24) dX4_has_24 rfl (by first | assumption | decide) ?_
    have e : pt = false := zbi_eq0.mp h4_1
    exact ⟨rfl, by rw [e]; rfl⟩
  · refine j_iload_n (pc := 7) dX4_has_7 rfl ?_
    refine j_if_lt (pc := 8) (tgt := 23) dX4_has_8 (by decide) (fun h8_1 => ?_) (fun h8_1 => ?_)
    · refine j_iconst (pc := 23) (v := 0) dX4_has_23 (by decide) ?_
      refine j_zret (pc := 24) dX4_has_24 rfl (by first | assumption | decide) ?_
      exact ⟨rfl, by rw [zin2, decide_eq_false (fun q => q.1 h8_1), Bool.and_false]; rfl⟩
    · refine j_iload_n (pc := 11) dX4_has_11 rfl ?_
      refine j_aload_n (pc := 12) dX4_has_12 rfl ?_
      refine j_getI (pc := 13) dX4_has_13 f_X4_38 (Or.inl rfl) (by assumption) ?_
      rw [h2]
      refine j_icmp_ge (pc := 16) (tgt := 23) dX4_has_16 (by decide) (fun h16 => ?_) (fun h16 => ?_)
      · refine j_iconst (pc := 23) (v := 0) dX4_has_23 (by decide) ?_
        refine j_zret (pc := 24) dX4_has_24 rfl (by first | assumption | decide) ?_
        exact ⟨rfl, by rw [zin2, decide_eq_false (fun q => q.2 h16), Bool.and_false]; rfl⟩
      · refine j_iconst (pc := 19) (v := 1) dX4_has_19 (by decide) ?_
        refine j_goto (pc := 20) (tgt := 24) dX4_has_20 (by decide) ?_
        refine j_zret (pc := 24) dX4_has_24 rfl (by first | assumption | decide) ?_
        have e : pt = true := by cases pt with | true => rfl | false => exact absurd rfl h4_1
        exact ⟨rfl, by rw [e, zin2, decide_eq_true (p := ¬ x < 0 ∧ ¬ nI ids.length ≤ x) ⟨h8_1, h16⟩]; rfl⟩
set_option maxRecDepth 20000 in
set_option maxHeartbeats 4000000 in
theorem c_tokenOf {E : zE} {S : zM} {pt : Bool} {ids : List Nat} {vs : Nat → Nat → Int64} {kb ka kk : List Nat} {ah be : Nat} (h : zPg S pt ids vs kb ka kk ah be) (x : Int32) : zSp E 0 0 0 mX4_tokenOf cX4_tokenOf [zR 93, zI x] S (fun r T => S = T ∧ ∃ c cap, r = some (zR c) ∧ zBy S c (c + 1) cap (if ids.length = 0 then kk else if x = 0 then kb else ka)) := by
  refine zSp.of (by decide) rfl (Nat.le_of_ble_eq_true rfl) rfl ?_
  obtain ⟨⟨k1, k2, k3, p1, p2, p3, p4, p5⟩, h1, h2, h3, h4, h5, h6, h7, h8, h9, h10⟩ := id h
  refine j_aload_n (pc := 0) dX4_tokenOf_0 rfl ?_
  refine j_getI (pc := 1) dX4_tokenOf_1 f_X4_38 (Or.inl rfl) (by assumption) ?_
  rw [h2]
  refine j_if_ne (pc := 4) (tgt := 12) dX4_tokenOf_4 (by decide) (fun h4_1 => ?_) (fun h4_1 => ?_)
  · refine j_iload_n (pc := 12) dX4_tokenOf_12 rfl ?_
    refine j_if_ne (pc := 13) (tgt := 23) dX4_tokenOf_13 (by decide) (fun h13 => ?_) (fun h13 => ?_)
    · refine j_aload_n (pc := 23) dX4_tokenOf_23 rfl ?_
      refine j_getP (pc := 24) dX4_tokenOf_24 f_X4_28 (Or.inl ⟨_, rfl⟩) (by assumption) ?_
      rw [p4]
      refine j_aret (pc := 27) dX4_tokenOf_27 rfl ?_
      have e : ¬ ids.length = 0 := fun q => h4_1 (by rw [q]; rfl)
      exact ⟨rfl, 98, 40, rfl, by rw [if_neg e, if_neg h13]; exact h9⟩
    · refine j_aload_n (pc := 16) dX4_tokenOf_16 rfl ?_
      refine j_getP (pc := 17) dX4_tokenOf_17 f_X4_24 (Or.inl ⟨_, rfl⟩) (by assumption) ?_
      rw [p3]
      refine j_goto (pc := 20) (tgt := 27) dX4_tokenOf_20 (by decide) ?_
      
      refine j_aret (pc := 27) dX4_tokenOf_27 rfl ?_
      have e : ¬ ids.length = 0 := fun q => h4_1 (by rw [q]; rfl)
      exact ⟨rfl, 96, 40, rfl, by rw [if_neg e, if_pos h13]; exact h8⟩
  · refine j_aload_n (pc := 7) dX4_tokenOf_7 rfl ?_
    refine j_getP (pc := 8) dX4_tokenOf_8 f_X4_31 (Or.inl ⟨_, rfl⟩) (by assumption) ?_
    rw [p5]
    refine j_aret (pc := 11) dX4_tokenOf_11 rfl ?_
    have e : ids.length = 0 := (nI_eq (b := 0) (by omega) (by decide)).mp h4_1
    exact ⟨rfl, 100, 900, rfl, by rw [if_pos e]; exact h10⟩
/-- a token: its head, a key, the check -/
def zth5 (tn sz st : Nat) (k : List Nat) : List Nat := [84, tn % 256, sz % 256, st / 256 % 256, st % 256] ++ k
def ztok (tn sz st : Nat) (k : List Nat) : List Nat := zth5 tn sz st k ++ [zchk (zth5 tn sz st k)]
set_option maxRecDepth 20000 in
set_option maxHeartbeats 4000000 in
theorem c_writeToken {E : zE} {S : zM} {O : List zOe} {V : List zSe} {t : zRW} {b tn sz st k x : Nat} {L : List Nat} (h : zVC S O V t) (hx : (zBB O V t)[k]? = some x) (htn : zgI S 6 10 = nI tn) (htn2 : tn < 2 ^ 20) (hsz : sz < 256) (hst : st < 65536) (g : zBy S b (b + 1) 40 L) (hb : 93 ≤ b) : zSp E 2 0 0 mX4_writeToken cX4_writeToken [zR b, zR 6, zI (nI k), zI (nI sz), zI (nI st)] S (fun r T => r = none ∧ zBy T b (b + 1) 40 (ztok tn sz st (zkf O t x)) ∧ zF (zAB b (b + 1)) S T) := by
  refine zSp.of (by decide) rfl (Nat.le_of_ble_eq_true rfl) rfl ?_
  have k6 := h.sh.1
  have kb0 := g.1
  have hkl : (zkf O t x).length ≤ 34 := by obtain ⟨i, c, -, -, -, -, -, -, hB⟩ := h.get hx; exact hB.2.2.2.2.2.1
  have hkb : ∀ i, i < (zkf O t x).length → (zkf O t x).getD i 0 < 256 := fun i hi => by obtain ⟨i2, c, -, -, -, -, -, -, hB⟩ := h.get hx; exact (hB.2.2.2.2.2.2 i hi).2
  refine j_aload_n (pc := 0) dX4_writeToken_0 rfl ?_
  refine j_iload_n (pc := 1) dX4_writeToken_1 rfl ?_
  refine j_callV (pc := 2) (t := 10) (c_keyPassing h hx) dX4_writeToken_2 l_X4_91 mk_X10_keyPassing mv_X10_keyPassing (by decide) rfl (by assumption) (by decide) rfl rfl (Nat.le_of_ble_eq_true rfl) (Nat.le_refl _) (Nat.le_refl _) (fun r T h_1 => ?_)
  obtain ⟨rfl, c, rfl, c12, c90, hK⟩ := h_1
  have kc := hK.1
  refine j_astore (pc := 5) (ls' := [_, _, _, _, _, _]) dX4_writeToken_5 (by decide) rfl rfl ?_
  refine j_aload_n (pc := 7) dX4_writeToken_7 rfl ?_
  refine j_callV (pc := 8) (t := 1) (c_empty g) dX4_writeToken_8 l_X4_70 mk_X1_empty mv_X1_empty (by decide) rfl (by assumption) (by decide) rfl rfl (Nat.le_of_ble_eq_true rfl) (Nat.le_refl _) (Nat.le_refl _) (fun r T h_1 => ?_)
  obtain ⟨rfl, rfl⟩ := h_1
  have g0 := g.empty
  refine j_aload_n (pc := 11) dX4_writeToken_11 rfl ?_
  refine j_bipush (pc := 12) (v := 84) dX4_writeToken_12 (by decide) ?_
  refine j_callV (pc := 14) (t := 1) (c_put g0 _) dX4_writeToken_14 l_X4_95 mk_X1_put mv_X1_put (by decide) rfl (by assumption) (by decide) rfl rfl (Nat.le_of_ble_eq_true rfl) (Nat.le_refl _) (Nat.le_refl _) (fun r T1 h_1 => ?_)
  obtain ⟨rfl, g1, f1⟩ := h_1
  have kb1 := g1.1
  rw [zput_in (by decide), show zb8 84 = 84 from rfl] at g1
  have F1 : zF (zAB b (b + 1)) S T1 := (zF.wI (Or.inl rfl)).tr f1
  have k61 : zkd T1 6 = (11, 0) := by rw [F1.1]; exact k6
  refine j_aload_n (pc := 17) dX4_writeToken_17 rfl ?_
  refine j_aload_n (pc := 18) dX4_writeToken_18 rfl ?_
  refine j_getI (pc := 19) dX4_writeToken_19 f_X4_98 (Or.inl rfl) (by assumption) ?_
  rw [(F1.2.2.2.1 6 (by unfold zAB; omega) 10).trans htn]
  refine j_callV (pc := 22) (t := 1) (c_put g1 _) dX4_writeToken_22 l_X4_95 mk_X1_put mv_X1_put (by decide) rfl (by assumption) (by decide) rfl rfl (Nat.le_of_ble_eq_true rfl) (Nat.le_refl _) (Nat.le_refl _) (fun r T2 h_1 => ?_)
  obtain ⟨rfl, g2, f2⟩ := h_1
  have kb2 := g2.1
  rw [zput_in (by decide), zb8_n (by omega)] at g2
  have F2 := F1.tr f2
  refine j_aload_n (pc := 25) dX4_writeToken_25 rfl ?_
  refine j_iload_n (pc := 26) dX4_writeToken_26 rfl ?_
  refine j_callV (pc := 27) (t := 1) (c_put g2 _) dX4_writeToken_27 l_X4_95 mk_X1_put mv_X1_put (by decide) rfl (by assumption) (by decide) rfl rfl (Nat.le_of_ble_eq_true rfl) (Nat.le_refl _) (Nat.le_refl _) (fun r T3 h_1 => ?_)
  obtain ⟨rfl, g3, f3⟩ := h_1
  have kb3 := g3.1
  rw [zput_in (by simp), zb8_n (by omega)] at g3
  have F3 := F2.tr f3
  refine j_aload_n (pc := 30) dX4_writeToken_30 rfl ?_
  refine j_iload (pc := 31) dX4_writeToken_31 rfl ?_
  refine j_callV (pc := 33) (t := 1) (c_putTwo g3 _) dX4_writeToken_33 l_X4_101 mk_X1_putTwo mv_X1_putTwo (by decide) rfl (by assumption) (by decide) rfl rfl (Nat.le_of_ble_eq_true rfl) (Nat.le_refl _) (Nat.le_refl _) (fun r T4 h_1 => ?_)
  obtain ⟨rfl, g4, f4⟩ := h_1
  have kb4 := g4.1
  rw [zput_in (L := [] ++ [84] ++ [tn % 256] ++ [sz % 256]) (by simp), zput_in (by simp), zb8_shr8 hst, zb8_n (by omega)] at g4
  have F4 := F3.tr f4
  have hK4 := hK.keep F4 (by unfold zAB; omega) (by unfold zAB; omega)
  have kc4 := hK4.1
  refine j_aload_n (pc := 36) dX4_writeToken_36 rfl ?_
  refine j_aload (pc := 37) dX4_writeToken_37 rfl ?_
  refine j_iconst (pc := 39) (v := 0) dX4_writeToken_39 (by decide) ?_
  refine j_aload (pc := 40) dX4_writeToken_40 rfl ?_
  refine j_getI (pc := 42) dX4_writeToken_42 f_X4_104 (Or.inl rfl) (by assumption) ?_
  rw [hK4.2.2.2.2.1]
  refine j_callV (pc := 45) (t := 1) (c_append (f := 0) g4 hK4 ⟨by omega, by omega, by omega, by omega⟩ (Nat.zero_le _) (Nat.le_refl _) (by simp; omega)) dX4_writeToken_45 l_X4_80 mk_X1_append mv_X1_append (by decide) rfl (by assumption) (by decide) rfl rfl (Nat.le_of_ble_eq_true rfl) (Nat.le_refl _) (Nat.le_refl _) (fun r T5 h_1 => ?_)
  obtain ⟨rfl, g5, f5⟩ := h_1
  have kb5 := g5.1
  rw [List.drop_zero, Nat.sub_zero, List.take_length] at g5
  have e5 : [] ++ [84] ++ [tn % 256] ++ [sz % 256] ++ [st / 256 % 256] ++ [st % 256] ++ zkf O t x = zth5 tn sz st (zkf O t x) := rfl
  rw [e5] at g5
  have hl5 : (zth5 tn sz st (zkf O t x)).length = 5 + (zkf O t x).length := by unfold zth5; simp; omega
  have F5 := F4.tr f5
  refine j_aload_n (pc := 48) dX4_writeToken_48 rfl ?_
  refine j_aload_n (pc := 49) dX4_writeToken_49 rfl ?_
  refine j_aload_n (pc := 50) dX4_writeToken_50 rfl ?_
  refine j_getI (pc := 51) dX4_writeToken_51 f_X4_104 (Or.inl rfl) (by assumption) ?_
  rw [g5.2.2.2.2.1]
  refine j_callV (pc := 54) (t := 1) (c_checkOf g5 (Nat.le_refl _)) dX4_writeToken_54 l_X4_105 mk_X1_checkOf mv_X1_checkOf (by decide) rfl (by assumption) (by decide) rfl rfl (Nat.le_of_ble_eq_true rfl) (Nat.le_refl _) (Nat.le_refl _) (fun r T h_1 => ?_)
  obtain ⟨rfl, rfl⟩ := h_1
  refine j_callV (pc := 57) (t := 1) (c_put g5 _) dX4_writeToken_57 l_X4_95 mk_X1_put mv_X1_put (by decide) rfl (by assumption) (by decide) rfl rfl (Nat.le_of_ble_eq_true rfl) (Nat.le_refl _) (Nat.le_refl _) (fun r T6 h_1 => ?_)
  obtain ⟨rfl, g6, f6⟩ := h_1
  have kb6 := g6.1
  rw [zput_in (by omega), List.take_length, zb8_nI (by have := zchk_lt (zth5 tn sz st (zkf O t x)); omega)] at g6
  refine j_vret (pc := 60) dX4_writeToken_60 rfl ?_
  exact ⟨rfl, g6, F5.tr f6⟩
