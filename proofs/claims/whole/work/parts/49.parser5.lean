theorem zPd.wr {S : zM} {a tp tp2 cap : Nat} {F : List Nat} {n : Nat} {w : zPi} (h : zPd S a tp tp2 cap F n w) {i j : Nat} (hi : i < 64) (hj : j < 4) (v : Int64) : zPd (zwL S (a + 13 + 2) (i * 4 + j) v) a tp tp2 cap F n (w.1, w.2.1, w.2.2.1, w.2.2.2.1, w.2.2.2.2.1, zu2 w.2.2.2.2.2 i j v) := by
  have f : zF (fun c => c = a + 15) S (zwL S (a + 13 + 2) (i * 4 + j) v) := zF.wL rfl
  obtain ⟨h1, h2, h3, h4, h5, h6, so, si, sc, ol, ⟨t1, t2, t3, t4, t5, t6, t7, t8, t9⟩⟩ := h
  exact ⟨h1, h2.far f (by omega) (by omega) (by omega), h3, h4, h5.ag (f.ag (by omega)) (f.ag (by omega)), h6, so, si, sc, ol, ⟨t1.keep f (by omega) (by omega), t2, t3.keep f (fun k hk => by omega), t4.keep f (fun k hk => by omega), t5.write hi hj v, t6.keep f (fun k hk => by omega), t7, t8, t9⟩⟩
/-- one value: the token behind it, and it -/
def zvl (bl ms : Bool) (c : Int64) : Int64 := if ms then zMiss else if bl then -c else c
def zrV (X : List Nat) (b bl ms : Bool) (k : zTo) (w : zPi) (i j : Nat) : Except (Nat × Nat) zPi := if ms = false ∧ ¬ k.2.1 = (if b then 1 else 2) then .error (1, k.2.2.1) else .ok (zadv X k.1, w.2.1, w.2.2.1, w.2.2.2.1, w.2.2.2.2.1, zu2 w.2.2.2.2.2 i j (zvl bl ms k.2.2.2))
def zrB (b : Bool) (k : zTo) : Bool := !b && zisS k 45
def zrK (X : List Nat) (b : Bool) (k : zTo) : zTo := if zrB b k then zadv X k.1 else k
def zrW (X : List Nat) (w : zPi) (i j : Nat) (b : Bool) : Except (Nat × Nat) zPi := zrV X b (zrB b w.1) (!(zrB b w.1) && zisW (zrK X b w.1) 1852796517) (zrK X b w.1) w i j
set_option maxRecDepth 20000 in
set_option maxHeartbeats 4000000 in
theorem c_readValue {E : zE} {S : zM} {a tp tp2 cap : Nat} {F : List Nat} {n : Nat} {w : zPi} {i j : Nat} {b : Bool} (h : zPd S a tp tp2 cap F n w) (hi : i < 64) (hb : w.2.2.1[j]? = some b) : zSp E 3 0 0 mX5_readValue cX5_readValue [zR (a + 22), zI (nI i), zI (nI j)] S (fun r T => zPQ a tp tp2 cap F n S r T (zrW (F.take n) w i j b)) := by
  refine zSp.of (by decide) rfl (Nat.le_of_ble_eq_true rfl) rfl ?_
  have hj : j < 4 := Nat.lt_of_lt_of_le (List.getElem?_eq_some_iff.mp hb).1 h.tb.2.2.1
  have hin : vp_in (nI j) 4 := vp_in_nI hj (by decide)
  have hcl : (nI j).toNatClampNeg = j := nI_clamp (by omega)
  have hbt : zbi (!b) = 0 → b = true := fun q => by
    cases b
    · exact absurd q (by decide)
    · rfl
  have hbf : ¬ zbi (!b) = 0 → ¬ b = true := fun q z => q (by rw [z]; rfl)
  generalize hZZ : zrW (F.take n) w i j b = Z
  have s108 : ∀ (T : zM) (k : zTo) (bl ms : Bool), zPd T a tp tp2 cap F n (k, w.2) → zF (zXa a) S T → Z = .ok (zadv (F.take n) k.1, w.2.1, w.2.2.1, w.2.2.2.1, w.2.2.2.2.1, zu2 w.2.2.2.2.2 i j (zvl bl ms k.2.2.2)) → zJ E 3 0 0 mX5_readValue cX5_readValue 108 [some (zR (a + 22)), some (zI (nI i)), some (zI (nI j)), some (zI (zbi (!b))), some (zI (zbi bl)), some (zI (zbi ms)), none, none] [] T (fun r T => zPQ a tp tp2 cap F n S r T Z) := by
    intro T k bl ms h hF hZ
    have k22_0 := h.1.1
    have p0_0 := h.1.2.1
    have p1_0 := h.1.2.2
    have k23_0 := h.2.1.1
    have ka_0 := h.ka
    have e5 := h.2.1.2.2.2.2.2.2.2.2
    refine j_iload (pc := 108) dX5_readValue_108 rfl ?_
    refine j_if_eq (pc := 110) (tgt := 124) dX5_readValue_110 (by decide) (fun h110 => ?_) (fun h110 => ?_)
    · refine j_aload_n (pc := 124) dX5_readValue_124 rfl ?_
      refine j_getP (pc := 125) dX5_readValue_125 f_X5_14 (Or.inl ⟨_, rfl⟩) (by assumption) ?_
      rw [p0_0]
      refine j_getL (pc := 128) dX5_readValue_128 f_X5_85 rfl (by assumption) ?_
      rw [e5]
      refine j_lstore (pc := 131) (ls' := [_, _, _, _, _, _, _, _]) dX5_readValue_131 (by decide) rfl rfl ?_
      refine j_aload_n (pc := 133) dX5_readValue_133 rfl ?_
      refine j_getP (pc := 134) dX5_readValue_134 f_X5_20 (Or.inl ⟨_, rfl⟩) (by assumption) ?_
      rw [p1_0]
      refine j_getP (pc := 137) dX5_readValue_137 f_X5_121 (Or.inl ⟨_, rfl⟩) (by assumption) ?_
      rw [h.ro.2]
      have kr := h.ro.1.1
      refine j_iload_n (pc := 140) dX5_readValue_140 rfl ?_
      refine j_iload_n (pc := 141) dX5_readValue_141 rfl ?_
      refine j_iload (pc := 142) dX5_readValue_142 rfl ?_
      refine j_if_eq (pc := 144) (tgt := 153) dX5_readValue_144 (by decide) (fun h144 => ?_) (fun h144 => ?_)
      · refine j_lload (pc := 153) dX5_readValue_153 rfl ?_
        refine j_callV (pc := 155) (t := 7) (c_write h.ro.1 hi hj _) dX5_readValue_155 l_X5_141 mk_X7_write mv_X7_write (by decide) rfl (by assumption) (by decide) rfl rfl (Nat.le_of_ble_eq_true rfl) (Nat.le_refl _) (Nat.le_refl _) (fun r T h_1 => ?_)
        obtain ⟨rfl, rfl⟩ := h_1
        have h1 := h.wr hi hj (k.2.2.2)
        have k22_1 := h1.1.1
        have p0_1 := h1.1.2.1
        have p1_1 := h1.1.2.2
        have k23_1 := h1.2.1.1
        have ka_1 := h1.ka
        refine j_aload_n (pc := 158) dX5_readValue_158 rfl ?_
        refine j_getP (pc := 159) dX5_readValue_159 f_X5_14 (Or.inl ⟨_, rfl⟩) (by assumption) ?_
        rw [p0_1]
        refine j_callV (pc := 162) (t := 2) (c_adv h1) dX5_readValue_162 l_X5_31 mk_X2_advance mv_X2_advance (by decide) rfl (by assumption) (by decide) rfl rfl (Nat.le_of_ble_eq_true rfl) (Nat.le_refl _) (Nat.le_refl _) (fun r T2 h_1 => ?_)
        obtain ⟨rfl, f2, h2⟩ := h_1
        refine j_iconst (pc := 165) (v := 1) dX5_readValue_165 (by decide) ?_
        refine j_zret (pc := 166) dX5_readValue_166 rfl (by first | assumption | decide) ?_
        rw [hZ, show zvl bl ms k.2.2.2 = k.2.2.2 from by unfold zvl; rw [if_neg (by rw [zbi_eq0.mp h144]; decide), if_neg (by rw [zbi_eq0.mp h110]; decide)]]
        exact zPQ.pre ((hF.tr (zF.wL (by unfold zXa; omega))).tr f2) ⟨rfl, zF.rf, h2⟩
      · refine j_ldcL (pc := 147) dX5_readValue_147 k_X5_139 ?_
        refine j_goto (pc := 150) (tgt := 155) dX5_readValue_150 (by decide) ?_
        refine j_callV (pc := 155) (t := 7) (c_write h.ro.1 hi hj _) dX5_readValue_155 l_X5_141 mk_X7_write mv_X7_write (by decide) rfl (by assumption) (by decide) rfl rfl (Nat.le_of_ble_eq_true rfl) (Nat.le_refl _) (Nat.le_refl _) (fun r T h_1 => ?_)
        obtain ⟨rfl, rfl⟩ := h_1
        have h1 := h.wr hi hj (zMiss)
        have k22_1 := h1.1.1
        have p0_1 := h1.1.2.1
        have p1_1 := h1.1.2.2
        have k23_1 := h1.2.1.1
        have ka_1 := h1.ka
        refine j_aload_n (pc := 158) dX5_readValue_158 rfl ?_
        refine j_getP (pc := 159) dX5_readValue_159 f_X5_14 (Or.inl ⟨_, rfl⟩) (by assumption) ?_
        rw [p0_1]
        refine j_callV (pc := 162) (t := 2) (c_adv h1) dX5_readValue_162 l_X5_31 mk_X2_advance mv_X2_advance (by decide) rfl (by assumption) (by decide) rfl rfl (Nat.le_of_ble_eq_true rfl) (Nat.le_refl _) (Nat.le_refl _) (fun r T2 h_1 => ?_)
        obtain ⟨rfl, f2, h2⟩ := h_1
        refine j_iconst (pc := 165) (v := 1) dX5_readValue_165 (by decide) ?_
        refine j_zret (pc := 166) dX5_readValue_166 rfl (by first | assumption | decide) ?_
        rw [hZ, show zvl bl ms k.2.2.2 = zMiss from by unfold zvl; rw [if_pos (zbi_ne0 h144)]]
        exact zPQ.pre ((hF.tr (zF.wL (by unfold zXa; omega))).tr f2) ⟨rfl, zF.rf, h2⟩
    · refine j_aload_n (pc := 113) dX5_readValue_113 rfl ?_
      refine j_getP (pc := 114) dX5_readValue_114 f_X5_14 (Or.inl ⟨_, rfl⟩) (by assumption) ?_
      rw [p0_0]
      refine j_getL (pc := 117) dX5_readValue_117 f_X5_85 rfl (by assumption) ?_
      rw [e5]
      refine j_lneg (pc := 120) dX5_readValue_120 ?_
      refine j_goto (pc := 121) (tgt := 131) dX5_readValue_121 (by decide) ?_
      skip
      refine j_lstore (pc := 131) (ls' := [_, _, _, _, _, _, _, _]) dX5_readValue_131 (by decide) rfl rfl ?_
      refine j_aload_n (pc := 133) dX5_readValue_133 rfl ?_
      refine j_getP (pc := 134) dX5_readValue_134 f_X5_20 (Or.inl ⟨_, rfl⟩) (by assumption) ?_
      rw [p1_0]
      refine j_getP (pc := 137) dX5_readValue_137 f_X5_121 (Or.inl ⟨_, rfl⟩) (by assumption) ?_
      rw [h.ro.2]
      have kr := h.ro.1.1
      refine j_iload_n (pc := 140) dX5_readValue_140 rfl ?_
      refine j_iload_n (pc := 141) dX5_readValue_141 rfl ?_
      refine j_iload (pc := 142) dX5_readValue_142 rfl ?_
      refine j_if_eq (pc := 144) (tgt := 153) dX5_readValue_144 (by decide) (fun h144 => ?_) (fun h144 => ?_)
      · refine j_lload (pc := 153) dX5_readValue_153 rfl ?_
        refine j_callV (pc := 155) (t := 7) (c_write h.ro.1 hi hj _) dX5_readValue_155 l_X5_141 mk_X7_write mv_X7_write (by decide) rfl (by assumption) (by decide) rfl rfl (Nat.le_of_ble_eq_true rfl) (Nat.le_refl _) (Nat.le_refl _) (fun r T h_1 => ?_)
        obtain ⟨rfl, rfl⟩ := h_1
        have h1 := h.wr hi hj (-k.2.2.2)
        have k22_1 := h1.1.1
        have p0_1 := h1.1.2.1
        have p1_1 := h1.1.2.2
        have k23_1 := h1.2.1.1
        have ka_1 := h1.ka
        refine j_aload_n (pc := 158) dX5_readValue_158 rfl ?_
        refine j_getP (pc := 159) dX5_readValue_159 f_X5_14 (Or.inl ⟨_, rfl⟩) (by assumption) ?_
        rw [p0_1]
        refine j_callV (pc := 162) (t := 2) (c_adv h1) dX5_readValue_162 l_X5_31 mk_X2_advance mv_X2_advance (by decide) rfl (by assumption) (by decide) rfl rfl (Nat.le_of_ble_eq_true rfl) (Nat.le_refl _) (Nat.le_refl _) (fun r T2 h_1 => ?_)
        obtain ⟨rfl, f2, h2⟩ := h_1
        refine j_iconst (pc := 165) (v := 1) dX5_readValue_165 (by decide) ?_
        refine j_zret (pc := 166) dX5_readValue_166 rfl (by first | assumption | decide) ?_
        rw [hZ, show zvl bl ms k.2.2.2 = -k.2.2.2 from by unfold zvl; rw [if_neg (by rw [zbi_eq0.mp h144]; decide), if_pos (zbi_ne0 h110)]]
        exact zPQ.pre ((hF.tr (zF.wL (by unfold zXa; omega))).tr f2) ⟨rfl, zF.rf, h2⟩
      · refine j_ldcL (pc := 147) dX5_readValue_147 k_X5_139 ?_
        refine j_goto (pc := 150) (tgt := 155) dX5_readValue_150 (by decide) ?_
        refine j_callV (pc := 155) (t := 7) (c_write h.ro.1 hi hj _) dX5_readValue_155 l_X5_141 mk_X7_write mv_X7_write (by decide) rfl (by assumption) (by decide) rfl rfl (Nat.le_of_ble_eq_true rfl) (Nat.le_refl _) (Nat.le_refl _) (fun r T h_1 => ?_)
        obtain ⟨rfl, rfl⟩ := h_1
        have h1 := h.wr hi hj (zMiss)
        have k22_1 := h1.1.1
        have p0_1 := h1.1.2.1
        have p1_1 := h1.1.2.2
        have k23_1 := h1.2.1.1
        have ka_1 := h1.ka
        refine j_aload_n (pc := 158) dX5_readValue_158 rfl ?_
        refine j_getP (pc := 159) dX5_readValue_159 f_X5_14 (Or.inl ⟨_, rfl⟩) (by assumption) ?_
        rw [p0_1]
        refine j_callV (pc := 162) (t := 2) (c_adv h1) dX5_readValue_162 l_X5_31 mk_X2_advance mv_X2_advance (by decide) rfl (by assumption) (by decide) rfl rfl (Nat.le_of_ble_eq_true rfl) (Nat.le_refl _) (Nat.le_refl _) (fun r T2 h_1 => ?_)
        obtain ⟨rfl, f2, h2⟩ := h_1
        refine j_iconst (pc := 165) (v := 1) dX5_readValue_165 (by decide) ?_
        refine j_zret (pc := 166) dX5_readValue_166 rfl (by first | assumption | decide) ?_
        rw [hZ, show zvl bl ms k.2.2.2 = zMiss from by unfold zvl; rw [if_pos (zbi_ne0 h144)]]
        exact zPQ.pre ((hF.tr (zF.wL (by unfold zXa; omega))).tr f2) ⟨rfl, zF.rf, h2⟩
  have s78 : ∀ (T : zM) (k : zTo) (bl ms : Bool), zPd T a tp tp2 cap F n (k, w.2) → zF (zXa a) S T → Z = zrV (F.take n) b bl ms k w i j → zJ E 3 0 0 mX5_readValue cX5_readValue 78 [some (zR (a + 22)), some (zI (nI i)), some (zI (nI j)), some (zI (zbi (!b))), some (zI (zbi bl)), some (zI (zbi ms)), none, none] [] T (fun r T => zPQ a tp tp2 cap F n S r T Z) := by
    intro T k bl ms h hF hZ
    have k22_0 := h.1.1
    have p0_0 := h.1.2.1
    have p1_0 := h.1.2.2
    have k23_0 := h.2.1.1
    have ka_0 := h.ka
    have e3 := h.2.1.2.2.2.2.2.2.1
    refine j_iload (pc := 78) dX5_readValue_78 rfl ?_
    refine j_if_ne (pc := 80) (tgt := 108) dX5_readValue_80 (by decide) (fun h80 => ?_) (fun h80 => ?_)
    · refine s108 T k bl ms h hF ?_
      rw [hZ]
      unfold zrV
      exact if_neg (fun z => h80 (zbi_eq0.mpr z.1))
    · refine j_aload_n (pc := 83) dX5_readValue_83 rfl ?_
      refine j_getP (pc := 84) dX5_readValue_84 f_X5_14 (Or.inl ⟨_, rfl⟩) (by assumption) ?_
      rw [p0_0]
      refine j_getI (pc := 87) dX5_readValue_87 f_X5_58 (Or.inl rfl) (by assumption) ?_
      rw [e3]
      refine j_iload_n (pc := 90) dX5_readValue_90 rfl ?_
      refine j_if_eq (pc := 91) (tgt := 98) dX5_readValue_91 (by decide) (fun h91 => ?_) (fun h91 => ?_)
      · refine j_iconst (pc := 98) (v := 1) dX5_readValue_98 (by decide) ?_
        refine j_icmp_eq (pc := 99) (tgt := 108) dX5_readValue_99 (by decide) (fun h99 => ?_) (fun h99 => ?_)
        · refine s108 T k bl ms h hF ?_
          rw [hZ]
          unfold zrV
          exact if_neg (fun z => z.2 (by rw [if_pos (hbt h91)]; exact (zk4 (j := 1) h.2.2.1.2.1 (by decide)).mp h99))
        · refine j_aload_n (pc := 102) dX5_readValue_102 rfl ?_
          refine j_iconst (pc := 103) (v := 1) dX5_readValue_103 (by decide) ?_
          refine j_callV (pc := 104) (t := 5) (c_fails (f := 1) h) dX5_readValue_104 l_X5_54 mk_X5_fails mv_X5_fails (by decide) rfl (by assumption) (by decide) rfl rfl (Nat.le_of_ble_eq_true rfl) (Nat.le_refl _) (Nat.le_refl _) (fun r T9 h_1 => ?_)
          obtain ⟨rfl, f9, g9, g10⟩ := h_1
          refine j_zret (pc := 107) dX5_readValue_107 rfl (by first | assumption | decide) ?_
          rw [hZ]
          unfold zrV
          rw [if_pos ⟨zbi_eq0.mp h80, fun z => h99 (by rw [if_pos (hbt h91)] at z; exact (zk4 (j := 1) h.2.2.1.2.1 (by decide)).mpr z)⟩]
          exact zPQ.pre hF ⟨rfl, f9, g9, g10⟩
      · refine j_iconst (pc := 94) (v := 2) dX5_readValue_94 (by decide) ?_
        refine j_goto (pc := 95) (tgt := 99) dX5_readValue_95 (by decide) ?_
        refine j_icmp_eq (pc := 99) (tgt := 108) dX5_readValue_99 (by decide) (fun h99 => ?_) (fun h99 => ?_)
        · refine s108 T k bl ms h hF ?_
          rw [hZ]
          unfold zrV
          exact if_neg (fun z => z.2 (by rw [if_neg (hbf h91)]; exact (zk4 (j := 2) h.2.2.1.2.1 (by decide)).mp h99))
        · refine j_aload_n (pc := 102) dX5_readValue_102 rfl ?_
          refine j_iconst (pc := 103) (v := 1) dX5_readValue_103 (by decide) ?_
          refine j_callV (pc := 104) (t := 5) (c_fails (f := 1) h) dX5_readValue_104 l_X5_54 mk_X5_fails mv_X5_fails (by decide) rfl (by assumption) (by decide) rfl rfl (Nat.le_of_ble_eq_true rfl) (Nat.le_refl _) (Nat.le_refl _) (fun r T9 h_1 => ?_)
          obtain ⟨rfl, f9, g9, g10⟩ := h_1
          refine j_zret (pc := 107) dX5_readValue_107 rfl (by first | assumption | decide) ?_
          rw [hZ]
          unfold zrV
          rw [if_pos ⟨zbi_eq0.mp h80, fun z => h99 (by rw [if_neg (hbf h91)] at z; exact (zk4 (j := 2) h.2.2.1.2.1 (by decide)).mpr z)⟩]
          exact zPQ.pre hF ⟨rfl, f9, g9, g10⟩
  have s53 : ∀ (T : zM) (k : zTo) (bl : Bool), zPd T a tp tp2 cap F n (k, w.2) → zF (zXa a) S T → Z = zrV (F.take n) b bl (!bl && zisW k 1852796517) k w i j → zJ E 3 0 0 mX5_readValue cX5_readValue 53 [some (zR (a + 22)), some (zI (nI i)), some (zI (nI j)), some (zI (zbi (!b))), some (zI (zbi bl)), none, none, none] [] T (fun r T => zPQ a tp tp2 cap F n S r T Z) := by
    intro T k bl h hF hZ
    have k22_0 := h.1.1
    have p0_0 := h.1.2.1
    have p1_0 := h.1.2.2
    have k23_0 := h.2.1.1
    have ka_0 := h.ka
    refine j_iload (pc := 53) dX5_readValue_53 rfl ?_
    refine j_if_ne (pc := 55) (tgt := 75) dX5_readValue_55 (by decide) (fun h55 => ?_) (fun h55 => ?_)
    · refine j_iconst (pc := 75) (v := 0) dX5_readValue_75 (by decide) ?_
      refine j_istore (pc := 76) (ls' := [_, _, _, _, _, _, _, _]) dX5_readValue_76 (by decide) rfl rfl ?_
      refine s78 T k bl false h hF (hZ.trans ?_)
      rw [zbi_ne0 h55]
      rfl
    · refine j_aload_n (pc := 58) dX5_readValue_58 rfl ?_
      refine j_getP (pc := 59) dX5_readValue_59 f_X5_14 (Or.inl ⟨_, rfl⟩) (by assumption) ?_
      rw [p0_0]
      refine j_ldcL (pc := 62) dX5_readValue_62 k_X5_137 ?_
      refine j_callV (pc := 65) (t := 2) (c_isWd h _) dX5_readValue_65 l_X5_36 mk_X2_isWord mv_X2_isWord (by decide) rfl (by assumption) (by decide) rfl rfl (Nat.le_of_ble_eq_true rfl) (Nat.le_refl _) (Nat.le_refl _) (fun r T h_1 => ?_)
      obtain ⟨rfl, rfl⟩ := h_1
      refine j_if_eq (pc := 68) (tgt := 75) dX5_readValue_68 (by decide) (fun h68 => ?_) (fun h68 => ?_)
      · refine j_iconst (pc := 75) (v := 0) dX5_readValue_75 (by decide) ?_
        refine j_istore (pc := 76) (ls' := [_, _, _, _, _, _, _, _]) dX5_readValue_76 (by decide) rfl rfl ?_
        refine s78 T k bl false h hF (hZ.trans ?_)
        rw [zbi_eq0.mp h55, show zisW k 1852796517 = false from zbi_eq0.mp h68]
        rfl
      · refine j_iconst (pc := 71) (v := 1) dX5_readValue_71 (by decide) ?_
        refine j_goto (pc := 72) (tgt := 76) dX5_readValue_72 (by decide) ?_
        refine j_istore (pc := 76) (ls' := [_, _, _, _, _, _, _, _]) dX5_readValue_76 (by decide) rfl rfl ?_
        refine s78 T k bl true h hF (hZ.trans ?_)
        rw [zbi_eq0.mp h55, show zisW k 1852796517 = true from zbi_ne0 h68]
        rfl
  have k22_0 := h.1.1
  have p0_0 := h.1.2.1
  have p1_0 := h.1.2.2
  have k23_0 := h.2.1.1
  have ka_0 := h.ka
  have kk := h.tb.1.2.1
  have s41 : ∀ (bl : Bool), bl = zrB b w.1 → zJ E 3 0 0 mX5_readValue cX5_readValue 41 [some (zR (a + 22)), some (zI (nI i)), some (zI (nI j)), some (zI (zbi (!b))), some (zI (zbi bl)), none, none, none] [] S (fun r T => zPQ a tp tp2 cap F n S r T Z) := by
    intro bl hbl
    refine j_iload (pc := 41) dX5_readValue_41 rfl ?_
    refine j_if_eq (pc := 43) (tgt := 53) dX5_readValue_43 (by decide) (fun h43 => ?_) (fun h43 => ?_)
    · refine s53 S w.1 bl h zF.rf ?_
      rw [← hZZ]
      unfold zrW
      rw [← hbl, show zrK (F.take n) b w.1 = w.1 from if_neg (by rw [← hbl, zbi_eq0.mp h43]; decide)]
    · refine j_aload_n (pc := 46) dX5_readValue_46 rfl ?_
      refine j_getP (pc := 47) dX5_readValue_47 f_X5_14 (Or.inl ⟨_, rfl⟩) (by assumption) ?_
      rw [p0_0]
      refine j_callV (pc := 50) (t := 2) (c_adv h) dX5_readValue_50 l_X5_31 mk_X2_advance mv_X2_advance (by decide) rfl (by assumption) (by decide) rfl rfl (Nat.le_of_ble_eq_true rfl) (Nat.le_refl _) (Nat.le_refl _) (fun r T1 h_1 => ?_)
      obtain ⟨rfl, f1, h1⟩ := h_1
      refine s53 T1 (zadv (F.take n) w.1.1) bl h1 f1 ?_
      rw [← hZZ]
      unfold zrW
      rw [← hbl, show zrK (F.take n) b w.1 = zadv (F.take n) w.1.1 from if_pos (by rw [← hbl]; exact zbi_ne0 h43)]
  refine j_aload_n (pc := 0) dX5_readValue_0 rfl ?_
  refine j_getP (pc := 1) dX5_readValue_1 f_X5_20 (Or.inl ⟨_, rfl⟩) (by assumption) ?_
  rw [p1_0]
  refine j_getP (pc := 4) dX5_readValue_4 f_X5_113 (Or.inr ⟨_, rfl⟩) (by assumption) ?_
  rw [h.tb.1.2.2]
  refine j_iload_n (pc := 7) dX5_readValue_7 rfl ?_
  refine j_iald (pc := 8) dX5_readValue_8 (by assumption) (by assumption) ?_
  rw [hcl, h.tb.2.2.2 j b hb]
  refine j_if_ne (pc := 9) (tgt := 16) dX5_readValue_9 (by decide) (fun h9 => ?_) (fun h9 => ?_)
  · refine j_iconst (pc := 16) (v := 0) dX5_readValue_16 (by decide) ?_
    refine j_istore_n (pc := 17) (ls' := [_, _, _, _, _, _, _, _]) dX5_readValue_17 (by decide) rfl rfl ?_
    refine j_iload_n (pc := 18) dX5_readValue_18 rfl ?_
    refine j_if_eq (pc := 19) (tgt := 38) dX5_readValue_19 (by decide) (fun h19 => ?_) (fun h19 => ?_)
    · refine j_iconst (pc := 38) (v := 0) dX5_readValue_38 (by decide) ?_
      refine j_istore (pc := 39) (ls' := [_, _, _, _, _, _, _, _]) dX5_readValue_39 (by decide) rfl rfl ?_
      have hb1 := zbi_ne0 h9
      subst hb1
      exact s41 false rfl
    · refine j_aload_n (pc := 22) dX5_readValue_22 rfl ?_
      refine j_getP (pc := 23) dX5_readValue_23 f_X5_14 (Or.inl ⟨_, rfl⟩) (by assumption) ?_
      rw [p0_0]
      refine j_bipush (pc := 26) (v := 45) dX5_readValue_26 (by decide) ?_
      refine j_callV (pc := 28) (t := 2) (c_isSg h 45) dX5_readValue_28 l_X5_72 mk_X2_isSign mv_X2_isSign (by decide) rfl (by assumption) (by decide) rfl rfl (Nat.le_of_ble_eq_true rfl) (Nat.le_refl _) (Nat.le_refl _) (fun r T h_1 => ?_)
      obtain ⟨rfl, rfl⟩ := h_1
      refine j_if_eq (pc := 31) (tgt := 38) dX5_readValue_31 (by decide) (fun h31 => ?_) (fun h31 => ?_)
      · refine j_iconst (pc := 38) (v := 0) dX5_readValue_38 (by decide) ?_
        refine j_istore (pc := 39) (ls' := [_, _, _, _, _, _, _, _]) dX5_readValue_39 (by decide) rfl rfl ?_
        exact absurd rfl h19
      · refine j_iconst (pc := 34) (v := 1) dX5_readValue_34 (by decide) ?_
        refine j_goto (pc := 35) (tgt := 39) dX5_readValue_35 (by decide) ?_
        refine j_istore (pc := 39) (ls' := [_, _, _, _, _, _, _, _]) dX5_readValue_39 (by decide) rfl rfl ?_
        exact absurd rfl h19
  · refine j_iconst (pc := 12) (v := 1) dX5_readValue_12 (by decide) ?_
    refine j_goto (pc := 13) (tgt := 17) dX5_readValue_13 (by decide) ?_
    refine j_istore_n (pc := 17) (ls' := [_, _, _, _, _, _, _, _]) dX5_readValue_17 (by decide) rfl rfl ?_
    refine j_iload_n (pc := 18) dX5_readValue_18 rfl ?_
    refine j_if_eq (pc := 19) (tgt := 38) dX5_readValue_19 (by decide) (fun h19 => ?_) (fun h19 => ?_)
    · refine j_iconst (pc := 38) (v := 0) dX5_readValue_38 (by decide) ?_
      refine j_istore (pc := 39) (ls' := [_, _, _, _, _, _, _, _]) dX5_readValue_39 (by decide) rfl rfl ?_
      exact absurd h19 (by decide)
    · refine j_aload_n (pc := 22) dX5_readValue_22 rfl ?_
      refine j_getP (pc := 23) dX5_readValue_23 f_X5_14 (Or.inl ⟨_, rfl⟩) (by assumption) ?_
      rw [p0_0]
      refine j_bipush (pc := 26) (v := 45) dX5_readValue_26 (by decide) ?_
      refine j_callV (pc := 28) (t := 2) (c_isSg h 45) dX5_readValue_28 l_X5_72 mk_X2_isSign mv_X2_isSign (by decide) rfl (by assumption) (by decide) rfl rfl (Nat.le_of_ble_eq_true rfl) (Nat.le_refl _) (Nat.le_refl _) (fun r T h_1 => ?_)
      obtain ⟨rfl, rfl⟩ := h_1
      refine j_if_eq (pc := 31) (tgt := 38) dX5_readValue_31 (by decide) (fun h31 => ?_) (fun h31 => ?_)
      · refine j_iconst (pc := 38) (v := 0) dX5_readValue_38 (by decide) ?_
        refine j_istore (pc := 39) (ls' := [_, _, _, _, _, _, _, _]) dX5_readValue_39 (by decide) rfl rfl ?_
        have hb1 := zbi_eq0.mp h9
        subst hb1
        exact s41 false (by unfold zrB; rw [zbi_eq0.mp h31]; rfl)
      · refine j_iconst (pc := 34) (v := 1) dX5_readValue_34 (by decide) ?_
        refine j_goto (pc := 35) (tgt := 39) dX5_readValue_35 (by decide) ?_
        refine j_istore (pc := 39) (ls' := [_, _, _, _, _, _, _, _]) dX5_readValue_39 (by decide) rfl rfl ?_
        have hb1 := zbi_eq0.mp h9
        subst hb1
        exact s41 true (by unfold zrB; rw [zbi_ne0 h31]; rfl)
