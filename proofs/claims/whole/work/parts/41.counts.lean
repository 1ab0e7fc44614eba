/-! switches, one case after the other -/
theorem j_swC {E : zE} {lv mc ms : Nat} {M : zMI} {cc : ByteArray} {pc : Nat} {ls : List (Option zV)} {st : List zV} {S : zM} {Q : Option zV → zM → Prop} {dflt lo hi : Int} {offs : Array Int} {len : Nat} {x k : Int32} {off : Int} {tgt : Nat} (hd : decode cc pc = .ok (.tableswitch dflt lo hi offs, len)) (h1 : ¬ k.toInt < lo) (h2 : ¬ hi < k.toInt) (ho : offs[(k.toInt - lo).toNat]? = some off) (ht : (pc : Int) + off = (tgt : Int)) (y : x = k → zJ E lv mc ms M cc tgt ls st S Q) (n : x ≠ k → zJ E lv mc ms M cc pc ls (zI x :: st) S Q) : zJ E lv mc ms M cc pc ls (zI x :: st) S Q := by
  by_cases e : x = k
  · have y1 := y e
    subst e
    exact j_swIn hd h1 h2 ho ht y1
  · exact n e
theorem j_swD {E : zE} {lv mc ms : Nat} {M : zMI} {cc : ByteArray} {pc : Nat} {ls : List (Option zV)} {st : List zV} {S : zM} {Q : Option zV → zM → Prop} {dflt hi : Int} {offs : Array Int} {len n : Nat} {x : Int32} {tgt : Nat} (hd : decode cc pc = .ok (.tableswitch dflt 0 hi offs, len)) (hn : hi + 1 = (n : Int)) (hx : ∀ k, k < n → x ≠ nI k) (ht : (pc : Int) + dflt = (tgt : Int)) (y : zJ E lv mc ms M cc tgt ls st S Q) : zJ E lv mc ms M cc pc ls (zI x :: st) S Q := by
  refine j_swOut hd ?_ ht y
  by_cases h0 : x.toInt < 0
  · exact Or.inl h0
  · refine Or.inr (Int.not_le.mp (fun h => ?_))
    refine hx x.toInt.toNat (by omega) ?_
    apply Int32.toInt_inj.mp
    have := Int32.toInt_lt x
    rw [nI_toInt (by omega)]
    omega
def zct (w : Int32) (th ps : Bool) (n s tc : Nat) : Bool := if w = 0 then decide (nI n = 1) else if w = 1 then decide (1 < nI n) else if w = 2 then th && (decide (nI n = 0) && ps) else if w = 3 then !th && decide (0 < nI n) else th && (decide (0 < nI n) && decide (nI s < nI tc))
theorem zbi_ne0 {b : Bool} (h : ¬ zbi b = 0) : b = true := by
  cases b
  · exact absurd rfl h
  · rfl
set_option maxRecDepth 20000 in
set_option maxHeartbeats 4000000 in
theorem c_counts {E : zE} {S : zM} {b : Nat} {K : List Bool} {O : List zOe} {V : List zSe} {t : zRW} {g : Nat} {so si sc : Nat → Nat} {ol : Nat → Int64} {v tn : Nat} {tc : Nat → Nat} {a : Nat} {bg sb en : Bool} {sz vr pg : Nat} {sg sa : Nat → Nat} {L : List Nat} {id : Nat} (h : zRd S a bg sb en sz vr pg sg sa L) (hT : zTA S b K O V t g so si sc ol v tn tc) (hid : id < 64) (w : Int32) : zSp E 3 0 0 mX6_counts cX6_counts [zR a, zI w, zI (nI id), zR b] S (fun r T => S = T ∧ r = some (zI (zbi (zct w (t.1 id) (zps V (t.2 id)) (sg id) (sa id) (tc id))))) := by
  refine zSp.of (by decide) rfl (Nat.le_of_ble_eq_true rfl) rfl ?_
  have ka := h.1.1
  have k1 := h.1.2.1
  have k2 := h.1.2.2.1
  have kb := hT.1.1.1
  have hp4 := hT.2.1.2.2.1
  have hp3 := hT.2.1.2.1
  have hp6 := hT.2.1.2.2.2.2
  have kr := hT.2.2.2.2.1.1
  have ks := hT.2.2.2.1.1.1
  have k21 := hT.2.2.2.2.2.2.1.1
  have e21 := hT.2.2.2.2.2.2.1.2 id hid
  have hin : vp_in (nI id) 64 := vp_in_nI hid (by decide)
  have hcl : (nI id).toNatClampNeg = id := nI_clamp (by omega)
  have hE := h.2.2.2 id hid
  have hth : zth t.1 (nI id) = t.1 id := zth_nI _ hid
  refine j_aload_n (pc := 0) dX6_counts_0 rfl ?_
  refine j_getP (pc := 1) dX6_counts_1 f_X6_73 (Or.inl ⟨_, rfl⟩) (by assumption) ?_
  rw [hp4]
  refine j_iload_n (pc := 4) dX6_counts_4 rfl ?_
  refine j_callV (pc := 5) (t := 7) (c_has hT.2.2.2.2.1 (nI id)) dX6_counts_5 l_X6_79 mk_X7_has mv_X7_has (by decide) rfl (by assumption) (by decide) rfl rfl (Nat.le_of_ble_eq_true rfl) (Nat.le_refl _) (Nat.le_refl _) (fun r T h_1 => ?_)
  obtain ⟨rfl, rfl⟩ := h_1
  rw [hth]
  refine j_istore (pc := 8) (ls' := [_, _, _, _, _]) dX6_counts_8 (by decide) rfl rfl ?_
  refine j_iload_n (pc := 10) dX6_counts_10 rfl ?_
  refine j_swC (pc := 11) (k := 0) (tgt := 40) dX6_counts_11 (by decide) (by decide) rfl (by decide) (fun h11 => ?_) (fun h11_0 => ?_)
  · refine j_aload_n (pc := 40) dX6_counts_40 rfl ?_
    refine j_getP (pc := 41) dX6_counts_41 f_X6_9 (Or.inr ⟨_, rfl⟩) (by assumption) ?_
    rw [h.1.2.2.2.1]
    refine j_iload_n (pc := 44) dX6_counts_44 rfl ?_
    refine j_iald (pc := 45) dX6_counts_45 (by assumption) (by assumption) ?_
    rw [hcl, hE.1]
    refine j_iconst (pc := 46) (v := 1) dX6_counts_46 (by decide) ?_
    refine j_icmp_ne (pc := 47) (tgt := 54) dX6_counts_47 (by decide) (fun h47 => ?_) (fun h47 => ?_)
    · refine j_iconst (pc := 54) (v := 0) dX6_counts_54 (by decide) ?_
      refine j_zret (pc := 55) dX6_counts_55 rfl (by first | assumption | decide) ?_
      refine ⟨rfl, ?_⟩
      subst h11
      unfold zct
      rw [if_pos rfl, decide_eq_false h47]
      rfl
    · refine j_iconst (pc := 50) (v := 1) dX6_counts_50 (by decide) ?_
      refine j_goto (pc := 51) (tgt := 55) dX6_counts_51 (by decide) ?_
      refine j_zret (pc := 55) dX6_counts_55 rfl (by first | assumption | decide) ?_
      refine ⟨rfl, ?_⟩
      subst h11
      unfold zct
      rw [if_pos rfl, decide_eq_true h47]
      rfl
  refine j_swC (pc := 11) (k := 1) (tgt := 56) dX6_counts_11 (by decide) (by decide) rfl (by decide) (fun h11 => ?_) (fun h11_1 => ?_)
  · refine j_aload_n (pc := 56) dX6_counts_56 rfl ?_
    refine j_getP (pc := 57) dX6_counts_57 f_X6_9 (Or.inr ⟨_, rfl⟩) (by assumption) ?_
    rw [h.1.2.2.2.1]
    refine j_iload_n (pc := 60) dX6_counts_60 rfl ?_
    refine j_iald (pc := 61) dX6_counts_61 (by assumption) (by assumption) ?_
    rw [hcl, hE.1]
    refine j_iconst (pc := 62) (v := 1) dX6_counts_62 (by decide) ?_
    refine j_icmp_le (pc := 63) (tgt := 70) dX6_counts_63 (by decide) (fun h63 => ?_) (fun h63 => ?_)
    · refine j_iconst (pc := 70) (v := 0) dX6_counts_70 (by decide) ?_
      refine j_zret (pc := 71) dX6_counts_71 rfl (by first | assumption | decide) ?_
      refine ⟨rfl, ?_⟩
      subst h11
      unfold zct
      rw [if_neg (by decide), if_pos rfl, decide_eq_false (Int32.not_lt.mpr h63)]
      rfl
    · refine j_iconst (pc := 66) (v := 1) dX6_counts_66 (by decide) ?_
      refine j_goto (pc := 67) (tgt := 71) dX6_counts_67 (by decide) ?_
      refine j_zret (pc := 71) dX6_counts_71 rfl (by first | assumption | decide) ?_
      refine ⟨rfl, ?_⟩
      subst h11
      unfold zct
      rw [if_neg (by decide), if_pos rfl, decide_eq_true (Int32.not_le.mp h63)]
      rfl
  refine j_swC (pc := 11) (k := 2) (tgt := 72) dX6_counts_11 (by decide) (by decide) rfl (by decide) (fun h11 => ?_) (fun h11_2 => ?_)
  · refine j_iload (pc := 72) dX6_counts_72 rfl ?_
    refine j_if_eq (pc := 74) (tgt := 105) dX6_counts_74 (by decide) (fun h74 => ?_) (fun h74 => ?_)
    · refine j_iconst (pc := 105) (v := 0) dX6_counts_105 (by decide) ?_
      refine j_zret (pc := 106) dX6_counts_106 rfl (by first | assumption | decide) ?_
      refine ⟨rfl, ?_⟩
      subst h11
      unfold zct
      rw [if_neg (by decide), if_neg (by decide), if_pos rfl, zbi_eq0.mp h74, Bool.false_and]
      rfl
    · refine j_aload_n (pc := 77) dX6_counts_77 rfl ?_
      refine j_getP (pc := 78) dX6_counts_78 f_X6_9 (Or.inr ⟨_, rfl⟩) (by assumption) ?_
      rw [h.1.2.2.2.1]
      refine j_iload_n (pc := 81) dX6_counts_81 rfl ?_
      refine j_iald (pc := 82) dX6_counts_82 (by assumption) (by assumption) ?_
      rw [hcl, hE.1]
      refine j_if_ne (pc := 83) (tgt := 105) dX6_counts_83 (by decide) (fun h83 => ?_) (fun h83 => ?_)
      · refine j_iconst (pc := 105) (v := 0) dX6_counts_105 (by decide) ?_
        refine j_zret (pc := 106) dX6_counts_106 rfl (by first | assumption | decide) ?_
        refine ⟨rfl, ?_⟩
        subst h11
        unfold zct
        rw [if_neg (by decide), if_neg (by decide), if_pos rfl, decide_eq_false h83, Bool.false_and, Bool.and_false]
        rfl
      · refine j_aload_n (pc := 86) dX6_counts_86 rfl ?_
        refine j_getP (pc := 87) dX6_counts_87 f_X6_85 (Or.inl ⟨_, rfl⟩) (by assumption) ?_
        rw [hp3]
        refine j_aload_n (pc := 90) dX6_counts_90 rfl ?_
        refine j_getP (pc := 91) dX6_counts_91 f_X6_73 (Or.inl ⟨_, rfl⟩) (by assumption) ?_
        rw [hp4]
        refine j_iload_n (pc := 94) dX6_counts_94 rfl ?_
        refine j_callV (pc := 95) (t := 8) (c_lets hT.2.2.2.1 hT.2.2.2.2.1 hid) dX6_counts_95 l_X6_89 mk_X8_lets mv_X8_lets (by decide) rfl (by assumption) (by decide) rfl rfl (Nat.le_of_ble_eq_true rfl) (Nat.le_refl _) (Nat.le_refl _) (fun r T h_1 => ?_)
        obtain ⟨rfl, rfl⟩ := h_1
        refine j_if_eq (pc := 98) (tgt := 105) dX6_counts_98 (by decide) (fun h98 => ?_) (fun h98 => ?_)
        · refine j_iconst (pc := 105) (v := 0) dX6_counts_105 (by decide) ?_
          refine j_zret (pc := 106) dX6_counts_106 rfl (by first | assumption | decide) ?_
          refine ⟨rfl, ?_⟩
          subst h11
          unfold zct
          rw [if_neg (by decide), if_neg (by decide), if_pos rfl, zbi_eq0.mp h98, Bool.and_false, Bool.and_false]
          rfl
        · refine j_iconst (pc := 101) (v := 1) dX6_counts_101 (by decide) ?_
          refine j_goto (pc := 102) (tgt := 106) dX6_counts_102 (by decide) ?_
          refine j_zret (pc := 106) dX6_counts_106 rfl (by first | assumption | decide) ?_
          refine ⟨rfl, ?_⟩
          subst h11
          unfold zct
          rw [if_neg (by decide), if_neg (by decide), if_pos rfl, zbi_ne0 h74, decide_eq_true h83, zbi_ne0 h98]
          rfl
  refine j_swC (pc := 11) (k := 3) (tgt := 107) dX6_counts_11 (by decide) (by decide) rfl (by decide) (fun h11 => ?_) (fun h11_3 => ?_)
  · refine j_iload (pc := 107) dX6_counts_107 rfl ?_
    refine j_if_ne (pc := 109) (tgt := 125) dX6_counts_109 (by decide) (fun h109 => ?_) (fun h109 => ?_)
    · refine j_iconst (pc := 125) (v := 0) dX6_counts_125 (by decide) ?_
      refine j_zret (pc := 126) dX6_counts_126 rfl (by first | assumption | decide) ?_
      refine ⟨rfl, ?_⟩
      subst h11
      unfold zct
      rw [if_neg (by decide), if_neg (by decide), if_neg (by decide), if_pos rfl, zbi_ne0 h109, Bool.not_true, Bool.false_and]
      rfl
    · refine j_aload_n (pc := 112) dX6_counts_112 rfl ?_
      refine j_getP (pc := 113) dX6_counts_113 f_X6_9 (Or.inr ⟨_, rfl⟩) (by assumption) ?_
      rw [h.1.2.2.2.1]
      refine j_iload_n (pc := 116) dX6_counts_116 rfl ?_
      refine j_iald (pc := 117) dX6_counts_117 (by assumption) (by assumption) ?_
      rw [hcl, hE.1]
      refine j_if_le (pc := 118) (tgt := 125) dX6_counts_118 (by decide) (fun h118 => ?_) (fun h118 => ?_)
      · refine j_iconst (pc := 125) (v := 0) dX6_counts_125 (by decide) ?_
        refine j_zret (pc := 126) dX6_counts_126 rfl (by first | assumption | decide) ?_
        refine ⟨rfl, ?_⟩
        subst h11
        unfold zct
        rw [if_neg (by decide), if_neg (by decide), if_neg (by decide), if_pos rfl, decide_eq_false (Int32.not_lt.mpr h118), Bool.and_false]
        rfl
      · refine j_iconst (pc := 121) (v := 1) dX6_counts_121 (by decide) ?_
        refine j_goto (pc := 122) (tgt := 126) dX6_counts_122 (by decide) ?_
        refine j_zret (pc := 126) dX6_counts_126 rfl (by first | assumption | decide) ?_
        refine ⟨rfl, ?_⟩
        subst h11
        unfold zct
        rw [if_neg (by decide), if_neg (by decide), if_neg (by decide), if_pos rfl, zbi_eq0.mp h109, decide_eq_true (Int32.not_le.mp h118)]
        rfl
  refine j_swD (pc := 11) (n := 4) (tgt := 127) dX6_counts_11 rfl (fun k hk => by match k, hk with | 0, _ => exact h11_0 | 1, _ => exact h11_1 | 2, _ => exact h11_2 | 3, _ => exact h11_3) (by decide) ?_
  refine j_iload (pc := 127) dX6_counts_127 rfl ?_
  refine j_if_eq (pc := 129) (tgt := 160) dX6_counts_129 (by decide) (fun h129 => ?_) (fun h129 => ?_)
  · refine j_iconst (pc := 160) (v := 0) dX6_counts_160 (by decide) ?_
    refine j_zret (pc := 161) dX6_counts_161 rfl (by first | assumption | decide) ?_
    refine ⟨rfl, ?_⟩
    unfold zct
    rw [if_neg h11_0, if_neg h11_1, if_neg h11_2, if_neg h11_3, zbi_eq0.mp h129, Bool.false_and]
    rfl
  · refine j_aload_n (pc := 132) dX6_counts_132 rfl ?_
    refine j_getP (pc := 133) dX6_counts_133 f_X6_9 (Or.inr ⟨_, rfl⟩) (by assumption) ?_
    rw [h.1.2.2.2.1]
    refine j_iload_n (pc := 136) dX6_counts_136 rfl ?_
    refine j_iald (pc := 137) dX6_counts_137 (by assumption) (by assumption) ?_
    rw [hcl, hE.1]
    refine j_if_le (pc := 138) (tgt := 160) dX6_counts_138 (by decide) (fun h138 => ?_) (fun h138 => ?_)
    · refine j_iconst (pc := 160) (v := 0) dX6_counts_160 (by decide) ?_
      refine j_zret (pc := 161) dX6_counts_161 rfl (by first | assumption | decide) ?_
      refine ⟨rfl, ?_⟩
      unfold zct
      rw [if_neg h11_0, if_neg h11_1, if_neg h11_2, if_neg h11_3, decide_eq_false (Int32.not_lt.mpr h138), Bool.false_and, Bool.and_false]
      rfl
    · refine j_aload_n (pc := 141) dX6_counts_141 rfl ?_
      refine j_getP (pc := 142) dX6_counts_142 f_X6_95 (Or.inr ⟨_, rfl⟩) (by assumption) ?_
      rw [hp6]
      refine j_iload_n (pc := 145) dX6_counts_145 rfl ?_
      refine j_iald (pc := 146) dX6_counts_146 (by assumption) (by assumption) ?_
      rw [hcl, e21]
      refine j_aload_n (pc := 147) dX6_counts_147 rfl ?_
      refine j_getP (pc := 148) dX6_counts_148 f_X6_15 (Or.inr ⟨_, rfl⟩) (by assumption) ?_
      rw [h.1.2.2.2.2.1]
      refine j_iload_n (pc := 151) dX6_counts_151 rfl ?_
      refine j_iald (pc := 152) dX6_counts_152 (by assumption) (by assumption) ?_
      rw [hcl, hE.2]
      refine j_icmp_le (pc := 153) (tgt := 160) dX6_counts_153 (by decide) (fun h153 => ?_) (fun h153 => ?_)
      · refine j_iconst (pc := 160) (v := 0) dX6_counts_160 (by decide) ?_
        refine j_zret (pc := 161) dX6_counts_161 rfl (by first | assumption | decide) ?_
        refine ⟨rfl, ?_⟩
        unfold zct
        rw [if_neg h11_0, if_neg h11_1, if_neg h11_2, if_neg h11_3, decide_eq_false (Int32.not_lt.mpr h153), Bool.and_false, Bool.and_false]
        rfl
      · refine j_iconst (pc := 156) (v := 1) dX6_counts_156 (by decide) ?_
        refine j_goto (pc := 157) (tgt := 161) dX6_counts_157 (by decide) ?_
        refine j_zret (pc := 161) dX6_counts_161 rfl (by first | assumption | decide) ?_
        refine ⟨rfl, ?_⟩
        unfold zct
        rw [if_neg h11_0, if_neg h11_1, if_neg h11_2, if_neg h11_3, zbi_ne0 h129, decide_eq_true (Int32.not_le.mp h138), decide_eq_true (Int32.not_le.mp h153)]
        rfl
