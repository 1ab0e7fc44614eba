theorem zPd.od {S : zM} {a tp tp2 cap : Nat} {F : List Nat} {n : Nat} {w : zPi} (h : zPd S a tp tp2 cap F n w) : zOr S (a + 3) w.2.2.2.1 ∧ zgP S a 2 = a + 3 := by
  obtain ⟨-, -, -, -, -, -, so, si, sc, ol, h7⟩ := h
  exact ⟨h7.2.2.1, h7.2.1.1⟩
theorem zPd.ro {S : zM} {a tp tp2 cap : Nat} {F : List Nat} {n : Nat} {w : zPi} (h : zPd S a tp tp2 cap F n w) : zRo S (a + 13) (fun i => decide (i < w.2.2.2.2.1)) w.2.2.2.2.2 w.2.2.2.2.1 ∧ zgP S a 4 = a + 13 := by
  obtain ⟨-, -, -, -, -, -, so, si, sc, ol, h7⟩ := h
  exact ⟨h7.2.2.2.2.1, h7.2.1.2.2.1⟩
theorem zLx.far {X : Nat → Prop} {S T : zM} {x tp tp2 cap : Nat} {F : List Nat} {n ps so sr : Nat} {co : Int64} (h : zLx S x tp tp2 cap F n ps so sr co) (f : zF X S T) (h0 : ¬ X x) (h1 : ¬ X tp) (h2 : ¬ X tp2) : zLx T x tp tp2 cap F n ps so sr co := by
  obtain ⟨l1, l2, l3, l4, l5, l6, l7, l8, l9⟩ := h
  have fa := f.ag h0
  exact ⟨fa.1.trans l1, (fa.2.2.2 0).trans l2, l3.ag (f.ag h1) (f.ag h2), l4, (fa.2.1 1).trans l5, (fa.2.1 2).trans l6, (fa.2.1 3).trans l7, (fa.2.1 4).trans l8, (fa.2.2.1 5).trans l9⟩
theorem zPd.ord {S T : zM} {a tp tp2 cap : Nat} {F : List Nat} {n : Nat} {w : zPi} (h : zPd S a tp tp2 cap F n w) {O : List zOe} (f : zF (zX5 (a + 3)) S T) (ho : zOr T (a + 3) O) : zPd T a tp tp2 cap F n (w.1, w.2.1, w.2.2.1, O, w.2.2.2.2) := by
  obtain ⟨h1, h2, h3, h4, h5, h6, so, si, sc, ol, ⟨t1, t2, t3, t4, t5, t6, t7, t8, t9⟩⟩ := h
  exact ⟨by rw [f.1, f.2.2.1]; exact h1, h2.far f (by unfold zX5; omega) (by unfold zX5; omega) (by unfold zX5; omega), h3, (f.2.2.2.1 (a + 22) (by unfold zX5; omega) 2).trans h4, h5.ag (f.ag (by unfold zX5; omega)) (f.ag (by unfold zX5; omega)), h6, so, si, sc, ol, ⟨t1.keep f (by unfold zX5; omega) (by unfold zX5; omega), by rw [f.2.2.1]; exact t2, ho, t4.keep f (fun k hk => by unfold zX5; omega), t5.keep f (by unfold zX5; omega) (by unfold zX5; omega) (by unfold zX5; omega), t6.keep f (fun k hk => by unfold zX5; omega), ⟨by rw [f.1]; exact t7.1, fun i hi => (f.2.2.2.1 (a + 21) (by unfold zX5; omega) i).trans (t7.2 i hi)⟩, (f.2.2.2.1 a (by unfold zX5; omega) 8).trans t8, t9⟩⟩
theorem zneg {c : Nat} (h : c < 4) : nI c ≠ -1 := by
  match c, h with
  | 0, _ => decide
  | 1, _ => decide
  | 2, _ => decide
  | 3, _ => decide
/-- one column of the order -/
def zrO (X : List Nat) (w : zPi) : Except (Nat × Nat) zPi :=
  if ¬ w.1.2.1 = 1 then .error (1, w.1.2.2.1) else match w.2.1.findIdx? (fun y => decide (y = w.1.2.2.2)) with
  | none => .error (2, w.1.2.2.1)
  | some c => if zoh w.2.2.2.1 c = true then .error (3, w.1.2.2.1) else if zisW (zadv X w.1.1) 30064 = false ∧ zisW (zadv X w.1.1) 1685026670 = false then .error (1, (zadv X w.1.1).2.2.1) else .ok ((if zisW (zadv X (zadv X w.1.1).1) 439855772532 = true then zadv X (zadv X (zadv X w.1.1).1).1 else zadv X (zadv X w.1.1).1), w.2.1, w.2.2.1, w.2.2.2.1 ++ [(c, w.2.2.1.getD c false, zisW (zadv X w.1.1) 1685026670, zisW (zadv X (zadv X w.1.1).1) 439855772532)], w.2.2.2.2)
theorem zrO_1 {X : List Nat} {w : zPi} (h : ¬ w.1.2.1 = 1) : zrO X w = .error (1, w.1.2.2.1) := if_pos h
theorem zrO_2 {X : List Nat} {w : zPi} (h : w.1.2.1 = 1) (hf : w.2.1.findIdx? (fun y => decide (y = w.1.2.2.2)) = none) : zrO X w = .error (2, w.1.2.2.1) := by
  unfold zrO
  rw [if_neg (not_not_intro h), hf]
theorem zrO_3 {X : List Nat} {w : zPi} (h : w.1.2.1 = 1) {c : Nat} (hf : w.2.1.findIdx? (fun y => decide (y = w.1.2.2.2)) = some c) : zrO X w = if zoh w.2.2.2.1 c = true then .error (3, w.1.2.2.1) else if zisW (zadv X w.1.1) 30064 = false ∧ zisW (zadv X w.1.1) 1685026670 = false then .error (1, (zadv X w.1.1).2.2.1) else .ok ((if zisW (zadv X (zadv X w.1.1).1) 439855772532 = true then zadv X (zadv X (zadv X w.1.1).1).1 else zadv X (zadv X w.1.1).1), w.2.1, w.2.2.1, w.2.2.2.1 ++ [(c, w.2.2.1.getD c false, zisW (zadv X w.1.1) 1685026670, zisW (zadv X (zadv X w.1.1).1) 439855772532)], w.2.2.2.2) := by
  unfold zrO
  rw [if_neg (not_not_intro h), hf]
set_option maxRecDepth 20000 in
set_option maxHeartbeats 4000000 in
theorem c_readOrdered {E : zE} {S : zM} {a tp tp2 cap : Nat} {F : List Nat} {n : Nat} {w : zPi} (h : zPd S a tp tp2 cap F n w) (hO : ∀ c, w.2.1.findIdx? (fun y => decide (y = w.1.2.2.2)) = some c → zoh w.2.2.2.1 c = false → w.2.2.2.1.length < 4) : zSp E 3 0 0 mX5_readOrdered cX5_readOrdered [zR (a + 22)] S (fun r T => zPQ a tp tp2 cap F n S r T (zrO (F.take n) w)) := by
  refine zSp.of (by decide) rfl (Nat.le_of_ble_eq_true rfl) rfl ?_
  have k22_0 := h.1.1
  have p0_0 := h.1.2.1
  have p1_0 := h.1.2.2
  have k23_0 := h.2.1.1
  have ka_0 := h.ka
  have e3 := h.2.1.2.2.2.2.2.2.1
  have e5 := h.2.1.2.2.2.2.2.2.2.2
  refine j_aload_n (pc := 0) dX5_readOrdered_0 rfl ?_
  refine j_getP (pc := 1) dX5_readOrdered_1 f_X5_14 (Or.inl ⟨_, rfl⟩) (by assumption) ?_
  rw [p0_0]
  refine j_getI (pc := 4) dX5_readOrdered_4 f_X5_58 (Or.inl rfl) (by assumption) ?_
  rw [e3]
  refine j_iconst (pc := 7) (v := 1) dX5_readOrdered_7 (by decide) ?_
  refine j_icmp_eq (pc := 8) (tgt := 17) dX5_readOrdered_8 (by decide) (fun h8 => ?_) (fun h8 => ?_)
  · have hso : w.1.2.1 = 1 := (zk4 (j := 1) h.2.2.1.2.1 (by decide)).mp h8
    refine j_aload_n (pc := 17) dX5_readOrdered_17 rfl ?_
    refine j_getP (pc := 18) dX5_readOrdered_18 f_X5_20 (Or.inl ⟨_, rfl⟩) (by assumption) ?_
    rw [p1_0]
    refine j_aload_n (pc := 21) dX5_readOrdered_21 rfl ?_
    refine j_getP (pc := 22) dX5_readOrdered_22 f_X5_14 (Or.inl ⟨_, rfl⟩) (by assumption) ?_
    rw [p0_0]
    refine j_getL (pc := 25) dX5_readOrdered_25 f_X5_85 rfl (by assumption) ?_
    rw [e5]
    refine j_callV (pc := 28) (t := 9) (c_columnOf h.tb h.2.2.2.2.1 h.2.2.2.2.2.1 _) dX5_readOrdered_28 l_X5_89 mk_X9_columnOf mv_X9_columnOf (by decide) rfl (by assumption) (by decide) rfl rfl (Nat.le_of_ble_eq_true rfl) (Nat.le_refl _) (Nat.le_refl _) (fun r T h_1 => ?_)
    obtain ⟨rfl, rfl⟩ := h_1
    cases hfi : w.2.1.findIdx? (fun y => decide (y = w.1.2.2.2)) with
    | none =>
      rw [show zco w.2.1 w.1.2.2.2 = -1 from by unfold zco; rw [hfi]]
      refine j_istore_n (pc := 31) (ls' := [_, _, _, _]) dX5_readOrdered_31 (by decide) rfl rfl ?_
      refine j_iload_n (pc := 32) dX5_readOrdered_32 rfl ?_
      refine j_iconst (pc := 33) (v := (-1)) dX5_readOrdered_33 (by decide) ?_
      refine j_icmp_ne (pc := 34) (tgt := 43) dX5_readOrdered_34 (by decide) (fun h34 => ?_) (fun h34 => ?_)
      · exact absurd rfl h34
      · refine j_aload_n (pc := 37) dX5_readOrdered_37 rfl ?_
        refine j_iconst (pc := 38) (v := 2) dX5_readOrdered_38 (by decide) ?_
        refine j_callV (pc := 39) (t := 5) (c_fails (f := 2) h) dX5_readOrdered_39 l_X5_54 mk_X5_fails mv_X5_fails (by decide) rfl (by assumption) (by decide) rfl rfl (Nat.le_of_ble_eq_true rfl) (Nat.le_refl _) (Nat.le_refl _) (fun r T9 h_1 => ?_)
        obtain ⟨rfl, f9, g9, g10⟩ := h_1
        refine j_zret (pc := 42) dX5_readOrdered_42 rfl (by first | assumption | decide) ?_
        rw [zrO_2 hso hfi]
        exact ⟨rfl, f9, g9, g10⟩
    | some c =>
      rw [show zco w.2.1 w.1.2.2.2 = nI c from by unfold zco; rw [hfi]]
      obtain ⟨hcN, -⟩ := List.findIdx?_eq_some_iff_getElem.mp hfi
      have hK4 := h.tb.2.2.1
      have hKN := h.2.2.2.2.2.1
      have hc4 : c < 4 := by omega
      have hl0 := hO c hfi
      have hin : vp_in (nI c) 4 := vp_in_nI hc4 (by decide)
      have hcl : (nI c).toNatClampNeg = c := nI_clamp (by omega)
      have hKc : w.2.2.1[c]? = some (w.2.2.1.getD c false) := by
        rw [List.getD_eq_getElem?_getD, List.getElem?_eq_getElem (by omega)]
        rfl
      refine j_istore_n (pc := 31) (ls' := [_, _, _, _]) dX5_readOrdered_31 (by decide) rfl rfl ?_
      refine j_iload_n (pc := 32) dX5_readOrdered_32 rfl ?_
      refine j_iconst (pc := 33) (v := (-1)) dX5_readOrdered_33 (by decide) ?_
      refine j_icmp_ne (pc := 34) (tgt := 43) dX5_readOrdered_34 (by decide) (fun h34 => ?_) (fun h34 => ?_)
      · refine j_aload_n (pc := 43) dX5_readOrdered_43 rfl ?_
        refine j_getP (pc := 44) dX5_readOrdered_44 f_X5_20 (Or.inl ⟨_, rfl⟩) (by assumption) ?_
        rw [p1_0]
        refine j_getP (pc := 47) dX5_readOrdered_47 f_X5_61 (Or.inl ⟨_, rfl⟩) (by assumption) ?_
        rw [h.od.2]
        have ko := h.od.1.1.1
        refine j_iload_n (pc := 50) dX5_readOrdered_50 rfl ?_
        refine j_callV (pc := 51) (t := 3) (c_ohas h.od.1 hc4) dX5_readOrdered_51 l_X5_104 mk_X3_has mv_X3_has (by decide) rfl (by assumption) (by decide) rfl rfl (Nat.le_of_ble_eq_true rfl) (Nat.le_refl _) (Nat.le_refl _) (fun r T h_1 => ?_)
        obtain ⟨rfl, rfl⟩ := h_1
        refine j_if_eq (pc := 54) (tgt := 63) dX5_readOrdered_54 (by decide) (fun h54 => ?_) (fun h54 => ?_)
        · refine j_aload_n (pc := 63) dX5_readOrdered_63 rfl ?_
          refine j_getP (pc := 64) dX5_readOrdered_64 f_X5_14 (Or.inl ⟨_, rfl⟩) (by assumption) ?_
          rw [p0_0]
          refine j_callV (pc := 67) (t := 2) (c_adv h) dX5_readOrdered_67 l_X5_31 mk_X2_advance mv_X2_advance (by decide) rfl (by assumption) (by decide) rfl rfl (Nat.le_of_ble_eq_true rfl) (Nat.le_refl _) (Nat.le_refl _) (fun r T1 h_1 => ?_)
          obtain ⟨rfl, f1, h1⟩ := h_1
          have k22_1 := h1.1.1
          have p0_1 := h1.1.2.1
          have p1_1 := h1.1.2.2
          have k23_1 := h1.2.1.1
          have ka_1 := h1.ka
          refine j_aload_n (pc := 70) dX5_readOrdered_70 rfl ?_
          refine j_getP (pc := 71) dX5_readOrdered_71 f_X5_14 (Or.inl ⟨_, rfl⟩) (by assumption) ?_
          rw [p0_1]
          refine j_ldcL (pc := 74) dX5_readOrdered_74 k_X5_107 ?_
          refine j_callV (pc := 77) (t := 2) (c_isWd h1 _) dX5_readOrdered_77 l_X5_36 mk_X2_isWord mv_X2_isWord (by decide) rfl (by assumption) (by decide) rfl rfl (Nat.le_of_ble_eq_true rfl) (Nat.le_refl _) (Nat.le_refl _) (fun r T h_1 => ?_)
          obtain ⟨rfl, rfl⟩ := h_1
          refine j_if_ne (pc := 80) (tgt := 102) dX5_readOrdered_80 (by decide) (fun h80 => ?_) (fun h80 => ?_)
          · refine j_aload_n (pc := 102) dX5_readOrdered_102 rfl ?_
            refine j_getP (pc := 103) dX5_readOrdered_103 f_X5_14 (Or.inl ⟨_, rfl⟩) (by assumption) ?_
            rw [p0_1]
            refine j_ldcL (pc := 106) dX5_readOrdered_106 k_X5_109 ?_
            refine j_callV (pc := 109) (t := 2) (c_isWd h1 _) dX5_readOrdered_109 l_X5_36 mk_X2_isWord mv_X2_isWord (by decide) rfl (by assumption) (by decide) rfl rfl (Nat.le_of_ble_eq_true rfl) (Nat.le_refl _) (Nat.le_refl _) (fun r T h_1 => ?_)
            obtain ⟨rfl, rfl⟩ := h_1
            refine j_istore_n (pc := 112) (ls' := [_, _, _, _]) dX5_readOrdered_112 (by decide) rfl rfl ?_
            refine j_aload_n (pc := 113) dX5_readOrdered_113 rfl ?_
            refine j_getP (pc := 114) dX5_readOrdered_114 f_X5_14 (Or.inl ⟨_, rfl⟩) (by assumption) ?_
            rw [p0_1]
            refine j_callV (pc := 117) (t := 2) (c_adv h1) dX5_readOrdered_117 l_X5_31 mk_X2_advance mv_X2_advance (by decide) rfl (by assumption) (by decide) rfl rfl (Nat.le_of_ble_eq_true rfl) (Nat.le_refl _) (Nat.le_refl _) (fun r T2 h_1 => ?_)
            obtain ⟨rfl, f2, h2⟩ := h_1
            have k22_2 := h2.1.1
            have p0_2 := h2.1.2.1
            have p1_2 := h2.1.2.2
            have k23_2 := h2.2.1.1
            have ka_2 := h2.ka
            refine j_aload_n (pc := 120) dX5_readOrdered_120 rfl ?_
            refine j_getP (pc := 121) dX5_readOrdered_121 f_X5_14 (Or.inl ⟨_, rfl⟩) (by assumption) ?_
            rw [p0_2]
            refine j_ldcL (pc := 124) dX5_readOrdered_124 k_X5_111 ?_
            refine j_callV (pc := 127) (t := 2) (c_isWd h2 _) dX5_readOrdered_127 l_X5_36 mk_X2_isWord mv_X2_isWord (by decide) rfl (by assumption) (by decide) rfl rfl (Nat.le_of_ble_eq_true rfl) (Nat.le_refl _) (Nat.le_refl _) (fun r T h_1 => ?_)
            obtain ⟨rfl, rfl⟩ := h_1
            refine j_istore_n (pc := 130) (ls' := [_, _, _, _]) dX5_readOrdered_130 (by decide) rfl rfl ?_
            refine j_iload_n (pc := 131) dX5_readOrdered_131 rfl ?_
            refine j_if_eq (pc := 132) (tgt := 142) dX5_readOrdered_132 (by decide) (fun h132 => ?_) (fun h132 => ?_)
            · refine j_aload_n (pc := 142) dX5_readOrdered_142 rfl ?_
              refine j_getP (pc := 143) dX5_readOrdered_143 f_X5_20 (Or.inl ⟨_, rfl⟩) (by assumption) ?_
              rw [p1_2]
              refine j_getP (pc := 146) dX5_readOrdered_146 f_X5_61 (Or.inl ⟨_, rfl⟩) (by assumption) ?_
              rw [h2.od.2]
              have ko2 := h2.od.1.1.1
              have kk := h2.tb.1.2.1
              refine j_iload_n (pc := 149) dX5_readOrdered_149 rfl ?_
              refine j_aload_n (pc := 150) dX5_readOrdered_150 rfl ?_
              refine j_getP (pc := 151) dX5_readOrdered_151 f_X5_20 (Or.inl ⟨_, rfl⟩) (by assumption) ?_
              rw [p1_2]
              refine j_getP (pc := 154) dX5_readOrdered_154 f_X5_113 (Or.inr ⟨_, rfl⟩) (by assumption) ?_
              rw [h2.tb.1.2.2]
              refine j_iload_n (pc := 157) dX5_readOrdered_157 rfl ?_
              refine j_iald (pc := 158) dX5_readOrdered_158 (by assumption) (by assumption) ?_
              rw [hcl, h2.tb.2.2.2 c _ hKc]
              refine j_iload_n (pc := 159) dX5_readOrdered_159 rfl ?_
              refine j_iload_n (pc := 160) dX5_readOrdered_160 rfl ?_
              refine j_callV (pc := 161) (t := 3) (c_oadd (e := (c, w.2.2.1.getD c false, zisW (zadv (F.take n) w.1.1) 1685026670, zisW (zadv (F.take n) (zadv (F.take n) w.1.1).1) 439855772532)) h2.od.1 hc4 (hl0 (zbi_eq0.mp h54))) dX5_readOrdered_161 l_X5_117 mk_X3_add mv_X3_add (by decide) rfl (by assumption) (by decide) rfl rfl (Nat.le_of_ble_eq_true rfl) (Nat.le_refl _) (Nat.le_refl _) (fun r T4 h_1 => ?_)
              obtain ⟨rfl, o1, f4⟩ := h_1
              have h4 := h2.ord f4 o1
              refine j_iconst (pc := 164) (v := 1) dX5_readOrdered_164 (by decide) ?_
              refine j_zret (pc := 165) dX5_readOrdered_165 rfl (by first | assumption | decide) ?_
              rw [zrO_3 hso hfi, if_neg (by rw [zbi_eq0.mp h54]; decide), if_neg (fun z => h80 (zbi_eq0.mpr z.1)), if_neg (by rw [zbi_eq0.mp h132]; decide)]
              exact zPQ.pre ((f1.tr f2).tr (f4.mo (fun c z => by unfold zX5 at z; unfold zXa; omega))) ⟨rfl, zF.rf, h4⟩
            · refine j_aload_n (pc := 135) dX5_readOrdered_135 rfl ?_
              refine j_getP (pc := 136) dX5_readOrdered_136 f_X5_14 (Or.inl ⟨_, rfl⟩) (by assumption) ?_
              rw [p0_2]
              refine j_callV (pc := 139) (t := 2) (c_adv h2) dX5_readOrdered_139 l_X5_31 mk_X2_advance mv_X2_advance (by decide) rfl (by assumption) (by decide) rfl rfl (Nat.le_of_ble_eq_true rfl) (Nat.le_refl _) (Nat.le_refl _) (fun r T3 h_1 => ?_)
              obtain ⟨rfl, f3, h3⟩ := h_1
              have k22_3 := h3.1.1
              have p0_3 := h3.1.2.1
              have p1_3 := h3.1.2.2
              have k23_3 := h3.2.1.1
              have ka_3 := h3.ka
              refine j_aload_n (pc := 142) dX5_readOrdered_142 rfl ?_
              refine j_getP (pc := 143) dX5_readOrdered_143 f_X5_20 (Or.inl ⟨_, rfl⟩) (by assumption) ?_
              rw [p1_3]
              refine j_getP (pc := 146) dX5_readOrdered_146 f_X5_61 (Or.inl ⟨_, rfl⟩) (by assumption) ?_
              rw [h3.od.2]
              have ko2 := h3.od.1.1.1
              have kk := h3.tb.1.2.1
              refine j_iload_n (pc := 149) dX5_readOrdered_149 rfl ?_
              refine j_aload_n (pc := 150) dX5_readOrdered_150 rfl ?_
              refine j_getP (pc := 151) dX5_readOrdered_151 f_X5_20 (Or.inl ⟨_, rfl⟩) (by assumption) ?_
              rw [p1_3]
              refine j_getP (pc := 154) dX5_readOrdered_154 f_X5_113 (Or.inr ⟨_, rfl⟩) (by assumption) ?_
              rw [h3.tb.1.2.2]
              refine j_iload_n (pc := 157) dX5_readOrdered_157 rfl ?_
              refine j_iald (pc := 158) dX5_readOrdered_158 (by assumption) (by assumption) ?_
              rw [hcl, h3.tb.2.2.2 c _ hKc]
              refine j_iload_n (pc := 159) dX5_readOrdered_159 rfl ?_
              refine j_iload_n (pc := 160) dX5_readOrdered_160 rfl ?_
              refine j_callV (pc := 161) (t := 3) (c_oadd (e := (c, w.2.2.1.getD c false, zisW (zadv (F.take n) w.1.1) 1685026670, zisW (zadv (F.take n) (zadv (F.take n) w.1.1).1) 439855772532)) h3.od.1 hc4 (hl0 (zbi_eq0.mp h54))) dX5_readOrdered_161 l_X5_117 mk_X3_add mv_X3_add (by decide) rfl (by assumption) (by decide) rfl rfl (Nat.le_of_ble_eq_true rfl) (Nat.le_refl _) (Nat.le_refl _) (fun r T4 h_1 => ?_)
              obtain ⟨rfl, o1, f4⟩ := h_1
              have h4 := h3.ord f4 o1
              refine j_iconst (pc := 164) (v := 1) dX5_readOrdered_164 (by decide) ?_
              refine j_zret (pc := 165) dX5_readOrdered_165 rfl (by first | assumption | decide) ?_
              rw [zrO_3 hso hfi, if_neg (by rw [zbi_eq0.mp h54]; decide), if_neg (fun z => h80 (zbi_eq0.mpr z.1)), if_pos (zbi_ne0 h132)]
              exact zPQ.pre (((f1.tr f2).tr f3).tr (f4.mo (fun c z => by unfold zX5 at z; unfold zXa; omega))) ⟨rfl, zF.rf, h4⟩
          · refine j_aload_n (pc := 83) dX5_readOrdered_83 rfl ?_
            refine j_getP (pc := 84) dX5_readOrdered_84 f_X5_14 (Or.inl ⟨_, rfl⟩) (by assumption) ?_
            rw [p0_1]
            refine j_ldcL (pc := 87) dX5_readOrdered_87 k_X5_109 ?_
            refine j_callV (pc := 90) (t := 2) (c_isWd h1 _) dX5_readOrdered_90 l_X5_36 mk_X2_isWord mv_X2_isWord (by decide) rfl (by assumption) (by decide) rfl rfl (Nat.le_of_ble_eq_true rfl) (Nat.le_refl _) (Nat.le_refl _) (fun r T h_1 => ?_)
            obtain ⟨rfl, rfl⟩ := h_1
            refine j_if_ne (pc := 93) (tgt := 102) dX5_readOrdered_93 (by decide) (fun h93 => ?_) (fun h93 => ?_)
            · refine j_aload_n (pc := 102) dX5_readOrdered_102 rfl ?_
              refine j_getP (pc := 103) dX5_readOrdered_103 f_X5_14 (Or.inl ⟨_, rfl⟩) (by assumption) ?_
              rw [p0_1]
              refine j_ldcL (pc := 106) dX5_readOrdered_106 k_X5_109 ?_
              refine j_callV (pc := 109) (t := 2) (c_isWd h1 _) dX5_readOrdered_109 l_X5_36 mk_X2_isWord mv_X2_isWord (by decide) rfl (by assumption) (by decide) rfl rfl (Nat.le_of_ble_eq_true rfl) (Nat.le_refl _) (Nat.le_refl _) (fun r T h_1 => ?_)
              obtain ⟨rfl, rfl⟩ := h_1
              refine j_istore_n (pc := 112) (ls' := [_, _, _, _]) dX5_readOrdered_112 (by decide) rfl rfl ?_
              refine j_aload_n (pc := 113) dX5_readOrdered_113 rfl ?_
              refine j_getP (pc := 114) dX5_readOrdered_114 f_X5_14 (Or.inl ⟨_, rfl⟩) (by assumption) ?_
              rw [p0_1]
              refine j_callV (pc := 117) (t := 2) (c_adv h1) dX5_readOrdered_117 l_X5_31 mk_X2_advance mv_X2_advance (by decide) rfl (by assumption) (by decide) rfl rfl (Nat.le_of_ble_eq_true rfl) (Nat.le_refl _) (Nat.le_refl _) (fun r T2 h_1 => ?_)
              obtain ⟨rfl, f2, h2⟩ := h_1
              have k22_2 := h2.1.1
              have p0_2 := h2.1.2.1
              have p1_2 := h2.1.2.2
              have k23_2 := h2.2.1.1
              have ka_2 := h2.ka
              refine j_aload_n (pc := 120) dX5_readOrdered_120 rfl ?_
              refine j_getP (pc := 121) dX5_readOrdered_121 f_X5_14 (Or.inl ⟨_, rfl⟩) (by assumption) ?_
              rw [p0_2]
              refine j_ldcL (pc := 124) dX5_readOrdered_124 k_X5_111 ?_
              refine j_callV (pc := 127) (t := 2) (c_isWd h2 _) dX5_readOrdered_127 l_X5_36 mk_X2_isWord mv_X2_isWord (by decide) rfl (by assumption) (by decide) rfl rfl (Nat.le_of_ble_eq_true rfl) (Nat.le_refl _) (Nat.le_refl _) (fun r T h_1 => ?_)
              obtain ⟨rfl, rfl⟩ := h_1
              refine j_istore_n (pc := 130) (ls' := [_, _, _, _]) dX5_readOrdered_130 (by decide) rfl rfl ?_
              refine j_iload_n (pc := 131) dX5_readOrdered_131 rfl ?_
              refine j_if_eq (pc := 132) (tgt := 142) dX5_readOrdered_132 (by decide) (fun h132 => ?_) (fun h132 => ?_)
              · refine j_aload_n (pc := 142) dX5_readOrdered_142 rfl ?_
                refine j_getP (pc := 143) dX5_readOrdered_143 f_X5_20 (Or.inl ⟨_, rfl⟩) (by assumption) ?_
                rw [p1_2]
                refine j_getP (pc := 146) dX5_readOrdered_146 f_X5_61 (Or.inl ⟨_, rfl⟩) (by assumption) ?_
                rw [h2.od.2]
                have ko2 := h2.od.1.1.1
                have kk := h2.tb.1.2.1
                refine j_iload_n (pc := 149) dX5_readOrdered_149 rfl ?_
                refine j_aload_n (pc := 150) dX5_readOrdered_150 rfl ?_
                refine j_getP (pc := 151) dX5_readOrdered_151 f_X5_20 (Or.inl ⟨_, rfl⟩) (by assumption) ?_
                rw [p1_2]
                refine j_getP (pc := 154) dX5_readOrdered_154 f_X5_113 (Or.inr ⟨_, rfl⟩) (by assumption) ?_
                rw [h2.tb.1.2.2]
                refine j_iload_n (pc := 157) dX5_readOrdered_157 rfl ?_
                refine j_iald (pc := 158) dX5_readOrdered_158 (by assumption) (by assumption) ?_
                rw [hcl, h2.tb.2.2.2 c _ hKc]
                refine j_iload_n (pc := 159) dX5_readOrdered_159 rfl ?_
                refine j_iload_n (pc := 160) dX5_readOrdered_160 rfl ?_
                refine j_callV (pc := 161) (t := 3) (c_oadd (e := (c, w.2.2.1.getD c false, zisW (zadv (F.take n) w.1.1) 1685026670, zisW (zadv (F.take n) (zadv (F.take n) w.1.1).1) 439855772532)) h2.od.1 hc4 (hl0 (zbi_eq0.mp h54))) dX5_readOrdered_161 l_X5_117 mk_X3_add mv_X3_add (by decide) rfl (by assumption) (by decide) rfl rfl (Nat.le_of_ble_eq_true rfl) (Nat.le_refl _) (Nat.le_refl _) (fun r T4 h_1 => ?_)
                obtain ⟨rfl, o1, f4⟩ := h_1
                have h4 := h2.ord f4 o1
                refine j_iconst (pc := 164) (v := 1) dX5_readOrdered_164 (by decide) ?_
                refine j_zret (pc := 165) dX5_readOrdered_165 rfl (by first | assumption | decide) ?_
                rw [zrO_3 hso hfi, if_neg (by rw [zbi_eq0.mp h54]; decide), if_neg (fun z => h93 (zbi_eq0.mpr z.2)), if_neg (by rw [zbi_eq0.mp h132]; decide)]
                exact zPQ.pre ((f1.tr f2).tr (f4.mo (fun c z => by unfold zX5 at z; unfold zXa; omega))) ⟨rfl, zF.rf, h4⟩
              · refine j_aload_n (pc := 135) dX5_readOrdered_135 rfl ?_
                refine j_getP (pc := 136) dX5_readOrdered_136 f_X5_14 (Or.inl ⟨_, rfl⟩) (by assumption) ?_
                rw [p0_2]
                refine j_callV (pc := 139) (t := 2) (c_adv h2) dX5_readOrdered_139 l_X5_31 mk_X2_advance mv_X2_advance (by decide) rfl (by assumption) (by decide) rfl rfl (Nat.le_of_ble_eq_true rfl) (Nat.le_refl _) (Nat.le_refl _) (fun r T3 h_1 => ?_)
                obtain ⟨rfl, f3, h3⟩ := h_1
                have k22_3 := h3.1.1
                have p0_3 := h3.1.2.1
                have p1_3 := h3.1.2.2
                have k23_3 := h3.2.1.1
                have ka_3 := h3.ka
                refine j_aload_n (pc := 142) dX5_readOrdered_142 rfl ?_
                refine j_getP (pc := 143) dX5_readOrdered_143 f_X5_20 (Or.inl ⟨_, rfl⟩) (by assumption) ?_
                rw [p1_3]
                refine j_getP (pc := 146) dX5_readOrdered_146 f_X5_61 (Or.inl ⟨_, rfl⟩) (by assumption) ?_
                rw [h3.od.2]
                have ko2 := h3.od.1.1.1
                have kk := h3.tb.1.2.1
                refine j_iload_n (pc := 149) dX5_readOrdered_149 rfl ?_
                refine j_aload_n (pc := 150) dX5_readOrdered_150 rfl ?_
                refine j_getP (pc := 151) dX5_readOrdered_151 f_X5_20 (Or.inl ⟨_, rfl⟩) (by assumption) ?_
                rw [p1_3]
                refine j_getP (pc := 154) dX5_readOrdered_154 f_X5_113 (Or.inr ⟨_, rfl⟩) (by assumption) ?_
                rw [h3.tb.1.2.2]
                refine j_iload_n (pc := 157) dX5_readOrdered_157 rfl ?_
                refine j_iald (pc := 158) dX5_readOrdered_158 (by assumption) (by assumption) ?_
                rw [hcl, h3.tb.2.2.2 c _ hKc]
                refine j_iload_n (pc := 159) dX5_readOrdered_159 rfl ?_
                refine j_iload_n (pc := 160) dX5_readOrdered_160 rfl ?_
                refine j_callV (pc := 161) (t := 3) (c_oadd (e := (c, w.2.2.1.getD c false, zisW (zadv (F.take n) w.1.1) 1685026670, zisW (zadv (F.take n) (zadv (F.take n) w.1.1).1) 439855772532)) h3.od.1 hc4 (hl0 (zbi_eq0.mp h54))) dX5_readOrdered_161 l_X5_117 mk_X3_add mv_X3_add (by decide) rfl (by assumption) (by decide) rfl rfl (Nat.le_of_ble_eq_true rfl) (Nat.le_refl _) (Nat.le_refl _) (fun r T4 h_1 => ?_)
                obtain ⟨rfl, o1, f4⟩ := h_1
                have h4 := h3.ord f4 o1
                refine j_iconst (pc := 164) (v := 1) dX5_readOrdered_164 (by decide) ?_
                refine j_zret (pc := 165) dX5_readOrdered_165 rfl (by first | assumption | decide) ?_
                rw [zrO_3 hso hfi, if_neg (by rw [zbi_eq0.mp h54]; decide), if_neg (fun z => h93 (zbi_eq0.mpr z.2)), if_pos (zbi_ne0 h132)]
                exact zPQ.pre (((f1.tr f2).tr f3).tr (f4.mo (fun c z => by unfold zX5 at z; unfold zXa; omega))) ⟨rfl, zF.rf, h4⟩
            · refine j_aload_n (pc := 96) dX5_readOrdered_96 rfl ?_
              refine j_iconst (pc := 97) (v := 1) dX5_readOrdered_97 (by decide) ?_
              refine j_callV (pc := 98) (t := 5) (c_fails (f := 1) h1) dX5_readOrdered_98 l_X5_54 mk_X5_fails mv_X5_fails (by decide) rfl (by assumption) (by decide) rfl rfl (Nat.le_of_ble_eq_true rfl) (Nat.le_refl _) (Nat.le_refl _) (fun r T9 h_1 => ?_)
              obtain ⟨rfl, f9, g9, g10⟩ := h_1
              refine j_zret (pc := 101) dX5_readOrdered_101 rfl (by first | assumption | decide) ?_
              rw [zrO_3 hso hfi, if_neg (by rw [zbi_eq0.mp h54]; decide), if_pos ⟨zbi_eq0.mp h80, zbi_eq0.mp h93⟩]
              exact zPQ.pre f1 ⟨rfl, f9, g9, g10⟩
        · refine j_aload_n (pc := 57) dX5_readOrdered_57 rfl ?_
          refine j_iconst (pc := 58) (v := 3) dX5_readOrdered_58 (by decide) ?_
          refine j_callV (pc := 59) (t := 5) (c_fails (f := 3) h) dX5_readOrdered_59 l_X5_54 mk_X5_fails mv_X5_fails (by decide) rfl (by assumption) (by decide) rfl rfl (Nat.le_of_ble_eq_true rfl) (Nat.le_refl _) (Nat.le_refl _) (fun r T9 h_1 => ?_)
          obtain ⟨rfl, f9, g9, g10⟩ := h_1
          refine j_zret (pc := 62) dX5_readOrdered_62 rfl (by first | assumption | decide) ?_
          rw [zrO_3 hso hfi, if_pos (zbi_ne0 h54)]
          exact ⟨rfl, f9, g9, g10⟩
      · exact absurd h34 (zneg hc4)
  · refine j_aload_n (pc := 11) dX5_readOrdered_11 rfl ?_
    refine j_iconst (pc := 12) (v := 1) dX5_readOrdered_12 (by decide) ?_
    refine j_callV (pc := 13) (t := 5) (c_fails (f := 1) h) dX5_readOrdered_13 l_X5_54 mk_X5_fails mv_X5_fails (by decide) rfl (by assumption) (by decide) rfl rfl (Nat.le_of_ble_eq_true rfl) (Nat.le_refl _) (Nat.le_refl _) (fun r T9 h_1 => ?_)
    obtain ⟨rfl, f9, g9, g10⟩ := h_1
    refine j_zret (pc := 16) dX5_readOrdered_16 rfl (by first | assumption | decide) ?_
    rw [zrO_1 (fun z => h8 ((zk4 (j := 1) h.2.2.1.2.1 (by decide)).mpr z))]
    exact ⟨rfl, f9, g9, g10⟩
