set_option maxRecDepth 20000 in
set_option maxHeartbeats 4000000 in
theorem n_spread {E : zE} {S : zM} {a : Nat} (ha : 0 < a) (ha2 : a < 2 ^ 48) : zSp E 0 0 0 mX12_spread cX12_spread [zL (lN a)] S (fun r T => S = T ∧ r = some (zL (zrl 5 (lN a)))) := by
  refine zSp.of (by decide) rfl (Nat.le_of_ble_eq_true rfl) rfl ?_
  have lp : ∀ (k b : Nat), k ≤ 5 → 2 ^ (8 * (5 - k)) ≤ b → b < 2 ^ 48 → zrl 5 (lN a) = zrl k (lN b) → zJ E 0 0 0 mX12_spread cX12_spread 2 [some (zL (lN a)), none, some (zL (lN b)), none] [] S (fun r T => S = T ∧ r = some (zL (zrl 5 (lN a)))) := by
    intro k
    induction k with
    | zero =>
      intro b hk5 hb1 hb2 hq
      have hb1 : 2 ^ 40 ≤ b := hb1
      have e40 : lN b >>> ((40 : Int32).toInt64 &&& 63) = lN (b / 2 ^ 40) := zshr (k := 40) (by omega) (by decide)
      have hne : ¬ lN b >>> ((40 : Int32).toInt64 &&& 63) = 0 := by
        rw [e40, lN_0 (by omega)]
        have := Nat.div_pos hb1 (by decide)
        omega
      refine j_lload_n (pc := 2) dX12_spread_2 rfl ?_
      refine j_bipush (pc := 3) (v := 40) dX12_spread_3 (by decide) ?_
      
      refine j_lshr (pc := 5) dX12_spread_5 ?_
      refine j_lconst (pc := 6) (v := 0) dX12_spread_6 (by decide) ?_
      refine j_lcmp (pc := 7) dX12_spread_7 ?_
      refine j_if_ne (pc := 8) (tgt := 19) dX12_spread_8 (by decide) (fun h8 => ?_) (fun h8 => absurd ((lg_cmp_eq _ _).mp h8) hne)
      refine j_lload_n (pc := 19) dX12_spread_19 rfl ?_
      refine j_lret (pc := 20) dX12_spread_20 rfl ?_
      exact ⟨rfl, by rw [hq]; rfl⟩
    | succ k ih =>
      intro b hk5 hb1 hb2 hq
      have e40 : lN b >>> ((40 : Int32).toInt64 &&& 63) = lN (b / 2 ^ 40) := zshr (k := 40) (by omega) (by decide)
      refine j_lload_n (pc := 2) dX12_spread_2 rfl ?_
      refine j_bipush (pc := 3) (v := 40) dX12_spread_3 (by decide) ?_
      refine j_lshr (pc := 5) dX12_spread_5 ?_
      refine j_lconst (pc := 6) (v := 0) dX12_spread_6 (by decide) ?_
      refine j_lcmp (pc := 7) dX12_spread_7 ?_
      refine j_if_ne (pc := 8) (tgt := 19) dX12_spread_8 (by decide) (fun h8 => ?_) (fun h8 => ?_)
      · refine j_lload_n (pc := 19) dX12_spread_19 rfl ?_
        refine j_lret (pc := 20) dX12_spread_20 rfl ?_
        have hz : b / 2 ^ 40 ≠ 0 := fun q => h8 ((lg_cmp_eq _ _).mpr (by rw [e40, q]; rfl))
        have hb : 2 ^ 40 ≤ b := by
          rcases Nat.lt_or_ge b (2 ^ 40) with g | g
          · exact absurd (Nat.div_eq_of_lt g) hz
          · exact g
        exact ⟨rfl, by rw [hq, zrl, if_neg (show ¬ lN b < 1099511627776 from fun q => absurd ((pk_lLT (b := 2 ^ 40) (by omega) (by decide)).mp q) (by omega))]⟩
      · refine j_lload_n (pc := 11) dX12_spread_11 rfl ?_
        refine j_bipush (pc := 12) (v := 8) dX12_spread_12 (by decide) ?_
        refine j_lshl (pc := 14) dX12_spread_14 ?_
        refine j_lstore_n (pc := 15) (ls' := [_, _, _, _]) dX12_spread_15 (by decide) rfl rfl ?_
        refine j_goto (pc := 16) (tgt := 2) dX12_spread_16 (by decide) ?_
        have e8 : lN b <<< ((8 : Int32).toInt64 &&& 63) = lN (b * 2 ^ 8) := wb_shl b (k := 8) (by decide)
        have hz := (lN_0 (by have := Nat.div_le_self b (2 ^ 40); omega)).mp (e40.symm.trans ((lg_cmp_eq _ _).mp h8))
        have hb : b < 2 ^ 40 := by
          rcases Nat.lt_or_ge b (2 ^ 40) with g | g
          · exact g
          · have := Nat.div_pos g (by decide)
            omega
        rw [e8]
        refine ih (b * 2 ^ 8) (by omega) ?_ (by omega) ?_
        · have e : 2 ^ (8 * (5 - k)) = 2 ^ (8 * (5 - (k + 1))) * 2 ^ 8 := by rw [← Nat.pow_add]; congr 1; omega
          omega
        · rw [hq, zrl, if_pos (show lN b < 1099511627776 from (pk_lLT (b := 2 ^ 40) (by omega) (by decide)).mpr hb), e8]
  refine j_lload_n (pc := 0) dX12_spread_0 rfl ?_
  refine j_lstore_n (pc := 1) (ls' := [_, _, _, _]) dX12_spread_1 (by decide) rfl rfl ?_
  exact lp 5 a (Nat.le_refl _) ha ha2 rfl
theorem zge48 {a : Nat} (h : a < 2 ^ 63) : (lN a >>> ((48 : Int32).toInt64 &&& 63) = 0) ↔ a < 2 ^ 48 := by
  have e : (lN a >>> ((48 : Int32).toInt64 &&& 63)).toInt = (a : Int) / 2 ^ 48 := by
    rw [show ((48 : Int32).toInt64 &&& 63) = lN 48 from wb_c 48 (by decide)]
    have e : (lN a >>> lN 48).toInt = (lN a).toInt >>> 48 := by
      have hD : ((lN 48).toBitVec.smod 64).toNat = 48 := by decide
      rw [← hD]
      exact BitVec.toInt_sshiftRight ..
    rw [e, Int.shiftRight_eq_div_pow, pf_lI h]
    rfl
  rw [← Int64.toInt_inj, e, show (0 : Int64).toInt = 0 from rfl]
  omega
set_option maxRecDepth 20000 in
set_option maxHeartbeats 4000000 in
theorem n_canHave {E : zE} {S : zM} {s : zST} {t : zTB} {c : Nat} {b : Bool} (h : zMO S s) (ht : sT s = some t) (hb : (tK t)[c]? = some b) (hK4 : (tK t).length ≤ 4) (v : Int64) (om : Bool) : zSp E 1 0 0 mX12_canHave cX12_canHave [zR 123, zI (nI c), zL v, zI (zbi om)] S (fun r T => S = T ∧ r = some (zI (zbi (if v = zMiss then om else zch b v)))) := by
  refine zSp.of (by decide) rfl (Nat.le_of_ble_eq_true rfl) rfl ?_
  have hM := h.1
  refine j_lload_n (pc := 0) dX12_canHave_0 rfl ?_
  refine j_ldcL (pc := 1) dX12_canHave_1 k_X12_229 ?_
  refine j_lcmp (pc := 4) dX12_canHave_4 ?_
  refine j_if_ne (pc := 5) (tgt := 11) dX12_canHave_5 (by decide) (fun h5 => ?_) (fun h5 => ?_)
  · refine j_aload_n (pc := 11) dX12_canHave_11 rfl ?_
    refine j_getPv (pc := 12) dX12_canHave_12 f_X12_19 (Or.inr ⟨_, rfl⟩) hM.1 (mp_isText hM) ?_
    refine j_iload_n (pc := 15) dX12_canHave_15 rfl ?_
    refine j_zaldn (pc := 16) dX12_canHave_16 (mk_isText hM) (by have := (List.getElem?_eq_some_iff.mp hb).1; omega) (Nat.le_of_ble_eq_true rfl) ((h.2.2.2.2.1 t ht).1.1.2 c b hb) ?_
    refine j_if_ne (pc := 17) (tgt := 31) dX12_canHave_17 (by decide) (fun h17 => ?_) (fun h17 => ?_)
    · have hb1 : b = true := zbi_ne0 h17
      have hvm : ¬ v = zMiss := fun q => h5 ((lg_cmp_eq _ _).mpr q)
      refine j_lload_n (pc := 31) dX12_canHave_31 rfl ?_
      refine j_lconst (pc := 32) (v := 0) dX12_canHave_32 (by decide) ?_
      refine j_lcmp (pc := 33) dX12_canHave_33 ?_
      refine j_if_le (pc := 34) (tgt := 46) dX12_canHave_34 (by decide) (fun h34 => ?_) (fun h34 => ?_)
      · refine j_iconst (pc := 46) (v := 0) dX12_canHave_46 (by decide) ?_
        refine j_zret (pc := 47) dX12_canHave_47 rfl (by first | assumption | decide) ?_
        exact ⟨rfl, by rw [if_neg hvm, zch, if_neg hvm, if_pos hb1, zow, decide_eq_false (fun q => absurd ((lg_cmp_gt _ _).mpr q.1) (Int32.not_lt.mpr h34)), Bool.false_and]; rfl⟩
      · have h0v : 0 < v := (lg_cmp_gt _ _).mp (Int32.not_le.mp (fun q => h34 q))
        obtain ⟨a, ha63, rfl⟩ := pk_lOf (Int64.not_lt.mpr (Int64.le_of_lt h0v))
        have e48 : (lN a >>> ((48 : Int32).toInt64 &&& 63) = 0) ↔ a < 2 ^ 48 := zge48 ha63
        refine j_lload_n (pc := 37) dX12_canHave_37 rfl ?_
        refine j_bipush (pc := 38) (v := 48) dX12_canHave_38 (by decide) ?_
        refine j_lshr (pc := 40) dX12_canHave_40 ?_
        refine j_lconst (pc := 41) (v := 0) dX12_canHave_41 (by decide) ?_
        refine j_lcmp (pc := 42) dX12_canHave_42 ?_
        refine j_if_eq (pc := 43) (tgt := 48) dX12_canHave_43 (by decide) (fun h43 => ?_) (fun h43 => ?_)
        · refine j_lload_n (pc := 48) dX12_canHave_48 rfl ?_
          refine j_lstore (pc := 49) (ls' := [_, _, _, _, _, _, _]) dX12_canHave_49 (by decide) rfl rfl ?_
          have ha48 := e48.mp ((lg_cmp_eq _ _).mp h43)
          have hw1 : decide (0 < lN a ∧ lN a < 281474976710656) = true := decide_eq_true (p := 0 < lN a ∧ lN a < 281474976710656) ⟨h0v, (pk_lLT (b := 281474976710656) ha63 (by decide)).mpr ha48⟩
          have hz6 : zsh (lN a) 6 = 0 := by rw [zsh_lN (by omega) (by decide), lN_0 (by have := Nat.div_le_self a (2 ^ (8 * 6)); omega)]; exact Nat.div_eq_of_lt ha48
          have e0 : zsh (lN a) 0 = lN a := by rw [zsh_lN (by omega) (by decide)]; simp
          have ew : (if lN a = zMiss then om else zch b (lN a)) = zwl (lN a) 0 6 := by rw [if_neg hvm, zch, if_neg hvm, if_pos hb1, zow, hw1, Bool.true_and]
          have lp : ∀ (m i : Nat), i + m = 6 → (if lN a = zMiss then om else zch b (lN a)) = zwl (lN a) i m → zJ E 1 0 0 mX12_canHave cX12_canHave 51 [some (zR 123), some (zI (nI c)), some (zL (lN a)), none, some (zI (zbi om)), some (zL (zsh (lN a) i)), none] [] S (fun r T => S = T ∧ r = some (zI (zbi (if lN a = zMiss then om else zch b (lN a))))) := by
            intro m
            induction m with
            | zero =>
              intro i hi hq
              have ei : i = 6 := by omega
              subst ei
              refine j_lload (pc := 51) dX12_canHave_51 rfl ?_
              refine j_lconst (pc := 53) (v := 0) dX12_canHave_53 (by decide) ?_
              refine j_lcmp (pc := 54) dX12_canHave_54 ?_
              refine j_if_eq (pc := 55) (tgt := 88) dX12_canHave_55 (by decide) (fun h55 => ?_) (fun h55 => absurd ((lg_cmp_eq _ _).mpr hz6) h55)
              refine j_iconst (pc := 88) (v := 1) dX12_canHave_88 (by decide) ?_
              refine j_zret (pc := 89) dX12_canHave_89 rfl (by first | assumption | decide) ?_
              exact ⟨rfl, by rw [hq]; rfl⟩
            | succ m ih =>
              intro i hi hq
              refine j_lload (pc := 51) dX12_canHave_51 rfl ?_
              refine j_lconst (pc := 53) (v := 0) dX12_canHave_53 (by decide) ?_
              refine j_lcmp (pc := 54) dX12_canHave_54 ?_
              refine j_if_eq (pc := 55) (tgt := 88) dX12_canHave_55 (by decide) (fun h55 => ?_) (fun h55 => ?_)
              · refine j_iconst (pc := 88) (v := 1) dX12_canHave_88 (by decide) ?_
                refine j_zret (pc := 89) dX12_canHave_89 rfl (by first | assumption | decide) ?_
                exact ⟨rfl, by rw [hq, zwl, if_pos ((lg_cmp_eq _ _).mp h55)]; rfl⟩
              · refine j_lload (pc := 58) dX12_canHave_58 rfl ?_
                refine j_ldcL (pc := 60) dX12_canHave_60 k_X12_342 ?_
                refine j_land (pc := 63) dX12_canHave_63 ?_
                refine j_ldcL (pc := 64) dX12_canHave_64 k_X12_155 ?_
                refine j_ldcL (pc := 67) dX12_canHave_67 k_X12_157 ?_
                refine j_callS (pc := 70) (n_in _ _ _) dX12_canHave_70 l_X12_159 mk_X12_in ms_X12_in (by decide) rfl rfl (Nat.le_of_ble_eq_true rfl) (Nat.le_refl _) (Nat.le_refl _) (fun r T h_1 => ?_)
                obtain ⟨rfl, rfl⟩ := h_1
                refine j_if_ne (pc := 73) (tgt := 78) dX12_canHave_73 (by decide) (fun h73 => ?_) (fun h73 => ?_)
                · refine j_lload (pc := 78) dX12_canHave_78 rfl ?_
                  refine j_bipush (pc := 80) (v := 8) dX12_canHave_80 (by decide) ?_
                  refine j_lshr (pc := 82) dX12_canHave_82 ?_
                  refine j_lstore (pc := 83) (ls' := [_, _, _, _, _, _, _]) dX12_canHave_83 (by decide) rfl rfl ?_
                  refine j_goto (pc := 85) (tgt := 51) dX12_canHave_85 (by decide) ?_
                  rw [zsh_1 (by omega) (by omega)]
                  refine ih (i + 1) (by omega) ?_
                  rw [hq, zwl, if_neg (fun q => h55 ((lg_cmp_eq _ _).mpr q)), if_neg (fun q => ?_)]
                  have hd := of_decide_eq_true (zbi_ne0 h73)
                  exact q.elim hd.1 hd.2
                · refine j_iconst (pc := 76) (v := 0) dX12_canHave_76 (by decide) ?_
                  refine j_zret (pc := 77) dX12_canHave_77 rfl (by first | assumption | decide) ?_
                  have hd := of_decide_eq_false (zbi_eq0.mp h73)
                  exact ⟨rfl, by rw [hq, zwl, if_neg (fun q => h55 ((lg_cmp_eq _ _).mpr q)), if_pos (Classical.byContradiction (fun q => hd ⟨fun g => q (Or.inl g), fun g => q (Or.inr g)⟩))]; rfl⟩
          have := lp 6 0 rfl ew
          rw [e0] at this
          exact this
        · refine j_iconst (pc := 46) (v := 0) dX12_canHave_46 (by decide) ?_
          refine j_zret (pc := 47) dX12_canHave_47 rfl (by first | assumption | decide) ?_
          exact ⟨rfl, by rw [if_neg hvm, zch, if_neg hvm, if_pos hb1, zow, decide_eq_false (fun q => h43 ((lg_cmp_eq _ _).mpr (e48.mpr ((pk_lLT (b := 281474976710656) ha63 (by decide)).mp q.2)))), Bool.false_and]; rfl⟩
    · refine j_lload_n (pc := 20) dX12_canHave_20 rfl ?_
      refine j_ldcL (pc := 21) dX12_canHave_21 k_X12_372 ?_
      refine j_ldcL (pc := 24) dX12_canHave_24 k_X12_374 ?_
      refine j_callS (pc := 27) (n_in _ _ _) dX12_canHave_27 l_X12_159 mk_X12_in ms_X12_in (by decide) rfl rfl (Nat.le_of_ble_eq_true rfl) (Nat.le_refl _) (Nat.le_refl _) (fun r T h_1 => ?_)
      obtain ⟨rfl, rfl⟩ := h_1
      refine j_zret (pc := 30) dX12_canHave_30 rfl (zbi_n _) ?_
      have hb1 : b = false := zbi_eq0.mp h17
      have hvm : ¬ v = zMiss := fun q => h5 ((lg_cmp_eq _ _).mpr q)
      refine ⟨rfl, ?_⟩
      rw [if_neg hvm, zch, if_neg hvm, hb1, if_neg (by decide)]
      congr 4
      exact propext ⟨fun q => ⟨Int64.not_lt.mp q.1, Int64.not_lt.mp q.2⟩, fun q => ⟨Int64.not_lt.mpr q.1, Int64.not_lt.mpr q.2⟩⟩
  · refine j_iload (pc := 8) dX12_canHave_8 rfl ?_
    refine j_zret (pc := 10) dX12_canHave_10 rfl (zbi_n _) ?_
    exact ⟨rfl, by rw [if_pos ((lg_cmp_eq _ _).mp h5)]⟩
