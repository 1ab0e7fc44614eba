/-! while a row is read -/
def mPr (S : zM) (X : List Nat) (w : zPi) (g j : Nat) : Prop := zMs S ∧ mTx S X ∧ mTo S w.1 ∧ zTK X w.1 ∧ mNm S w.2.1 w.2.2.1 ∧ mOd S w.2.2.2.1 ∧ mVl S w.2.2.1.length j g w.2.2.2.2.2
def mVQ (X : List Nat) (S : zM) (r : Option zV) (T : zM) (g j : Nat) (q : Except (Nat × Nat) zPi) : Prop := match q with
  | .error e => mEr S T r e.1 e.2
  | .ok w => r = some (zI 1) ∧ zK zXp S T ∧ mPr T X w g j
theorem mPr.adv {S T : zM} {X : List Nat} {w : zPi} {g j : Nat} (h : mPr S X w g j) (f : zK zXo S T) (ho : mTo T (zadv X w.1.1)) : mPr T X (zadv X w.1.1, w.2) g j := ⟨f.ms h.1, h.2.1.xo f, ho, h.2.2.2.1.adv, h.2.2.2.2.1.k f (by unfold zXo; omega) (fun i => by unfold zXo; omega) (fun i => by unfold zXo; omega), h.2.2.2.2.2.1.k f (by unfold zXo; omega) (fun c i _ _ => by unfold zXo; omega), h.2.2.2.2.2.2.k f (by unfold zXo; omega) (fun i => by unfold zXo; omega)⟩
theorem n_advR {E : zE} {S : zM} {X : List Nat} {w : zPi} {g j : Nat} (h : mPr S X w g j) : zSp E 1 0 0 mX12_goesOn cX12_goesOn [zR 123] S (fun r T => r = none ∧ zK zXo S T ∧ mPr T X (zadv X w.1.1, w.2) g j) := (n_goesOn h.1 h.2.1 h.2.2.1.1 h.2.2.2.1.le.1).post (fun r T q => ⟨q.1, q.2.1, h.adv q.2.1 q.2.2⟩)
theorem mPr.put {S : zM} {X : List Nat} {w : zPi} {g j : Nat} (h : mPr S X w g j) (hj : j < w.2.2.1.length) (v : Int64) : mPr (zwL S 134 (4 * g + j) v) X (w.1, w.2.1, w.2.2.1, w.2.2.2.1, w.2.2.2.2.1, zu2 w.2.2.2.2.2 g j v) g (j + 1) := by
  obtain ⟨a0, a1, a2, a3, a4, a5, ⟨v1, v2⟩⟩ := h
  have f : zK (fun c k => c = 134) S (zwL S 134 (4 * g + j) v) := zK.wL rfl
  have hK := a4.2.1
  refine ⟨f.ms a0, a1.k f (by omega) (fun k => by omega), a2.k f (fun i _ _ => by omega), a3, a4.k f (by omega) (fun i => by omega) (fun i => by omega), a5.k f (by omega) (fun c i _ _ => by omega), ⟨⟨(f.2.2.2.1 _ _ (by omega)).trans v1.1, v1.2⟩, fun i c hc hi => ?_⟩⟩
  have hc : c < w.2.2.1.length := hc
  show zgL (zwL S 134 (4 * g + j) v) 134 (4 * i + c) = zu2 w.2.2.2.2.2 g j v i c
  rw [zgL_wL, zu2]
  by_cases e : i = g ∧ c = j
  · rw [if_pos ⟨rfl, by omega⟩, if_pos e]
  · rw [if_neg (by omega), if_neg e]
    exact v2 i c hc (by omega)
theorem zneg64 {d : Nat} (h : d < 10000) : (-(nI d)).toInt64 = -(lN d) := by
  rw [← nI_l (by omega)]
  apply Int64.toInt_inj.mp
  rw [Int32.toInt_toInt64, Int64.toInt_neg, Int32.toInt_neg, Int32.toInt_toInt64]
  have : (nI d).toInt = (d : Int) := nI_toInt (by omega)
  rw [this, Int.bmod_eq_of_le (by omega) (by omega), Int.bmod_eq_of_le (by omega) (by omega)]
set_option maxRecDepth 20000 in
set_option maxHeartbeats 4000000 in
theorem n_readValue {E : zE} {S : zM} {X : List Nat} {w : zPi} {g j : Nat} {b : Bool} (hE : zOKE E) (h : mPr S X w g j) (hb : w.2.2.1[j]? = some b) (hg : g < 30) : zSp E 5 0 0 mX12_readValue cX12_readValue [zR 123, zI (nI j)] S (fun r T => mVQ X S r T g (j + 1) (zrW X w g j b)) := by
  refine zSp.of (by decide) rfl (Nat.le_of_ble_eq_true rfl) rfl ?_
  have hlN := h.2.2.2.2.1.2.1
  have hj : j < w.2.2.1.length := (List.getElem?_eq_some_iff.mp hb).1
  cases hz : zisW w.1 (zWd 8) with
  | true =>
    have h1 : w.1.2.1 = 1 := (of_decide_eq_true hz).1
    have hs : zisS w.1 45 = false := decide_eq_false (fun q => by rw [h1] at q; cases q.1)
    have ezA : zrW X w g j b = .ok (zadv X w.1.1, w.2.1, w.2.2.1, w.2.2.2.1, w.2.2.2.2.1, zu2 w.2.2.2.2.2 g j zMiss) := by
      have hB : zrB b w.1 = false := by unfold zrB; rw [hs, Bool.and_false]
      have hK : zrK X b w.1 = w.1 := by unfold zrK; rw [hB]; rfl
      rw [zrW, hB, hK, ← zWd_8, hz, zrV]
      rfl
    refine j_ldcL (pc := 0) dX12_readValue_0 k_X12_229 ?_
    refine j_lstore_n (pc := 3) (ls' := [_, _, _, _, _]) dX12_readValue_3 (by decide) rfl rfl ?_
    refine j_aload_n (pc := 4) dX12_readValue_4 rfl ?_
    refine j_ldcQ (pc := 5) (j := 8) hE dX12_readValue_5 rfl (by decide) rfl ?_
    refine j_callV (pc := 7) (t := 12) (n_isWord hE h.1 h.2.1 h.2.2.1 h.2.2.2.1 (j := 8) (by decide)) dX12_readValue_7 l_X12_207 mk_X12_isWord mv_X12_isWord (by decide) rfl h.1.1 (by decide) rfl rfl (Nat.le_of_ble_eq_true rfl) (Nat.le_refl _) (Nat.le_refl _) (fun r T h_1 => ?_)
    obtain ⟨rfl, rfl⟩ := h_1
    rw [hz]
    refine j_if_ne (pc := 10) (tgt := 44) dX12_readValue_10 (by decide) (fun h10 => ?_) (fun h10 => absurd h10 (by decide))
    refine j_aload_n (pc := 44) dX12_readValue_44 rfl ?_
    refine j_ldcQ (pc := 45) (j := 8) hE dX12_readValue_45 rfl (by decide) rfl ?_
    refine j_callV (pc := 47) (t := 12) (n_isWord hE h.1 h.2.1 h.2.2.1 h.2.2.2.1 (j := 8) (by decide)) dX12_readValue_47 l_X12_207 mk_X12_isWord mv_X12_isWord (by decide) rfl h.1.1 (by decide) rfl rfl (Nat.le_of_ble_eq_true rfl) (Nat.le_refl _) (Nat.le_refl _) (fun r T h_1 => ?_)
    obtain ⟨rfl, rfl⟩ := h_1
    rw [hz]
    refine j_if_ne (pc := 50) (tgt := 112) dX12_readValue_50 (by decide) (fun h50 => ?_) (fun h50 => absurd h50 (by decide))
    refine j_aload_n (pc := 112) dX12_readValue_112 rfl ?_
    refine j_getPv (pc := 113) dX12_readValue_113 f_X12_48 (Or.inr ⟨_, rfl⟩) h.1.1 (mp_readValues h.1) ?_
    refine j_iconst (pc := 116) (v := 4) dX12_readValue_116 (by decide) ?_
    refine j_aload_n (pc := 117) dX12_readValue_117 rfl ?_
    refine j_getIv (pc := 118) dX12_readValue_118 f_X12_233 (Or.inl rfl) h.1.1 (h.2.2.2.2.2.2.1.1) ?_
    refine j_imul (pc := 121) dX12_readValue_121 ?_
    rw [show (4 : Int32) * nI g = nI (4 * g) from pk_mul 4 _]
    refine j_iload_n (pc := 122) dX12_readValue_122 rfl ?_
    refine j_iadd (pc := 123) dX12_readValue_123 ?_
    rw [nI_add]
    refine j_lload_n (pc := 124) dX12_readValue_124 rfl ?_
    refine j_lastn (pc := 125) dX12_readValue_125 (mk_readValues h.1) (by omega) (Nat.le_of_ble_eq_true rfl) ?_
    refine j_aload_n (pc := 126) dX12_readValue_126 rfl ?_
    refine j_callV (pc := 127) (t := 12) (n_advR (h.put hj zMiss)) dX12_readValue_127 l_X12_202 mk_X12_goesOn mv_X12_goesOn (by decide) rfl h.1.1 (by decide) rfl rfl (Nat.le_of_ble_eq_true rfl) (Nat.le_refl _) (Nat.le_refl _) (fun r T9 h_1 => ?_)
    obtain ⟨rfl, k9, h9⟩ := h_1
    refine j_iconst (pc := 130) (v := 1) dX12_readValue_130 (by decide) ?_
    refine j_zret (pc := 131) dX12_readValue_131 rfl (by first | assumption | decide) ?_
    rw [ezA]
    exact ⟨rfl, ((zK.wL (Or.inl (by omega))).tr (k9.mo (fun c k z => zXo.p z))), h9⟩
  | false =>
    cases hbt : b with
    | true =>
      have ezB : zrW X w g j true = if ¬ w.1.2.1 = 1 then .error (1, w.1.2.2.1) else .ok (zadv X w.1.1, w.2.1, w.2.2.1, w.2.2.2.1, w.2.2.2.2.1, zu2 w.2.2.2.2.2 g j w.1.2.2.2) := by
        have hK : zrK X true w.1 = w.1 := rfl
        rw [zrW, show zrB true w.1 = false from rfl, hK, ← zWd_8, hz, zrV]
        by_cases q : w.1.2.1 = 1
        · rw [if_neg (fun z => z.2 q), if_neg (not_not_intro q)]
          rfl
        · rw [if_pos ⟨rfl, q⟩, if_pos q]
      refine j_ldcL (pc := 0) dX12_readValue_0 k_X12_229 ?_
      refine j_lstore_n (pc := 3) (ls' := [_, _, _, _, _]) dX12_readValue_3 (by decide) rfl rfl ?_
      refine j_aload_n (pc := 4) dX12_readValue_4 rfl ?_
      refine j_ldcQ (pc := 5) (j := 8) hE dX12_readValue_5 rfl (by decide) rfl ?_
      refine j_callV (pc := 7) (t := 12) (n_isWord hE h.1 h.2.1 h.2.2.1 h.2.2.2.1 (j := 8) (by decide)) dX12_readValue_7 l_X12_207 mk_X12_isWord mv_X12_isWord (by decide) rfl h.1.1 (by decide) rfl rfl (Nat.le_of_ble_eq_true rfl) (Nat.le_refl _) (Nat.le_refl _) (fun r T h_1 => ?_)
      obtain ⟨rfl, rfl⟩ := h_1
      rw [hz]
      refine j_if_ne (pc := 10) (tgt := 44) dX12_readValue_10 (by decide) (fun h10 => absurd rfl h10) (fun h10 => ?_)
      refine j_aload_n (pc := 13) dX12_readValue_13 rfl ?_
      refine j_getPv (pc := 14) dX12_readValue_14 f_X12_36 (Or.inr ⟨_, rfl⟩) h.1.1 (mp_readText h.1) ?_
      refine j_iload_n (pc := 17) dX12_readValue_17 rfl ?_
      refine j_zaldn (pc := 18) dX12_readValue_18 (mk_readText h.1) (by omega) (Nat.le_of_ble_eq_true rfl) (h.2.2.2.2.1.2.2.2 j b hb) ?_
      refine j_if_eq (pc := 19) (tgt := 44) dX12_readValue_19 (by decide) (fun h19 => absurd h19 (by rw [hbt]; decide)) (fun h19 => ?_)
      refine j_aload_n (pc := 22) dX12_readValue_22 rfl ?_
      refine j_getIv (pc := 23) dX12_readValue_23 f_X12_152 (Or.inl rfl) h.1.1 (h.2.2.1.2.2.1) ?_
      refine j_iconst (pc := 26) (v := 2) dX12_readValue_26 (by decide) ?_
      refine j_icmp_eq (pc := 27) (tgt := 36) dX12_readValue_27 (by decide) (fun h27 => ?_) (fun h27 => ?_)
      · have h1 : w.1.2.1 = 1 := h.2.2.2.1.c2.mp h27
        refine j_aload_n (pc := 36) dX12_readValue_36 rfl ?_
        refine j_callV (pc := 37) (t := 12) (n_spelt h.1 h.2.1 h.2.2.1 h.2.2.2.1 h1) dX12_readValue_37 l_X12_191 mk_X12_spelt mv_X12_spelt (by decide) rfl h.1.1 (by decide) rfl rfl (Nat.le_of_ble_eq_true rfl) (Nat.le_refl _) (Nat.le_refl _) (fun r T h_1 => ?_)
        obtain ⟨rfl, rfl⟩ := h_1
        refine j_lstore_n (pc := 40) (ls' := [_, _, _, _, _]) dX12_readValue_40 (by decide) rfl rfl ?_
        refine j_goto (pc := 41) (tgt := 112) dX12_readValue_41 (by decide) ?_
        refine j_aload_n (pc := 112) dX12_readValue_112 rfl ?_
        refine j_getPv (pc := 113) dX12_readValue_113 f_X12_48 (Or.inr ⟨_, rfl⟩) h.1.1 (mp_readValues h.1) ?_
        refine j_iconst (pc := 116) (v := 4) dX12_readValue_116 (by decide) ?_
        refine j_aload_n (pc := 117) dX12_readValue_117 rfl ?_
        refine j_getIv (pc := 118) dX12_readValue_118 f_X12_233 (Or.inl rfl) h.1.1 (h.2.2.2.2.2.2.1.1) ?_
        refine j_imul (pc := 121) dX12_readValue_121 ?_
        rw [show (4 : Int32) * nI g = nI (4 * g) from pk_mul 4 _]
        refine j_iload_n (pc := 122) dX12_readValue_122 rfl ?_
        refine j_iadd (pc := 123) dX12_readValue_123 ?_
        rw [nI_add]
        refine j_lload_n (pc := 124) dX12_readValue_124 rfl ?_
        refine j_lastn (pc := 125) dX12_readValue_125 (mk_readValues h.1) (by omega) (Nat.le_of_ble_eq_true rfl) ?_
        refine j_aload_n (pc := 126) dX12_readValue_126 rfl ?_
        refine j_callV (pc := 127) (t := 12) (n_advR (h.put hj w.1.2.2.2)) dX12_readValue_127 l_X12_202 mk_X12_goesOn mv_X12_goesOn (by decide) rfl h.1.1 (by decide) rfl rfl (Nat.le_of_ble_eq_true rfl) (Nat.le_refl _) (Nat.le_refl _) (fun r T9 h_1 => ?_)
        obtain ⟨rfl, k9, h9⟩ := h_1
        refine j_iconst (pc := 130) (v := 1) dX12_readValue_130 (by decide) ?_
        refine j_zret (pc := 131) dX12_readValue_131 rfl (by first | assumption | decide) ?_
        rw [ezB, if_neg (not_not_intro h1)]
        exact ⟨rfl, ((zK.wL (Or.inl (by omega))).tr (k9.mo (fun c k z => zXo.p z))), h9⟩
      · refine j_aload_n (pc := 30) dX12_readValue_30 rfl ?_
        refine j_iconst (pc := 31) (v := 1) dX12_readValue_31 (by decide) ?_
        refine j_callV (pc := 32) (t := 12) (n_errs h.1 h.2.2.1.2.1) dX12_readValue_32 l_X12_195 mk_X12_errs mv_X12_errs (by decide) rfl h.1.1 (by decide) rfl rfl (Nat.le_of_ble_eq_true rfl) (Nat.le_refl _) (Nat.le_refl _) (fun r T h_1 => ?_)
        obtain ⟨rfl, q2, q3, q4⟩ := h_1
        refine j_zret (pc := 35) dX12_readValue_35 rfl (by first | assumption | decide) ?_
        have h1 : ¬ w.1.2.1 = 1 := fun q => h27 (h.2.2.2.1.c2.mpr q)
        rw [ezB, if_pos h1]
        exact ⟨rfl, q2, q3, q4⟩
    | false =>
      cases hs : zisS w.1 45 with
      | false =>
        have ezC : zrW X w g j false = if ¬ w.1.2.1 = 2 then .error (1, w.1.2.2.1) else .ok (zadv X w.1.1, w.2.1, w.2.2.1, w.2.2.2.1, w.2.2.2.2.1, zu2 w.2.2.2.2.2 g j w.1.2.2.2) := by
          have hB : zrB false w.1 = false := by unfold zrB; rw [hs]; rfl
          have hK : zrK X false w.1 = w.1 := by unfold zrK; rw [hB]; rfl
          rw [zrW, hB, hK, ← zWd_8, hz, zrV]
          by_cases q : w.1.2.1 = 2
          · rw [if_neg (fun z => z.2 q), if_neg (not_not_intro q)]
            rfl
          · rw [if_pos ⟨rfl, q⟩, if_pos q]
        refine j_ldcL (pc := 0) dX12_readValue_0 k_X12_229 ?_
        refine j_lstore_n (pc := 3) (ls' := [_, _, _, _, _]) dX12_readValue_3 (by decide) rfl rfl ?_
        refine j_aload_n (pc := 4) dX12_readValue_4 rfl ?_
        refine j_ldcQ (pc := 5) (j := 8) hE dX12_readValue_5 rfl (by decide) rfl ?_
        refine j_callV (pc := 7) (t := 12) (n_isWord hE h.1 h.2.1 h.2.2.1 h.2.2.2.1 (j := 8) (by decide)) dX12_readValue_7 l_X12_207 mk_X12_isWord mv_X12_isWord (by decide) rfl h.1.1 (by decide) rfl rfl (Nat.le_of_ble_eq_true rfl) (Nat.le_refl _) (Nat.le_refl _) (fun r T h_1 => ?_)
        obtain ⟨rfl, rfl⟩ := h_1
        rw [hz]
        refine j_if_ne (pc := 10) (tgt := 44) dX12_readValue_10 (by decide) (fun h10 => absurd rfl h10) (fun h10 => ?_)
        refine j_aload_n (pc := 13) dX12_readValue_13 rfl ?_
        refine j_getPv (pc := 14) dX12_readValue_14 f_X12_36 (Or.inr ⟨_, rfl⟩) h.1.1 (mp_readText h.1) ?_
        refine j_iload_n (pc := 17) dX12_readValue_17 rfl ?_
        refine j_zaldn (pc := 18) dX12_readValue_18 (mk_readText h.1) (by omega) (Nat.le_of_ble_eq_true rfl) (h.2.2.2.2.1.2.2.2 j b hb) ?_
        refine j_if_eq (pc := 19) (tgt := 44) dX12_readValue_19 (by decide) (fun h19 => ?_) (fun h19 => absurd (by rw [hbt]; rfl) h19)
        refine j_aload_n (pc := 44) dX12_readValue_44 rfl ?_
        refine j_ldcQ (pc := 45) (j := 8) hE dX12_readValue_45 rfl (by decide) rfl ?_
        refine j_callV (pc := 47) (t := 12) (n_isWord hE h.1 h.2.1 h.2.2.1 h.2.2.2.1 (j := 8) (by decide)) dX12_readValue_47 l_X12_207 mk_X12_isWord mv_X12_isWord (by decide) rfl h.1.1 (by decide) rfl rfl (Nat.le_of_ble_eq_true rfl) (Nat.le_refl _) (Nat.le_refl _) (fun r T h_1 => ?_)
        obtain ⟨rfl, rfl⟩ := h_1
        rw [hz]
        refine j_if_ne (pc := 50) (tgt := 112) dX12_readValue_50 (by decide) (fun h50 => absurd rfl h50) (fun h50 => ?_)
        refine j_aload_n (pc := 53) dX12_readValue_53 rfl ?_
        refine j_getIv (pc := 54) dX12_readValue_54 f_X12_152 (Or.inl rfl) h.1.1 (h.2.2.1.2.2.1) ?_
        refine j_bipush (pc := 57) (v := 45) dX12_readValue_57 (by decide) ?_
        refine j_icmp_ne (pc := 59) (tgt := 66) dX12_readValue_59 (by decide) (fun h59 => ?_) (fun h59 => absurd ((h.2.2.2.1.cc (c := 45) (by decide)).mp h59) (by rw [hs]; decide))
        refine j_iconst (pc := 66) (v := 0) dX12_readValue_66 (by decide) ?_
        refine j_istore (pc := 67) (ls' := [_, _, _, _, _]) dX12_readValue_67 (by decide) rfl rfl ?_
        refine j_iload (pc := 69) dX12_readValue_69 rfl ?_
        refine j_if_eq (pc := 71) (tgt := 78) dX12_readValue_71 (by decide) (fun h71 => ?_) (fun h71 => absurd rfl h71)
        refine j_aload_n (pc := 78) dX12_readValue_78 rfl ?_
        refine j_getIv (pc := 79) dX12_readValue_79 f_X12_152 (Or.inl rfl) h.1.1 (h.2.2.1.2.2.1) ?_
        refine j_iconst (pc := 82) (v := 3) dX12_readValue_82 (by decide) ?_
        refine j_icmp_eq (pc := 83) (tgt := 92) dX12_readValue_83 (by decide) (fun h83 => ?_) (fun h83 => ?_)
        · have h1 : w.1.2.1 = 2 := h.2.2.2.1.c3.mp h83
          obtain ⟨d, d1, d2, d3⟩ := h.2.2.1.2.2.2 h1
          refine j_iload (pc := 92) dX12_readValue_92 rfl ?_
          refine j_if_eq (pc := 94) (tgt := 106) dX12_readValue_94 (by decide) (fun h94 => ?_) (fun h94 => absurd rfl h94)
          refine j_aload_n (pc := 106) dX12_readValue_106 rfl ?_
          refine j_getIv (pc := 107) dX12_readValue_107 f_X12_167 (Or.inl rfl) h.1.1 (d3) ?_
          refine j_i2l (pc := 110) dX12_readValue_110 ?_
          rw [nI_l (by omega), ← d2]
          refine j_lstore_n (pc := 111) (ls' := [_, _, _, _, _]) dX12_readValue_111 (by decide) rfl rfl ?_
          refine j_aload_n (pc := 112) dX12_readValue_112 rfl ?_
          refine j_getPv (pc := 113) dX12_readValue_113 f_X12_48 (Or.inr ⟨_, rfl⟩) h.1.1 (mp_readValues h.1) ?_
          refine j_iconst (pc := 116) (v := 4) dX12_readValue_116 (by decide) ?_
          refine j_aload_n (pc := 117) dX12_readValue_117 rfl ?_
          refine j_getIv (pc := 118) dX12_readValue_118 f_X12_233 (Or.inl rfl) h.1.1 (h.2.2.2.2.2.2.1.1) ?_
          refine j_imul (pc := 121) dX12_readValue_121 ?_
          rw [show (4 : Int32) * nI g = nI (4 * g) from pk_mul 4 _]
          refine j_iload_n (pc := 122) dX12_readValue_122 rfl ?_
          refine j_iadd (pc := 123) dX12_readValue_123 ?_
          rw [nI_add]
          refine j_lload_n (pc := 124) dX12_readValue_124 rfl ?_
          refine j_lastn (pc := 125) dX12_readValue_125 (mk_readValues h.1) (by omega) (Nat.le_of_ble_eq_true rfl) ?_
          refine j_aload_n (pc := 126) dX12_readValue_126 rfl ?_
          refine j_callV (pc := 127) (t := 12) (n_advR (h.put hj w.1.2.2.2)) dX12_readValue_127 l_X12_202 mk_X12_goesOn mv_X12_goesOn (by decide) rfl h.1.1 (by decide) rfl rfl (Nat.le_of_ble_eq_true rfl) (Nat.le_refl _) (Nat.le_refl _) (fun r T9 h_1 => ?_)
          obtain ⟨rfl, k9, h9⟩ := h_1
          refine j_iconst (pc := 130) (v := 1) dX12_readValue_130 (by decide) ?_
          refine j_zret (pc := 131) dX12_readValue_131 rfl (by first | assumption | decide) ?_
          rw [ezC, if_neg (not_not_intro h1)]
          exact ⟨rfl, ((zK.wL (Or.inl (by omega))).tr (k9.mo (fun c k z => zXo.p z))), h9⟩
        · refine j_aload_n (pc := 86) dX12_readValue_86 rfl ?_
          refine j_iconst (pc := 87) (v := 1) dX12_readValue_87 (by decide) ?_
          refine j_callV (pc := 88) (t := 12) (n_errs h.1 h.2.2.1.2.1) dX12_readValue_88 l_X12_195 mk_X12_errs mv_X12_errs (by decide) rfl h.1.1 (by decide) rfl rfl (Nat.le_of_ble_eq_true rfl) (Nat.le_refl _) (Nat.le_refl _) (fun r T h_1 => ?_)
          obtain ⟨rfl, q2, q3, q4⟩ := h_1
          refine j_zret (pc := 91) dX12_readValue_91 rfl (by first | assumption | decide) ?_
          have h1 : ¬ w.1.2.1 = 2 := fun q => h83 (h.2.2.2.1.c3.mpr q)
          rw [ezC, if_pos h1]
          exact ⟨rfl, q2, q3, q4⟩
      | true =>
        have ezD : zrW X w g j false = if ¬ (zadv X w.1.1).2.1 = 2 then .error (1, (zadv X w.1.1).2.2.1) else .ok (zadv X (zadv X w.1.1).1, w.2.1, w.2.2.1, w.2.2.2.1, w.2.2.2.2.1, zu2 w.2.2.2.2.2 g j (-(zadv X w.1.1).2.2.2)) := by
          have hB : zrB false w.1 = true := by unfold zrB; rw [hs]; rfl
          have hK : zrK X false w.1 = zadv X w.1.1 := by unfold zrK; rw [hB]; rfl
          rw [zrW, hB, hK, zrV]
          by_cases q : (zadv X w.1.1).2.1 = 2
          · rw [if_neg (fun z => z.2 q), if_neg (not_not_intro q)]
            rfl
          · rw [if_pos ⟨rfl, q⟩, if_pos q]
        refine j_ldcL (pc := 0) dX12_readValue_0 k_X12_229 ?_
        refine j_lstore_n (pc := 3) (ls' := [_, _, _, _, _]) dX12_readValue_3 (by decide) rfl rfl ?_
        refine j_aload_n (pc := 4) dX12_readValue_4 rfl ?_
        refine j_ldcQ (pc := 5) (j := 8) hE dX12_readValue_5 rfl (by decide) rfl ?_
        refine j_callV (pc := 7) (t := 12) (n_isWord hE h.1 h.2.1 h.2.2.1 h.2.2.2.1 (j := 8) (by decide)) dX12_readValue_7 l_X12_207 mk_X12_isWord mv_X12_isWord (by decide) rfl h.1.1 (by decide) rfl rfl (Nat.le_of_ble_eq_true rfl) (Nat.le_refl _) (Nat.le_refl _) (fun r T h_1 => ?_)
        obtain ⟨rfl, rfl⟩ := h_1
        rw [hz]
        refine j_if_ne (pc := 10) (tgt := 44) dX12_readValue_10 (by decide) (fun h10 => absurd rfl h10) (fun h10 => ?_)
        refine j_aload_n (pc := 13) dX12_readValue_13 rfl ?_
        refine j_getPv (pc := 14) dX12_readValue_14 f_X12_36 (Or.inr ⟨_, rfl⟩) h.1.1 (mp_readText h.1) ?_
        refine j_iload_n (pc := 17) dX12_readValue_17 rfl ?_
        refine j_zaldn (pc := 18) dX12_readValue_18 (mk_readText h.1) (by omega) (Nat.le_of_ble_eq_true rfl) (h.2.2.2.2.1.2.2.2 j b hb) ?_
        refine j_if_eq (pc := 19) (tgt := 44) dX12_readValue_19 (by decide) (fun h19 => ?_) (fun h19 => absurd (by rw [hbt]; rfl) h19)
        refine j_aload_n (pc := 44) dX12_readValue_44 rfl ?_
        refine j_ldcQ (pc := 45) (j := 8) hE dX12_readValue_45 rfl (by decide) rfl ?_
        refine j_callV (pc := 47) (t := 12) (n_isWord hE h.1 h.2.1 h.2.2.1 h.2.2.2.1 (j := 8) (by decide)) dX12_readValue_47 l_X12_207 mk_X12_isWord mv_X12_isWord (by decide) rfl h.1.1 (by decide) rfl rfl (Nat.le_of_ble_eq_true rfl) (Nat.le_refl _) (Nat.le_refl _) (fun r T h_1 => ?_)
        obtain ⟨rfl, rfl⟩ := h_1
        rw [hz]
        refine j_if_ne (pc := 50) (tgt := 112) dX12_readValue_50 (by decide) (fun h50 => absurd rfl h50) (fun h50 => ?_)
        refine j_aload_n (pc := 53) dX12_readValue_53 rfl ?_
        refine j_getIv (pc := 54) dX12_readValue_54 f_X12_152 (Or.inl rfl) h.1.1 (h.2.2.1.2.2.1) ?_
        refine j_bipush (pc := 57) (v := 45) dX12_readValue_57 (by decide) ?_
        refine j_icmp_ne (pc := 59) (tgt := 66) dX12_readValue_59 (by decide) (fun h59 => absurd ((h.2.2.2.1.cc (c := 45) (by decide)).mpr hs) h59) (fun h59 => ?_)
        refine j_iconst (pc := 62) (v := 1) dX12_readValue_62 (by decide) ?_
        refine j_goto (pc := 63) (tgt := 67) dX12_readValue_63 (by decide) ?_
        refine j_istore (pc := 67) (ls' := [_, _, _, _, _]) dX12_readValue_67 (by decide) rfl rfl ?_
        refine j_iload (pc := 69) dX12_readValue_69 rfl ?_
        refine j_if_eq (pc := 71) (tgt := 78) dX12_readValue_71 (by decide) (fun h71 => absurd h71 (by decide)) (fun h71 => ?_)
        refine j_aload_n (pc := 74) dX12_readValue_74 rfl ?_
        refine j_callV (pc := 75) (t := 12) (n_advR h) dX12_readValue_75 l_X12_202 mk_X12_goesOn mv_X12_goesOn (by decide) rfl h.1.1 (by decide) rfl rfl (Nat.le_of_ble_eq_true rfl) (Nat.le_refl _) (Nat.le_refl _) (fun r T1 h_1 => ?_)
        obtain ⟨rfl, k1, hAq⟩ := h_1
        have hA : mPr T1 X (zadv X w.1.1, w.2) g j := hAq
        refine j_aload_n (pc := 78) dX12_readValue_78 rfl ?_
        refine j_getIv (pc := 79) dX12_readValue_79 f_X12_152 (Or.inl rfl) hA.1.1 (hA.2.2.1.2.2.1) ?_
        refine j_iconst (pc := 82) (v := 3) dX12_readValue_82 (by decide) ?_
        refine j_icmp_eq (pc := 83) (tgt := 92) dX12_readValue_83 (by decide) (fun h83 => ?_) (fun h83 => ?_)
        · have h1 : (zadv X w.1.1).2.1 = 2 := hA.2.2.2.1.c3.mp h83
          obtain ⟨d, d1, d2, d3⟩ := hA.2.2.1.2.2.2 h1
          refine j_iload (pc := 92) dX12_readValue_92 rfl ?_
          refine j_if_eq (pc := 94) (tgt := 106) dX12_readValue_94 (by decide) (fun h94 => absurd h94 (by decide)) (fun h94 => ?_)
          refine j_aload_n (pc := 97) dX12_readValue_97 rfl ?_
          refine j_getIv (pc := 98) dX12_readValue_98 f_X12_167 (Or.inl rfl) hA.1.1 (d3) ?_
          refine j_ineg (pc := 101) dX12_readValue_101 ?_
          refine j_i2l (pc := 102) dX12_readValue_102 ?_
          rw [zneg64 d1, ← (show (zadv X w.1.1).2.2.2 = lN d from d2)]
          refine j_goto (pc := 103) (tgt := 111) dX12_readValue_103 (by decide) ?_
          refine j_lstore_n (pc := 111) (ls' := [_, _, _, _, _]) dX12_readValue_111 (by decide) rfl rfl ?_
          refine j_aload_n (pc := 112) dX12_readValue_112 rfl ?_
          refine j_getPv (pc := 113) dX12_readValue_113 f_X12_48 (Or.inr ⟨_, rfl⟩) hA.1.1 (mp_readValues hA.1) ?_
          refine j_iconst (pc := 116) (v := 4) dX12_readValue_116 (by decide) ?_
          refine j_aload_n (pc := 117) dX12_readValue_117 rfl ?_
          refine j_getIv (pc := 118) dX12_readValue_118 f_X12_233 (Or.inl rfl) hA.1.1 (hA.2.2.2.2.2.2.1.1) ?_
          refine j_imul (pc := 121) dX12_readValue_121 ?_
          rw [show (4 : Int32) * nI g = nI (4 * g) from pk_mul 4 _]
          refine j_iload_n (pc := 122) dX12_readValue_122 rfl ?_
          refine j_iadd (pc := 123) dX12_readValue_123 ?_
          rw [nI_add]
          refine j_lload_n (pc := 124) dX12_readValue_124 rfl ?_
          refine j_lastn (pc := 125) dX12_readValue_125 (mk_readValues hA.1) (by omega) (Nat.le_of_ble_eq_true rfl) ?_
          refine j_aload_n (pc := 126) dX12_readValue_126 rfl ?_
          refine j_callV (pc := 127) (t := 12) (n_advR (hA.put hj (-(zadv X w.1.1).2.2.2))) dX12_readValue_127 l_X12_202 mk_X12_goesOn mv_X12_goesOn (by decide) rfl hA.1.1 (by decide) rfl rfl (Nat.le_of_ble_eq_true rfl) (Nat.le_refl _) (Nat.le_refl _) (fun r T9 h_1 => ?_)
          obtain ⟨rfl, k9, h9⟩ := h_1
          refine j_iconst (pc := 130) (v := 1) dX12_readValue_130 (by decide) ?_
          refine j_zret (pc := 131) dX12_readValue_131 rfl (by first | assumption | decide) ?_
          rw [ezD, if_neg (not_not_intro h1)]
          exact ⟨rfl, (k1.mo (fun c k z => zXo.p z)).tr ((zK.wL (Or.inl (by omega))).tr (k9.mo (fun c k z => zXo.p z))), h9⟩
        · refine j_aload_n (pc := 86) dX12_readValue_86 rfl ?_
          refine j_iconst (pc := 87) (v := 1) dX12_readValue_87 (by decide) ?_
          refine j_callV (pc := 88) (t := 12) (n_errs hA.1 hA.2.2.1.2.1) dX12_readValue_88 l_X12_195 mk_X12_errs mv_X12_errs (by decide) rfl hA.1.1 (by decide) rfl rfl (Nat.le_of_ble_eq_true rfl) (Nat.le_refl _) (Nat.le_refl _) (fun r T h_1 => ?_)
          obtain ⟨rfl, q2, q3, q4⟩ := h_1
          refine j_zret (pc := 91) dX12_readValue_91 rfl (by first | assumption | decide) ?_
          have h1 : ¬ (zadv X w.1.1).2.1 = 2 := fun q => h83 (hA.2.2.2.1.c3.mpr q)
          rw [ezD, if_pos h1]
          exact ⟨rfl, (k1.mo (fun c k z => zXo.p z)).tr q2, q3, q4⟩
