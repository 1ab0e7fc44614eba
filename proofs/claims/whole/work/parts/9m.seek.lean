/-! no key is the part that it begins with -/
theorem zlts_ne {dn : Bool} {a : Nat} (h : ∀ j, j < 6 → a / 2 ^ (8 * j) = 0 ∨ (97 ≤ a / 2 ^ (8 * j) % 256 ∧ a / 2 ^ (8 * j) % 256 ≤ 122)) : ∀ k, k ≤ 6 → ∀ b ∈ zlts dn a k, b ≠ if dn then 255 else 0
  | 0, _, b, hb => absurd hb List.not_mem_nil
  | k + 1, hk, b, hb => by
    rw [zlts] at hb
    rcases List.mem_append.mp hb with g | g
    · split at g
      · exact absurd g List.not_mem_nil
      · rename_i h0
        have := (h k (by omega)).resolve_left h0
        rw [List.mem_singleton.mp g]
        cases dn
        · simp only [Bool.false_eq_true, if_false]
          omega
        · simp only [if_true]
          omega
    · exact zlts_ne h k (by omega) b g
theorem zend_ne {A B R : List Nat} {x : Nat} (hR : R ≠ []) (hB : ∀ b ∈ B, b ≠ x) : (A ++ [x]) ++ R ≠ B ++ [x] := by
  intro e
  have hl := congrArg List.length e
  simp only [List.length_append, List.length_cons, List.length_nil] at hl
  have hR2 : R.length ≠ 0 := fun q => hR (List.length_eq_zero_iff.mp q)
  have hi : A.length < B.length := by omega
  have e1 : ((A ++ [x]) ++ R)[A.length]? = some x := by
    rw [List.getElem?_append_left (by simp), List.getElem?_append_right (Nat.le_refl _), Nat.sub_self]
    rfl
  rw [e, List.getElem?_append_left hi] at e1
  exact hB x (List.mem_of_getElem? e1) rfl
theorem zpt_pf {tx dn fs : Bool} {v0 v : Int64} {R : List Nat} (hR : R ≠ []) (hv : zch tx v = true) : zpt tx dn fs v0 ++ R ≠ zpt tx dn fs v := by
  intro e
  have hR2 : R.length ≠ 0 := fun q => hR (List.length_eq_zero_iff.mp q)
  by_cases m0 : v0 = zMiss
  · by_cases m : v = zMiss
    · rw [m0, m] at e
      have := congrArg List.length e
      rw [List.length_append] at this
      omega
    · unfold zpt at e
      rw [if_pos m0, if_neg m, List.singleton_append] at e
      have := (List.cons.inj e).1
      cases fs <;> simp at this
  · by_cases m : v = zMiss
    · unfold zpt at e
      rw [if_neg m0, if_pos m, List.cons_append] at e
      have := (List.cons.inj e).1
      cases fs <;> simp at this
    · cases tx with
      | false =>
        unfold zpt at e
        rw [if_neg m0, if_neg m] at e
        have := congrArg List.length e
        simp at this
        exact hR this
      | true =>
        have how : zow v = true := by
          rw [zch, if_neg m] at hv
          exact hv
        obtain ⟨a, -, ha48, rfl⟩ := zow_lN how
        rw [zpt_w m ha48] at e
        unfold zpt at e
        rw [if_neg m0, List.cons_append] at e
        have e2 := (List.cons.inj e).2
        rw [if_pos rfl] at e2
        have et : zb8 (if dn then 255 else 0) = if dn then 255 else 0 := by cases dn <;> rfl
        rw [et] at e2
        exact zend_ne hR (zlts_ne (fun j hj => zow_at ha48 how hj) 6 (Nat.le_refl _)) e2
theorem zlg_part {O' : List zOe} {e : zOe} {V : List zSe} {t : zRW} {v : Int64} (hv : zch e.2.1 v = true) : zlg (e :: O') V t (zpt e.2.1 e.2.2.1 e.2.2.2 v) = zlf (e :: O') V t (zpt e.2.1 e.2.2.1 e.2.2.2 v) := by
  refine congrArg List.length (tw_cong (fun x _ => ?_))
  have hne : zkf (e :: O') t x ≠ zpt e.2.1 e.2.2.1 e.2.2.2 v := by
    show (e :: O').flatMap (fun e => zpt e.2.1 e.2.2.1 e.2.2.2 (t.2 x e.1)) ++ [x / 256 % 256, x % 256] ≠ _
    rw [List.flatMap_cons, List.append_assoc]
    exact zpt_pf (by simp) hv
  rcases zkl_tot (zkf (e :: O') t x) (zpt e.2.1 e.2.2.1 e.2.2.2 v) with g | g | g
  · exact absurd g hne
  · rw [g, zkl_asym _ _ g]
    rfl
  · rw [g, zkl_asym _ _ g]
    rfl
set_option maxRecDepth 20000 in
set_option maxHeartbeats 4000000 in
theorem m_seek {E : zE} {S : zM} {s : zST} {n : Nat} (h : zMO S s) (hw : zWF n s) (x : Int32) (v : Int64) : zSp E 5 0 0 mX12_seek cX12_seek [zR 123, zI x, zL v] S (fun r T => r = some (zI (q_seek s x v).1) ∧ zMO T (q_seek s x v).2 ∧ zF zMX S T) := by
  refine zSp.of (by decide) rfl (Nat.le_of_ble_eq_true rfl) rfl ?_
  have hM := h.1
  cases ht : sT s with
  | none =>
    have hto : zgI S 123 12 = 0 := by have := h.2.2.2.1.1; rw [ht] at this; exact this
    have e : q_seek s x v = zrf s 1 := by rw [q_seek, ht]
    refine j_aload_n (pc := 0) dX12_seek_0 rfl ?_
    refine j_aload_n (pc := 1) dX12_seek_1 rfl ?_
    refine j_getIv (pc := 2) dX12_seek_2 f_X12_296 (Or.inr rfl) hM.1 (hto) ?_
    refine j_if_ne (pc := 5) (tgt := 12) dX12_seek_5 (by decide) (fun h5 => absurd rfl h5) (fun h5 => ?_)
    refine j_iconst (pc := 8) (v := 1) dX12_seek_8 (by decide) ?_
    refine j_goto (pc := 9) (tgt := 44) dX12_seek_9 (by decide) ?_
    refine j_callV (pc := 44) (t := 12) (n_rf1 hM) dX12_seek_44 l_X12_256 mk_X12_isRefused mv_X12_isRefused (by decide) rfl hM.1 (by decide) rfl rfl (Nat.le_of_ble_eq_true rfl) (Nat.le_refl _) (Nat.le_refl _) (fun r T h_1 => ?_)
    obtain ⟨rfl, rfl⟩ := h_1
    refine j_if_eq (pc := 47) (tgt := 52) dX12_seek_47 (by decide) (fun h47 => absurd h47 (by decide)) (fun h47 => ?_)
    refine j_iconst (pc := 50) (v := (-1)) dX12_seek_50 (by decide) ?_
    refine j_iret (pc := 51) dX12_seek_51 rfl ?_
    exact m_ref h (n := 1) (by decide) e
  | some t =>
    have hto : zgI S 123 12 = 1 := by have := h.2.2.2.1.1; rw [ht] at this; exact this
    have hv := hw.v ht
    obtain ⟨e, O', hOe⟩ : ∃ e O', tO t = e :: O' := by
      cases hO : tO t with
      | nil =>
        have := (hw.t ht).1.1.1
        rw [hO] at this
        exact absurd this (by decide)
      | cons e O' => exact ⟨e, O', rfl⟩
    have he : (tO t)[0]? = some e := by rw [hOe]; rfl
    have hKe : (tK t)[e.1]? = some e.2.1 := (hw.t ht).1.2.2.1 e (by rw [hOe]; exact List.mem_cons_self)
    have ech : (if v = zMiss then true else zch e.2.1 v) = zch e.2.1 v := by
      unfold zch
      split <;> rfl
    have ec0 : zch0 t v = zch e.2.1 v := by rw [zch0, hOe]
    have eek : zek t v = zpt e.2.1 e.2.2.1 e.2.2.2 v := by rw [zek, hOe]
    refine j_aload_n (pc := 0) dX12_seek_0 rfl ?_
    refine j_aload_n (pc := 1) dX12_seek_1 rfl ?_
    refine j_getIv (pc := 2) dX12_seek_2 f_X12_296 (Or.inr rfl) hM.1 (hto) ?_
    refine j_if_ne (pc := 5) (tgt := 12) dX12_seek_5 (by decide) (fun h5 => ?_) (fun h5 => absurd h5 (by decide))
    refine j_iload_n (pc := 12) dX12_seek_12 rfl ?_
    refine j_i2l (pc := 13) dX12_seek_13 ?_
    refine j_lconst (pc := 14) (v := 1) dX12_seek_14 (by decide) ?_
    refine j_ldcL (pc := 15) dX12_seek_15 k_X12_412 ?_
    refine j_callS (pc := 18) (n_in _ _ _) dX12_seek_18 l_X12_159 mk_X12_in ms_X12_in (by decide) rfl rfl (Nat.le_of_ble_eq_true rfl) (Nat.le_refl _) (Nat.le_refl _) (fun r T h_1 => ?_)
    obtain ⟨rfl, rfl⟩ := h_1
    rw [zin_sz]
    refine j_if_eq (pc := 21) (tgt := 43) dX12_seek_21 (by decide) (fun h21 => ?_) (fun h21 => ?_)
    · refine j_iconst (pc := 43) (v := 2) dX12_seek_43 (by decide) ?_
      refine j_callV (pc := 44) (t := 12) (n_rf2 hM) dX12_seek_44 l_X12_256 mk_X12_isRefused mv_X12_isRefused (by decide) rfl hM.1 (by decide) rfl rfl (Nat.le_of_ble_eq_true rfl) (Nat.le_refl _) (Nat.le_refl _) (fun r T h_1 => ?_)
      obtain ⟨rfl, rfl⟩ := h_1
      refine j_if_eq (pc := 47) (tgt := 52) dX12_seek_47 (by decide) (fun h47 => absurd h47 (by decide)) (fun h47 => ?_)
      refine j_iconst (pc := 50) (v := (-1)) dX12_seek_50 (by decide) ?_
      refine j_iret (pc := 51) dX12_seek_51 rfl ?_
      exact m_ref h (n := 2) (by decide) (by simp only [q_seek, ht]; rw [if_neg (fun q => absurd q.1 (by rw [zbi_eq0.mp h21]; decide))])
    · refine j_aload_n (pc := 24) dX12_seek_24 rfl ?_
      refine j_aload_n (pc := 25) dX12_seek_25 rfl ?_
      refine j_getPv (pc := 26) dX12_seek_26 f_X12_23 (Or.inr ⟨_, rfl⟩) hM.1 (mp_order hM) ?_
      refine j_iconst (pc := 29) (v := 0) dX12_seek_29 (by decide) ?_
      refine j_ialdn (pc := 30) dX12_seek_30 (mk_order hM) (show 0 < 4 by decide) (Nat.le_of_ble_eq_true rfl) (((h.2.2.2.2.1 t ht).1.2.1.2 0 e he).1) ?_
      refine j_lload_n (pc := 31) dX12_seek_31 rfl ?_
      refine j_iconst (pc := 32) (v := 1) dX12_seek_32 (by decide) ?_
      refine j_callV (pc := 33) (t := 12) (n_canHave h ht hKe hv.2.2.1 v true) dX12_seek_33 l_X12_378 mk_X12_canHave mv_X12_canHave (by decide) rfl hM.1 (by decide) rfl rfl (Nat.le_of_ble_eq_true rfl) (Nat.le_refl _) (Nat.le_refl _) (fun r T h_1 => ?_)
      obtain ⟨rfl, rfl⟩ := h_1
      rw [ech]
      refine j_if_eq (pc := 36) (tgt := 43) dX12_seek_36 (by decide) (fun h36 => ?_) (fun h36 => ?_)
      · refine j_iconst (pc := 43) (v := 2) dX12_seek_43 (by decide) ?_
        refine j_callV (pc := 44) (t := 12) (n_rf2 hM) dX12_seek_44 l_X12_256 mk_X12_isRefused mv_X12_isRefused (by decide) rfl hM.1 (by decide) rfl rfl (Nat.le_of_ble_eq_true rfl) (Nat.le_refl _) (Nat.le_refl _) (fun r T h_1 => ?_)
        obtain ⟨rfl, rfl⟩ := h_1
        refine j_if_eq (pc := 47) (tgt := 52) dX12_seek_47 (by decide) (fun h47 => absurd h47 (by decide)) (fun h47 => ?_)
        refine j_iconst (pc := 50) (v := (-1)) dX12_seek_50 (by decide) ?_
        refine j_iret (pc := 51) dX12_seek_51 rfl ?_
        exact m_ref h (n := 2) (by decide) (by simp only [q_seek, ht]; rw [if_neg (fun q => absurd q.2 (by rw [ec0, zbi_eq0.mp h36]; decide))])
      · refine j_iconst (pc := 39) (v := 0) dX12_seek_39 (by decide) ?_
        refine j_goto (pc := 40) (tgt := 44) dX12_seek_40 (by decide) ?_
        refine j_callV (pc := 44) (t := 12) (n_ok hM) dX12_seek_44 l_X12_256 mk_X12_isRefused mv_X12_isRefused (by decide) rfl hM.1 (by decide) rfl rfl (Nat.le_of_ble_eq_true rfl) (Nat.le_refl _) (Nat.le_refl _) (fun r T h_1 => ?_)
        obtain ⟨rfl, rfl⟩ := h_1
        refine j_if_eq (pc := 47) (tgt := 52) dX12_seek_47 (by decide) (fun h47 => ?_) (fun h47 => absurd rfl h47)
        obtain ⟨k, hk1, hk2, rfl⟩ := zsz_t (zbi_ne0 h21)
        refine j_aload_n (pc := 52) dX12_seek_52 rfl ?_
        refine j_iconst (pc := 53) (v := 0) dX12_seek_53 (by decide) ?_
        refine j_putI (pc := 54) dX12_seek_54 f_X12_409 rfl hM.1 rfl ?_
        refine j_aload_n (pc := 57) dX12_seek_57 rfl ?_
        refine j_iconst (pc := 58) (v := 0) dX12_seek_58 (by decide) ?_
        refine j_putI (pc := 59) dX12_seek_59 f_X12_334 rfl hM.1 rfl ?_
        have hS2 : zMO (zwI (zwI (zNw S 0) 123 54 0) 123 36 0) (zno s 0) := ((h.no (n := 0) (by decide)).scr (zK.wI (X := zXs) (by unfold zXs; omega)) (fun c k z => z)).scr (zK.wI (X := zXs) (by unfold zXs; omega)) (fun c k z => z)
        refine j_aload_n (pc := 62) dX12_seek_62 rfl ?_
        refine j_iconst (pc := 63) (v := 0) dX12_seek_63 (by decide) ?_
        refine j_lload_n (pc := 64) dX12_seek_64 rfl ?_
        refine j_callV (pc := 65) (t := 12) (n_laysPart (i := 0) (L := []) hS2 ht he hv.2.2.2.1 hv.2.2.1 hKe v (zbi_ne0 h36) ⟨rfl, fun i hi => absurd hi (Nat.not_lt_zero i)⟩ (by decide)) dX12_seek_65 l_X12_344 mk_X12_laysPart mv_X12_laysPart (by decide) rfl hM.1 (by decide) rfl rfl (Nat.le_of_ble_eq_true rfl) (Nat.le_refl _) (Nat.le_refl _) (fun r T1 h_1 => ?_)
        obtain ⟨rfl, k1, l1⟩ := h_1
        rw [List.nil_append] at l1
        have n1 := k1.ms (by exact hM)
        refine j_aload_n (pc := 68) dX12_seek_68 rfl ?_
        refine j_callV (pc := 69) (t := 12) (n_marks n1 l1 (Nat.le_trans (zpt_len _ _ _ _) (by decide))) dX12_seek_69 l_X12_355 mk_X12_marks mv_X12_marks (by decide) rfl n1.1 (by decide) rfl rfl (Nat.le_of_ble_eq_true rfl) (Nat.le_refl _) (Nat.le_refl _) (fun r T2 h_1 => ?_)
        obtain ⟨rfl, k2, l2⟩ := h_1
        have z2 := (hS2.scr k1 (fun c k z => zXk.s z)).scr k2 (fun c k z => zXm.s z)
        refine j_aload_n (pc := 72) dX12_seek_72 rfl ?_
        refine j_aload_n (pc := 73) dX12_seek_73 rfl ?_
        refine j_getIv (pc := 74) dX12_seek_74 f_X12_277 (Or.inl rfl) z2.1.1 ((z2.2.2.2.2.1 t ht).1.2.2.2.1.1) ?_
        refine j_iload_n (pc := 77) dX12_seek_77 rfl ?_
        refine j_iconst (pc := 78) (v := 0) dX12_seek_78 (by decide) ?_
        refine j_callV (pc := 79) (t := 12) (n_finds (F := (zpt e.2.1 e.2.2.1 e.2.2.2 v)) (z := k) z2 (zWF.no hw) ht (Nat.le_refl _) (Nat.le_add_right _ _) l2 (Nat.le_trans (zpt_len _ _ _ _) (by decide)) zpt_b hk1 hk2 false) dX12_seek_79 l_X12_417 mk_X12_finds mv_X12_finds (by decide) rfl z2.1.1 (by decide) rfl rfl (Nat.le_of_ble_eq_true rfl) (Nat.le_refl _) (Nat.le_refl _) (fun r T3 h_1 => ?_)
        obtain ⟨rfl, k3, hF⟩ := h_1
        have z3 := z2.scr k3 (fun c k z => zXf.s z)
        refine j_aload_n (pc := 82) dX12_seek_82 rfl ?_
        refine j_aload_n (pc := 83) dX12_seek_83 rfl ?_
        refine j_getIv (pc := 84) dX12_seek_84 f_X12_277 (Or.inl rfl) z3.1.1 ((z3.2.2.2.2.1 t ht).1.2.2.2.1.1) ?_
        refine j_iload_n (pc := 87) dX12_seek_87 rfl ?_
        refine j_iconst (pc := 88) (v := 0) dX12_seek_88 (by decide) ?_
        refine j_callV (pc := 89) (t := 12) (n_pages (A := []) (z := k) z3 (zWF.no hw) ht (Nat.le_refl _) (Nat.le_add_right _ _) hF zid_in (zid_20 hk2) ⟨(k3.2.2.2.1 _ _ (by unfold zXf zXkm zXk zXm; omega)).trans ((k2.2.2.2.1 _ _ (by unfold zXm; omega)).trans ((k1.2.2.2.1 _ _ (by unfold zXk; omega)).trans rfl)), fun i hi => absurd hi (Nat.not_lt_zero i)⟩ ⟨Nat.zero_le _, fun b hb => absurd hb List.not_mem_nil⟩ hk2 false) dX12_seek_89 l_X12_421 mk_X12_pages mv_X12_pages (by decide) rfl z3.1.1 (by decide) rfl rfl (Nat.le_of_ble_eq_true rfl) (Nat.le_refl _) (Nat.le_refl _) (fun r T4 h_1 => ?_)
        obtain ⟨rfl, k4, hmp⟩ := h_1
        refine j_iret (pc := 92) dX12_seek_92 rfl ?_
        have elg : zlg (tO t) (tV t) (tW t) (zpt e.2.1 e.2.2.1 e.2.2.2 v) = zlf (tO t) (tV t) (tW t) (zpt e.2.1 e.2.2.1 e.2.2.2 v) := by
          rw [hOe]
          exact zlg_part (zbi_ne0 h36)
        have ef : zbf (tO t) (tV t) (tW t) (zpt e.2.1 e.2.2.1 e.2.2.2 v) k (!false) = zlf (tO t) (tV t) (tW t) (zpt e.2.1 e.2.2.1 e.2.2.2 v) := elg
        have ee : zbe (tO t) (tV t) (tW t) (zpt e.2.1 e.2.2.1 e.2.2.2 v) k (!false) = min (zlf (tO t) (tV t) (tW t) (zpt e.2.1 e.2.2.1 e.2.2.2 v) + k) (zBB (tO t) (tV t) (tW t)).length := by
          show min (zlg (tO t) (tV t) (tW t) (zpt e.2.1 e.2.2.1 e.2.2.2 v) + k) _ = _
          rw [elg]
        have ez : zpg t (tv t) (zid (tO t) (tV t) (tW t) (zbf (tO t) (tV t) (tW t) (zpt e.2.1 e.2.2.1 e.2.2.2 v) k (!false)) (zbe (tO t) (tV t) (tW t) (zpt e.2.1 e.2.2.1 e.2.2.2 v) k (!false))) k (if false = true then tv t + 1 else 0) [] = zpage t (tv t) (zlf (tO t) (tV t) (tW t) (zpt e.2.1 e.2.2.1 e.2.2.2 v)) (min (zlf (tO t) (tV t) (tW t) (zpt e.2.1 e.2.2.1 e.2.2.2 v) + k) (zBB (tO t) (tV t) (tW t)).length) k 0 := by
          rw [zpg_page (u := tv t) zbe_le, ef, ee, if_neg Bool.false_ne_true]
          by_cases q : zlf (tO t) (tV t) (tW t) (zpt e.2.1 e.2.2.1 e.2.2.2 v) < min (zlf (tO t) (tV t) (tW t) (zpt e.2.1 e.2.2.1 e.2.2.2 v) + k) (zBB (tO t) (tV t) (tW t)).length
          · rw [if_pos q]
          · rw [if_neg q]
            unfold zpage
            simp only [if_neg q]
        have eq : q_seek s (nI k) v = zshow s (zpage t (tv t) (zlf (tO t) (tV t) (tW t) (zpt e.2.1 e.2.2.1 e.2.2.2 v)) (min (zlf (tO t) (tV t) (tW t) (zpt e.2.1 e.2.2.1 e.2.2.2 v) + k) (zBB (tO t) (tV t) (tW t)).length) k 0) := by
          simp only [q_seek, ht]
          rw [if_pos ⟨zbi_ne0 h21, ec0.trans (zbi_ne0 h36)⟩, zn, nI_clamp (by omega), eek]
        have hfin := z3.pg (k4.mo (fun _ _ z => zXq.g z)) (by rw [sk_s (show sT (zno s 0) = some t from ht)]; exact hmp)
        rw [eq, ← ez]
        exact ⟨rfl, hfin, (((((zNw.f.tr (zF.wI (by decide))).tr (zF.wI (by decide))).tr k1.ks.kf).tr k2.ms'.kf).tr k3.ff).tr k4.qf⟩
