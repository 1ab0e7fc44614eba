theorem zid_at {O : List zOe} {V : List zSe} {t : zRW} {f e i : Nat} (hi : i < e - f) : (zid O V t f e).getD i 0 = (zBB O V t).getD (f + i) 0 := by
  unfold zid
  rw [List.getD_eq_getElem?_getD, List.getD_eq_getElem?_getD, List.getElem?_take_of_lt hi, List.getElem?_drop]
theorem zpg_page {t : zTB} {u f e z σ : Nat} {A : List Nat} (he : e ≤ (zBB (tO t) (tV t) (tH t u)).length) : zpg t u (zid (tO t) (tV t) (tH t u) f e) z σ A = if f < e then zpage t u f e z σ else (zid (tO t) (tV t) (tH t u) f e, fun i j => (tH t u).2 ((zid (tO t) (tV t) (tH t u) f e).getD i 0) j, A, A, 0, 0) := by
  have hl : (zid (tO t) (tV t) (tH t u) f e).length = e - f := zid_len he
  by_cases h : f < e
  · have h1 := gD (l := zBB (tO t) (tV t) (tH t u)) 0 (show f < _ by omega)
    have h2 := gD (l := zBB (tO t) (tV t) (tH t u)) 0 (show e - 1 < _ by omega)
    unfold zpg zpage
    rw [if_pos h]
    simp only [if_pos h, hl, if_neg (show ¬ e - f = 0 by omega)]
    rw [zid_at (show 0 < e - f by omega), zid_at (show e - f - 1 < e - f by omega), show f + (e - f - 1) = e - 1 by omega, Nat.add_zero, zlf_at h1, zlg_at h2, show e - 1 + 1 = e by omega]
  · unfold zpg
    rw [if_neg h]
    simp only [hl, if_pos (show e - f = 0 by omega)]
theorem zkl_nil (O : List zOe) (t : zRW) (x : Nat) : zkl [] (zkf O t x) = true := by
  cases hk : zkf O t x with
  | nil =>
    have := congrArg List.length hk
    simp [zkey] at this
  | cons a l => rfl
theorem zlg_nil {O : List zOe} {V : List zSe} {t : zRW} : zlg O V t [] = 0 := by
  cases hB : zBB O V t with
  | nil => rw [zlg, hB]; rfl
  | cons x B =>
    refine zTW_at (x := x) (fun j y hj => absurd hj (Nat.not_lt_zero j)) (by rw [hB]; rfl) ?_
    rw [zkl_nil]
    decide
theorem zid_in {O : List zOe} {V : List zSe} {t : zRW} {f e : Nat} : ∀ x ∈ zid O V t f e, x < 64 ∧ t.1 x = true := fun x hx => ⟨zBB_64 (List.mem_of_mem_drop (List.mem_of_mem_take hx)), zid_th hx⟩
theorem zbe_le {O : List zOe} {V : List zSe} {t : zRW} {F : List Nat} {z : Nat} {on : Bool} : zbe O V t F z on ≤ (zBB O V t).length := by
  have := zlf_le (O := O) (V := V) (t := t) (F := F)
  unfold zbe
  split
  · omega
  · exact this
theorem zid_20 {O : List zOe} {V : List zSe} {t : zRW} {F : List Nat} {z : Nat} {bk : Bool} (h : z ≤ 20) : (zid O V t (zbf O V t F z (!bk)) (zbe O V t F z (!bk))).length ≤ 20 := by
  rw [zidl]
  omega
theorem zK.ff {S T : zM} (f : zK zXf S T) : zF zMX S T := f.f (fun c k z => by unfold zXf zXkm zXk zXm at z; unfold zMX; omega)
theorem zK.qf {S T : zM} (f : zK zXq S T) : zF zMX S T := f.f (fun c k z => by unfold zXq zXkm zXk zXm at z; unfold zMX; omega)
set_option maxRecDepth 20000 in
set_option maxHeartbeats 4000000 in
theorem m_page {E : zE} {S : zM} {s : zST} {n : Nat} (h : zMO S s) (hw : zWF n s) (x : Int32) (st : Bool) : zSp E 5 0 0 mX12_page cX12_page [zR 123, zI x, zI (zbi st)] S (fun r T => r = some (zI (q_page s x st).1) ∧ zMO T (q_page s x st).2 ∧ zF zMX S T) := by
  refine zSp.of (by decide) rfl (Nat.le_of_ble_eq_true rfl) rfl ?_
  have hM := h.1
  cases ht : sT s with
  | none =>
    have hto : zgI S 123 12 = 0 := by have := h.2.2.2.1.1; rw [ht] at this; exact this
    have e : q_page s x st = zrf s 1 := by rw [q_page, ht]
    refine j_aload_n (pc := 0) dX12_page_0 rfl ?_
    refine j_aload_n (pc := 1) dX12_page_1 rfl ?_
    refine j_getIv (pc := 2) dX12_page_2 f_X12_296 (Or.inr rfl) hM.1 (hto) ?_
    refine j_if_ne (pc := 5) (tgt := 12) dX12_page_5 (by decide) (fun h5 => absurd rfl h5) (fun h5 => ?_)
    refine j_iconst (pc := 8) (v := 1) dX12_page_8 (by decide) ?_
    refine j_goto (pc := 9) (tgt := 29) dX12_page_9 (by decide) ?_
    refine j_callV (pc := 29) (t := 12) (n_rf1 hM) dX12_page_29 l_X12_256 mk_X12_isRefused mv_X12_isRefused (by decide) rfl hM.1 (by decide) rfl rfl (Nat.le_of_ble_eq_true rfl) (Nat.le_refl _) (Nat.le_refl _) (fun r T h_1 => ?_)
    obtain ⟨rfl, rfl⟩ := h_1
    refine j_if_eq (pc := 32) (tgt := 37) dX12_page_32 (by decide) (fun h32 => absurd h32 (by decide)) (fun h32 => ?_)
    refine j_iconst (pc := 35) (v := (-1)) dX12_page_35 (by decide) ?_
    refine j_iret (pc := 36) dX12_page_36 rfl ?_
    exact m_ref h (n := 1) (by decide) e
  | some t =>
    have hto : zgI S 123 12 = 1 := by have := h.2.2.2.1.1; rw [ht] at this; exact this
    have hv := hw.v ht
    refine j_aload_n (pc := 0) dX12_page_0 rfl ?_
    refine j_aload_n (pc := 1) dX12_page_1 rfl ?_
    refine j_getIv (pc := 2) dX12_page_2 f_X12_296 (Or.inr rfl) hM.1 (hto) ?_
    refine j_if_ne (pc := 5) (tgt := 12) dX12_page_5 (by decide) (fun h5 => ?_) (fun h5 => absurd h5 (by decide))
    refine j_iload_n (pc := 12) dX12_page_12 rfl ?_
    refine j_i2l (pc := 13) dX12_page_13 ?_
    refine j_lconst (pc := 14) (v := 1) dX12_page_14 (by decide) ?_
    refine j_ldcL (pc := 15) dX12_page_15 k_X12_412 ?_
    refine j_callS (pc := 18) (n_in _ _ _) dX12_page_18 l_X12_159 mk_X12_in ms_X12_in (by decide) rfl rfl (Nat.le_of_ble_eq_true rfl) (Nat.le_refl _) (Nat.le_refl _) (fun r T h_1 => ?_)
    obtain ⟨rfl, rfl⟩ := h_1
    rw [zin_sz]
    refine j_if_eq (pc := 21) (tgt := 28) dX12_page_21 (by decide) (fun h21 => ?_) (fun h21 => ?_)
    · refine j_iconst (pc := 28) (v := 2) dX12_page_28 (by decide) ?_
      refine j_callV (pc := 29) (t := 12) (n_rf2 hM) dX12_page_29 l_X12_256 mk_X12_isRefused mv_X12_isRefused (by decide) rfl hM.1 (by decide) rfl rfl (Nat.le_of_ble_eq_true rfl) (Nat.le_refl _) (Nat.le_refl _) (fun r T h_1 => ?_)
      obtain ⟨rfl, rfl⟩ := h_1
      refine j_if_eq (pc := 32) (tgt := 37) dX12_page_32 (by decide) (fun h32 => absurd h32 (by decide)) (fun h32 => ?_)
      refine j_iconst (pc := 35) (v := (-1)) dX12_page_35 (by decide) ?_
      refine j_iret (pc := 36) dX12_page_36 rfl ?_
      exact m_ref h (n := 2) (by decide) (by simp only [q_page, ht]; rw [if_neg (by rw [zbi_eq0.mp h21]; decide)])
    · refine j_iconst (pc := 24) (v := 0) dX12_page_24 (by decide) ?_
      refine j_goto (pc := 25) (tgt := 29) dX12_page_25 (by decide) ?_
      refine j_callV (pc := 29) (t := 12) (n_ok hM) dX12_page_29 l_X12_256 mk_X12_isRefused mv_X12_isRefused (by decide) rfl hM.1 (by decide) rfl rfl (Nat.le_of_ble_eq_true rfl) (Nat.le_refl _) (Nat.le_refl _) (fun r T h_1 => ?_)
      obtain ⟨rfl, rfl⟩ := h_1
      refine j_if_eq (pc := 32) (tgt := 37) dX12_page_32 (by decide) (fun h32 => ?_) (fun h32 => absurd rfl h32)
      obtain ⟨k, hk1, hk2, rfl⟩ := zsz_t (zbi_ne0 h21)
      refine j_aload_n (pc := 37) dX12_page_37 rfl ?_
      refine j_callV (pc := 38) (t := 12) (n_marksNothing hM) dX12_page_38 l_X12_414 mk_X12_marksNothing mv_X12_marksNothing (by decide) rfl hM.1 (by decide) rfl rfl (Nat.le_of_ble_eq_true rfl) (Nat.le_refl _) (Nat.le_refl _) (fun r T h_1 => ?_)
      obtain ⟨rfl, rfl⟩ := h_1
      have hS2 : zMO (zwI (zwI (zNw S 0) 123 38 0) 123 54 0) (zno s 0) := ((h.no (n := 0) (by decide)).scr (zK.wI (X := zXs) (by unfold zXs; omega)) (fun c k z => z)).scr (zK.wI (X := zXs) (by unfold zXs; omega)) (fun c k z => z)
      refine j_aload_n (pc := 41) dX12_page_41 rfl ?_
      refine j_aload_n (pc := 42) dX12_page_42 rfl ?_
      refine j_getIv (pc := 43) dX12_page_43 f_X12_277 (Or.inl rfl) hM.1 ((h.2.2.2.2.1 t ht).1.2.2.2.1.1) ?_
      refine j_iload_n (pc := 46) dX12_page_46 rfl ?_
      refine j_iconst (pc := 47) (v := 0) dX12_page_47 (by decide) ?_
      refine j_callV (pc := 48) (t := 12) (n_finds (F := []) (z := k) hS2 (zWF.no hw) ht (Nat.le_refl _) (Nat.le_add_right _ _) ⟨rfl, fun i hi => absurd hi (Nat.not_lt_zero i)⟩ (Nat.zero_le _) (fun b hb => absurd hb List.not_mem_nil) hk1 hk2 false) dX12_page_48 l_X12_417 mk_X12_finds mv_X12_finds (by decide) rfl hM.1 (by decide) rfl rfl (Nat.le_of_ble_eq_true rfl) (Nat.le_refl _) (Nat.le_refl _) (fun r T1 h_1 => ?_)
      obtain ⟨rfl, k1, hF⟩ := h_1
      have nM := k1.ms (by exact hM)
      refine j_aload_n (pc := 51) dX12_page_51 rfl ?_
      refine j_aload_n (pc := 52) dX12_page_52 rfl ?_
      refine j_getIv (pc := 53) dX12_page_53 f_X12_277 (Or.inl rfl) nM.1 ((k1.2.2.2.1 _ _ (by unfold zXf zXkm zXk zXm; omega)).trans (h.2.2.2.2.1 t ht).1.2.2.2.1.1) ?_
      refine j_iload_n (pc := 56) dX12_page_56 rfl ?_
      refine j_iload_n (pc := 57) dX12_page_57 rfl ?_
      refine j_callV (pc := 58) (t := 12) (n_pages (A := []) (z := k) (hS2.scr k1 (fun c k z => zXf.s z)) (zWF.no hw) ht (Nat.le_refl _) (Nat.le_add_right _ _) hF zid_in (zid_20 hk2) ⟨(k1.2.2.2.1 _ _ (by unfold zXf zXkm zXk zXm; omega)).trans rfl, fun i hi => absurd hi (Nat.not_lt_zero i)⟩ ⟨Nat.zero_le _, fun b hb => absurd hb List.not_mem_nil⟩ hk2 st) dX12_page_58 l_X12_421 mk_X12_pages mv_X12_pages (by decide) rfl nM.1 (by decide) rfl rfl (Nat.le_of_ble_eq_true rfl) (Nat.le_refl _) (Nat.le_refl _) (fun r T2 h_1 => ?_)
      obtain ⟨rfl, k2, hmp⟩ := h_1
      refine j_iret (pc := 61) dX12_page_61 rfl ?_
      have ef : zbf (tO t) (tV t) (tW t) [] k (!false) = 0 := zlg_nil
      have ee : zbe (tO t) (tV t) (tW t) [] k (!false) = min k (zBB (tO t) (tV t) (tW t)).length := by
        show min (zlg (tO t) (tV t) (tW t) [] + k) _ = _
        rw [zlg_nil, Nat.zero_add]
      have ez : zpg t (tv t) (zid (tO t) (tV t) (tW t) (zbf (tO t) (tV t) (tW t) [] k (!false)) (zbe (tO t) (tV t) (tW t) [] k (!false))) k (if st then tv t + 1 else 0) [] = zpage t (tv t) 0 (min k (zBB (tO t) (tV t) (tW t)).length) k (if st then tv t + 1 else 0) := by
        rw [zpg_page (u := tv t) zbe_le, ef, ee]
        by_cases q : 0 < min k (zBB (tO t) (tV t) (tW t)).length
        · rw [if_pos q]
        · rw [if_neg q]
          unfold zpage
          simp only [if_neg q]
      have eq : q_page s (nI k) st = zshow s (zpage t (tv t) 0 (min k (zBB (tO t) (tV t) (tW t)).length) k (if st then tv t + 1 else 0)) := by
        simp only [q_page, ht]
        rw [if_pos (zbi_ne0 h21), zn, nI_clamp (by omega)]
      have hfin := (hS2.scr k1 (fun c k z => zXf.s z)).pg (k2.mo (fun _ _ z => zXq.g z)) (by rw [sk_s (show sT (zno s 0) = some t from ht)]; exact hmp)
      rw [eq, ← ez]
      exact ⟨rfl, hfin, (((zNw.f.tr (zF.wI (by decide))).tr (zF.wI (by decide))).tr k1.ff).tr k2.qf⟩
