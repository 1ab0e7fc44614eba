theorem zwd_b {t : Int32} {v : Int64} : ∀ k, ∀ b ∈ zwd t v k, b < 256
  | 0, b, h => absurd h List.not_mem_nil
  | k + 1, b, h => by
    rw [zwd] at h
    rcases List.mem_append.mp h with g | g
    · split at g
      · exact absurd g List.not_mem_nil
      · rw [List.mem_singleton.mp g]
        exact zb8_lt _
    · exact zwd_b k b g
theorem zpt_b {tx dn fs : Bool} {v : Int64} : ∀ b ∈ zpt tx dn fs v, b < 256 := by
  intro b h
  unfold zpt at h
  split at h
  · rw [List.mem_singleton.mp h]
    split <;> decide
  · rcases List.mem_cons.mp h with e | e
    · rw [e]
      decide
    · split at e
      · rcases List.mem_append.mp e with g | g
        · exact zwd_b 6 b g
        · rw [List.mem_singleton.mp g]
          exact zb8_lt _
      · simp only [List.mem_cons, List.not_mem_nil, or_false] at e
        rcases e with e | e <;> rw [e] <;> exact zb8_lt _
theorem zkf_b {O : List zOe} {t : zRW} {id : Nat} : ∀ b ∈ zkf O t id, b < 256 := by
  intro b h
  rcases List.mem_append.mp (show b ∈ O.flatMap _ ++ [id / 256 % 256, id % 256] from h) with g | g
  · obtain ⟨e, -, he⟩ := List.mem_flatMap.mp g
    exact zpt_b b he
  · simp only [List.mem_cons, List.not_mem_nil, or_false] at g
    rcases g with e | e <;> rw [e] <;> omega
theorem zkf_len {O : List zOe} {t : zRW} {id : Nat} (h : O.length ≤ 4) : (zkf O t id).length ≤ 34 := by
  show (zkp O (t.2 id) ++ [id / 256 % 256, id % 256]).length ≤ 34
  have := zkp_len (t.2 id) O
  rw [List.length_append]
  simp only [List.length_cons, List.length_nil]
  omega
theorem zins_ct {kf : Nat → List Nat} {A : List Nat} {id : Nat} (p : Nat → Bool) : (zins kf id A).countP p = A.countP p + if p id then 1 else 0 := by
  unfold zins
  rw [List.countP_append, List.countP_cons]
  have : A.countP p = (A.take (zlow kf A (kf id))).countP p + (A.drop (zlow kf A (kf id))).countP p := by rw [← List.countP_append, List.take_append_drop]
  omega
theorem zsr_ct {kf : Nat → List Nat} {th : Nat → Bool} (p : Nat → Bool) : ∀ n, (zsr kf th n).countP p = fb_ct (fun o => th o && p o) n
  | 0 => rfl
  | n + 1 => by
    rw [zsr, fb_ct_succ, ← zsr_ct p n]
    by_cases h : th n = true
    · rw [if_pos h, zins_ct, h, Bool.true_and]
    · rw [if_neg h, bf h]
      rfl
/-- how many come ahead of a row -/
def zah (O : List zOe) (t : zRW) (id n : Nat) : Nat := fb_ct (fun o => t.1 o && zkl (zkf O t o) (zkf O t id)) n
theorem zah_at {O : List zOe} {t : zRW} {id : Nat} (h : id < 64) (hth : t.1 id = true) : (zsr (zkf O t) t.1 64)[zah O t id 64]? = some id ∧ zpo (zsr (zkf O t) t.1 64) id = nI (zah O t id 64) := by
  obtain ⟨i, h1, h2, h3⟩ := zpo_in (zsr_mem.mpr ⟨h, hth⟩ : id ∈ zsr (zkf O t) t.1 64)
  have hso : zSo (zkf O t) (zsr (zkf O t) t.1 64) := zsr_so (fun x y hx hy e => zkey_inj hx hy e) (Nat.le_refl _)
  have hi := (List.getElem?_eq_some_iff.mp h1).1
  have hl : zlow (zkf O t) (zsr (zkf O t) t.1 64) (zkf O t id) = i := by
    refine zlow_of (Nat.le_of_lt hi) (fun j x hj hlt => ?_) (fun j x hj hge => ?_)
    · have hj2 := (List.getElem?_eq_some_iff.mp hj)
      have hi2 := (List.getElem?_eq_some_iff.mp h1)
      have := List.pairwise_iff_getElem.mp hso j i hj2.1 hi2.1 hlt
      rw [hj2.2, hi2.2] at this
      exact this
    · by_cases e : j = i
      · subst e
        rw [h1] at hj
        cases hj
        exact zkl_irr _
      · have hj2 := (List.getElem?_eq_some_iff.mp hj)
        have hi2 := (List.getElem?_eq_some_iff.mp h1)
        have := List.pairwise_iff_getElem.mp hso i j hi2.1 hj2.1 (by omega)
        rw [hj2.2, hi2.2] at this
        exact zkl_asym _ _ this
  have e : zah O t id 64 = i := by
    rw [zah, ← zsr_ct (fun o => zkl (zkf O t o) (zkf O t id)) 64]
    exact hl
  rw [e]
  exact ⟨h1, h2⟩
abbrev zXkm (c k : Nat) : Prop := zXk c k ∨ zXm c k
theorem zXkm.s {c k : Nat} (h : zXkm c k) : zXs c k := h.elim zXk.s zXm.s
theorem zK.kf {S T : zM} (f : zK zXkm S T) : zF zMX S T := f.f (fun c k z => by unfold zXkm zXk zXm at z; unfold zMX; omega)
theorem zK.ks {S T : zM} (f : zK zXk S T) : zK zXkm S T := f.mo (fun _ _ z => Or.inl z)
theorem zK.ms' {S T : zM} (f : zK zXm S T) : zK zXkm S T := f.mo (fun _ _ z => Or.inr z)
set_option maxRecDepth 20000 in
set_option maxHeartbeats 4000000 in
theorem n_aheadOf {E : zE} {S : zM} {s : zST} {t : zTB} {n id : Nat} (h : zMO S s) (hw : zWF n s) (ht : sT s = some t) (hid : id < 64) (hth : (tW t).1 id = true) : zSp E 3 0 0 mX12_aheadOf cX12_aheadOf [zR 123, zI (nI id)] S (fun r T => zK zXkm S T ∧ r = some (zI (nI (zah (tO t) (tW t) id 64)))) := by
  refine zSp.of (by decide) rfl (Nat.le_of_ble_eq_true rfl) rfl ?_
  have hM := h.1
  have hv := hw.v ht
  have lp : ∀ (m o : Nat) (T : zM), o + m = 64 → zK zXkm S T → mM T (zkf (tO t) (tW t) id) → zJ E 3 0 0 mX12_aheadOf cX12_aheadOf 17 [some (zR 123), some (zI (nI id)), some (zI (nI (zah (tO t) (tW t) id o))), some (zI (nI o))] [] T (fun r T => zK zXkm S T ∧ r = some (zI (nI (zah (tO t) (tW t) id 64)))) := by
    intro m
    induction m with
    | zero =>
      intro o T ho hk hm
      have eo : o = 64 := by omega
      subst eo
      refine j_iload_n (pc := 17) dX12_aheadOf_17 rfl ?_
      refine j_bipush (pc := 18) (v := 64) dX12_aheadOf_18 (by decide) ?_
      refine j_icmp_ge (pc := 20) (tgt := 65) dX12_aheadOf_20 (by decide) (fun h20 => ?_) (fun h20 => absurd (nI_le (a := 64) (Nat.le_refl _) (by decide)) h20)
      refine j_iload_n (pc := 65) dX12_aheadOf_65 rfl ?_
      refine j_iret (pc := 66) dX12_aheadOf_66 rfl ?_
      exact ⟨hk, rfl⟩
    | succ m ih =>
      intro o T ho hk hm
      have hT := h.scr hk (fun c k z => zXkm.s z)
      have hMT := hT.1
      refine j_iload_n (pc := 17) dX12_aheadOf_17 rfl ?_
      refine j_bipush (pc := 18) (v := 64) dX12_aheadOf_18 (by decide) ?_
      refine j_icmp_ge (pc := 20) (tgt := 65) dX12_aheadOf_20 (by decide) (fun h20 => absurd h20 (nI_ge (b := 64) (by omega) (by decide))) (fun h20 => ?_)
      refine j_aload_n (pc := 23) dX12_aheadOf_23 rfl ?_
      refine j_aload_n (pc := 24) dX12_aheadOf_24 rfl ?_
      refine j_getIv (pc := 25) dX12_aheadOf_25 f_X12_277 (Or.inl rfl) hMT.1 ((hT.2.2.2.2.1 t ht).1.2.2.2.1.1) ?_
      refine j_iload_n (pc := 28) dX12_aheadOf_28 rfl ?_
      refine j_callV (pc := 29) (t := 12) (n_isThen hT ht (Nat.le_refl _) (Nat.le_add_right _ _) (by omega) (nI o)) dX12_aheadOf_29 l_X12_305 mk_X12_isThen mv_X12_isThen (by decide) rfl hMT.1 (by decide) rfl rfl (Nat.le_of_ble_eq_true rfl) (Nat.le_refl _) (Nat.le_refl _) (fun r T4 h_1 => ?_)
      obtain ⟨rfl, rfl⟩ := h_1
      rw [zth_nI _ (by omega)]
      refine j_if_eq (pc := 32) (tgt := 59) dX12_aheadOf_32 (by decide) (fun h32 => ?_) (fun h32 => ?_)
      · refine j_iinc (pc := 59) (v := _ + 1) (ls' := [_, _, _, _]) dX12_aheadOf_59 rfl rfl (by decide) rfl rfl ?_
        refine j_goto (pc := 62) (tgt := 17) dX12_aheadOf_62 (by decide) ?_
        rw [nI_1]
        have := ih (o + 1) T (by omega) hk hm
        rwa [show zah (tO t) (tW t) id (o + 1) = zah (tO t) (tW t) id o by rw [zah, fb_ct_succ, zbi_eq0.mp h32]; rfl] at this
      · refine j_aload_n (pc := 35) dX12_aheadOf_35 rfl ?_
        refine j_aload_n (pc := 36) dX12_aheadOf_36 rfl ?_
        refine j_getIv (pc := 37) dX12_aheadOf_37 f_X12_277 (Or.inl rfl) hMT.1 ((hT.2.2.2.2.1 t ht).1.2.2.2.1.1) ?_
        refine j_iload_n (pc := 40) dX12_aheadOf_40 rfl ?_
        refine j_callV (pc := 41) (t := 12) (n_laysKey hT hw ht (Nat.le_refl _) (Nat.le_add_right _ _) (show o < 64 by omega) (zbi_ne0 h32)) dX12_aheadOf_41 l_X12_351 mk_X12_laysKey mv_X12_laysKey (by decide) rfl hMT.1 (by decide) rfl rfl (Nat.le_of_ble_eq_true rfl) (Nat.le_refl _) (Nat.le_refl _) (fun r T2 h_1 => ?_)
        obtain ⟨rfl, k1, l1⟩ := h_1
        have mT2 := k1.ms hMT
        have hm2 := hm.k k1 (by unfold zXk; omega) (fun k => by unfold zXk; omega)
        refine j_iload_n (pc := 44) dX12_aheadOf_44 rfl ?_
        refine j_aload_n (pc := 45) dX12_aheadOf_45 rfl ?_
        refine j_callV (pc := 46) (t := 12) (n_compared mT2 l1 hm2 (Nat.le_trans (zkf_len hv.2.2.2.1) (by decide)) (Nat.le_trans (zkf_len hv.2.2.2.1) (by decide)) zkf_b zkf_b) dX12_aheadOf_46 l_X12_358 mk_X12_compared mv_X12_compared (by decide) rfl mT2.1 (by decide) rfl rfl (Nat.le_of_ble_eq_true rfl) (Nat.le_refl _) (Nat.le_refl _) (fun r T3 h_1 => ?_)
        obtain ⟨rfl, x, rfl, hx⟩ := h_1
        refine j_if_ge (pc := 49) (tgt := 56) dX12_aheadOf_49 (by decide) (fun h49 => ?_) (fun h49 => ?_)
        · refine j_iconst (pc := 56) (v := 0) dX12_aheadOf_56 (by decide) ?_
          refine j_iadd (pc := 57) dX12_aheadOf_57 ?_
          refine j_istore_n (pc := 58) (ls' := [_, _, _, _]) dX12_aheadOf_58 (by decide) rfl rfl ?_
          refine j_iinc (pc := 59) (v := _ + 1) (ls' := [_, _, _, _]) dX12_aheadOf_59 rfl rfl (by decide) rfl rfl ?_
          refine j_goto (pc := 62) (tgt := 17) dX12_aheadOf_62 (by decide) ?_
          rw [nI_1, show nI (zah (tO t) (tW t) id o) + 0 = nI (zah (tO t) (tW t) id o) from nI_add _ 0]
          have := ih (o + 1) T2 (by omega) (hk.tr k1.ks) hm2
          rwa [show zah (tO t) (tW t) id (o + 1) = zah (tO t) (tW t) id o by rw [zah, fb_ct_succ, zbi_ne0 h32, hx.e0.1.mp (Int32.not_lt.mpr h49)]; rfl] at this
        · refine j_iconst (pc := 52) (v := 1) dX12_aheadOf_52 (by decide) ?_
          refine j_goto (pc := 53) (tgt := 57) dX12_aheadOf_53 (by decide) ?_
          refine j_iadd (pc := 57) dX12_aheadOf_57 ?_
          refine j_istore_n (pc := 58) (ls' := [_, _, _, _]) dX12_aheadOf_58 (by decide) rfl rfl ?_
          refine j_iinc (pc := 59) (v := _ + 1) (ls' := [_, _, _, _]) dX12_aheadOf_59 rfl rfl (by decide) rfl rfl ?_
          refine j_goto (pc := 62) (tgt := 17) dX12_aheadOf_62 (by decide) ?_
          rw [nI_1, nI_1]
          have := ih (o + 1) T2 (by omega) (hk.tr k1.ks) hm2
          rwa [show zah (tO t) (tW t) id (o + 1) = zah (tO t) (tW t) id o + 1 by rw [zah, fb_ct_succ, zbi_ne0 h32, hx.1.mp (Int32.not_le.mp h49)]; rfl] at this
  refine j_aload_n (pc := 0) dX12_aheadOf_0 rfl ?_
  refine j_aload_n (pc := 1) dX12_aheadOf_1 rfl ?_
  refine j_getIv (pc := 2) dX12_aheadOf_2 f_X12_277 (Or.inl rfl) hM.1 ((h.2.2.2.2.1 t ht).1.2.2.2.1.1) ?_
  refine j_iload_n (pc := 5) dX12_aheadOf_5 rfl ?_
  refine j_callV (pc := 6) (t := 12) (n_laysKey h hw ht (Nat.le_refl _) (Nat.le_add_right _ _) hid hth) dX12_aheadOf_6 l_X12_351 mk_X12_laysKey mv_X12_laysKey (by decide) rfl hM.1 (by decide) rfl rfl (Nat.le_of_ble_eq_true rfl) (Nat.le_refl _) (Nat.le_refl _) (fun r T1 h_1 => ?_)
  obtain ⟨rfl, k1, l1⟩ := h_1
  have m1 := k1.ms hM
  refine j_aload_n (pc := 9) dX12_aheadOf_9 rfl ?_
  refine j_callV (pc := 10) (t := 12) (n_marks m1 l1 (Nat.le_trans (zkf_len hv.2.2.2.1) (by decide))) dX12_aheadOf_10 l_X12_355 mk_X12_marks mv_X12_marks (by decide) rfl m1.1 (by decide) rfl rfl (Nat.le_of_ble_eq_true rfl) (Nat.le_refl _) (Nat.le_refl _) (fun r T2 h_1 => ?_)
  obtain ⟨rfl, k2, l2⟩ := h_1
  refine j_iconst (pc := 13) (v := 0) dX12_aheadOf_13 (by decide) ?_
  refine j_istore_n (pc := 14) (ls' := [_, _, _, _]) dX12_aheadOf_14 (by decide) rfl rfl ?_
  refine j_iconst (pc := 15) (v := 0) dX12_aheadOf_15 (by decide) ?_
  refine j_istore_n (pc := 16) (ls' := [_, _, _, _]) dX12_aheadOf_16 (by decide) rfl rfl ?_
  exact lp 64 0 T2 (by omega) (k1.ks.tr k2.ms') l2
set_option maxRecDepth 20000 in
set_option maxHeartbeats 4000000 in
theorem m_rank {E : zE} {S : zM} {s : zST} {n : Nat} (h : zMO S s) (hw : zWF n s) (x : Int32) : zSp E 4 0 0 mX12_rank cX12_rank [zR 123, zI x] S (fun r T => r = some (zI (q_rank s x).1) ∧ zMO T (q_rank s x).2 ∧ zF zMX S T) := by
  refine zSp.of (by decide) rfl (Nat.le_of_ble_eq_true rfl) rfl ?_
  have hM := h.1
  cases hz : zrow s x with
  | false =>
    have e : q_rank s x = zrf s 1 := by
      unfold q_rank
      split
      · rfl
      · rename_i t ht
        rw [zrow_s ht] at hz
        simp [hz]
    refine j_aload_n (pc := 0) dX12_rank_0 rfl ?_
    refine j_aload_n (pc := 1) dX12_rank_1 rfl ?_
    refine j_iload_n (pc := 2) dX12_rank_2 rfl ?_
    refine j_callV (pc := 3) (t := 12) (n_isNow h hw _) dX12_rank_3 l_X12_324 mk_X12_isNow mv_X12_isNow (by decide) rfl hM.1 (by decide) rfl rfl (Nat.le_of_ble_eq_true rfl) (Nat.le_refl _) (Nat.le_refl _) (fun r T h_1 => ?_)
    obtain ⟨rfl, rfl⟩ := h_1
    rw [hz]
    refine j_callS (pc := 6) (n_unlF) dX12_rank_6 l_X12_312 mk_X12_unless ms_X12_unless (by decide) rfl rfl (Nat.le_of_ble_eq_true rfl) (Nat.le_refl _) (Nat.le_refl _) (fun r T h_1 => ?_)
    obtain ⟨rfl, rfl⟩ := h_1
    refine j_callV (pc := 9) (t := 12) (n_rf1 hM) dX12_rank_9 l_X12_256 mk_X12_isRefused mv_X12_isRefused (by decide) rfl hM.1 (by decide) rfl rfl (Nat.le_of_ble_eq_true rfl) (Nat.le_refl _) (Nat.le_refl _) (fun r T h_1 => ?_)
    obtain ⟨rfl, rfl⟩ := h_1
    refine j_if_eq (pc := 12) (tgt := 19) dX12_rank_12 (by decide) (fun h12 => absurd h12 (by decide)) (fun h12 => ?_)
    refine j_iconst (pc := 15) (v := (-1)) dX12_rank_15 (by decide) ?_
    refine j_goto (pc := 16) (tgt := 24) dX12_rank_16 (by decide) ?_
    refine j_iret (pc := 24) dX12_rank_24 rfl ?_
    exact m_ref h (n := 1) (by decide) e
  | true =>
    obtain ⟨t, j, ht, hj, rfl, hjr⟩ := zrow_t hz
    have hv := hw.v ht
    have hjt : zth (tW t).1 (nI j) = true := by rw [zth_nI _ hj]; exact hjr
    have hcl : (nI j).toNatClampNeg = j := nI_clamp (by omega)
    refine j_aload_n (pc := 0) dX12_rank_0 rfl ?_
    refine j_aload_n (pc := 1) dX12_rank_1 rfl ?_
    refine j_iload_n (pc := 2) dX12_rank_2 rfl ?_
    refine j_callV (pc := 3) (t := 12) (n_isNow h hw _) dX12_rank_3 l_X12_324 mk_X12_isNow mv_X12_isNow (by decide) rfl hM.1 (by decide) rfl rfl (Nat.le_of_ble_eq_true rfl) (Nat.le_refl _) (Nat.le_refl _) (fun r T h_1 => ?_)
    obtain ⟨rfl, rfl⟩ := h_1
    rw [hz]
    refine j_callS (pc := 6) (n_unlT) dX12_rank_6 l_X12_312 mk_X12_unless ms_X12_unless (by decide) rfl rfl (Nat.le_of_ble_eq_true rfl) (Nat.le_refl _) (Nat.le_refl _) (fun r T h_1 => ?_)
    obtain ⟨rfl, rfl⟩ := h_1
    refine j_callV (pc := 9) (t := 12) (n_ok hM) dX12_rank_9 l_X12_256 mk_X12_isRefused mv_X12_isRefused (by decide) rfl hM.1 (by decide) rfl rfl (Nat.le_of_ble_eq_true rfl) (Nat.le_refl _) (Nat.le_refl _) (fun r T h_1 => ?_)
    obtain ⟨rfl, rfl⟩ := h_1
    refine j_if_eq (pc := 12) (tgt := 19) dX12_rank_12 (by decide) (fun h12 => ?_) (fun h12 => absurd rfl h12)
    refine j_aload_n (pc := 19) dX12_rank_19 rfl ?_
    refine j_iload_n (pc := 20) dX12_rank_20 rfl ?_
    refine j_callV (pc := 21) (t := 12) (n_aheadOf (h.no (n := 0) (by decide)) (zWF.no hw) ht hj hjr) dX12_rank_21 l_X12_361 mk_X12_aheadOf mv_X12_aheadOf (by decide) rfl hM.1 (by decide) rfl rfl (Nat.le_of_ble_eq_true rfl) (Nat.le_refl _) (Nat.le_refl _) (fun r T h_1 => ?_)
    obtain ⟨k1, rfl⟩ := h_1
    refine j_iret (pc := 24) dX12_rank_24 rfl ?_
    have ez : q_rank s (nI j) = zan s (nI (zah (tO t) (tW t) j 64)) := by simp only [q_rank, ht]; rw [if_pos hjt, zn, hcl, (zah_at hj hjr).2]
    rw [ez]
    exact ⟨rfl, (h.no (n := 0) (by decide)).scr k1 (fun c k z => zXkm.s z), zNw.f.tr k1.kf⟩
set_option maxRecDepth 20000 in
set_option maxHeartbeats 4000000 in
theorem m_keySize {E : zE} {S : zM} {s : zST} {n : Nat} (h : zMO S s) (hw : zWF n s) (x : Int32) : zSp E 3 0 0 mX12_keySize cX12_keySize [zR 123, zI x] S (fun r T => r = some (zI (q_keySize s x).1) ∧ zMO T (q_keySize s x).2 ∧ zF zMX S T) := by
  refine zSp.of (by decide) rfl (Nat.le_of_ble_eq_true rfl) rfl ?_
  have hM := h.1
  cases hz : zrow s x with
  | false =>
    have e : q_keySize s x = zrf s 1 := by
      unfold q_keySize
      split
      · rfl
      · rename_i t ht
        rw [zrow_s ht] at hz
        simp [hz]
    refine j_aload_n (pc := 0) dX12_keySize_0 rfl ?_
    refine j_aload_n (pc := 1) dX12_keySize_1 rfl ?_
    refine j_iload_n (pc := 2) dX12_keySize_2 rfl ?_
    refine j_callV (pc := 3) (t := 12) (n_isNow h hw _) dX12_keySize_3 l_X12_324 mk_X12_isNow mv_X12_isNow (by decide) rfl hM.1 (by decide) rfl rfl (Nat.le_of_ble_eq_true rfl) (Nat.le_refl _) (Nat.le_refl _) (fun r T h_1 => ?_)
    obtain ⟨rfl, rfl⟩ := h_1
    rw [hz]
    refine j_callS (pc := 6) (n_unlF) dX12_keySize_6 l_X12_312 mk_X12_unless ms_X12_unless (by decide) rfl rfl (Nat.le_of_ble_eq_true rfl) (Nat.le_refl _) (Nat.le_refl _) (fun r T h_1 => ?_)
    obtain ⟨rfl, rfl⟩ := h_1
    refine j_callV (pc := 9) (t := 12) (n_rf1 hM) dX12_keySize_9 l_X12_256 mk_X12_isRefused mv_X12_isRefused (by decide) rfl hM.1 (by decide) rfl rfl (Nat.le_of_ble_eq_true rfl) (Nat.le_refl _) (Nat.le_refl _) (fun r T h_1 => ?_)
    obtain ⟨rfl, rfl⟩ := h_1
    refine j_if_eq (pc := 12) (tgt := 17) dX12_keySize_12 (by decide) (fun h12 => absurd h12 (by decide)) (fun h12 => ?_)
    refine j_iconst (pc := 15) (v := (-1)) dX12_keySize_15 (by decide) ?_
    refine j_iret (pc := 16) dX12_keySize_16 rfl ?_
    exact m_ref h (n := 1) (by decide) e
  | true =>
    obtain ⟨t, j, ht, hj, rfl, hjr⟩ := zrow_t hz
    have hv := hw.v ht
    have hjt : zth (tW t).1 (nI j) = true := by rw [zth_nI _ hj]; exact hjr
    have hcl : (nI j).toNatClampNeg = j := nI_clamp (by omega)
    refine j_aload_n (pc := 0) dX12_keySize_0 rfl ?_
    refine j_aload_n (pc := 1) dX12_keySize_1 rfl ?_
    refine j_iload_n (pc := 2) dX12_keySize_2 rfl ?_
    refine j_callV (pc := 3) (t := 12) (n_isNow h hw _) dX12_keySize_3 l_X12_324 mk_X12_isNow mv_X12_isNow (by decide) rfl hM.1 (by decide) rfl rfl (Nat.le_of_ble_eq_true rfl) (Nat.le_refl _) (Nat.le_refl _) (fun r T h_1 => ?_)
    obtain ⟨rfl, rfl⟩ := h_1
    rw [hz]
    refine j_callS (pc := 6) (n_unlT) dX12_keySize_6 l_X12_312 mk_X12_unless ms_X12_unless (by decide) rfl rfl (Nat.le_of_ble_eq_true rfl) (Nat.le_refl _) (Nat.le_refl _) (fun r T h_1 => ?_)
    obtain ⟨rfl, rfl⟩ := h_1
    refine j_callV (pc := 9) (t := 12) (n_ok hM) dX12_keySize_9 l_X12_256 mk_X12_isRefused mv_X12_isRefused (by decide) rfl hM.1 (by decide) rfl rfl (Nat.le_of_ble_eq_true rfl) (Nat.le_refl _) (Nat.le_refl _) (fun r T h_1 => ?_)
    obtain ⟨rfl, rfl⟩ := h_1
    refine j_if_eq (pc := 12) (tgt := 17) dX12_keySize_12 (by decide) (fun h12 => ?_) (fun h12 => absurd rfl h12)
    refine j_aload_n (pc := 17) dX12_keySize_17 rfl ?_
    refine j_aload_n (pc := 18) dX12_keySize_18 rfl ?_
    refine j_getIv (pc := 19) dX12_keySize_19 f_X12_277 (Or.inl rfl) hM.1 ((h.2.2.2.2.1 t ht).1.2.2.2.1.1) ?_
    refine j_iload_n (pc := 22) dX12_keySize_22 rfl ?_
    refine j_callV (pc := 23) (t := 12) (n_laysKey (h.no (n := 0) (by decide)) (zWF.no hw) ht (Nat.le_refl _) (Nat.le_add_right _ _) hj hjr) dX12_keySize_23 l_X12_351 mk_X12_laysKey mv_X12_laysKey (by decide) rfl hM.1 (by decide) rfl rfl (Nat.le_of_ble_eq_true rfl) (Nat.le_refl _) (Nat.le_refl _) (fun r T h_1 => ?_)
    obtain ⟨rfl, k1, l1⟩ := h_1
    have m1 := k1.ms (by exact hM)
    refine j_aload_n (pc := 26) dX12_keySize_26 rfl ?_
    refine j_getIv (pc := 27) dX12_keySize_27 f_X12_334 (Or.inl rfl) m1.1 (l1.1) ?_
    refine j_iret (pc := 30) dX12_keySize_30 rfl ?_
    have ez : q_keySize s (nI j) = zan s (nI (tkf t j).length) := by simp only [q_keySize, ht]; rw [if_pos hjt, zn, hcl]
    rw [ez]
    exact ⟨rfl, (h.no (n := 0) (by decide)).scr k1 (fun c k z => zXk.s z), zNw.f.tr k1.ks.kf⟩
set_option maxRecDepth 20000 in
set_option maxHeartbeats 4000000 in
theorem m_keyByte {E : zE} {S : zM} {s : zST} {n : Nat} (h : zMO S s) (hw : zWF n s) (x i : Int32) : zSp E 3 0 0 mX12_keyByte cX12_keyByte [zR 123, zI x, zI i] S (fun r T => r = some (zI (q_keyByte s x i).1) ∧ zMO T (q_keyByte s x i).2 ∧ zF zMX S T) := by
  refine zSp.of (by decide) rfl (Nat.le_of_ble_eq_true rfl) rfl ?_
  have hM := h.1
  cases hz : zrow s x with
  | false =>
    have e : q_keyByte s x i = zrf s 1 := by
      unfold q_keyByte
      split
      · rfl
      · rename_i t ht
        rw [zrow_s ht] at hz
        simp [hz]
    refine j_aload_n (pc := 0) dX12_keyByte_0 rfl ?_
    refine j_aload_n (pc := 1) dX12_keyByte_1 rfl ?_
    refine j_iload_n (pc := 2) dX12_keyByte_2 rfl ?_
    refine j_callV (pc := 3) (t := 12) (n_isNow h hw _) dX12_keyByte_3 l_X12_324 mk_X12_isNow mv_X12_isNow (by decide) rfl hM.1 (by decide) rfl rfl (Nat.le_of_ble_eq_true rfl) (Nat.le_refl _) (Nat.le_refl _) (fun r T h_1 => ?_)
    obtain ⟨rfl, rfl⟩ := h_1
    rw [hz]
    refine j_callS (pc := 6) (n_unlF) dX12_keyByte_6 l_X12_312 mk_X12_unless ms_X12_unless (by decide) rfl rfl (Nat.le_of_ble_eq_true rfl) (Nat.le_refl _) (Nat.le_refl _) (fun r T h_1 => ?_)
    obtain ⟨rfl, rfl⟩ := h_1
    refine j_callV (pc := 9) (t := 12) (n_rf1 hM) dX12_keyByte_9 l_X12_256 mk_X12_isRefused mv_X12_isRefused (by decide) rfl hM.1 (by decide) rfl rfl (Nat.le_of_ble_eq_true rfl) (Nat.le_refl _) (Nat.le_refl _) (fun r T h_1 => ?_)
    obtain ⟨rfl, rfl⟩ := h_1
    refine j_if_eq (pc := 12) (tgt := 17) dX12_keyByte_12 (by decide) (fun h12 => absurd h12 (by decide)) (fun h12 => ?_)
    refine j_iconst (pc := 15) (v := (-1)) dX12_keyByte_15 (by decide) ?_
    refine j_iret (pc := 16) dX12_keyByte_16 rfl ?_
    exact m_ref h (n := 1) (by decide) e
  | true =>
    obtain ⟨t, j, ht, hj, rfl, hjr⟩ := zrow_t hz
    have hv := hw.v ht
    have hjt : zth (tW t).1 (nI j) = true := by rw [zth_nI _ hj]; exact hjr
    have hcl : (nI j).toNatClampNeg = j := nI_clamp (by omega)
    refine j_aload_n (pc := 0) dX12_keyByte_0 rfl ?_
    refine j_aload_n (pc := 1) dX12_keyByte_1 rfl ?_
    refine j_iload_n (pc := 2) dX12_keyByte_2 rfl ?_
    refine j_callV (pc := 3) (t := 12) (n_isNow h hw _) dX12_keyByte_3 l_X12_324 mk_X12_isNow mv_X12_isNow (by decide) rfl hM.1 (by decide) rfl rfl (Nat.le_of_ble_eq_true rfl) (Nat.le_refl _) (Nat.le_refl _) (fun r T h_1 => ?_)
    obtain ⟨rfl, rfl⟩ := h_1
    rw [hz]
    refine j_callS (pc := 6) (n_unlT) dX12_keyByte_6 l_X12_312 mk_X12_unless ms_X12_unless (by decide) rfl rfl (Nat.le_of_ble_eq_true rfl) (Nat.le_refl _) (Nat.le_refl _) (fun r T h_1 => ?_)
    obtain ⟨rfl, rfl⟩ := h_1
    refine j_callV (pc := 9) (t := 12) (n_ok hM) dX12_keyByte_9 l_X12_256 mk_X12_isRefused mv_X12_isRefused (by decide) rfl hM.1 (by decide) rfl rfl (Nat.le_of_ble_eq_true rfl) (Nat.le_refl _) (Nat.le_refl _) (fun r T h_1 => ?_)
    obtain ⟨rfl, rfl⟩ := h_1
    refine j_if_eq (pc := 12) (tgt := 17) dX12_keyByte_12 (by decide) (fun h12 => ?_) (fun h12 => absurd rfl h12)
    refine j_aload_n (pc := 17) dX12_keyByte_17 rfl ?_
    refine j_aload_n (pc := 18) dX12_keyByte_18 rfl ?_
    refine j_getIv (pc := 19) dX12_keyByte_19 f_X12_277 (Or.inl rfl) hM.1 ((h.2.2.2.2.1 t ht).1.2.2.2.1.1) ?_
    refine j_iload_n (pc := 22) dX12_keyByte_22 rfl ?_
    refine j_callV (pc := 23) (t := 12) (n_laysKey (h.no (n := 0) (by decide)) (zWF.no hw) ht (Nat.le_refl _) (Nat.le_add_right _ _) hj hjr) dX12_keyByte_23 l_X12_351 mk_X12_laysKey mv_X12_laysKey (by decide) rfl hM.1 (by decide) rfl rfl (Nat.le_of_ble_eq_true rfl) (Nat.le_refl _) (Nat.le_refl _) (fun r T h_1 => ?_)
    obtain ⟨rfl, k1, l1⟩ := h_1
    have m1 := k1.ms (by exact hM)
    have l1 : mL _ (tkf t j) := l1
    have hlen : (tkf t j).length ≤ 34 := zkf_len hv.2.2.2.1
    refine j_iload_n (pc := 26) dX12_keyByte_26 rfl ?_
    refine j_i2l (pc := 27) dX12_keyByte_27 ?_
    refine j_lconst (pc := 28) (v := 0) dX12_keyByte_28 (by decide) ?_
    refine j_aload_n (pc := 29) dX12_keyByte_29 rfl ?_
    refine j_getIv (pc := 30) dX12_keyByte_30 f_X12_334 (Or.inl rfl) m1.1 (l1.1) ?_
    refine j_iconst (pc := 33) (v := 1) dX12_keyByte_33 (by decide) ?_
    refine j_isub (pc := 34) dX12_keyByte_34 ?_
    refine j_i2l (pc := 35) dX12_keyByte_35 ?_
    refine j_callS (pc := 36) (n_in _ _ _) dX12_keyByte_36 l_X12_159 mk_X12_in ms_X12_in (by decide) rfl rfl (Nat.le_of_ble_eq_true rfl) (Nat.le_refl _) (Nat.le_refl _) (fun r T h_1 => ?_)
    obtain ⟨rfl, rfl⟩ := h_1
    rw [zin_col (by omega)]
    refine j_if_eq (pc := 39) (tgt := 51) dX12_keyByte_39 (by decide) (fun h39 => ?_) (fun h39 => ?_)
    · refine j_aload_n (pc := 51) dX12_keyByte_51 rfl ?_
      refine j_iconst (pc := 52) (v := 1) dX12_keyByte_52 (by decide) ?_
      refine j_callV (pc := 53) (t := 12) (n_no m1 _) dX12_keyByte_53 l_X12_265 mk_X12_no mv_X12_no (by decide) rfl m1.1 (by decide) rfl rfl (Nat.le_of_ble_eq_true rfl) (Nat.le_refl _) (Nat.le_refl _) (fun r T h_1 => ?_)
      obtain ⟨rfl, rfl⟩ := h_1
      refine j_iret (pc := 56) dX12_keyByte_56 rfl ?_
      have ez : q_keyByte s (nI j) i = zrf s 1 := by
        simp only [q_keyByte, ht]
        rw [if_pos hjt, zn, hcl, show zget (tkf t j) i = -1 from zget_zcl (zbi_eq0.mp h39) (by omega), zrd, if_pos rfl]
      rw [ez]
      exact ⟨rfl, ((h.no (n := 0) (by decide)).scr k1 (fun c k z => zXk.s z)).no1 (n := 1) (by decide), (zNw.f.tr k1.ks.kf).tr (zF.wI (by decide))⟩
    · obtain ⟨k, hk, rfl⟩ := zcl2_t (by omega) (zbi_ne0 h39)
      refine j_aload_n (pc := 42) dX12_keyByte_42 rfl ?_
      refine j_getPv (pc := 43) dX12_keyByte_43 f_X12_60 (Or.inr ⟨_, rfl⟩) m1.1 (mp_key m1) ?_
      refine j_iload_n (pc := 46) dX12_keyByte_46 rfl ?_
      refine j_ialdn (pc := 47) dX12_keyByte_47 (mk_key m1) (by omega) (Nat.le_of_ble_eq_true rfl) (l1.2 k hk) ?_
      refine j_goto (pc := 48) (tgt := 56) dX12_keyByte_48 (by decide) ?_
      refine j_iret (pc := 56) dX12_keyByte_56 rfl ?_
      have eg : zget (tkf t j) (nI k) = nI ((tkf t j).getD k 0) := zget_in (L := tkf t j) hk (by omega)
      have ez : q_keyByte s (nI j) (nI k) = zan s (nI ((tkf t j).getD k 0)) := by
        simp only [q_keyByte, ht]
        rw [if_pos hjt, zn, hcl, eg, zrd, if_neg (nI_byte (zkf_b _ (gD_mem hk)))]
      rw [ez]
      exact ⟨rfl, (h.no (n := 0) (by decide)).scr k1 (fun c k z => zXk.s z), zNw.f.tr k1.ks.kf⟩
