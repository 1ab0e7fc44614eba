/-! the nine words -/
def zWl (j : Nat) : List Nat := [[110, 117, 109, 98, 101, 114], [119, 111, 114, 100], [116, 97, 98, 108, 101], [111, 114, 100, 101, 114], [114, 111, 119], [117, 112], [100, 111, 119, 110], [102, 105, 114, 115, 116], [110, 111, 110, 101]].getD j []
def zWd (j : Nat) : Int64 := lN (zpk (zWl j))
theorem zWl_ok : ∀ j, j < 9 → (zWl j).length = zTl.getD j 0 ∧ (zWl j).length ≤ 6 ∧ ∀ b ∈ zWl j, 0 < b ∧ b < 256 := by decide
theorem zWl_ch : ∀ j, j < 9 → ∀ i, i < zTl.getD j 0 → (zTy.getD j []).getD i 0 &&& 255 = nI ((zWl j).getD i 0) := by decide +kernel
theorem zlet_b {b : Nat} (h : zlet b = true) : 97 ≤ b ∧ b ≤ 122 := of_decide_eq_true h
theorem zisW_L {k : zTo} {L : List Nat} {j : Nat} (hj : j < 9) (h1 : k.2.1 = 1) (hl : L.length ≤ 6) (hL : ∀ b ∈ L, zlet b = true) (hc : k.2.2.2 = L.foldl zcw 0) : zisW k (zWd j) = decide (L = zWl j) := by
  have hb : ∀ b ∈ L, 0 < b ∧ b < 256 := fun b q => by have := zlet_b (hL b q); omega
  obtain ⟨w1, w2, w3⟩ := zWl_ok j hj
  unfold zisW
  rw [decide_eq_decide, hc, zcw_pk hl (fun b q => (hb b q).2), zWd]
  constructor
  · intro q
    have h3 := zpk_lt hl (fun b q => (hb b q).2)
    have h4 := zpk_lt w2 (fun b q => (w3 b q).2)
    exact zpk_inj hb w3 ((pk_lEQ (by omega) (by omega)).mp q.2)
  · intro q
    exact ⟨h1, by rw [q]⟩
theorem zisW_0 {k : zTo} {w : Int64} (h1 : ¬ k.2.1 = 1) : zisW k w = false := decide_eq_false (fun q => h1 q.1)
set_option maxRecDepth 20000 in
set_option maxHeartbeats 4000000 in
theorem n_spelt {E : zE} {S : zM} {X : List Nat} {k : zTo} (hM : zMs S) (hX : mTx S X) (ho : mTo S k) (hk : zTK X k) (h1 : k.2.1 = 1) : zSp E 0 0 0 mX12_spelt cX12_spelt [zR 123] S (fun r T => S = T ∧ r = some (zL k.2.2.2)) := by
  refine zSp.of (by decide) rfl (Nat.le_of_ble_eq_true rfl) rfl ?_
  have h9 := hX.2.2.1
  have hle := hk.le
  obtain ⟨L, e1, l6, hL, ec, hx⟩ : ∃ L : List Nat, k.1 = k.2.2.1 + L.length ∧ L.length ≤ 6 ∧ (∀ b ∈ L, zlet b = true) ∧ k.2.2.2 = L.foldl zcw 0 ∧ ∀ i, i < L.length → X[k.2.2.1 + i]? = L[i]? := by
    rcases hk.cs with ⟨e, -⟩ | ⟨-, q⟩ | e | ⟨e, -⟩ | e
    · rw [h1] at e; cases e
    · exact q
    · rw [h1] at e; cases e
    · rw [h1] at e; cases e
    · rw [h1] at e; cases e
  have hLb : ∀ b ∈ L, b < 256 := fun b q => by have := zlet_b (hL b q); omega
  have lp : ∀ (m i : Nat), i + m = L.length → zJ E 0 0 0 mX12_spelt cX12_spelt 7 [some (zR 123), some (zL (lN (zpk (L.take i)))), none, some (zI (nI (k.2.2.1 + i)))] [] S (fun r T => S = T ∧ r = some (zL k.2.2.2)) := by
    intro m
    induction m with
    | zero =>
      intro i hi
      refine j_iload_n (pc := 7) dX12_spelt_7 rfl ?_
      refine j_aload_n (pc := 8) dX12_spelt_8 rfl ?_
      refine j_getIv (pc := 9) dX12_spelt_9 f_X12_142 (Or.inl rfl) hM.1 (ho.1) ?_
      refine j_icmp_ge (pc := 12) (tgt := 35) dX12_spelt_12 (by decide) (fun h12 => ?_) (fun h12 => absurd (nI_le (show k.1 ≤ k.2.2.1 + i by omega) (by omega)) h12)
      refine j_lload_n (pc := 35) dX12_spelt_35 rfl ?_
      refine j_lret (pc := 36) dX12_spelt_36 rfl ?_
      have ei : i = L.length := by omega
      subst ei
      rw [List.take_length]
      exact ⟨rfl, by rw [ec, zcw_pk l6 hLb]⟩
    | succ m ih =>
      intro i hi
      refine j_iload_n (pc := 7) dX12_spelt_7 rfl ?_
      refine j_aload_n (pc := 8) dX12_spelt_8 rfl ?_
      refine j_getIv (pc := 9) dX12_spelt_9 f_X12_142 (Or.inl rfl) hM.1 (ho.1) ?_
      refine j_icmp_ge (pc := 12) (tgt := 35) dX12_spelt_12 (by decide) (fun h12 => absurd h12 (nI_ge (show k.2.2.1 + i < k.1 by omega) (by omega))) (fun h12 => ?_)
      have hxi : L[i]? = some (L.getD i 0) := gD 0 (show i < L.length by omega)
      have hgd : X.getD (k.2.2.1 + i) 0 = L.getD i 0 := by rw [List.getD_eq_getElem?_getD, hx i (by omega), hxi]; rfl
      have hb8 := hLb _ (gD_mem (show i < L.length by omega))
      refine j_ldcL (pc := 15) dX12_spelt_15 k_X12_186 ?_
      refine j_lload_n (pc := 18) dX12_spelt_18 rfl ?_
      refine j_lmul (pc := 19) dX12_spelt_19 ?_
      refine j_aload_n (pc := 20) dX12_spelt_20 rfl ?_
      refine j_getPv (pc := 21) dX12_spelt_21 f_X12_15 (Or.inr ⟨_, rfl⟩) hM.1 (mp_tape hM) ?_
      refine j_iload_n (pc := 24) dX12_spelt_24 rfl ?_
      refine j_ialdn (pc := 25) dX12_spelt_25 (mk_tape hM) (by omega) (Nat.le_of_ble_eq_true rfl) ((hX.2.1 _ (show k.2.2.1 + i < X.length by omega)).trans (by rw [hgd])) ?_
      refine j_i2l (pc := 26) dX12_spelt_26 ?_
      refine j_ladd (pc := 27) dX12_spelt_27 ?_
      rw [show (256 : Int64) = lN 256 from rfl, lN_mul, nI_l (by omega), lN_add, Nat.mul_comm 256, ← zpk_app, ← ztk_up hxi]
      refine j_lstore_n (pc := 28) (ls' := [_, _, _, _]) dX12_spelt_28 (by decide) rfl rfl ?_
      refine j_iinc (pc := 29) (v := _ + 1) (ls' := [_, _, _, _]) dX12_spelt_29 rfl rfl (by decide) rfl rfl ?_
      refine j_goto (pc := 32) (tgt := 7) dX12_spelt_32 (by decide) ?_
      rw [nI_1]
      exact ih (i + 1) (by omega)
  refine j_lconst (pc := 0) (v := 0) dX12_spelt_0 (by decide) ?_
  refine j_lstore_n (pc := 1) (ls' := [_, _, _, _]) dX12_spelt_1 (by decide) rfl rfl ?_
  refine j_aload_n (pc := 2) dX12_spelt_2 rfl ?_
  refine j_getIv (pc := 3) dX12_spelt_3 f_X12_149 (Or.inl rfl) hM.1 (ho.2.1) ?_
  refine j_istore_n (pc := 6) (ls' := [_, _, _, _]) dX12_spelt_6 (by decide) rfl rfl ?_
  exact lp L.length 0 (by omega)
set_option maxRecDepth 20000 in
set_option maxHeartbeats 4000000 in
theorem n_isWord {E : zE} {S : zM} {X : List Nat} {k : zTo} {j : Nat} (hE : zOKE E) (hM : zMs S) (hX : mTx S X) (ho : mTo S k) (hk : zTK X k) (hj : j < 9) : zSp E 4 0 0 mX12_isWord cX12_isWord [zR 123, zQ j] S (fun r T => S = T ∧ r = some (zI (zbi (zisW k (zWd j))))) := by
  refine zSp.of (by decide) rfl (Nat.le_of_ble_eq_true rfl) rfl ?_
  have h9 := hX.2.2.1
  have hle := hk.le
  obtain ⟨w1, w2, w3⟩ := zWl_ok j hj
  by_cases h1 : k.2.1 = 1
  case neg =>
    refine j_aload_n (pc := 0) dX12_isWord_0 rfl ?_
    refine j_getIv (pc := 1) dX12_isWord_1 f_X12_152 (Or.inl rfl) hM.1 (ho.2.2.1) ?_
    refine j_iconst (pc := 4) (v := 2) dX12_isWord_4 (by decide) ?_
    refine j_icmp_ne (pc := 5) (tgt := 24) dX12_isWord_5 (by decide) (fun h5 => ?_) (fun h5 => absurd (hk.c2.mp h5) h1)
    refine j_iconst (pc := 24) (v := 0) dX12_isWord_24 (by decide) ?_
    refine j_zret (pc := 25) dX12_isWord_25 rfl (by first | assumption | decide) ?_
    exact ⟨rfl, by rw [zisW_0 h1]; rfl⟩
  case pos =>
    obtain ⟨L, e1, l6, hL, ec, hx⟩ : ∃ L : List Nat, k.1 = k.2.2.1 + L.length ∧ L.length ≤ 6 ∧ (∀ b ∈ L, zlet b = true) ∧ k.2.2.2 = L.foldl zcw 0 ∧ ∀ i, i < L.length → X[k.2.2.1 + i]? = L[i]? := by
      rcases hk.cs with ⟨e, -⟩ | ⟨-, q⟩ | e | ⟨e, -⟩ | e
      · rw [h1] at e; cases e
      · exact q
      · rw [h1] at e; cases e
      · rw [h1] at e; cases e
      · rw [h1] at e; cases e
    have hLb : ∀ b ∈ L, b < 256 := fun b q => by have := zlet_b (hL b q); omega
    have hzw := zisW_L hj h1 l6 hL ec
    refine j_aload_n (pc := 0) dX12_isWord_0 rfl ?_
    refine j_getIv (pc := 1) dX12_isWord_1 f_X12_152 (Or.inl rfl) hM.1 (ho.2.2.1) ?_
    refine j_iconst (pc := 4) (v := 2) dX12_isWord_4 (by decide) ?_
    refine j_icmp_ne (pc := 5) (tgt := 24) dX12_isWord_5 (by decide) (fun h5 => absurd (hk.c2.mpr h1) h5) (fun h5 => ?_)
    refine j_aload_n (pc := 8) dX12_isWord_8 rfl ?_
    refine j_getIv (pc := 9) dX12_isWord_9 f_X12_142 (Or.inl rfl) hM.1 (ho.1) ?_
    refine j_aload_n (pc := 12) dX12_isWord_12 rfl ?_
    refine j_getIv (pc := 13) dX12_isWord_13 f_X12_149 (Or.inl rfl) hM.1 (ho.2.1) ?_
    refine j_isub (pc := 16) dX12_isWord_16 ?_
    rw [show nI k.1 - nI k.2.2.1 = nI L.length from by rw [pk_sub hle.2]; congr 1; omega]
    refine j_aload_nq (pc := 17) dX12_isWord_17 rfl ?_
    refine j_callVQ (pc := 18) hE (q_length hE hj) dX12_isWord_18 lq_170 mk_qL mv_qL rfl hj (by decide) rfl rfl (Nat.le_of_ble_eq_true rfl) (Nat.le_refl _) (Nat.le_refl _) (fun r T h_1 => ?_)
    obtain ⟨rfl, rfl⟩ := h_1
    refine j_icmp_eq (pc := 21) (tgt := 26) dX12_isWord_21 (by decide) (fun h21 => ?_) (fun h21 => ?_)
    · refine j_iconst (pc := 26) (v := 0) dX12_isWord_26 (by decide) ?_
      refine j_istore_n (pc := 27) (ls' := [_, _, _]) dX12_isWord_27 (by decide) rfl rfl ?_
      have el : L.length = zTl.getD j 0 := (nI_eq (by omega) (by omega)).mp h21
      have lp : ∀ (m i : Nat), i + m = L.length → (∀ o, o < i → L[o]? = (zWl j)[o]?) → zJ E 4 0 0 mX12_isWord cX12_isWord 28 [some (zR 123), some (zQ j), some (zI (nI i))] [] S (fun r T => S = T ∧ r = some (zI (zbi (zisW k (zWd j))))) := by
        intro m
        induction m with
        | zero =>
          intro i hi hq
          refine j_iload_n (pc := 28) dX12_isWord_28 rfl ?_
          refine j_aload_nq (pc := 29) dX12_isWord_29 rfl ?_
          refine j_callVQ (pc := 30) hE (q_length hE hj) dX12_isWord_30 lq_170 mk_qL mv_qL rfl hj (by decide) rfl rfl (Nat.le_of_ble_eq_true rfl) (Nat.le_refl _) (Nat.le_refl _) (fun r T h_1 => ?_)
          obtain ⟨rfl, rfl⟩ := h_1
          refine j_icmp_ge (pc := 33) (tgt := 63) dX12_isWord_33 (by decide) (fun h33 => ?_) (fun h33 => absurd (nI_le (show zTl.getD j 0 ≤ i by omega) (by omega)) h33)
          refine j_iconst (pc := 63) (v := 1) dX12_isWord_63 (by decide) ?_
          refine j_zret (pc := 64) dX12_isWord_64 rfl (by first | assumption | decide) ?_
          have eL : L = zWl j := List.ext_getElem? (fun o => by
            by_cases ho : o < i
            · exact hq o ho
            · rw [List.getElem?_eq_none (by omega), List.getElem?_eq_none (by omega)])
          exact ⟨rfl, by rw [hzw, decide_eq_true eL]; rfl⟩
        | succ m ih =>
          intro i hi hq
          refine j_iload_n (pc := 28) dX12_isWord_28 rfl ?_
          refine j_aload_nq (pc := 29) dX12_isWord_29 rfl ?_
          refine j_callVQ (pc := 30) hE (q_length hE hj) dX12_isWord_30 lq_170 mk_qL mv_qL rfl hj (by decide) rfl rfl (Nat.le_of_ble_eq_true rfl) (Nat.le_refl _) (Nat.le_refl _) (fun r T h_1 => ?_)
          obtain ⟨rfl, rfl⟩ := h_1
          refine j_icmp_ge (pc := 33) (tgt := 63) dX12_isWord_33 (by decide) (fun h33 => absurd h33 (nI_ge (show i < zTl.getD j 0 by omega) (by omega))) (fun h33 => ?_)
          have hxi : L[i]? = some (L.getD i 0) := gD 0 (show i < L.length by omega)
          have hwi : (zWl j)[i]? = some ((zWl j).getD i 0) := gD 0 (show i < (zWl j).length by omega)
          have hgd : X.getD (k.2.2.1 + i) 0 = L.getD i 0 := by rw [List.getD_eq_getElem?_getD, hx i (by omega), hxi]; rfl
          have hb8 := hLb _ (gD_mem (show i < L.length by omega))
          have hw8 := (w3 _ (gD_mem (show i < (zWl j).length by omega))).2
          have hcl : (nI i).toNatClampNeg = i := nI_clamp (by omega)
          have hc0 : ¬ nI i < 0 := nI_pos (by omega)
          have hc1 : nI i < Int32.ofNat (zTl.getD j 0) := nI_lt (show i < zTl.getD j 0 by omega) (by omega)
          have hc2 : (nI i).toNatClampNeg < zTl.getD j 0 := by rw [hcl]; omega
          refine j_aload_n (pc := 36) dX12_isWord_36 rfl ?_
          refine j_getPv (pc := 37) dX12_isWord_37 f_X12_15 (Or.inr ⟨_, rfl⟩) hM.1 (mp_tape hM) ?_
          refine j_aload_n (pc := 40) dX12_isWord_40 rfl ?_
          refine j_getIv (pc := 41) dX12_isWord_41 f_X12_149 (Or.inl rfl) hM.1 (ho.2.1) ?_
          refine j_iload_n (pc := 44) dX12_isWord_44 rfl ?_
          refine j_iadd (pc := 45) dX12_isWord_45 ?_
          rw [nI_add]
          refine j_ialdn (pc := 46) dX12_isWord_46 (mk_tape hM) (by omega) (Nat.le_of_ble_eq_true rfl) ((hX.2.1 _ (show k.2.2.1 + i < X.length by omega)).trans (by rw [hgd])) ?_
          refine j_aload_nq (pc := 47) dX12_isWord_47 rfl ?_
          refine j_iload_n (pc := 48) dX12_isWord_48 rfl ?_
          refine j_callVQ (pc := 49) hE (q_charAt hE hj hc0 hc1 hc2) dX12_isWord_49 lq_176 mk_qA mv_qA rfl hj (by decide) rfl rfl (Nat.le_of_ble_eq_true rfl) (Nat.le_refl _) (Nat.le_refl _) (fun r T h_1 => ?_)
          obtain ⟨rfl, rfl⟩ := h_1
          rw [hcl, zWl_ch j hj i (by omega)]
          refine j_icmp_eq (pc := 52) (tgt := 57) dX12_isWord_52 (by decide) (fun h52 => ?_) (fun h52 => ?_)
          · refine j_iinc (pc := 57) (v := _ + 1) (ls' := [_, _, _]) dX12_isWord_57 rfl rfl (by decide) rfl rfl ?_
            refine j_goto (pc := 60) (tgt := 28) dX12_isWord_60 (by decide) ?_
            rw [nI_1]
            have hbb := (nI_eq (by omega) (by omega)).mp h52
            refine ih (i + 1) (by omega) (fun o ho => ?_)
            by_cases e : o = i
            · rw [e, hxi, hwi, hbb]
            · exact hq o (by omega)
          · refine j_iconst (pc := 55) (v := 0) dX12_isWord_55 (by decide) ?_
            refine j_zret (pc := 56) dX12_isWord_56 rfl (by first | assumption | decide) ?_
            have eL : L ≠ zWl j := fun q => h52 (by rw [q])
            exact ⟨rfl, by rw [hzw, decide_eq_false eL]; rfl⟩
      exact lp L.length 0 (by omega) (fun o ho => absurd ho (Nat.not_lt_zero o))
    · refine j_iconst (pc := 24) (v := 0) dX12_isWord_24 (by decide) ?_
      refine j_zret (pc := 25) dX12_isWord_25 rfl (by first | assumption | decide) ?_
      have eL : L ≠ zWl j := fun q => h21 (by rw [q, w1])
      exact ⟨rfl, by rw [hzw, decide_eq_false eL]; rfl⟩
abbrev zXp (c k : Nat) : Prop := (129 ≤ c ∧ c ≤ 134) ∨ (c = 123 ∧ 13 ≤ k ∧ k ≤ 28)
theorem zXp.s {c k : Nat} (h : zXp c k) : zXs c k := by unfold zXp at h; unfold zXs; omega
theorem zXo.p {c k : Nat} (h : zXo c k) : zXp c k := by unfold zXo at h; unfold zXp; omega
def mEr (S T : zM) (r : Option zV) (f q : Nat) : Prop := r = some (zI 0) ∧ zK zXp S T ∧ zgI T 123 27 = nI f ∧ zgI T 123 28 = nI q
set_option maxRecDepth 20000 in
set_option maxHeartbeats 4000000 in
theorem n_errs {E : zE} {S : zM} {q f : Nat} (hM : zMs S) (ho : zgI S 123 23 = nI q) : zSp E 0 0 0 mX12_errs cX12_errs [zR 123, zI (nI f)] S (fun r T => mEr S T r f q) := by
  refine zSp.of (by decide) rfl (Nat.le_of_ble_eq_true rfl) rfl ?_
  refine j_aload_n (pc := 0) dX12_errs_0 rfl ?_
  refine j_iload_n (pc := 1) dX12_errs_1 rfl ?_
  refine j_putI (pc := 2) dX12_errs_2 f_X12_180 rfl hM.1 rfl ?_
  refine j_aload_n (pc := 5) dX12_errs_5 rfl ?_
  refine j_aload_n (pc := 6) dX12_errs_6 rfl ?_
  refine j_getIv (pc := 7) dX12_errs_7 f_X12_149 (Or.inl rfl) hM.1 ((zgI_nk (by decide)).trans ho) ?_
  refine j_putI (pc := 10) dX12_errs_10 f_X12_183 rfl hM.1 rfl ?_
  refine j_iconst (pc := 13) (v := 0) dX12_errs_13 (by decide) ?_
  refine j_zret (pc := 14) dX12_errs_14 rfl (by first | assumption | decide) ?_
  exact ⟨rfl, (zK.wI (by unfold zXp; omega)).tr (zK.wI (by unfold zXp; omega)), (zgI_nk (by decide)).trans zgI_self, zgI_self⟩
def mNm (S : zM) (N : List Int64) (K : List Bool) : Prop := zgI S 123 13 = nI N.length ∧ (K.length = N.length ∧ N.length ≤ 4) ∧ (∀ i x, N[i]? = some x → zgL S 129 i = x) ∧ ∀ i b, K[i]? = some b → zgI S 130 i = zbi b
theorem zfi_no {N : List Int64} {x : Int64} (h : ∀ (o : Nat) (y : Int64), N[o]? = some y → y ≠ x) : zco N x = -1 := by
  have : N.findIdx? (fun y => decide (y = x)) = none := List.findIdx?_eq_none_iff.mpr (fun y hy => decide_eq_false (by
    obtain ⟨o, ho⟩ := List.mem_iff_getElem?.mp hy
    exact h o y ho))
  rw [zco, this]
theorem zfi_at {N : List Int64} {x : Int64} {i : Nat} (hi : N[i]? = some x) (h : ∀ (o : Nat) (y : Int64), o < i → N[o]? = some y → y ≠ x) : zco N x = nI i := by
  obtain ⟨hl, e⟩ := List.getElem?_eq_some_iff.mp hi
  have : N.findIdx? (fun y => decide (y = x)) = some i := List.findIdx?_eq_some_iff_getElem.mpr ⟨hl, decide_eq_true e, fun j hj => by
    rw [decide_eq_true_iff]
    exact h j _ hj (List.getElem?_eq_getElem (by omega))⟩
  rw [zco, this]
set_option maxRecDepth 20000 in
set_option maxHeartbeats 4000000 in
theorem n_columnHere {E : zE} {S : zM} {X : List Nat} {k : zTo} {N : List Int64} {K : List Bool} (hM : zMs S) (hX : mTx S X) (ho : mTo S k) (hk : zTK X k) (h1 : k.2.1 = 1) (hN : mNm S N K) : zSp E 1 0 0 mX12_columnHere cX12_columnHere [zR 123] S (fun r T => S = T ∧ r = some (zI (zco N k.2.2.2))) := by
  refine zSp.of (by decide) rfl (Nat.le_of_ble_eq_true rfl) rfl ?_
  have h4 := hN.2.1.2
  have lp : ∀ (m i : Nat), i + m = N.length → (∀ o y, o < i → N[o]? = some y → y ≠ k.2.2.2) → zJ E 1 0 0 mX12_columnHere cX12_columnHere 2 [some (zR 123), some (zI (nI i))] [] S (fun r T => S = T ∧ r = some (zI (zco N k.2.2.2))) := by
    intro m
    induction m with
    | zero =>
      intro i hi hq
      refine j_iload_n (pc := 2) dX12_columnHere_2 rfl ?_
      refine j_aload_n (pc := 3) dX12_columnHere_3 rfl ?_
      refine j_getIv (pc := 4) dX12_columnHere_4 f_X12_188 (Or.inl rfl) hM.1 (hN.1) ?_
      refine j_icmp_ge (pc := 7) (tgt := 32) dX12_columnHere_7 (by decide) (fun h7 => ?_) (fun h7 => absurd (nI_le (show N.length ≤ i by omega) (by omega)) h7)
      refine j_iconst (pc := 32) (v := (-1)) dX12_columnHere_32 (by decide) ?_
      refine j_iret (pc := 33) dX12_columnHere_33 rfl ?_
      exact ⟨rfl, by rw [zfi_no (fun o y hy => hq o y (by have := (List.getElem?_eq_some_iff.mp hy).1; omega) hy)]⟩
    | succ m ih =>
      intro i hi hq
      refine j_iload_n (pc := 2) dX12_columnHere_2 rfl ?_
      refine j_aload_n (pc := 3) dX12_columnHere_3 rfl ?_
      refine j_getIv (pc := 4) dX12_columnHere_4 f_X12_188 (Or.inl rfl) hM.1 (hN.1) ?_
      refine j_icmp_ge (pc := 7) (tgt := 32) dX12_columnHere_7 (by decide) (fun h7 => absurd h7 (nI_ge (by omega) (by omega))) (fun h7 => ?_)
      have hxi : N[i]? = some (N.getD i 0) := gD 0 (show i < N.length by omega)
      refine j_aload_n (pc := 10) dX12_columnHere_10 rfl ?_
      refine j_getPv (pc := 11) dX12_columnHere_11 f_X12_32 (Or.inr ⟨_, rfl⟩) hM.1 (mp_readNames hM) ?_
      refine j_iload_n (pc := 14) dX12_columnHere_14 rfl ?_
      refine j_laldn (pc := 15) dX12_columnHere_15 (mk_readNames hM) (by omega) (Nat.le_of_ble_eq_true rfl) (hN.2.2.1 i _ hxi) ?_
      refine j_aload_n (pc := 16) dX12_columnHere_16 rfl ?_
      refine j_callV (pc := 17) (t := 12) (n_spelt hM hX ho hk h1) dX12_columnHere_17 l_X12_191 mk_X12_spelt mv_X12_spelt (by decide) rfl hM.1 (by decide) rfl rfl (Nat.le_of_ble_eq_true rfl) (Nat.le_refl _) (Nat.le_refl _) (fun r T h_1 => ?_)
      obtain ⟨rfl, rfl⟩ := h_1
      refine j_lcmp (pc := 20) dX12_columnHere_20 ?_
      refine j_if_ne (pc := 21) (tgt := 26) dX12_columnHere_21 (by decide) (fun h21 => ?_) (fun h21 => ?_)
      · refine j_iinc (pc := 26) (v := _ + 1) (ls' := [_, _]) dX12_columnHere_26 rfl rfl (by decide) rfl rfl ?_
        refine j_goto (pc := 29) (tgt := 2) dX12_columnHere_29 (by decide) ?_
        rw [nI_1]
        refine ih (i + 1) (by omega) (fun o y ho hy => ?_)
        by_cases e : o = i
        · rw [e, hxi] at hy
          cases hy
          exact fun q => h21 ((lg_cmp_eq _ _).mpr q)
        · exact hq o y (by omega) hy
      · refine j_iload_n (pc := 24) dX12_columnHere_24 rfl ?_
        refine j_iret (pc := 25) dX12_columnHere_25 rfl ?_
        exact ⟨rfl, by rw [zfi_at (i := i) (by rw [hxi, (lg_cmp_eq _ _).mp h21]) hq]⟩
  refine j_iconst (pc := 0) (v := 0) dX12_columnHere_0 (by decide) ?_
  refine j_istore_n (pc := 1) (ls' := [_, _]) dX12_columnHere_1 (by decide) rfl rfl ?_
  exact lp N.length 0 (by omega) (fun o y ho => absurd ho (Nat.not_lt_zero o))
