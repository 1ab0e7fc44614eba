/-! lacking, thrown of the model -/
theorem zlks_succ (t : zTB) (i : Nat) : zlks t (i + 1) = zlks t i ++ (if ((tW t).1 i && zlk (tK t).length ((tW t).2 i)) = true then [i] else []) := by
  unfold zlks
  rw [List.range_succ, List.filter_append]
  congr 1
  rw [List.filter_cons]
  split <;> rfl
theorem zlks_pre (t : zTB) (j : Nat) : ∀ d, ∃ L, zlks t (j + d) = zlks t j ++ L := by
  intro d
  induction d with
  | zero => exact ⟨[], (List.append_nil _).symm⟩
  | succ d ih =>
    obtain ⟨L, hL⟩ := ih
    exact ⟨_, by rw [← Nat.add_assoc, zlks_succ, hL, List.append_assoc]⟩
theorem zlks_at {t : zTB} {i : Nat} (hi : i < 64) (h : ((tW t).1 i && zlk (tK t).length ((tW t).2 i)) = true) : (zlks t 64)[(zlks t i).length]? = some i := by
  obtain ⟨L, hL⟩ := zlks_pre t (i + 1) (64 - (i + 1))
  rw [show i + 1 + (64 - (i + 1)) = 64 by omega, zlks_succ t i, if_pos h] at hL
  rw [hL, List.getElem?_append_left (by rw [List.length_append]; exact Nat.lt_succ_self _), List.getElem?_concat_length]
theorem zlks_le (t : zTB) (i : Nat) : (zlks t i).length ≤ i := by
  have := List.length_filter_le (fun id => (tW t).1 id && zlk (tK t).length ((tW t).2 id)) (List.range i)
  rwa [List.length_range] at this
set_option maxRecDepth 20000 in
set_option maxHeartbeats 4000000 in
theorem n_isLacking {E : zE} {S : zM} {s : zST} {t : zTB} {n i : Nat} (h : zMO S s) (hw : zWF n s) (ht : sT s = some t) (hi : i < 64) (hth : (tW t).1 i = true) : zSp E 2 0 0 mX12_isLacking cX12_isLacking [zR 123, zI (nI i)] S (fun r T => S = T ∧ r = some (zI (zbi (zlk (tK t).length ((tW t).2 i))))) := by
  refine zSp.of (by decide) rfl (Nat.le_of_ble_eq_true rfl) rfl ?_
  have hM := h.1
  have hv := hw.v ht
  have lp : ∀ (m c : Nat), c + m = (tK t).length → zlk c ((tW t).2 i) = false → zJ E 2 0 0 mX12_isLacking cX12_isLacking 2 [some (zR 123), some (zI (nI i)), some (zI (nI c))] [] S (fun r T => S = T ∧ r = some (zI (zbi (zlk (tK t).length ((tW t).2 i))))) := by
    intro m
    induction m with
    | zero =>
      intro c hc hq
      refine j_iload_n (pc := 2) dX12_isLacking_2 rfl ?_
      refine j_aload_n (pc := 3) dX12_isLacking_3 rfl ?_
      refine j_getIv (pc := 4) dX12_isLacking_4 f_X12_271 (Or.inl rfl) hM.1 ((h.2.2.2.2.1 t ht).1.1.1) ?_
      refine j_icmp_ge (pc := 7) (tgt := 35) dX12_isLacking_7 (by decide) (fun h7 => ?_) (fun h7 => absurd (nI_le (show (tK t).length ≤ c by omega) (by omega)) h7)
      refine j_iconst (pc := 35) (v := 0) dX12_isLacking_35 (by decide) ?_
      refine j_zret (pc := 36) dX12_isLacking_36 rfl (by first | assumption | decide) ?_
      have ec : c = (tK t).length := by omega
      rw [ec] at hq
      exact ⟨rfl, by rw [hq]; rfl⟩
    | succ m ih =>
      intro c hc hq
      refine j_iload_n (pc := 2) dX12_isLacking_2 rfl ?_
      refine j_aload_n (pc := 3) dX12_isLacking_3 rfl ?_
      refine j_getIv (pc := 4) dX12_isLacking_4 f_X12_271 (Or.inl rfl) hM.1 ((h.2.2.2.2.1 t ht).1.1.1) ?_
      refine j_icmp_ge (pc := 7) (tgt := 35) dX12_isLacking_7 (by decide) (fun h7 => absurd h7 (nI_ge (by omega) (by omega))) (fun h7 => ?_)
      refine j_aload_n (pc := 10) dX12_isLacking_10 rfl ?_
      refine j_aload_n (pc := 11) dX12_isLacking_11 rfl ?_
      refine j_getIv (pc := 12) dX12_isLacking_12 f_X12_277 (Or.inl rfl) hM.1 ((h.2.2.2.2.1 t ht).1.2.2.2.1.1) ?_
      refine j_iload_n (pc := 15) dX12_isLacking_15 rfl ?_
      refine j_iload_n (pc := 16) dX12_isLacking_16 rfl ?_
      refine j_callV (pc := 17) (t := 12) (n_valueThen h ht (Nat.le_refl _) (Nat.le_add_right _ _) (by omega) hi (show c < (tK t).length by omega) (by omega) hth) dX12_isLacking_17 l_X12_327 mk_X12_valueThen mv_X12_valueThen (by decide) rfl hM.1 (by decide) rfl rfl (Nat.le_of_ble_eq_true rfl) (Nat.le_refl _) (Nat.le_refl _) (fun r T h_1 => ?_)
      obtain ⟨rfl, rfl⟩ := h_1
      refine j_ldcL (pc := 20) dX12_isLacking_20 k_X12_229 ?_
      refine j_lcmp (pc := 23) dX12_isLacking_23 ?_
      refine j_if_ne (pc := 24) (tgt := 29) dX12_isLacking_24 (by decide) (fun h24 => ?_) (fun h24 => ?_)
      · refine j_iinc (pc := 29) (v := _ + 1) (ls' := [_, _, _]) dX12_isLacking_29 rfl rfl (by decide) rfl rfl ?_
        refine j_goto (pc := 32) (tgt := 2) dX12_isLacking_32 (by decide) ?_
        rw [nI_1]
        refine ih (c + 1) (by omega) ?_
        rw [zlk_succ, hq, decide_eq_false (fun q => h24 ((lg_cmp_eq _ _).mpr q))]
        rfl
      · refine j_iconst (pc := 27) (v := 1) dX12_isLacking_27 (by decide) ?_
        refine j_zret (pc := 28) dX12_isLacking_28 rfl (by first | assumption | decide) ?_
        exact ⟨rfl, by rw [zlk_hit (show c < (tK t).length by omega) ((lg_cmp_eq _ _).mp h24)]; rfl⟩
  refine j_iconst (pc := 0) (v := 0) dX12_isLacking_0 (by decide) ?_
  refine j_istore_n (pc := 1) (ls' := [_, _, _]) dX12_isLacking_1 (by decide) rfl rfl ?_
  exact lp (tK t).length 0 (by omega) rfl
set_option maxRecDepth 20000 in
set_option maxHeartbeats 4000000 in
theorem m_thrown {E : zE} {S : zM}  (hM : zMs S) : zSp E 0 0 0 mX12_thrown cX12_thrown [zR 123] S (fun r T => S = T ∧ r = some (zI (zgI S 123 0))) := by
  refine zSp.of (by decide) rfl (Nat.le_of_ble_eq_true rfl) rfl ?_
  refine j_aload_n (pc := 0) dX12_thrown_0 rfl ?_
  refine j_getIv (pc := 1) dX12_thrown_1 f_X12_126 (Or.inl rfl) hM.1 (rfl) ?_
  refine j_iret (pc := 4) dX12_thrown_4 rfl ?_
  exact ⟨rfl, rfl⟩
set_option maxRecDepth 20000 in
set_option maxHeartbeats 4000000 in
theorem m_lacking {E : zE} {S : zM} {s : zST} {n : Nat} (h : zMO S s) (hw : zWF n s) (x : Int32) : zSp E 3 0 0 mX12_lacking cX12_lacking [zR 123, zI x] S (fun r T => zMO T s ∧ zF zMX S T ∧ ∃ y, r = some (zI y) ∧ match q_lacking s x with | none => zgI T 123 0 = 1 | some z => zgI T 123 0 = 0 ∧ y = z) := by
  refine zSp.of (by decide) rfl (Nat.le_of_ble_eq_true rfl) rfl ?_
  have hM := h.1
  cases ht : sT s with
  | none =>
    have hto : zgI S 123 12 = 0 := by have := h.2.2.2.1.1; rw [ht] at this; exact this
    refine j_aload_n (pc := 0) dX12_lacking_0 rfl ?_
    refine j_iconst (pc := 1) (v := 0) dX12_lacking_1 (by decide) ?_
    refine j_putI (pc := 2) dX12_lacking_2 f_X12_126 rfl hM.1 rfl ?_
    refine j_iconst (pc := 5) (v := 0) dX12_lacking_5 (by decide) ?_
    refine j_istore_n (pc := 6) (ls' := [_, _, _, _]) dX12_lacking_6 (by decide) rfl rfl ?_
    refine j_iconst (pc := 7) (v := 0) dX12_lacking_7 (by decide) ?_
    refine j_istore_n (pc := 8) (ls' := [_, _, _, _]) dX12_lacking_8 (by decide) rfl rfl ?_
    refine j_aload_n (pc := 9) dX12_lacking_9 rfl ?_
    refine j_getIv (pc := 10) dX12_lacking_10 f_X12_296 (Or.inr rfl) hM.1 (hto) ?_
    refine j_if_eq (pc := 13) (tgt := 58) dX12_lacking_13 (by decide) (fun h13 => ?_) (fun h13 => absurd rfl h13)
    refine j_aload_n (pc := 58) dX12_lacking_58 rfl ?_
    refine j_iconst (pc := 59) (v := 1) dX12_lacking_59 (by decide) ?_
    refine j_putI (pc := 60) dX12_lacking_60 f_X12_126 rfl hM.1 rfl ?_
    refine j_iconst (pc := 63) (v := 0) dX12_lacking_63 (by decide) ?_
    refine j_iret (pc := 64) dX12_lacking_64 rfl ?_
    exact ⟨(h.th 0).th 1, (zF.wI (by decide)).tr (zF.wI (by decide)), 0, rfl, by rw [show q_lacking s x = none by rw [q_lacking, ht]]; exact zgI_self⟩
  | some t =>
    have hto : zgI S 123 12 = 1 := by have := h.2.2.2.1.1; rw [ht] at this; exact this
    have hv := hw.v ht
    have h0 : zMO (zwI S 123 0 0) s := h.th 0
    have lp : ∀ (m i : Nat), i + m = 64 → (∀ o, o < (zlks t i).length → nI o ≠ x) → zJ E 3 0 0 mX12_lacking cX12_lacking 9 [some (zR 123), some (zI x), some (zI (nI (zlks t i).length)), some (zI (nI i))] [] (zwI S 123 0 0) (fun r T => zMO T s ∧ zF zMX S T ∧ ∃ y, r = some (zI y) ∧ match q_lacking s x with | none => zgI T 123 0 = 1 | some z => zgI T 123 0 = 0 ∧ y = z) := by
      intro m
      induction m with
      | zero =>
        intro i hi hq
        refine j_aload_n (pc := 9) dX12_lacking_9 rfl ?_
        refine j_getIv (pc := 10) dX12_lacking_10 f_X12_296 (Or.inr rfl) h0.1.1 (hto) ?_
        refine j_if_eq (pc := 13) (tgt := 58) dX12_lacking_13 (by decide) (fun h13 => absurd h13 (by decide)) (fun h13 => ?_)
        refine j_iload_n (pc := 16) dX12_lacking_16 rfl ?_
        refine j_bipush (pc := 17) (v := 64) dX12_lacking_17 (by decide) ?_
        refine j_icmp_ge (pc := 19) (tgt := 58) dX12_lacking_19 (by decide) (fun h19 => ?_) (fun h19 => absurd (nI_le (a := 64) (show 64 ≤ i by omega) (by omega)) h19)
        refine j_aload_n (pc := 58) dX12_lacking_58 rfl ?_
        refine j_iconst (pc := 59) (v := 1) dX12_lacking_59 (by decide) ?_
        refine j_putI (pc := 60) dX12_lacking_60 f_X12_126 rfl h0.1.1 rfl ?_
        refine j_iconst (pc := 63) (v := 0) dX12_lacking_63 (by decide) ?_
        refine j_iret (pc := 64) dX12_lacking_64 rfl ?_
        have ei : i = 64 := by omega
        have eno : q_lacking s x = none := by
          simp only [q_lacking, ht]
          by_cases hx : x < 0
          · rw [if_pos hx]
          · rw [if_neg hx]
            obtain ⟨k, hk, rfl⟩ := nI_of hx
            rw [zn, nI_clamp hk, List.getElem?_eq_none]
            · rfl
            · rw [ei] at hq
              exact Nat.le_of_not_lt (fun z => hq k z rfl)
        exact ⟨h0.th 1, (zF.wI (by decide)).tr (zF.wI (by decide)), 0, rfl, by rw [eno]; exact zgI_self⟩
      | succ m ih =>
        intro i hi hq
        refine j_aload_n (pc := 9) dX12_lacking_9 rfl ?_
        refine j_getIv (pc := 10) dX12_lacking_10 f_X12_296 (Or.inr rfl) h0.1.1 (hto) ?_
        refine j_if_eq (pc := 13) (tgt := 58) dX12_lacking_13 (by decide) (fun h13 => absurd h13 (by decide)) (fun h13 => ?_)
        refine j_iload_n (pc := 16) dX12_lacking_16 rfl ?_
        refine j_bipush (pc := 17) (v := 64) dX12_lacking_17 (by decide) ?_
        refine j_icmp_ge (pc := 19) (tgt := 58) dX12_lacking_19 (by decide) (fun h19 => absurd h19 (nI_ge (b := 64) (show i < 64 by omega) (by decide))) (fun h19 => ?_)
        refine j_aload_n (pc := 22) dX12_lacking_22 rfl ?_
        refine j_aload_n (pc := 23) dX12_lacking_23 rfl ?_
        refine j_getIv (pc := 24) dX12_lacking_24 f_X12_277 (Or.inl rfl) h0.1.1 ((h0.2.2.2.2.1 t ht).1.2.2.2.1.1) ?_
        refine j_iload_n (pc := 27) dX12_lacking_27 rfl ?_
        refine j_callV (pc := 28) (t := 12) (n_isThen h0 ht (Nat.le_refl _) (Nat.le_add_right _ _) (by omega) (nI i)) dX12_lacking_28 l_X12_305 mk_X12_isThen mv_X12_isThen (by decide) rfl h0.1.1 (by decide) rfl rfl (Nat.le_of_ble_eq_true rfl) (Nat.le_refl _) (Nat.le_refl _) (fun r T h_1 => ?_)
        obtain ⟨rfl, rfl⟩ := h_1
        rw [zth_nI _ (show i < 64 by omega)]
        refine j_if_eq (pc := 31) (tgt := 52) dX12_lacking_31 (by decide) (fun h31 => ?_) (fun h31 => ?_)
        · refine j_iinc (pc := 52) (v := _ + 1) (ls' := [_, _, _, _]) dX12_lacking_52 rfl rfl (by decide) rfl rfl ?_
          refine j_goto (pc := 55) (tgt := 9) dX12_lacking_55 (by decide) ?_
          rw [nI_1]
          have es : zlks t (i + 1) = zlks t i := by rw [zlks_succ, if_neg (by rw [zbi_eq0.mp h31, Bool.false_and]; decide), List.append_nil]
          have := ih (i + 1) (by omega) (by rw [es]; exact hq)
          rwa [es] at this
        · refine j_aload_n (pc := 34) dX12_lacking_34 rfl ?_
          refine j_iload_n (pc := 35) dX12_lacking_35 rfl ?_
          refine j_callV (pc := 36) (t := 12) (n_isLacking h0 hw ht (show i < 64 by omega) (zbi_ne0 h31)) dX12_lacking_36 l_X12_461 mk_X12_isLacking mv_X12_isLacking (by decide) rfl h0.1.1 (by decide) rfl rfl (Nat.le_of_ble_eq_true rfl) (Nat.le_refl _) (Nat.le_refl _) (fun r T h_1 => ?_)
          obtain ⟨rfl, rfl⟩ := h_1
          refine j_if_eq (pc := 39) (tgt := 52) dX12_lacking_39 (by decide) (fun h39 => ?_) (fun h39 => ?_)
          · refine j_iinc (pc := 52) (v := _ + 1) (ls' := [_, _, _, _]) dX12_lacking_52 rfl rfl (by decide) rfl rfl ?_
            refine j_goto (pc := 55) (tgt := 9) dX12_lacking_55 (by decide) ?_
            rw [nI_1]
            have es : zlks t (i + 1) = zlks t i := by rw [zlks_succ, if_neg (by rw [zbi_eq0.mp h39, Bool.and_false]; decide), List.append_nil]
            have := ih (i + 1) (by omega) (by rw [es]; exact hq)
            rwa [es] at this
          · refine j_iload_n (pc := 42) dX12_lacking_42 rfl ?_
            refine j_iload_n (pc := 43) dX12_lacking_43 rfl ?_
            refine j_icmp_ne (pc := 44) (tgt := 49) dX12_lacking_44 (by decide) (fun h44 => ?_) (fun h44 => ?_)
            · refine j_iinc (pc := 49) (v := _ + 1) (ls' := [_, _, _, _]) dX12_lacking_49 rfl rfl (by decide) rfl rfl ?_
              refine j_iinc (pc := 52) (v := _ + 1) (ls' := [_, _, _, _]) dX12_lacking_52 rfl rfl (by decide) rfl rfl ?_
              refine j_goto (pc := 55) (tgt := 9) dX12_lacking_55 (by decide) ?_
              rw [nI_1, nI_1]
              have hl : ((tW t).1 i && zlk (tK t).length ((tW t).2 i)) = true := by rw [zbi_ne0 h31, zbi_ne0 h39]; rfl
              have es : zlks t (i + 1) = zlks t i ++ [i] := by rw [zlks_succ, if_pos hl]
              have el : (zlks t (i + 1)).length = (zlks t i).length + 1 := by rw [es, List.length_append]; rfl
              have := ih (i + 1) (by omega) (by
                intro o ho
                rw [el] at ho
                by_cases e : o = (zlks t i).length
                · rw [e]
                  exact h44
                · exact hq o (by omega))
              rwa [el] at this
            · refine j_iload_n (pc := 47) dX12_lacking_47 rfl ?_
              refine j_iret (pc := 48) dX12_lacking_48 rfl ?_
              have hl : ((tW t).1 i && zlk (tK t).length ((tW t).2 i)) = true := by rw [zbi_ne0 h31, zbi_ne0 h39]; rfl
              have ey : q_lacking s x = some (nI i) := by
                simp only [q_lacking, ht]
                have hle := zlks_le t i
                rw [← h44, if_neg (nI_pos (by omega)), zn, nI_clamp (by omega), zlks_at (by omega) hl]
                rfl
              exact ⟨h0, zF.wI (by decide), nI i, rfl, by rw [ey]; exact ⟨zgI_self, rfl⟩⟩
    refine j_aload_n (pc := 0) dX12_lacking_0 rfl ?_
    refine j_iconst (pc := 1) (v := 0) dX12_lacking_1 (by decide) ?_
    refine j_putI (pc := 2) dX12_lacking_2 f_X12_126 rfl hM.1 rfl ?_
    refine j_iconst (pc := 5) (v := 0) dX12_lacking_5 (by decide) ?_
    refine j_istore_n (pc := 6) (ls' := [_, _, _, _]) dX12_lacking_6 (by decide) rfl rfl ?_
    refine j_iconst (pc := 7) (v := 0) dX12_lacking_7 (by decide) ?_
    refine j_istore_n (pc := 8) (ls' := [_, _, _, _]) dX12_lacking_8 (by decide) rfl rfl ?_
    exact lp 64 0 rfl (fun o ho => absurd ho (Nat.not_lt_zero o))
