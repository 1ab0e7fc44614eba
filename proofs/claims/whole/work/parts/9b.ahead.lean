/-! where a mark falls among the rows in order -/
theorem zTW_lo {pr : Nat → Bool} : ∀ {B : List Nat} {i x : Nat}, i < (B.takeWhile pr).length → B[i]? = some x → pr x = true
  | [], i, x, h, _ => absurd h (Nat.not_lt_zero i)
  | a :: B, i, x, h, hx => by
    by_cases ha : pr a = true
    · rw [List.takeWhile_cons_of_pos ha, List.length_cons] at h
      cases i with
      | zero => simp at hx; rw [← hx]; exact ha
      | succ i => exact zTW_lo (B := B) (Nat.lt_of_succ_lt_succ h) (by simpa using hx)
    · rw [List.takeWhile_cons_of_neg ha] at h
      exact absurd h (Nat.not_lt_zero i)
theorem zTW_hi {pr : Nat → Bool} : ∀ {B : List Nat} {x : Nat}, B[(B.takeWhile pr).length]? = some x → pr x = false
  | [], x, hx => by simp at hx
  | a :: B, x, hx => by
    by_cases ha : pr a = true
    · rw [List.takeWhile_cons_of_pos ha, List.length_cons] at hx
      exact zTW_hi (B := B) (by simpa using hx)
    · rw [List.takeWhile_cons_of_neg ha] at hx
      simp at hx
      rw [← hx]
      exact Bool.eq_false_iff.mpr ha
theorem zlf_le {O : List zOe} {V : List zSe} {t : zRW} {F : List Nat} : zlf O V t F ≤ (zBB O V t).length := zTW_le _ _
theorem zlg_le {O : List zOe} {V : List zSe} {t : zRW} {F : List Nat} : zlg O V t F ≤ (zBB O V t).length := zTW_le _ _
theorem zlf_lo {O : List zOe} {V : List zSe} {t : zRW} {F : List Nat} {i x : Nat} (hx : (zBB O V t)[i]? = some x) (hi : i < zlf O V t F) : zkl (zkf O t x) F = true := zTW_lo hi hx
theorem zlf_hi {O : List zOe} {V : List zSe} {t : zRW} {F : List Nat} {i x : Nat} (hx : (zBB O V t)[i]? = some x) (hi : zlf O V t F ≤ i) : zkl (zkf O t x) F = false := by
  have hil := (List.getElem?_eq_some_iff.mp hx).1
  obtain ⟨y, hy⟩ : ∃ y, (zBB O V t)[zlf O V t F]? = some y := ⟨_, List.getElem?_eq_getElem (Nat.lt_of_le_of_lt hi hil)⟩
  have h1 : zkl (zkf O t y) F = false := zTW_hi (pr := fun x => zkl (zkf O t x) F) hy
  by_cases e : zlf O V t F = i
  · rw [e] at hy
    rw [hy] at hx
    cases hx
    exact h1
  · have h2 := zSo_lt (zBB_so O V t) (show zlf O V t F < i by omega) hy hx
    by_cases h3 : zkl (zkf O t x) F = true
    · rw [zkl_tr _ _ _ h2 h3] at h1
      cases h1
    · exact Bool.eq_false_iff.mpr h3
theorem zlg_lo {O : List zOe} {V : List zSe} {t : zRW} {F : List Nat} {i x : Nat} (hx : (zBB O V t)[i]? = some x) (hi : i < zlg O V t F) : zkl F (zkf O t x) = false := by
  have := zTW_lo (pr := fun x => !zkl F (zkf O t x)) hi hx
  exact Bool.not_eq_true' _ ▸ this
theorem zlg_hi {O : List zOe} {V : List zSe} {t : zRW} {F : List Nat} {i x : Nat} (hx : (zBB O V t)[i]? = some x) (hi : zlg O V t F ≤ i) : zkl F (zkf O t x) = true := by
  have hil := (List.getElem?_eq_some_iff.mp hx).1
  obtain ⟨y, hy⟩ : ∃ y, (zBB O V t)[zlg O V t F]? = some y := ⟨_, List.getElem?_eq_getElem (Nat.lt_of_le_of_lt hi hil)⟩
  have h1 : (!zkl F (zkf O t y)) = false := zTW_hi (pr := fun x => !zkl F (zkf O t x)) hy
  rw [Bool.not_eq_false'] at h1
  by_cases e : zlg O V t F = i
  · rw [e] at hy
    rw [hy] at hx
    cases hx
    exact h1
  · exact zkl_tr _ _ _ h1 (zSo_lt (zBB_so O V t) (show zlg O V t F < i by omega) hy hx)
theorem zlf_at {O : List zOe} {V : List zSe} {t : zRW} {i x : Nat} (hx : (zBB O V t)[i]? = some x) : zlf O V t (zkf O t x) = i := zTW_at (fun j y hj hy => zSo_lt (zBB_so O V t) hj hy hx) hx (by rw [zkl_irr]; decide)
theorem zlg_at {O : List zOe} {V : List zSe} {t : zRW} {i x : Nat} (hx : (zBB O V t)[i]? = some x) : zlg O V t (zkf O t x) = i + 1 := by
  have hil := (List.getElem?_eq_some_iff.mp hx).1
  have hq : ∀ j y, j < i + 1 → (zBB O V t)[j]? = some y → (!zkl (zkf O t x) (zkf O t y)) = true := by
    intro j y hj hy
    by_cases e : j = i
    · rw [e, hx] at hy
      cases hy
      rw [zkl_irr]
      rfl
    · rw [zkl_asym _ _ (zSo_lt (zBB_so O V t) (show j < i by omega) hy hx)]
      rfl
  by_cases hl : i + 1 < (zBB O V t).length
  · have hy : (zBB O V t)[i + 1]? = some (zBB O V t)[i + 1] := List.getElem?_eq_getElem hl
    refine zTW_at hq hy ?_
    rw [zSo_lt (zBB_so O V t) (Nat.lt_succ_self i) hx hy]
    decide
  · have e : i + 1 = (zBB O V t).length := by omega
    rw [e]
    exact zTW_all (fun j y hj hy => hq j y (by omega) hy)
theorem zBB_mem {O : List zOe} {V : List zSe} {t : zRW} {x : Nat} : x ∈ zBB O V t ↔ x < 64 ∧ t.1 x = true ∧ zpf V t x = true := by
  unfold zBB
  rw [List.mem_filter, zsr_mem]
  exact ⟨fun h => ⟨h.1.1, h.1.2, h.2⟩, fun h => ⟨⟨h.1, h.2.1⟩, h.2.2⟩⟩
theorem zct_lo {p : Nat → Bool} {A : List Nat} {n : Nat} (hn : n ≤ A.length) (h1 : ∀ i x, A[i]? = some x → i < n → p x = true) (h2 : ∀ i x, A[i]? = some x → n ≤ i → p x = false) : A.countP p = n := by
  have e : A.countP p = (A.take n).countP p + (A.drop n).countP p := by rw [← List.countP_append, List.take_append_drop]
  have e1 : (A.take n).countP p = (A.take n).length := List.countP_eq_length.mpr (fun x hx => by
    obtain ⟨i, hi⟩ := List.getElem?_of_mem hx
    have hlt : i < (A.take n).length := (List.getElem?_eq_some_iff.mp hi).1
    rw [List.length_take] at hlt
    rw [List.getElem?_take_of_lt (by omega)] at hi
    exact h1 i x hi (by omega))
  have e2 : (A.drop n).countP p = 0 := List.countP_eq_zero.mpr (fun x hx => by
    obtain ⟨i, hi⟩ := List.getElem?_of_mem hx
    rw [List.getElem?_drop] at hi
    rw [h2 (n + i) x hi (by omega)]
    decide)
  rw [List.length_take] at e1
  omega
theorem zct_hi {p : Nat → Bool} {A : List Nat} {n : Nat} (hn : n ≤ A.length) (h1 : ∀ i x, A[i]? = some x → i < n → p x = false) (h2 : ∀ i x, A[i]? = some x → n ≤ i → p x = true) : A.countP p = A.length - n := by
  have e : A.countP p = (A.take n).countP p + (A.drop n).countP p := by rw [← List.countP_append, List.take_append_drop]
  have e1 : (A.drop n).countP p = (A.drop n).length := List.countP_eq_length.mpr (fun x hx => by
    obtain ⟨i, hi⟩ := List.getElem?_of_mem hx
    rw [List.getElem?_drop] at hi
    exact h2 (n + i) x hi (by omega))
  have e2 : (A.take n).countP p = 0 := List.countP_eq_zero.mpr (fun x hx => by
    obtain ⟨i, hi⟩ := List.getElem?_of_mem hx
    have hlt : i < (A.take n).length := (List.getElem?_eq_some_iff.mp hi).1
    rw [List.length_take] at hlt
    rw [List.getElem?_take_of_lt (by omega)] at hi
    rw [h1 i x hi (by omega)]
    decide)
  rw [List.length_drop] at e1
  omega
/-- how many of those that pass are on a side of a mark -/
def zca (O : List zOe) (V : List zSe) (t : zRW) (F : List Nat) (up : Bool) (n : Nat) : Nat := fb_ct (fun o => (t.1 o && zpf V t o) && (if up then zkl F (zkf O t o) else zkl (zkf O t o) F)) n
theorem zca_ct {O : List zOe} {V : List zSe} {t : zRW} {F : List Nat} (c : Nat → Bool) : fb_ct (fun o => (t.1 o && zpf V t o) && c o) 64 = (zBB O V t).countP c := by
  have e : (fun o => (t.1 o && zpf V t o) && c o) = fun o => t.1 o && (c o && zpf V t o) := by
    funext o
    cases t.1 o <;> cases c o <;> cases zpf V t o <;> rfl
  rw [zBB, List.countP_filter, e, ← zsr_ct (kf := zkf O t)]
theorem zca_lo {O : List zOe} {V : List zSe} {t : zRW} {F : List Nat} : zca O V t F false 64 = zlf O V t F := by
  show fb_ct (fun o => (t.1 o && zpf V t o) && zkl (zkf O t o) F) 64 = _
  rw [zca_ct (F := F) (O := O)]
  exact zct_lo zlf_le (fun i x hx hi => zlf_lo hx hi) (fun i x hx hi => zlf_hi hx hi)
theorem zca_hi {O : List zOe} {V : List zSe} {t : zRW} {F : List Nat} : zca O V t F true 64 = (zBB O V t).length - zlg O V t F := by
  show fb_ct (fun o => (t.1 o && zpf V t o) && zkl F (zkf O t o)) 64 = _
  rw [zca_ct (F := F) (O := O)]
  exact zct_hi zlg_le (fun i x hx hi => zlg_lo hx hi) (fun i x hx hi => zlg_hi hx hi)
set_option maxRecDepth 20000 in
set_option maxHeartbeats 4000000 in
theorem n_countAhead {E : zE} {S : zM} {s : zST} {t : zTB} {n u : Nat} {F : List Nat} (h : zMO S s) (hw : zWF n s) (ht : sT s = some t) (hu1 : u ≤ tv t) (hu2 : tv t ≤ u + 40) (hm : mM S F) (hF42 : F.length ≤ 42) (hFb : ∀ b ∈ F, b < 256) (up : Bool) : zSp E 3 0 0 mX12_countAhead cX12_countAhead [zR 123, zI (nI u), zI (zbi up)] S (fun r T => zK zXk S T ∧ r = some (zI (nI (zca (tO t) (tV t) (tH t u) F up 64)))) := by
  refine zSp.of (by decide) rfl (Nat.le_of_ble_eq_true rfl) rfl ?_
  have hM := h.1
  have hv := hw.v ht
  have lp : ∀ (m o : Nat) (T : zM), o + m = 64 → zK zXk S T → mM T F → zJ E 3 0 0 mX12_countAhead cX12_countAhead 5 [some (zR 123), some (zI (nI u)), some (zI (zbi up)), some (zI (nI (zca (tO t) (tV t) (tH t u) F up o))), some (zI (nI o))] [] T (fun r T => zK zXk S T ∧ r = some (zI (nI (zca (tO t) (tV t) (tH t u) F up 64)))) := by
    intro m
    induction m with
    | zero =>
      intro o T ho hk hm
      have eo : o = 64 := by omega
      subst eo
      refine j_iload (pc := 5) dX12_countAhead_5 rfl ?_
      refine j_bipush (pc := 7) (v := 64) dX12_countAhead_7 (by decide) ?_
      refine j_icmp_ge (pc := 9) (tgt := 64) dX12_countAhead_9 (by decide) (fun h9 => ?_) (fun h9 => absurd (nI_le (a := 64) (Nat.le_refl _) (by decide)) h9)
      refine j_iload_n (pc := 64) dX12_countAhead_64 rfl ?_
      refine j_iret (pc := 65) dX12_countAhead_65 rfl ?_
      exact ⟨hk, rfl⟩
    | succ m ih =>
      intro o T ho hk hm
      have hT := h.scr hk (fun c k z => zXk.s z)
      have hMT := hT.1
      refine j_iload (pc := 5) dX12_countAhead_5 rfl ?_
      refine j_bipush (pc := 7) (v := 64) dX12_countAhead_7 (by decide) ?_
      refine j_icmp_ge (pc := 9) (tgt := 64) dX12_countAhead_9 (by decide) (fun h9 => absurd h9 (nI_ge (b := 64) (by omega) (by decide))) (fun h9 => ?_)
      refine j_aload_n (pc := 12) dX12_countAhead_12 rfl ?_
      refine j_iload_n (pc := 13) dX12_countAhead_13 rfl ?_
      refine j_iload (pc := 14) dX12_countAhead_14 rfl ?_
      refine j_callV (pc := 16) (t := 12) (n_doesPass hT hw ht hu1 hu2 (show o < 64 by omega)) dX12_countAhead_16 l_X12_385 mk_X12_doesPass mv_X12_doesPass (by decide) rfl hMT.1 (by decide) rfl rfl (Nat.le_of_ble_eq_true rfl) (Nat.le_refl _) (Nat.le_refl _) (fun r T1 h_1 => ?_)
      obtain ⟨rfl, rfl⟩ := h_1
      rw [zth_nI _ (by omega)]
      refine j_if_eq (pc := 19) (tgt := 58) dX12_countAhead_19 (by decide) (fun h19 => ?_) (fun h19 => ?_)
      · refine j_iinc (pc := 58) (v := _ + 1) (ls' := [_, _, _, _, _]) dX12_countAhead_58 rfl rfl (by decide) rfl rfl ?_
        refine j_goto (pc := 61) (tgt := 5) dX12_countAhead_61 (by decide) ?_
        rw [nI_1]
        have := ih (o + 1) T (by omega) hk hm
        rwa [show (zca (tO t) (tV t) (tH t u) F up (o + 1)) = (zca (tO t) (tV t) (tH t u) F up o) by rw [zca, fb_ct_succ, zbi_eq0.mp h19]; rfl] at this
      · refine j_aload_n (pc := 22) dX12_countAhead_22 rfl ?_
        refine j_iload_n (pc := 23) dX12_countAhead_23 rfl ?_
        refine j_iload (pc := 24) dX12_countAhead_24 rfl ?_
        refine j_callV (pc := 26) (t := 12) (n_laysKey hT hw ht hu1 hu2 (show o < 64 by omega) (Bool.and_eq_true _ _ ▸ zbi_ne0 h19).1) dX12_countAhead_26 l_X12_351 mk_X12_laysKey mv_X12_laysKey (by decide) rfl hMT.1 (by decide) rfl rfl (Nat.le_of_ble_eq_true rfl) (Nat.le_refl _) (Nat.le_refl _) (fun r T2 h_1 => ?_)
        obtain ⟨rfl, k1, l1⟩ := h_1
        have mT2 := k1.ms hMT
        have hm2 := hm.k k1 (by unfold zXk; omega) (fun k => by unfold zXk; omega)
        refine j_iload_n (pc := 29) dX12_countAhead_29 rfl ?_
        refine j_iload_n (pc := 30) dX12_countAhead_30 rfl ?_
        refine j_if_eq (pc := 31) (tgt := 44) dX12_countAhead_31 (by decide) (fun h31 => ?_) (fun h31 => ?_)
        · refine j_aload_n (pc := 44) dX12_countAhead_44 rfl ?_
          refine j_callV (pc := 45) (t := 12) (n_compared mT2 l1 hm2 (Nat.le_trans (zkf_len hv.2.2.2.1) (by decide)) hF42 zkf_b hFb) dX12_countAhead_45 l_X12_358 mk_X12_compared mv_X12_compared (by decide) rfl mT2.1 (by decide) rfl rfl (Nat.le_of_ble_eq_true rfl) (Nat.le_refl _) (Nat.le_refl _) (fun r T4 h_1 => ?_)
          obtain ⟨rfl, x, rfl, hx⟩ := h_1
          refine j_if_ge (pc := 48) (tgt := 55) dX12_countAhead_48 (by decide) (fun h48 => ?_) (fun h48 => ?_)
          · refine j_iconst (pc := 55) (v := 0) dX12_countAhead_55 (by decide) ?_
            refine j_iadd (pc := 56) dX12_countAhead_56 ?_
            refine j_istore_n (pc := 57) (ls' := [_, _, _, _, _]) dX12_countAhead_57 (by decide) rfl rfl ?_
            refine j_iinc (pc := 58) (v := _ + 1) (ls' := [_, _, _, _, _]) dX12_countAhead_58 rfl rfl (by decide) rfl rfl ?_
            refine j_goto (pc := 61) (tgt := 5) dX12_countAhead_61 (by decide) ?_
            rw [nI_1, show nI (zca (tO t) (tV t) (tH t u) F up o) + 0 = nI (zca (tO t) (tV t) (tH t u) F up o) from nI_add _ 0]
            have := ih (o + 1) T2 (by omega) (hk.tr k1) hm2
            rwa [show (zca (tO t) (tV t) (tH t u) F up (o + 1)) = (zca (tO t) (tV t) (tH t u) F up o) by rw [zca, fb_ct_succ, zbi_ne0 h19, zbi_eq0.mp h31, if_neg Bool.false_ne_true, hx.e0.1.mp (Int32.not_lt.mpr h48)]; rfl] at this
          · refine j_iconst (pc := 51) (v := 1) dX12_countAhead_51 (by decide) ?_
            refine j_goto (pc := 52) (tgt := 56) dX12_countAhead_52 (by decide) ?_
            refine j_iadd (pc := 56) dX12_countAhead_56 ?_
            refine j_istore_n (pc := 57) (ls' := [_, _, _, _, _]) dX12_countAhead_57 (by decide) rfl rfl ?_
            refine j_iinc (pc := 58) (v := _ + 1) (ls' := [_, _, _, _, _]) dX12_countAhead_58 rfl rfl (by decide) rfl rfl ?_
            refine j_goto (pc := 61) (tgt := 5) dX12_countAhead_61 (by decide) ?_
            rw [nI_1, nI_1]
            have := ih (o + 1) T2 (by omega) (hk.tr k1) hm2
            rwa [show (zca (tO t) (tV t) (tH t u) F up (o + 1)) = (zca (tO t) (tV t) (tH t u) F up o) + 1 by rw [zca, fb_ct_succ, zbi_ne0 h19, zbi_eq0.mp h31, if_neg Bool.false_ne_true, hx.1.mp (Int32.not_le.mp h48)]; rfl] at this
        · refine j_aload_n (pc := 34) dX12_countAhead_34 rfl ?_
          refine j_callV (pc := 35) (t := 12) (n_compared mT2 l1 hm2 (Nat.le_trans (zkf_len hv.2.2.2.1) (by decide)) hF42 zkf_b hFb) dX12_countAhead_35 l_X12_358 mk_X12_compared mv_X12_compared (by decide) rfl mT2.1 (by decide) rfl rfl (Nat.le_of_ble_eq_true rfl) (Nat.le_refl _) (Nat.le_refl _) (fun r T3 h_1 => ?_)
          obtain ⟨rfl, x, rfl, hx⟩ := h_1
          refine j_if_le (pc := 38) (tgt := 55) dX12_countAhead_38 (by decide) (fun h38 => ?_) (fun h38 => ?_)
          · refine j_iconst (pc := 55) (v := 0) dX12_countAhead_55 (by decide) ?_
            refine j_iadd (pc := 56) dX12_countAhead_56 ?_
            refine j_istore_n (pc := 57) (ls' := [_, _, _, _, _]) dX12_countAhead_57 (by decide) rfl rfl ?_
            refine j_iinc (pc := 58) (v := _ + 1) (ls' := [_, _, _, _, _]) dX12_countAhead_58 rfl rfl (by decide) rfl rfl ?_
            refine j_goto (pc := 61) (tgt := 5) dX12_countAhead_61 (by decide) ?_
            rw [nI_1, show nI (zca (tO t) (tV t) (tH t u) F up o) + 0 = nI (zca (tO t) (tV t) (tH t u) F up o) from nI_add _ 0]
            have := ih (o + 1) T2 (by omega) (hk.tr k1) hm2
            rwa [show (zca (tO t) (tV t) (tH t u) F up (o + 1)) = (zca (tO t) (tV t) (tH t u) F up o) by rw [zca, fb_ct_succ, zbi_ne0 h19, zbi_ne0 h31, if_pos rfl, hx.e0.2.mp (Int32.not_lt.mpr h38)]; rfl] at this
          · refine j_goto (pc := 41) (tgt := 51) dX12_countAhead_41 (by decide) ?_
            refine j_iconst (pc := 51) (v := 1) dX12_countAhead_51 (by decide) ?_
            refine j_goto (pc := 52) (tgt := 56) dX12_countAhead_52 (by decide) ?_
            refine j_iadd (pc := 56) dX12_countAhead_56 ?_
            refine j_istore_n (pc := 57) (ls' := [_, _, _, _, _]) dX12_countAhead_57 (by decide) rfl rfl ?_
            refine j_iinc (pc := 58) (v := _ + 1) (ls' := [_, _, _, _, _]) dX12_countAhead_58 rfl rfl (by decide) rfl rfl ?_
            refine j_goto (pc := 61) (tgt := 5) dX12_countAhead_61 (by decide) ?_
            rw [nI_1, nI_1]
            have := ih (o + 1) T2 (by omega) (hk.tr k1) hm2
            rwa [show (zca (tO t) (tV t) (tH t u) F up (o + 1)) = (zca (tO t) (tV t) (tH t u) F up o) + 1 by rw [zca, fb_ct_succ, zbi_ne0 h19, zbi_ne0 h31, if_pos rfl, hx.2.mp (Int32.not_le.mp h38)]; rfl] at this
  refine j_iconst (pc := 0) (v := 0) dX12_countAhead_0 (by decide) ?_
  refine j_istore_n (pc := 1) (ls' := [_, _, _, _, _]) dX12_countAhead_1 (by decide) rfl rfl ?_
  refine j_iconst (pc := 2) (v := 0) dX12_countAhead_2 (by decide) ?_
  refine j_istore (pc := 3) (ls' := [_, _, _, _, _]) dX12_countAhead_3 (by decide) rfl rfl ?_
  exact lp 64 0 S (by omega) zK.rf hm
