/-! the rows of a view that pass, in order -/
def zBB (O : List zOe) (V : List zSe) (t : zRW) : List Nat := (zsr (zkf O t) t.1 64).filter (zpf V t)
theorem zBB_so (O : List zOe) (V : List zSe) (t : zRW) : zSo (zkf O t) (zBB O V t) := (zsr_so (fun x y hx hy e => zkey_inj hx hy e) (Nat.le_refl _)).filter _
theorem zBB_64 {O : List zOe} {V : List zSe} {t : zRW} {x : Nat} (h : x ∈ zBB O V t) : x < 64 := (zsr_mem.mp (List.mem_filter.mp h).1).1
theorem zVC.six {S T : zM} {O : List zOe} {V : List zSe} {t : zRW} (h : zVC S O V t) (f : zF (fun c => c = 6) S T) (g : ∀ k, k ≠ 6 → k ≠ 7 → zgI T 6 k = zgI S 6 k) : zVC T O V t := by
  obtain ⟨q, gv, h0, hR, h1, h2⟩ := h
  have ha : ∀ c, c ≠ 6 → zAg S T c := fun c hc => f.ag hc
  have q12 : ∀ k, k < 40 → 12 ≤ q k := fun k hk => by obtain ⟨-, ⟨j, hj, e⟩, -⟩ := h0.2.1 k hk; omega
  refine ⟨q, gv, ⟨by rw [f.1, f.2.2.1]; exact h0.1, fun k hk => ⟨by rw [f.2.2.1]; exact (h0.2.1 k hk).1, (h0.2.1 k hk).2.1, ?_⟩, h0.2.2⟩, hR.ag (fun k hk => ha _ (by omega)), ⟨(g 4 (by decide) (by decide)).trans h1.1, h1.2.1, fun k y hy => ⟨((ha 10 (by decide)).2.1 k).trans (h1.2.2 k y hy).1, (h1.2.2 k y hy).2.1, ?_⟩⟩, (g 5 (by decide) (by decide)).trans h2.1, fun k i hi => ((ha 92 (by decide)).2.1 k).trans (h2.2 k i hi)⟩
  · obtain ⟨-, -, L, hL⟩ := h0.2.1 k hk
    have := q12 k hk
    exact ⟨L, hL.ag (ha _ (by omega)) (ha _ (by omega))⟩
  · have hk40 : k < 40 := Nat.lt_of_lt_of_le (List.getElem?_eq_some_iff.mp hy).1 h1.2.1
    have := q12 k hk40
    exact (h1.2.2 k y hy).2.2.ag (ha _ (by omega)) (ha _ (by omega))
theorem zVC.len {S : zM} {O : List zOe} {V : List zSe} {t : zRW} (h : zVC S O V t) : zgI S 6 5 = nI (zBB O V t).length ∧ (zBB O V t).length ≤ 40 := by
  obtain ⟨q, gv, h0, hR, h1, h2⟩ := h
  refine ⟨by rw [h2.1, zpi_len]; rfl, Nat.le_trans (List.length_filter_le _ _) h1.2.1⟩
theorem zVC.get {S : zM} {O : List zOe} {V : List zSe} {t : zRW} (h : zVC S O V t) {k x : Nat} (hx : (zBB O V t)[k]? = some x) : ∃ i c, i < 40 ∧ zgI S 92 k = nI i ∧ zgI S 10 i = nI x ∧ zgP S 11 i = c ∧ 12 ≤ c ∧ c ≤ 90 ∧ zBy S c (c + 1) 34 (zkf O t x) := by
  obtain ⟨q, gv, h0, hR, h1, h2⟩ := h
  obtain ⟨i, hi, hA⟩ := zpi_get hx
  have hlt : i < 40 := Nat.lt_of_lt_of_le (List.getElem?_eq_some_iff.mp hA).1 h1.2.1
  obtain ⟨e1, ⟨j, hj, e2⟩, -⟩ := h0.2.1 i hlt
  obtain ⟨g1, g2, g3⟩ := h1.2.2 i x hA
  exact ⟨i, q i, hlt, h2.2 k i hi, g1, e1, by omega, by omega, g3⟩
theorem zVC.sh {S : zM} {O : List zOe} {V : List zSe} {t : zRW} (h : zVC S O V t) : zkd S 6 = (11, 0) ∧ zkd S 10 = (14, 40) ∧ zkd S 11 = (17, 40) ∧ zkd S 92 = (14, 40) ∧ zgP S 6 0 = 7 ∧ zgP S 6 1 = 10 ∧ zgP S 6 2 = 11 ∧ zgP S 6 3 = 92 := by
  obtain ⟨q, gv, h0, -⟩ := h
  exact h0.1
set_option maxRecDepth 20000 in
set_option maxHeartbeats 4000000 in
theorem c_idPassing {E : zE} {S : zM} {O : List zOe} {V : List zSe} {t : zRW} {k x : Nat} (h : zVC S O V t) (hx : (zBB O V t)[k]? = some x) : zSp E 0 0 0 mX10_idPassing cX10_idPassing [zR 6, zI (nI k)] S (fun r T => S = T ∧ r = some (zI (nI x))) := by
  refine zSp.of (by decide) rfl (Nat.le_of_ble_eq_true rfl) rfl ?_
  obtain ⟨k6, k10, k11, k92, p0, p1, p2, p3⟩ := h.sh
  obtain ⟨i, c, hi40, e92, e10, e11, c12, c90, hB⟩ := h.get hx
  have hk40 : k < 40 := Nat.lt_of_lt_of_le (List.getElem?_eq_some_iff.mp hx).1 h.len.2
  have hin : vp_in (nI k) 40 := vp_in_nI hk40 (by decide)
  have hcl : (nI k).toNatClampNeg = k := nI_clamp (by omega)
  have hin2 : vp_in (nI i) 40 := vp_in_nI hi40 (by decide)
  have hcl2 : (nI i).toNatClampNeg = i := nI_clamp (by omega)
  refine j_aload_n (pc := 0) dX10_idPassing_0 rfl ?_
  refine j_getP (pc := 1) dX10_idPassing_1 f_X10_18 (Or.inr ⟨_, rfl⟩) (by assumption) ?_
  rw [p1]
  refine j_aload_n (pc := 4) dX10_idPassing_4 rfl ?_
  refine j_getP (pc := 5) dX10_idPassing_5 f_X10_31 (Or.inr ⟨_, rfl⟩) (by assumption) ?_
  rw [p3]
  refine j_iload_n (pc := 8) dX10_idPassing_8 rfl ?_
  refine j_iald (pc := 9) dX10_idPassing_9 (by assumption) (by assumption) ?_
  rw [hcl, e92]
  refine j_iald (pc := 10) dX10_idPassing_10 (by assumption) (by assumption) ?_
  refine j_iret (pc := 11) dX10_idPassing_11 rfl ?_
  exact ⟨rfl, by rw [hcl2, e10]⟩
set_option maxRecDepth 20000 in
set_option maxHeartbeats 4000000 in
theorem c_keyPassing {E : zE} {S : zM} {O : List zOe} {V : List zSe} {t : zRW} {k x : Nat} (h : zVC S O V t) (hx : (zBB O V t)[k]? = some x) : zSp E 0 0 0 mX10_keyPassing cX10_keyPassing [zR 6, zI (nI k)] S (fun r T => S = T ∧ ∃ c, r = some (zR c) ∧ 12 ≤ c ∧ c ≤ 90 ∧ zBy S c (c + 1) 34 (zkf O t x)) := by
  refine zSp.of (by decide) rfl (Nat.le_of_ble_eq_true rfl) rfl ?_
  obtain ⟨k6, k10, k11, k92, p0, p1, p2, p3⟩ := h.sh
  obtain ⟨i, c, hi40, e92, e10, e11, c12, c90, hB⟩ := h.get hx
  have hk40 : k < 40 := Nat.lt_of_lt_of_le (List.getElem?_eq_some_iff.mp hx).1 h.len.2
  have hin : vp_in (nI k) 40 := vp_in_nI hk40 (by decide)
  have hcl : (nI k).toNatClampNeg = k := nI_clamp (by omega)
  have hin2 : vp_in (nI i) 40 := vp_in_nI hi40 (by decide)
  have hcl2 : (nI i).toNatClampNeg = i := nI_clamp (by omega)
  refine j_aload_n (pc := 0) dX10_keyPassing_0 rfl ?_
  refine j_getP (pc := 1) dX10_keyPassing_1 f_X10_24 (Or.inr ⟨_, rfl⟩) (by assumption) ?_
  rw [p2]
  refine j_aload_n (pc := 4) dX10_keyPassing_4 rfl ?_
  refine j_getP (pc := 5) dX10_keyPassing_5 f_X10_31 (Or.inr ⟨_, rfl⟩) (by assumption) ?_
  rw [p3]
  refine j_iload_n (pc := 8) dX10_keyPassing_8 rfl ?_
  refine j_iald (pc := 9) dX10_keyPassing_9 (by assumption) (by assumption) ?_
  rw [hcl, e92]
  refine j_aald (pc := 10) (j := 3) dX10_keyPassing_10 (by assumption) (by decide) (by assumption) ?_
  refine j_aret (pc := 11) dX10_keyPassing_11 rfl ?_
  exact ⟨rfl, c, by rw [hcl2, e11], c12, c90, hB⟩
theorem zTW_at {B : List Nat} {pr : Nat → Bool} {i x : Nat} (hq : ∀ j x, j < i → B[j]? = some x → pr x = true) (hx : B[i]? = some x) (hn : ¬ pr x = true) : (B.takeWhile pr).length = i := by
  induction B generalizing i with
  | nil => simp at hx
  | cons y B ih =>
    cases i with
    | zero =>
      simp at hx
      rw [hx, List.takeWhile_cons_of_neg hn]
      rfl
    | succ i =>
      rw [List.takeWhile_cons_of_pos (hq 0 y (by omega) rfl), List.length_cons, ih (i := i) (fun j z hj hz => hq (j + 1) z (by omega) (by simpa using hz)) (by simpa using hx)]
theorem zTW_all {B : List Nat} {pr : Nat → Bool} (hq : ∀ j x, j < B.length → B[j]? = some x → pr x = true) : (B.takeWhile pr).length = B.length := by
  induction B with
  | nil => rfl
  | cons y B ih =>
    rw [List.takeWhile_cons_of_pos (hq 0 y (by simp) rfl), List.length_cons, List.length_cons, ih (fun j z hj hz => hq (j + 1) z (by simp; omega) (by simpa using hz))]
theorem zTW_le (B : List Nat) (pr : Nat → Bool) : (B.takeWhile pr).length ≤ B.length := by
  induction B with
  | nil => exact Nat.le_refl _
  | cons y B ih =>
    rw [List.takeWhile_cons]
    split
    · simp only [List.length_cons]; omega
    · exact Nat.zero_le _
set_option maxRecDepth 20000 in
set_option maxHeartbeats 4000000 in
theorem c_countBelow {E : zE} {S : zM} {O : List zOe} {V : List zSe} {t : zRW} {b d cap : Nat} {F : List Nat} (h : zVC S O V t) (g : zBy S b d cap F) : zSp E 2 0 0 mX10_countBelow cX10_countBelow [zR 6, zR b] S (fun r T => S = T ∧ r = some (zI (nI ((zBB O V t).takeWhile (fun x => zkl (zkf O t x) F)).length))) := by
  refine zSp.of (by decide) rfl (Nat.le_of_ble_eq_true rfl) rfl ?_
  have k6 := h.sh.1
  have hlen := h.len
  have kb := g.1
  have lp : ∀ (n i : Nat), i + n = (zBB O V t).length → (∀ j x, j < i → (zBB O V t)[j]? = some x → (zkl (zkf O t x) F) = true) → zJ E 2 0 0 mX10_countBelow cX10_countBelow 2 [some (zR 6), some (zR b), some (zI (nI i))] [] S (fun r T => S = T ∧ r = some (zI (nI ((zBB O V t).takeWhile (fun x => zkl (zkf O t x) F)).length))) := by
    intro n
    induction n with
    | zero =>
      intro i hi hq
      have ei : i = (zBB O V t).length := by omega
      subst ei
      refine j_iload_n (pc := 2) dX10_countBelow_2 rfl ?_
      refine j_aload_n (pc := 3) dX10_countBelow_3 rfl ?_
      refine j_getI (pc := 4) dX10_countBelow_4 f_X10_38 (Or.inl rfl) (by assumption) ?_
      rw [hlen.1]
      refine j_icmp_ge (pc := 7) (tgt := 28) dX10_countBelow_7 (by decide) (fun h7 => ?_) (fun h7 => ?_)
      · refine j_iload_n (pc := 28) dX10_countBelow_28 rfl ?_
        refine j_iret (pc := 29) dX10_countBelow_29 rfl ?_
        exact ⟨rfl, by rw [zTW_all hq]⟩
      · exact absurd (nI_le (Nat.le_refl _) (by omega)) h7
    | succ n ih =>
      intro i hi hq
      obtain ⟨x, hx⟩ : ∃ x, (zBB O V t)[i]? = some x := ⟨(zBB O V t)[i]'(by omega), List.getElem?_eq_getElem (by omega)⟩
      refine j_iload_n (pc := 2) dX10_countBelow_2 rfl ?_
      refine j_aload_n (pc := 3) dX10_countBelow_3 rfl ?_
      refine j_getI (pc := 4) dX10_countBelow_4 f_X10_38 (Or.inl rfl) (by assumption) ?_
      rw [hlen.1]
      refine j_icmp_ge (pc := 7) (tgt := 28) dX10_countBelow_7 (by decide) (fun h7 => ?_) (fun h7 => ?_)
      · refine j_iload_n (pc := 28) dX10_countBelow_28 rfl ?_
        refine j_iret (pc := 29) dX10_countBelow_29 rfl ?_
        exact absurd h7 (nI_ge (by omega) (by omega))
      · refine j_aload_n (pc := 10) dX10_countBelow_10 rfl ?_
        refine j_iload_n (pc := 11) dX10_countBelow_11 rfl ?_
        refine j_callV (pc := 12) (t := 10) (c_keyPassing h hx) dX10_countBelow_12 l_X10_119 mk_X10_keyPassing mv_X10_keyPassing (by decide) rfl (by assumption) (by decide) rfl rfl (Nat.le_of_ble_eq_true rfl) (Nat.le_refl _) (Nat.le_refl _) (fun r T h_1 => ?_)
        obtain ⟨rfl, c, rfl, c12, c90, hBc⟩ := h_1
        have kc := hBc.1
        refine j_aload_n (pc := 15) dX10_countBelow_15 rfl ?_
        refine j_callV (pc := 16) (t := 1) (c_against hBc g) dX10_countBelow_16 l_X10_106 mk_X1_against mv_X1_against (by decide) rfl (by assumption) (by decide) rfl rfl (Nat.le_of_ble_eq_true rfl) (Nat.le_refl _) (Nat.le_refl _) (fun r T h_1 => ?_)
        obtain ⟨rfl, rfl⟩ := h_1
        refine j_if_ge (pc := 19) (tgt := 28) dX10_countBelow_19 (by decide) (fun h19 => ?_) (fun h19 => ?_)
        · refine j_iload_n (pc := 28) dX10_countBelow_28 rfl ?_
          refine j_iret (pc := 29) dX10_countBelow_29 rfl ?_
          exact ⟨rfl, by rw [zTW_at hq hx (fun q => Int32.not_le.mpr ((zcmp_lt _ _).mpr q) h19)]⟩
        · refine j_iinc (pc := 22) (v := _ + 1) (ls' := [_, _, _]) dX10_countBelow_22 rfl rfl (by decide) rfl rfl ?_
          refine j_goto (pc := 25) (tgt := 2) dX10_countBelow_25 (by decide) ?_
          rw [nI_1]
          refine ih (i + 1) (by omega) (fun j z hj hz => ?_)
          by_cases e : j = i
          · subst e
            rw [hx] at hz
            cases hz
            exact (zcmp_lt _ _).mp (Int32.not_le.mp h19)
          · exact hq j z (by omega) hz
  refine j_iconst (pc := 0) (v := 0) dX10_countBelow_0 (by decide) ?_
  refine j_istore_n (pc := 1) (ls' := [_, _, _]) dX10_countBelow_1 (by decide) rfl rfl ?_
  exact lp (zBB O V t).length 0 (by omega) (fun j y hj => absurd hj (Nat.not_lt_zero j))
set_option maxRecDepth 20000 in
set_option maxHeartbeats 4000000 in
theorem c_countNotAbove {E : zE} {S : zM} {O : List zOe} {V : List zSe} {t : zRW} {b d cap : Nat} {F : List Nat} (h : zVC S O V t) (g : zBy S b d cap F) : zSp E 2 0 0 mX10_countNotAbove cX10_countNotAbove [zR 6, zR b] S (fun r T => S = T ∧ r = some (zI (nI ((zBB O V t).takeWhile (fun x => !zkl F (zkf O t x))).length))) := by
  refine zSp.of (by decide) rfl (Nat.le_of_ble_eq_true rfl) rfl ?_
  have k6 := h.sh.1
  have hlen := h.len
  have kb := g.1
  have lp : ∀ (n i : Nat), i + n = (zBB O V t).length → (∀ j x, j < i → (zBB O V t)[j]? = some x → (!zkl F (zkf O t x)) = true) → zJ E 2 0 0 mX10_countNotAbove cX10_countNotAbove 2 [some (zR 6), some (zR b), some (zI (nI i))] [] S (fun r T => S = T ∧ r = some (zI (nI ((zBB O V t).takeWhile (fun x => !zkl F (zkf O t x))).length))) := by
    intro n
    induction n with
    | zero =>
      intro i hi hq
      have ei : i = (zBB O V t).length := by omega
      subst ei
      refine j_iload_n (pc := 2) dX10_countNotAbove_2 rfl ?_
      refine j_aload_n (pc := 3) dX10_countNotAbove_3 rfl ?_
      refine j_getI (pc := 4) dX10_countNotAbove_4 f_X10_38 (Or.inl rfl) (by assumption) ?_
      rw [hlen.1]
      refine j_icmp_ge (pc := 7) (tgt := 28) dX10_countNotAbove_7 (by decide) (fun h7 => ?_) (fun h7 => ?_)
      · refine j_iload_n (pc := 28) dX10_countNotAbove_28 rfl ?_
        refine j_iret (pc := 29) dX10_countNotAbove_29 rfl ?_
        exact ⟨rfl, by rw [zTW_all hq]⟩
      · exact absurd (nI_le (Nat.le_refl _) (by omega)) h7
    | succ n ih =>
      intro i hi hq
      obtain ⟨x, hx⟩ : ∃ x, (zBB O V t)[i]? = some x := ⟨(zBB O V t)[i]'(by omega), List.getElem?_eq_getElem (by omega)⟩
      refine j_iload_n (pc := 2) dX10_countNotAbove_2 rfl ?_
      refine j_aload_n (pc := 3) dX10_countNotAbove_3 rfl ?_
      refine j_getI (pc := 4) dX10_countNotAbove_4 f_X10_38 (Or.inl rfl) (by assumption) ?_
      rw [hlen.1]
      refine j_icmp_ge (pc := 7) (tgt := 28) dX10_countNotAbove_7 (by decide) (fun h7 => ?_) (fun h7 => ?_)
      · refine j_iload_n (pc := 28) dX10_countNotAbove_28 rfl ?_
        refine j_iret (pc := 29) dX10_countNotAbove_29 rfl ?_
        exact absurd h7 (nI_ge (by omega) (by omega))
      · refine j_aload_n (pc := 10) dX10_countNotAbove_10 rfl ?_
        refine j_iload_n (pc := 11) dX10_countNotAbove_11 rfl ?_
        refine j_callV (pc := 12) (t := 10) (c_keyPassing h hx) dX10_countNotAbove_12 l_X10_119 mk_X10_keyPassing mv_X10_keyPassing (by decide) rfl (by assumption) (by decide) rfl rfl (Nat.le_of_ble_eq_true rfl) (Nat.le_refl _) (Nat.le_refl _) (fun r T h_1 => ?_)
        obtain ⟨rfl, c, rfl, c12, c90, hBc⟩ := h_1
        have kc := hBc.1
        refine j_aload_n (pc := 15) dX10_countNotAbove_15 rfl ?_
        refine j_callV (pc := 16) (t := 1) (c_against hBc g) dX10_countNotAbove_16 l_X10_106 mk_X1_against mv_X1_against (by decide) rfl (by assumption) (by decide) rfl rfl (Nat.le_of_ble_eq_true rfl) (Nat.le_refl _) (Nat.le_refl _) (fun r T h_1 => ?_)
        obtain ⟨rfl, rfl⟩ := h_1
        refine j_if_gt (pc := 19) (tgt := 28) dX10_countNotAbove_19 (by decide) (fun h19 => ?_) (fun h19 => ?_)
        · refine j_iload_n (pc := 28) dX10_countNotAbove_28 rfl ?_
          refine j_iret (pc := 29) dX10_countNotAbove_29 rfl ?_
          exact ⟨rfl, by rw [zTW_at hq hx (fun q => Int32.not_lt.mpr ((zcmp_le _ _).mpr (by simpa using q)) h19)]⟩
        · refine j_iinc (pc := 22) (v := _ + 1) (ls' := [_, _, _]) dX10_countNotAbove_22 rfl rfl (by decide) rfl rfl ?_
          refine j_goto (pc := 25) (tgt := 2) dX10_countNotAbove_25 (by decide) ?_
          rw [nI_1]
          refine ih (i + 1) (by omega) (fun j z hj hz => ?_)
          by_cases e : j = i
          · subst e
            rw [hx] at hz
            cases hz
            exact by rw [(zcmp_le _ _).mp (Int32.not_lt.mp h19)]; rfl
          · exact hq j z (by omega) hz
  refine j_iconst (pc := 0) (v := 0) dX10_countNotAbove_0 (by decide) ?_
  refine j_istore_n (pc := 1) (ls' := [_, _, _]) dX10_countNotAbove_1 (by decide) rfl rfl ?_
  exact lp (zBB O V t).length 0 (by omega) (fun j y hj => absurd hj (Nat.not_lt_zero j))
/-- nothing but where a stretch begins and ends -/
def zFE (S T : zM) (f e : Nat) : Prop := zF (fun c => c = 6) S T ∧ (∀ k, k ≠ 6 → k ≠ 7 → zgI T 6 k = zgI S 6 k) ∧ zgI T 6 6 = nI f ∧ zgI T 6 7 = nI e
set_option maxRecDepth 20000 in
set_option maxHeartbeats 4000000 in
theorem c_chooseFrom {E : zE} {S : zM} {O : List zOe} {V : List zSe} {t : zRW} {f z : Nat} (h : zVC S O V t) (hf : f < 2 ^ 20) (hz : z < 2 ^ 20) : zSp E 1 0 0 mX10_chooseFrom cX10_chooseFrom [zR 6, zI (nI f), zI (nI z)] S (fun r T => r = none ∧ zFE S T f (min (f + z) (zBB O V t).length)) := by
  refine zSp.of (by decide) rfl (Nat.le_of_ble_eq_true rfl) rfl ?_
  have k6 := h.sh.1
  have hlen := h.len
  refine j_aload_n (pc := 0) dX10_chooseFrom_0 rfl ?_
  refine j_iload_n (pc := 1) dX10_chooseFrom_1 rfl ?_
  refine j_putI (pc := 2) dX10_chooseFrom_2 f_X10_41 rfl (by assumption) rfl ?_
  refine j_aload_n (pc := 5) dX10_chooseFrom_5 rfl ?_
  refine j_iload_n (pc := 6) dX10_chooseFrom_6 rfl ?_
  refine j_iload_n (pc := 7) dX10_chooseFrom_7 rfl ?_
  refine j_iadd (pc := 8) dX10_chooseFrom_8 ?_
  refine j_aload_n (pc := 9) dX10_chooseFrom_9 rfl ?_
  refine j_getI (pc := 10) dX10_chooseFrom_10 f_X10_38 (Or.inl rfl) (by assumption) ?_
  rw [nI_add, show zgI (zwI S 6 6 (nI f)) 6 5 = nI (zBB O V t).length from (zgI_nk (by decide)).trans hlen.1]
  refine j_callS (pc := 13) (c_min _ _) dX10_chooseFrom_13 l_X10_110 mk_J9_min_7cf53 ms_J9_min_7cf53 (by decide) rfl rfl (Nat.le_of_ble_eq_true rfl) (Nat.le_refl _) (Nat.le_refl _) (fun r T h_1 => ?_)
  obtain ⟨rfl, rfl⟩ := h_1
  dsimp only [Option.toList, List.cons_append, List.nil_append]
  rw [zmin_nI (by omega) (by omega)]
  refine j_putI (pc := 16) dX10_chooseFrom_16 f_X10_44 rfl (by assumption) rfl ?_
  refine j_vret (pc := 19) dX10_chooseFrom_19 rfl ?_
  exact ⟨rfl, (zF.wI (X := fun c => c = 6) rfl).tr (zF.wI (X := fun c => c = 6) rfl), fun k h6 h7 => (zgI_nk h7).trans (zgI_nk h6), (zgI_nk (by decide)).trans zgI_self, zgI_self⟩
def zbf (O : List zOe) (V : List zSe) (t : zRW) (F : List Nat) (z : Nat) (on : Bool) : Nat := if on then ((zBB O V t).takeWhile (fun x => !zkl F (zkf O t x))).length else ((zBB O V t).takeWhile (fun x => zkl (zkf O t x) F)).length - z
def zbe (O : List zOe) (V : List zSe) (t : zRW) (F : List Nat) (z : Nat) (on : Bool) : Nat := if on then min (((zBB O V t).takeWhile (fun x => !zkl F (zkf O t x))).length + z) (zBB O V t).length else ((zBB O V t).takeWhile (fun x => zkl (zkf O t x) F)).length
theorem zmax0 {a b : Nat} (ha : a < 2 ^ 20) (hb : b < 2 ^ 20) : (if (0 : Int32) < nI a - nI b then nI a - nI b else 0) = nI (a - b) := by
  have e : (nI a - nI b).toInt = (a : Int) - b := pk_sub_toInt (by omega) (by omega)
  by_cases hv : b < a
  · rw [if_pos (by rw [Int32.lt_iff_toInt_lt, e]; show (0 : Int) < _; omega)]
    exact pk_sub (by omega)
  · rw [if_neg (by rw [Int32.lt_iff_toInt_lt, e]; show ¬ (0 : Int) < _; omega), show a - b = 0 by omega]
    rfl
set_option maxRecDepth 20000 in
set_option maxHeartbeats 4000000 in
theorem c_chooseBeside {E : zE} {S : zM} {O : List zOe} {V : List zSe} {t : zRW} {b d cap z : Nat} {F : List Nat} (h : zVC S O V t) (g : zBy S b d cap F) (hz : z < 2 ^ 20) (on : Bool) : zSp E 3 0 0 mX10_chooseBeside cX10_chooseBeside [zR 6, zR b, zI (nI z), zI (zbi on)] S (fun r T => r = none ∧ zFE S T (zbf O V t F z on) (zbe O V t F z on)) := by
  refine zSp.of (by decide) rfl (Nat.le_of_ble_eq_true rfl) rfl ?_
  have k6 := h.sh.1
  have hlen := h.len
  have l1 := zTW_le (zBB O V t) (fun x => !zkl F (zkf O t x))
  have l2 := zTW_le (zBB O V t) (fun x => zkl (zkf O t x) F)
  refine j_iload_n (pc := 0) dX10_chooseBeside_0 rfl ?_
  refine j_if_eq (pc := 1) (tgt := 17) dX10_chooseBeside_1 (by decide) (fun h1 => ?_) (fun h1 => ?_)
  · refine j_aload_n (pc := 17) dX10_chooseBeside_17 rfl ?_
    refine j_aload_n (pc := 18) dX10_chooseBeside_18 rfl ?_
    refine j_aload_n (pc := 19) dX10_chooseBeside_19 rfl ?_
    refine j_callV (pc := 20) (t := 10) (c_countBelow h g) dX10_chooseBeside_20 l_X10_130 mk_X10_countBelow mv_X10_countBelow (by decide) rfl (by assumption) (by decide) rfl rfl (Nat.le_of_ble_eq_true rfl) (Nat.le_refl _) (Nat.le_refl _) (fun r T h_1 => ?_)
    obtain ⟨rfl, rfl⟩ := h_1
    refine j_putI (pc := 23) dX10_chooseBeside_23 f_X10_44 rfl (by assumption) rfl ?_
    refine j_aload_n (pc := 26) dX10_chooseBeside_26 rfl ?_
    refine j_iconst (pc := 27) (v := 0) dX10_chooseBeside_27 (by decide) ?_
    refine j_aload_n (pc := 28) dX10_chooseBeside_28 rfl ?_
    refine j_getI (pc := 29) dX10_chooseBeside_29 f_X10_44 (Or.inl rfl) (by assumption) ?_
    rw [zgI_self]
    refine j_iload_n (pc := 32) dX10_chooseBeside_32 rfl ?_
    refine j_isub (pc := 33) dX10_chooseBeside_33 ?_
    refine j_callS (pc := 34) (c_max _ _) dX10_chooseBeside_34 l_X10_116 mk_J9_max_7cf53 ms_J9_max_7cf53 (by decide) rfl rfl (Nat.le_of_ble_eq_true rfl) (Nat.le_refl _) (Nat.le_refl _) (fun r T h_1 => ?_)
    obtain ⟨rfl, rfl⟩ := h_1
    dsimp only [Option.toList, List.cons_append, List.nil_append]
    rw [zmax0 (by omega) hz]
    refine j_putI (pc := 37) dX10_chooseBeside_37 f_X10_41 rfl (by assumption) rfl ?_
    refine j_vret (pc := 40) dX10_chooseBeside_40 rfl ?_
    have eo : on = false := zbi_eq0.mp h1
    subst eo
    exact ⟨rfl, (zF.wI (X := fun c => c = 6) rfl).tr (zF.wI (X := fun c => c = 6) rfl), fun k h6 h7 => (zgI_nk h6).trans (zgI_nk h7), zgI_self, (zgI_nk (by decide)).trans zgI_self⟩
  · refine j_aload_n (pc := 4) dX10_chooseBeside_4 rfl ?_
    refine j_aload_n (pc := 5) dX10_chooseBeside_5 rfl ?_
    refine j_aload_n (pc := 6) dX10_chooseBeside_6 rfl ?_
    refine j_callV (pc := 7) (t := 10) (c_countNotAbove h g) dX10_chooseBeside_7 l_X10_123 mk_X10_countNotAbove mv_X10_countNotAbove (by decide) rfl (by assumption) (by decide) rfl rfl (Nat.le_of_ble_eq_true rfl) (Nat.le_refl _) (Nat.le_refl _) (fun r T h_1 => ?_)
    obtain ⟨rfl, rfl⟩ := h_1
    refine j_iload_n (pc := 10) dX10_chooseBeside_10 rfl ?_
    refine j_callV (pc := 11) (t := 10) (c_chooseFrom h (by omega) hz) dX10_chooseBeside_11 l_X10_126 mk_X10_chooseFrom mv_X10_chooseFrom (by decide) rfl (by assumption) (by decide) rfl rfl (Nat.le_of_ble_eq_true rfl) (Nat.le_refl _) (Nat.le_refl _) (fun r T h_1 => ?_)
    obtain ⟨rfl, hfe⟩ := h_1
    refine j_goto (pc := 14) (tgt := 40) dX10_chooseBeside_14 (by decide) ?_
    refine j_vret (pc := 40) dX10_chooseBeside_40 rfl ?_
    have eo : on = true := by cases on with | true => rfl | false => exact absurd rfl h1
    subst eo
    exact ⟨rfl, hfe⟩
set_option maxRecDepth 20000 in
set_option maxHeartbeats 4000000 in
theorem c_keyAt {E : zE} {S : zM} {O : List zOe} {V : List zSe} {t : zRW} {i x : Nat} (h : zVC S O V t) (hx : (zsr (zkf O t) t.1 64)[i]? = some x) : zSp E 1 0 0 mX10_keyAt cX10_keyAt [zR 6, zI (nI i)] S (fun r T => S = T ∧ ∃ c, r = some (zR c) ∧ 12 ≤ c ∧ c ≤ 90 ∧ zBy S c (c + 1) 34 (zkf O t x)) := by
  refine zSp.of (by decide) rfl (Nat.le_of_ble_eq_true rfl) rfl ?_
  obtain ⟨k6, k10, k11, k92, p0, p1, p2, p3⟩ := h.sh
  obtain ⟨q, gv, h0, hR, h1, h2⟩ := h
  have hi : i < 40 := Nat.lt_of_lt_of_le (List.getElem?_eq_some_iff.mp hx).1 h1.2.1
  have hin : vp_in (nI i) 40 := vp_in_nI hi (by decide)
  have hcl : (nI i).toNatClampNeg = i := nI_clamp (by omega)
  obtain ⟨e1, ⟨j, hj, e2⟩, -⟩ := h0.2.1 i hi
  refine j_aload_n (pc := 0) dX10_keyAt_0 rfl ?_
  refine j_getP (pc := 1) dX10_keyAt_1 f_X10_24 (Or.inr ⟨_, rfl⟩) (by assumption) ?_
  rw [p2]
  refine j_iconst (pc := 4) (v := 0) dX10_keyAt_4 (by decide) ?_
  refine j_iload_n (pc := 5) dX10_keyAt_5 rfl ?_
  refine j_bipush (pc := 6) (v := 39) dX10_keyAt_6 (by decide) ?_
  refine j_callS (pc := 8) (c_min _ _) dX10_keyAt_8 l_X10_110 mk_J9_min_7cf53 ms_J9_min_7cf53 (by decide) rfl rfl (Nat.le_of_ble_eq_true rfl) (Nat.le_refl _) (Nat.le_refl _) (fun r T h_1 => ?_)
  obtain ⟨rfl, rfl⟩ := h_1
  dsimp only [Option.toList, List.cons_append, List.nil_append]
  rw [if_neg (show ¬ (39 : Int32) < nI i from nI_nlt (b := i) (a := 39) (by omega) (by decide))]
  refine j_callS (pc := 11) (c_max _ _) dX10_keyAt_11 l_X10_116 mk_J9_max_7cf53 ms_J9_max_7cf53 (by decide) rfl rfl (Nat.le_of_ble_eq_true rfl) (Nat.le_refl _) (Nat.le_refl _) (fun r T h_1 => ?_)
  obtain ⟨rfl, rfl⟩ := h_1
  dsimp only [Option.toList, List.cons_append, List.nil_append]
  rw [show (if (0 : Int32) < nI i then nI i else 0) = nI i from by have := zmax0 (a := i) (b := 0) (by omega) (by decide); rwa [show nI i - nI 0 = nI i from pk_sub (a := i) (b := 0) (by omega), Nat.sub_zero] at this]
  refine j_aald (pc := 14) (j := 3) dX10_keyAt_14 (by assumption) (by decide) (by assumption) ?_
  refine j_aret (pc := 15) dX10_keyAt_15 rfl ?_
  exact ⟨rfl, q i, by rw [hcl, e1], by omega, by omega, (h1.2.2 i x hx).2.2⟩
