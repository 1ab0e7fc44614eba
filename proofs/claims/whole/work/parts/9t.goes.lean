/-! the text that is read, and the token that is at hand -/
def mTx (S : zM) (X : List Nat) : Prop := zgI S 123 22 = nI X.length ∧ (∀ i, i < X.length → zgI S 124 i = nI (X.getD i 0)) ∧ X.length ≤ 900 ∧ ∀ b ∈ X, b < 256
def mTo (S : zM) (k : zTo) : Prop := zgI S 123 24 = nI k.1 ∧ zgI S 123 23 = nI k.2.2.1 ∧ zgI S 123 25 = ztc k ∧ (k.2.1 = 2 → ∃ d, d < 10000 ∧ k.2.2.2 = lN d ∧ zgI S 123 26 = nI d)
abbrev zXo (c k : Nat) : Prop := c = 123 ∧ 23 ≤ k ∧ k ≤ 26
theorem zXo.s {c k : Nat} (h : zXo c k) : zXs c k := by unfold zXo at h; unfold zXs; omega
theorem mTx.k {X : Nat → Nat → Prop} {S T : zM} {F : List Nat} (h : mTx S F) (f : zK X S T) (h1 : ¬ X 123 22) (h2 : ∀ k, ¬ X 124 k) : mTx T F := ⟨(f.2.2.2.1 _ _ h1).trans h.1, fun i hi => (f.2.2.2.1 _ _ (h2 i)).trans (h.2.1 i hi), h.2.2⟩
theorem mTo.k {X : Nat → Nat → Prop} {S T : zM} {k : zTo} (h : mTo S k) (f : zK X S T) (h1 : ∀ i, 23 ≤ i → i ≤ 26 → ¬ X 123 i) : mTo T k := ⟨(f.2.2.2.1 _ _ (h1 24 (by decide) (by decide))).trans h.1, (f.2.2.2.1 _ _ (h1 23 (by decide) (by decide))).trans h.2.1, (f.2.2.2.1 _ _ (h1 25 (by decide) (by decide))).trans h.2.2.1, fun q => by
  obtain ⟨d, h2, h3, h4⟩ := h.2.2.2 q
  exact ⟨d, h2, h3, (f.2.2.2.1 _ _ (h1 26 (by decide) (by decide))).trans h4⟩⟩
theorem mTx.xo {S T : zM} {F : List Nat} (h : mTx S F) (f : zK zXo S T) : mTx T F := h.k f (by unfold zXo; omega) (fun k => by unfold zXo; omega)
set_option maxRecDepth 20000 in
set_option maxHeartbeats 4000000 in
theorem n_see {E : zE} {S : zM} {X : List Nat} {i : Nat} (hM : zMs S) (hX : mTx S X) (hi : i ≤ X.length) : zSp E 0 0 0 mX12_see cX12_see [zR 123, zI (nI i)] S (fun r T => S = T ∧ r = some (zI (zsee X i))) := by
  refine zSp.of (by decide) rfl (Nat.le_of_ble_eq_true rfl) rfl ?_
  have h9 := hX.2.2.1
  refine j_iload_n (pc := 0) dX12_see_0 rfl ?_
  refine j_aload_n (pc := 1) dX12_see_1 rfl ?_
  refine j_getIv (pc := 2) dX12_see_2 f_X12_139 (Or.inl rfl) hM.1 (hX.1) ?_
  refine j_icmp_ge (pc := 5) (tgt := 17) dX12_see_5 (by decide) (fun h5 => ?_) (fun h5 => ?_)
  · refine j_iconst (pc := 17) (v := (-1)) dX12_see_17 (by decide) ?_
    refine j_iret (pc := 18) dX12_see_18 rfl ?_
    have hge : X.length ≤ i := Nat.le_of_not_lt (fun q => absurd h5 (nI_ge q (by omega)))
    exact ⟨rfl, by rw [(zsee_m1 hX.2.2.2).mpr hge]⟩
  · have hlt : i < X.length := Nat.lt_of_not_le (fun q => h5 (nI_le q (by omega)))
    refine j_aload_n (pc := 8) dX12_see_8 rfl ?_
    refine j_getPv (pc := 9) dX12_see_9 f_X12_15 (Or.inr ⟨_, rfl⟩) hM.1 (mp_tape hM) ?_
    refine j_iload_n (pc := 12) dX12_see_12 rfl ?_
    refine j_ialdn (pc := 13) dX12_see_13 (mk_tape hM) (by omega) (Nat.le_of_ble_eq_true rfl) (hX.2.1 i hlt) ?_
    refine j_goto (pc := 14) (tgt := 18) dX12_see_14 (by decide) ?_
    refine j_iret (pc := 18) dX12_see_18 rfl ?_
    exact ⟨rfl, by rw [zsee, gD 0 hlt]⟩
set_option maxRecDepth 20000 in
set_option maxHeartbeats 4000000 in
theorem l_spaces {E : zE} {S : zM} {Q : Option zV → zM → Prop} {X : List Nat} (hM : zMs S) (hX : mTx S X)  : ∀ (m i : Nat) (T : zM), i ≤ X.length → X.length - i = m → zK (fun c k => c = 123 ∧ k = 24) S T → zgI T 123 24 = nI i → (∀ T', zK (fun c k => c = 123 ∧ k = 24) S T' → zgI T' 123 24 = nI (zrun zsp X i) → zJ E 1 0 0 mX12_goesOn cX12_goesOn 26 [some (zR 123), none] [] T' Q) → zJ E 1 0 0 mX12_goesOn cX12_goesOn 0 [some (zR 123), none] [] T Q := by
  intro m
  induction m using Nat.strongRecOn with
  | _ m ih =>
    intro i T hi hm hk h24 cont
    have mT := hk.ms hM
    have hT := hX.k hk (by omega) (fun k => by omega)
    have h9 := hX.2.2.1
    cases hz : zoP zsp X[i]? with
    | false =>
      refine j_aload_n (pc := 0) dX12_goesOn_0 rfl ?_
      refine j_aload_n (pc := 1) dX12_goesOn_1 rfl ?_
      refine j_getIv (pc := 2) dX12_goesOn_2 f_X12_142 (Or.inl rfl) mT.1 (h24) ?_
      refine j_callV (pc := 5) (t := 12) (n_see mT hT (by omega)) dX12_goesOn_5 l_X12_145 mk_X12_see mv_X12_see (by decide) rfl mT.1 (by decide) rfl rfl (Nat.le_of_ble_eq_true rfl) (Nat.le_refl _) (Nat.le_refl _) (fun r T h_1 => ?_)
      obtain ⟨rfl, rfl⟩ := h_1
      refine j_bipush (pc := 8) (v := 32) dX12_goesOn_8 (by decide) ?_
      refine j_icmp_ne (pc := 10) (tgt := 26) dX12_goesOn_10 (by decide) (fun h10 => ?_) (fun h10 => absurd ((zsee_32 hX.2.2.2).mp h10) (by rw [hz]; decide))
      have e := zoP_run hz
      rw [← e] at h24
      exact cont T hk h24
    | true =>
      obtain ⟨b, hb, hbP, hlt⟩ := zoP_t hz
      refine j_aload_n (pc := 0) dX12_goesOn_0 rfl ?_
      refine j_aload_n (pc := 1) dX12_goesOn_1 rfl ?_
      refine j_getIv (pc := 2) dX12_goesOn_2 f_X12_142 (Or.inl rfl) mT.1 (h24) ?_
      refine j_callV (pc := 5) (t := 12) (n_see mT hT (by omega)) dX12_goesOn_5 l_X12_145 mk_X12_see mv_X12_see (by decide) rfl mT.1 (by decide) rfl rfl (Nat.le_of_ble_eq_true rfl) (Nat.le_refl _) (Nat.le_refl _) (fun r T h_1 => ?_)
      obtain ⟨rfl, rfl⟩ := h_1
      refine j_bipush (pc := 8) (v := 32) dX12_goesOn_8 (by decide) ?_
      refine j_icmp_ne (pc := 10) (tgt := 26) dX12_goesOn_10 (by decide) (fun h10 => absurd ((zsee_32 hX.2.2.2).mpr hz) h10) (fun h10 => ?_)
      refine j_aload_n (pc := 13) dX12_goesOn_13 rfl ?_
      refine j_dup (pc := 14) dX12_goesOn_14 rfl ?_
      refine j_getIv (pc := 15) dX12_goesOn_15 f_X12_142 (Or.inl rfl) mT.1 (h24) ?_
      refine j_iconst (pc := 18) (v := 1) dX12_goesOn_18 (by decide) ?_
      refine j_iadd (pc := 19) dX12_goesOn_19 ?_
      rw [nI_1]
      refine j_putI (pc := 20) dX12_goesOn_20 f_X12_142 rfl mT.1 rfl ?_
      refine j_goto (pc := 23) (tgt := 0) dX12_goesOn_23 (by decide) ?_
      refine ih (X.length - (i + 1)) (by omega) (i + 1) _ (by omega) rfl (hk.tr (zK.wI ⟨rfl, rfl⟩)) zgI_self (fun T' k' e' => cont T' k' ?_)
      rw [zrun_T hb hbP]
      exact e'
set_option maxRecDepth 20000 in
set_option maxHeartbeats 4000000 in
theorem l_letters {E : zE} {S : zM} {Q : Option zV → zM → Prop} {X : List Nat} (hM : zMs S) (hX : mTx S X) {c : Int32} : ∀ (m i : Nat) (T : zM), i ≤ X.length → X.length - i = m → zK (fun c k => c = 123 ∧ k = 24) S T → zgI T 123 24 = nI i → (∀ T', zK (fun c k => c = 123 ∧ k = 24) S T' → zgI T' 123 24 = nI (zrun zlet X i) → zJ E 1 0 0 mX12_goesOn cX12_goesOn 102 [some (zR 123), some (zI c)] [] T' Q) → zJ E 1 0 0 mX12_goesOn cX12_goesOn 68 [some (zR 123), some (zI c)] [] T Q := by
  intro m
  induction m using Nat.strongRecOn with
  | _ m ih =>
    intro i T hi hm hk h24 cont
    have mT := hk.ms hM
    have hT := hX.k hk (by omega) (fun k => by omega)
    have h9 := hX.2.2.1
    cases hz : zoP zlet X[i]? with
    | false =>
      refine j_aload_n (pc := 68) dX12_goesOn_68 rfl ?_
      refine j_aload_n (pc := 69) dX12_goesOn_69 rfl ?_
      refine j_getIv (pc := 70) dX12_goesOn_70 f_X12_142 (Or.inl rfl) mT.1 (h24) ?_
      refine j_callV (pc := 73) (t := 12) (n_see mT hT (by omega)) dX12_goesOn_73 l_X12_145 mk_X12_see mv_X12_see (by decide) rfl mT.1 (by decide) rfl rfl (Nat.le_of_ble_eq_true rfl) (Nat.le_refl _) (Nat.le_refl _) (fun r T h_1 => ?_)
      obtain ⟨rfl, rfl⟩ := h_1
      refine j_i2l (pc := 76) dX12_goesOn_76 ?_
      refine j_ldcL (pc := 77) dX12_goesOn_77 k_X12_155 ?_
      refine j_ldcL (pc := 80) dX12_goesOn_80 k_X12_157 ?_
      refine j_callS (pc := 83) (n_in _ _ _) dX12_goesOn_83 l_X12_159 mk_X12_in ms_X12_in (by decide) rfl rfl (Nat.le_of_ble_eq_true rfl) (Nat.le_refl _) (Nat.le_refl _) (fun r T h_1 => ?_)
      obtain ⟨rfl, rfl⟩ := h_1
      rw [zin_let hX.2.2.2, hz]
      refine j_if_eq (pc := 86) (tgt := 102) dX12_goesOn_86 (by decide) (fun h86 => ?_) (fun h86 => absurd rfl h86)
      have e := zoP_run hz
      rw [← e] at h24
      exact cont T hk h24
    | true =>
      obtain ⟨b, hb, hbP, hlt⟩ := zoP_t hz
      refine j_aload_n (pc := 68) dX12_goesOn_68 rfl ?_
      refine j_aload_n (pc := 69) dX12_goesOn_69 rfl ?_
      refine j_getIv (pc := 70) dX12_goesOn_70 f_X12_142 (Or.inl rfl) mT.1 (h24) ?_
      refine j_callV (pc := 73) (t := 12) (n_see mT hT (by omega)) dX12_goesOn_73 l_X12_145 mk_X12_see mv_X12_see (by decide) rfl mT.1 (by decide) rfl rfl (Nat.le_of_ble_eq_true rfl) (Nat.le_refl _) (Nat.le_refl _) (fun r T h_1 => ?_)
      obtain ⟨rfl, rfl⟩ := h_1
      refine j_i2l (pc := 76) dX12_goesOn_76 ?_
      refine j_ldcL (pc := 77) dX12_goesOn_77 k_X12_155 ?_
      refine j_ldcL (pc := 80) dX12_goesOn_80 k_X12_157 ?_
      refine j_callS (pc := 83) (n_in _ _ _) dX12_goesOn_83 l_X12_159 mk_X12_in ms_X12_in (by decide) rfl rfl (Nat.le_of_ble_eq_true rfl) (Nat.le_refl _) (Nat.le_refl _) (fun r T h_1 => ?_)
      obtain ⟨rfl, rfl⟩ := h_1
      rw [zin_let hX.2.2.2, hz]
      refine j_if_eq (pc := 86) (tgt := 102) dX12_goesOn_86 (by decide) (fun h86 => absurd h86 (by decide)) (fun h86 => ?_)
      refine j_aload_n (pc := 89) dX12_goesOn_89 rfl ?_
      refine j_dup (pc := 90) dX12_goesOn_90 rfl ?_
      refine j_getIv (pc := 91) dX12_goesOn_91 f_X12_142 (Or.inl rfl) mT.1 (h24) ?_
      refine j_iconst (pc := 94) (v := 1) dX12_goesOn_94 (by decide) ?_
      refine j_iadd (pc := 95) dX12_goesOn_95 ?_
      rw [nI_1]
      refine j_putI (pc := 96) dX12_goesOn_96 f_X12_142 rfl mT.1 rfl ?_
      refine j_goto (pc := 99) (tgt := 68) dX12_goesOn_99 (by decide) ?_
      refine ih (X.length - (i + 1)) (by omega) (i + 1) _ (by omega) rfl (hk.tr (zK.wI ⟨rfl, rfl⟩)) zgI_self (fun T' k' e' => cont T' k' ?_)
      rw [zrun_T hb hbP]
      exact e'
theorem zdig_b {b : Nat} (h : zdig b = true) : 48 ≤ b ∧ b ≤ 57 := of_decide_eq_true h
theorem zcd_lN {d b : Nat} (hd : d < 2 ^ 20) (h : zdig b = true) : zcd (lN d) b = lN (d * 10 + b - 48) := by
  have hb := zdig_b h
  unfold zcd
  rw [nI_l (by omega), show (10 : Int64) = lN 10 from rfl, lN_mul, lN_add, show (48 : Int64) = lN 48 from rfl, lN_sub (by omega)]
set_option maxRecDepth 20000 in
set_option maxHeartbeats 4000000 in
theorem l_digits {E : zE} {S : zM} {Q : Option zV → zM → Prop} {X : List Nat} (hM : zMs S) (hX : mTx S X) {c : Int32} {q : Nat} (hpl : zgI S 123 23 = nI q) : ∀ (m i : Nat) (T : zM), i ≤ X.length → X.length - i = m → q ≤ i → zK (fun c k => c = 123 ∧ (k = 24 ∨ k = 26)) S T → zgI T 123 24 = nI i → (i - q ≤ 4 → ∃ d, d < 10 ^ (i - q) ∧ zgI T 123 26 = nI d ∧ zfo zcd zdig 0 X q = zfo zcd zdig (lN d) X i) → (∀ T' j, zK (fun c k => c = 123 ∧ (k = 24 ∨ k = 26)) S T' → zgI T' 123 24 = nI j → j = zrun zdig X i → (j - q ≤ 4 → ∃ d, d < 10 ^ (j - q) ∧ zgI T' 123 26 = nI d ∧ zfo zcd zdig 0 X q = lN d) → zJ E 1 0 0 mX12_goesOn cX12_goesOn 222 [some (zR 123), some (zI c)] [] T' Q) → zJ E 1 0 0 mX12_goesOn cX12_goesOn 145 [some (zR 123), some (zI c)] [] T Q := by
  intro m
  induction m using Nat.strongRecOn with
  | _ m ih =>
    intro i T hi hm hqi hk h24 hd cont
    have mT := hk.ms hM
    have hT := hX.k hk (by omega) (fun k => by omega)
    have h9 := hX.2.2.1
    cases hz : zoP zdig X[i]? with
    | false =>
      refine j_aload_n (pc := 145) dX12_goesOn_145 rfl ?_
      refine j_aload_n (pc := 146) dX12_goesOn_146 rfl ?_
      refine j_getIv (pc := 147) dX12_goesOn_147 f_X12_142 (Or.inl rfl) mT.1 (h24) ?_
      refine j_callV (pc := 150) (t := 12) (n_see mT hT (by omega)) dX12_goesOn_150 l_X12_145 mk_X12_see mv_X12_see (by decide) rfl mT.1 (by decide) rfl rfl (Nat.le_of_ble_eq_true rfl) (Nat.le_refl _) (Nat.le_refl _) (fun r T h_1 => ?_)
      obtain ⟨rfl, rfl⟩ := h_1
      refine j_i2l (pc := 153) dX12_goesOn_153 ?_
      refine j_ldcL (pc := 154) dX12_goesOn_154 k_X12_163 ?_
      refine j_ldcL (pc := 157) dX12_goesOn_157 k_X12_165 ?_
      refine j_callS (pc := 160) (n_in _ _ _) dX12_goesOn_160 l_X12_159 mk_X12_in ms_X12_in (by decide) rfl rfl (Nat.le_of_ble_eq_true rfl) (Nat.le_refl _) (Nat.le_refl _) (fun r T h_1 => ?_)
      obtain ⟨rfl, rfl⟩ := h_1
      rw [zin_dig hX.2.2.2, hz]
      refine j_if_eq (pc := 163) (tgt := 222) dX12_goesOn_163 (by decide) (fun h163 => ?_) (fun h163 => absurd rfl h163)
      have e := zoP_run hz
      have e2 : ∀ d : Nat, zfo zcd zdig (lN d) X i = lN d := fun d => by
        cases hx : X[i]? with
        | none => exact zfo_E (List.getElem?_eq_none_iff.mp hx)
        | some b =>
          rw [hx] at hz
          exact zfo_F hx hz
      refine cont T i hk h24 e.symm (fun h4 => ?_)
      obtain ⟨d, d1, d2, d3⟩ := hd h4
      exact ⟨d, d1, d2, by rw [d3, e2]⟩
    | true =>
      obtain ⟨b, hb, hbP, hlt⟩ := zoP_t hz
      refine j_aload_n (pc := 145) dX12_goesOn_145 rfl ?_
      refine j_aload_n (pc := 146) dX12_goesOn_146 rfl ?_
      refine j_getIv (pc := 147) dX12_goesOn_147 f_X12_142 (Or.inl rfl) mT.1 (h24) ?_
      refine j_callV (pc := 150) (t := 12) (n_see mT hT (by omega)) dX12_goesOn_150 l_X12_145 mk_X12_see mv_X12_see (by decide) rfl mT.1 (by decide) rfl rfl (Nat.le_of_ble_eq_true rfl) (Nat.le_refl _) (Nat.le_refl _) (fun r T h_1 => ?_)
      obtain ⟨rfl, rfl⟩ := h_1
      refine j_i2l (pc := 153) dX12_goesOn_153 ?_
      refine j_ldcL (pc := 154) dX12_goesOn_154 k_X12_163 ?_
      refine j_ldcL (pc := 157) dX12_goesOn_157 k_X12_165 ?_
      refine j_callS (pc := 160) (n_in _ _ _) dX12_goesOn_160 l_X12_159 mk_X12_in ms_X12_in (by decide) rfl rfl (Nat.le_of_ble_eq_true rfl) (Nat.le_refl _) (Nat.le_refl _) (fun r T h_1 => ?_)
      obtain ⟨rfl, rfl⟩ := h_1
      rw [zin_dig hX.2.2.2, hz]
      refine j_if_eq (pc := 163) (tgt := 222) dX12_goesOn_163 (by decide) (fun h163 => absurd h163 (by decide)) (fun h163 => ?_)
      refine j_aload_n (pc := 166) dX12_goesOn_166 rfl ?_
      refine j_aload_n (pc := 167) dX12_goesOn_167 rfl ?_
      refine j_getIv (pc := 168) dX12_goesOn_168 f_X12_142 (Or.inl rfl) mT.1 (h24) ?_
      refine j_aload_n (pc := 171) dX12_goesOn_171 rfl ?_
      refine j_getIv (pc := 172) dX12_goesOn_172 f_X12_149 (Or.inl rfl) mT.1 ((hk.2.2.2.1 _ _ (by omega)).trans hpl) ?_
      refine j_isub (pc := 175) dX12_goesOn_175 ?_
      rw [show nI i - nI q = nI (i - q) from pk_sub hqi]
      refine j_iconst (pc := 176) (v := 4) dX12_goesOn_176 (by decide) ?_
      refine j_icmp_ge (pc := 177) (tgt := 202) dX12_goesOn_177 (by decide) (fun h177 => ?_) (fun h177 => ?_)
      · have h3 : 4 ≤ i - q := Nat.le_of_not_lt (fun z => nI_ge (b := 4) z (by decide) h177)
        refine j_aload_n (pc := 202) dX12_goesOn_202 rfl ?_
        refine j_getIv (pc := 203) dX12_goesOn_203 f_X12_167 (Or.inl rfl) mT.1 (rfl) ?_
        refine j_putI (pc := 206) dX12_goesOn_206 f_X12_167 rfl mT.1 rfl ?_
        refine j_aload_n (pc := 209) dX12_goesOn_209 rfl ?_
        refine j_dup (pc := 210) dX12_goesOn_210 rfl ?_
        refine j_getIv (pc := 211) dX12_goesOn_211 f_X12_142 (Or.inl rfl) mT.1 (h24) ?_
        refine j_iconst (pc := 214) (v := 1) dX12_goesOn_214 (by decide) ?_
        refine j_iadd (pc := 215) dX12_goesOn_215 ?_
        rw [nI_1]
        refine j_putI (pc := 216) dX12_goesOn_216 f_X12_142 rfl mT.1 rfl ?_
        refine j_goto (pc := 219) (tgt := 145) dX12_goesOn_219 (by decide) ?_
        refine ih (X.length - (i + 1)) (by omega) (i + 1) _ (by omega) rfl (by omega) ((hk.tr (zK.wI ⟨rfl, Or.inr rfl⟩)).tr (zK.wI ⟨rfl, Or.inl rfl⟩)) zgI_self (fun h4 => ?_) (fun T' j k' e' ej' => cont T' j k' e' (by rw [zrun_T hb hbP]; exact ej'))
        exact absurd h4 (by omega)
      · have h3 : i - q < 4 := Nat.lt_of_not_le (fun z => h177 (nI_le (a := 4) z (by omega)))
        obtain ⟨d, d1, d2, d3⟩ := hd (by omega)
        have hp : (10 : Nat) ^ (i - q) ≤ 10 ^ 3 := Nat.pow_le_pow_right (by decide) (by omega)
        refine j_bipush (pc := 180) (v := 10) dX12_goesOn_180 (by decide) ?_
        refine j_aload_n (pc := 182) dX12_goesOn_182 rfl ?_
        refine j_getIv (pc := 183) dX12_goesOn_183 f_X12_167 (Or.inl rfl) mT.1 (d2) ?_
        refine j_imul (pc := 186) dX12_goesOn_186 ?_
        refine j_aload_n (pc := 187) dX12_goesOn_187 rfl ?_
        refine j_aload_n (pc := 188) dX12_goesOn_188 rfl ?_
        refine j_getIv (pc := 189) dX12_goesOn_189 f_X12_142 (Or.inl rfl) mT.1 (h24) ?_
        refine j_callV (pc := 192) (t := 12) (n_see mT hT (by omega)) dX12_goesOn_192 l_X12_145 mk_X12_see mv_X12_see (by decide) rfl mT.1 (by decide) rfl rfl (Nat.le_of_ble_eq_true rfl) (Nat.le_refl _) (Nat.le_refl _) (fun r T h_1 => ?_)
        obtain ⟨rfl, rfl⟩ := h_1
        refine j_iadd (pc := 195) dX12_goesOn_195 ?_
        refine j_bipush (pc := 196) (v := 48) dX12_goesOn_196 (by decide) ?_
        refine j_isub (pc := 198) dX12_goesOn_198 ?_
        rw [zsee, hb]
        have hb8 := zdig_b hbP
        have ew : (10 : Int32) * nI d + nI b - 48 = nI (d * 10 + b - 48) := by
          rw [show (10 : Int32) = nI 10 from rfl, pk_mul, nI_add, show (48 : Int32) = nI 48 from rfl, pk_sub (by omega)]
          congr 1
          omega
        rw [ew]
        refine j_goto (pc := 199) (tgt := 206) dX12_goesOn_199 (by decide) ?_
        refine j_putI (pc := 206) dX12_goesOn_206 f_X12_167 rfl mT.1 rfl ?_
        refine j_aload_n (pc := 209) dX12_goesOn_209 rfl ?_
        refine j_dup (pc := 210) dX12_goesOn_210 rfl ?_
        refine j_getIv (pc := 211) dX12_goesOn_211 f_X12_142 (Or.inl rfl) mT.1 (h24) ?_
        refine j_iconst (pc := 214) (v := 1) dX12_goesOn_214 (by decide) ?_
        refine j_iadd (pc := 215) dX12_goesOn_215 ?_
        rw [nI_1]
        refine j_putI (pc := 216) dX12_goesOn_216 f_X12_142 rfl mT.1 rfl ?_
        refine j_goto (pc := 219) (tgt := 145) dX12_goesOn_219 (by decide) ?_
        refine ih (X.length - (i + 1)) (by omega) (i + 1) _ (by omega) rfl (by omega) ((hk.tr (zK.wI ⟨rfl, Or.inr rfl⟩)).tr (zK.wI ⟨rfl, Or.inl rfl⟩)) zgI_self (fun h4 => ?_) (fun T' j k' e' ej' => cont T' j k' e' (by rw [zrun_T hb hbP]; exact ej'))
        refine ⟨d * 10 + b - 48, ?_, by rw [zgI_nk (by decide), zgI_self], ?_⟩
        · rw [show i + 1 - q = i - q + 1 by omega, Nat.pow_succ]
          omega
        · rw [d3, zfo_T hb hbP, zcd_lN (by omega) hbP]
theorem zi32 {b : Nat} (h : b < 2 ^ 31) : (nI b).toInt64.toInt32 = nI b := by rw [nI_l h, lN_i]
set_option maxRecDepth 20000 in
set_option maxHeartbeats 4000000 in
theorem n_goesOn {E : zE} {S : zM} {X : List Nat} {i : Nat} (hM : zMs S) (hX : mTx S X) (h24 : zgI S 123 24 = nI i) (hi : i ≤ X.length) : zSp E 1 0 0 mX12_goesOn cX12_goesOn [zR 123] S (fun r T => r = none ∧ zK zXo S T ∧ mTo T (zadv X i)) := by
  refine zSp.of (by decide) rfl (Nat.le_of_ble_eq_true rfl) rfl ?_
  have h9 := hX.2.2.1
  refine l_spaces hM hX _ i S hi rfl zK.rf h24 (fun T1 k1 g24 => ?_)
  have n1 := k1.ms hM
  have hT1 := hX.k k1 (by omega) (fun k => by omega)
  have hqle : zrun zsp X i ≤ X.length := zrun_le hi
  refine j_aload_n (pc := 26) dX12_goesOn_26 rfl ?_
  refine j_aload_n (pc := 27) dX12_goesOn_27 rfl ?_
  refine j_getIv (pc := 28) dX12_goesOn_28 f_X12_142 (Or.inl rfl) n1.1 (g24) ?_
  refine j_putI (pc := 31) dX12_goesOn_31 f_X12_149 rfl n1.1 rfl ?_
  refine j_aload_n (pc := 34) dX12_goesOn_34 rfl ?_
  refine j_aload_n (pc := 35) dX12_goesOn_35 rfl ?_
  refine j_getIv (pc := 36) dX12_goesOn_36 f_X12_142 (Or.inl rfl) n1.1 (g24) ?_
  refine j_callV (pc := 39) (t := 12) (n_see (by exact n1) (by exact hT1) hqle) dX12_goesOn_39 l_X12_145 mk_X12_see mv_X12_see (by decide) rfl n1.1 (by decide) rfl rfl (Nat.le_of_ble_eq_true rfl) (Nat.le_refl _) (Nat.le_refl _) (fun r T h_1 => ?_)
  obtain ⟨rfl, rfl⟩ := h_1
  refine j_istore_n (pc := 42) (ls' := [_, _]) dX12_goesOn_42 (by decide) rfl rfl ?_
  refine j_iload_n (pc := 43) dX12_goesOn_43 rfl ?_
  refine j_iconst (pc := 44) (v := (-1)) dX12_goesOn_44 (by decide) ?_
  refine j_icmp_ne (pc := 45) (tgt := 54) dX12_goesOn_45 (by decide) (fun h45 => ?_) (fun h45 => ?_)
  · obtain ⟨b, hb⟩ : ∃ b, X[zrun zsp X i]? = some b := ⟨_, gD 0 (Nat.lt_of_not_le (fun z => h45 ((zsee_m1 hX.2.2.2).mpr z)))⟩
    have hb8 := hX.2.2.2 b (List.mem_of_getElem? hb)
    have hbe : ∀ c, c < 256 → zsee X (zrun zsp X i) = nI c → b = c := fun c hc z => by
      rw [zsee, hb] at z
      exact (nI_eq (by omega) (by omega)).mp z
    refine j_iload_n (pc := 54) dX12_goesOn_54 rfl ?_
    refine j_i2l (pc := 55) dX12_goesOn_55 ?_
    refine j_ldcL (pc := 56) dX12_goesOn_56 k_X12_155 ?_
    refine j_ldcL (pc := 59) dX12_goesOn_59 k_X12_157 ?_
    refine j_callS (pc := 62) (n_in _ _ _) dX12_goesOn_62 l_X12_159 mk_X12_in ms_X12_in (by decide) rfl rfl (Nat.le_of_ble_eq_true rfl) (Nat.le_refl _) (Nat.le_refl _) (fun r T h_1 => ?_)
    obtain ⟨rfl, rfl⟩ := h_1
    rw [zin_let hX.2.2.2]
    refine j_if_eq (pc := 65) (tgt := 126) dX12_goesOn_65 (by decide) (fun h65 => ?_) (fun h65 => ?_)
    · have hnl : zlet b = false := by have := zbi_eq0.mp h65; rw [hb] at this; exact this
      refine j_iload_n (pc := 126) dX12_goesOn_126 rfl ?_
      refine j_i2l (pc := 127) dX12_goesOn_127 ?_
      refine j_ldcL (pc := 128) dX12_goesOn_128 k_X12_163 ?_
      refine j_ldcL (pc := 131) dX12_goesOn_131 k_X12_165 ?_
      refine j_callS (pc := 134) (n_in _ _ _) dX12_goesOn_134 l_X12_159 mk_X12_in ms_X12_in (by decide) rfl rfl (Nat.le_of_ble_eq_true rfl) (Nat.le_refl _) (Nat.le_refl _) (fun r T h_1 => ?_)
      obtain ⟨rfl, rfl⟩ := h_1
      rw [zin_dig hX.2.2.2]
      refine j_if_eq (pc := 137) (tgt := 245) dX12_goesOn_137 (by decide) (fun h137 => ?_) (fun h137 => ?_)
      · have hnd : zdig b = false := by have := zbi_eq0.mp h137; rw [hb] at this; exact this
        refine j_aload_n (pc := 245) dX12_goesOn_245 rfl ?_
        refine j_dup (pc := 246) dX12_goesOn_246 rfl ?_
        refine j_getIv (pc := 247) dX12_goesOn_247 f_X12_142 (Or.inl rfl) n1.1 (g24) ?_
        refine j_iconst (pc := 250) (v := 1) dX12_goesOn_250 (by decide) ?_
        refine j_iadd (pc := 251) dX12_goesOn_251 ?_
        rw [nI_1]
        refine j_putI (pc := 252) dX12_goesOn_252 f_X12_142 rfl n1.1 rfl ?_
        refine j_aload_n (pc := 255) dX12_goesOn_255 rfl ?_
        refine j_iload_n (pc := 256) dX12_goesOn_256 rfl ?_
        refine j_bipush (pc := 257) (v := 59) dX12_goesOn_257 (by decide) ?_
        refine j_icmp_eq (pc := 259) (tgt := 274) dX12_goesOn_259 (by decide) (fun h259 => ?_) (fun h259 => ?_)
        · refine j_iload_n (pc := 274) dX12_goesOn_274 rfl ?_
          refine j_goto (pc := 275) (tgt := 279) dX12_goesOn_275 (by decide) ?_
          have hs : b = 59 ∨ b = 44 ∨ b = 45 := Or.inl (hbe 59 (by decide) h259)
          refine j_putI (pc := 279) dX12_goesOn_279 f_X12_152 rfl n1.1 rfl ?_
          refine j_vret (pc := 282) dX12_goesOn_282 rfl ?_
          refine ⟨rfl, (((k1.mo (fun c k z => by unfold zXo; omega)).tr (zK.wI (X := zXo) (a := 123) (k := 23) (v := nI (zrun zsp X i)) (by unfold zXo; omega))).tr (zK.wI (by unfold zXo; omega))).tr (zK.wI (by unfold zXo; omega)), ?_⟩
          have ek : zadv X i = (zrun zsp X i + 1, 3, zrun zsp X i, (nI b).toInt64) := (ztk_S hb hnl hnd).trans (by rw [if_pos hs])
          rw [ek]
          exact ⟨by rw [zgI_nk (by decide), zgI_self], by rw [zgI_nk (by decide), zgI_nk (by decide), zgI_self], by rw [zgI_self, zsee, hb]; exact (zi32 (by omega)).symm, fun z => absurd (show (3 : Nat) = 2 from z) (by decide)⟩
        · refine j_iload_n (pc := 262) dX12_goesOn_262 rfl ?_
          refine j_bipush (pc := 263) (v := 44) dX12_goesOn_263 (by decide) ?_
          refine j_icmp_eq (pc := 265) (tgt := 274) dX12_goesOn_265 (by decide) (fun h265 => ?_) (fun h265 => ?_)
          · refine j_iload_n (pc := 274) dX12_goesOn_274 rfl ?_
            refine j_goto (pc := 275) (tgt := 279) dX12_goesOn_275 (by decide) ?_
            have hs : b = 59 ∨ b = 44 ∨ b = 45 := Or.inr (Or.inl (hbe 44 (by decide) h265))
            refine j_putI (pc := 279) dX12_goesOn_279 f_X12_152 rfl n1.1 rfl ?_
            refine j_vret (pc := 282) dX12_goesOn_282 rfl ?_
            refine ⟨rfl, (((k1.mo (fun c k z => by unfold zXo; omega)).tr (zK.wI (X := zXo) (a := 123) (k := 23) (v := nI (zrun zsp X i)) (by unfold zXo; omega))).tr (zK.wI (by unfold zXo; omega))).tr (zK.wI (by unfold zXo; omega)), ?_⟩
            have ek : zadv X i = (zrun zsp X i + 1, 3, zrun zsp X i, (nI b).toInt64) := (ztk_S hb hnl hnd).trans (by rw [if_pos hs])
            rw [ek]
            exact ⟨by rw [zgI_nk (by decide), zgI_self], by rw [zgI_nk (by decide), zgI_nk (by decide), zgI_self], by rw [zgI_self, zsee, hb]; exact (zi32 (by omega)).symm, fun z => absurd (show (3 : Nat) = 2 from z) (by decide)⟩
          · refine j_iload_n (pc := 268) dX12_goesOn_268 rfl ?_
            refine j_bipush (pc := 269) (v := 45) dX12_goesOn_269 (by decide) ?_
            refine j_icmp_ne (pc := 271) (tgt := 278) dX12_goesOn_271 (by decide) (fun h271 => ?_) (fun h271 => ?_)
            · refine j_iconst (pc := 278) (v := 1) dX12_goesOn_278 (by decide) ?_
              have hs : ¬ (b = 59 ∨ b = 44 ∨ b = 45) := by
                rintro (z | z | z)
                · exact h259 (by rw [zsee, hb, z]; rfl)
                · exact h265 (by rw [zsee, hb, z]; rfl)
                · exact h271 (by rw [zsee, hb, z]; rfl)
              refine j_putI (pc := 279) dX12_goesOn_279 f_X12_152 rfl n1.1 rfl ?_
              refine j_vret (pc := 282) dX12_goesOn_282 rfl ?_
              refine ⟨rfl, (((k1.mo (fun c k z => by unfold zXo; omega)).tr (zK.wI (X := zXo) (a := 123) (k := 23) (v := nI (zrun zsp X i)) (by unfold zXo; omega))).tr (zK.wI (by unfold zXo; omega))).tr (zK.wI (by unfold zXo; omega)), ?_⟩
              have ek : zadv X i = (zrun zsp X i + 1, 4, zrun zsp X i, (nI b).toInt64) := (ztk_S hb hnl hnd).trans (by rw [if_neg hs])
              rw [ek]
              exact ⟨by rw [zgI_nk (by decide), zgI_self], by rw [zgI_nk (by decide), zgI_nk (by decide), zgI_self], zgI_self, fun z => absurd (show (4 : Nat) = 2 from z) (by decide)⟩
            · refine j_iload_n (pc := 274) dX12_goesOn_274 rfl ?_
              refine j_goto (pc := 275) (tgt := 279) dX12_goesOn_275 (by decide) ?_
              have hs : b = 59 ∨ b = 44 ∨ b = 45 := Or.inr (Or.inr (hbe 45 (by decide) h271))
              refine j_putI (pc := 279) dX12_goesOn_279 f_X12_152 rfl n1.1 rfl ?_
              refine j_vret (pc := 282) dX12_goesOn_282 rfl ?_
              refine ⟨rfl, (((k1.mo (fun c k z => by unfold zXo; omega)).tr (zK.wI (X := zXo) (a := 123) (k := 23) (v := nI (zrun zsp X i)) (by unfold zXo; omega))).tr (zK.wI (by unfold zXo; omega))).tr (zK.wI (by unfold zXo; omega)), ?_⟩
              have ek : zadv X i = (zrun zsp X i + 1, 3, zrun zsp X i, (nI b).toInt64) := (ztk_S hb hnl hnd).trans (by rw [if_pos hs])
              rw [ek]
              exact ⟨by rw [zgI_nk (by decide), zgI_self], by rw [zgI_nk (by decide), zgI_nk (by decide), zgI_self], by rw [zgI_self, zsee, hb]; exact (zi32 (by omega)).symm, fun z => absurd (show (3 : Nat) = 2 from z) (by decide)⟩
      · have hd : zdig b = true := by have := zbi_ne0 h137; rw [hb] at this; exact this
        refine j_aload_n (pc := 140) dX12_goesOn_140 rfl ?_
        refine j_iconst (pc := 141) (v := 0) dX12_goesOn_141 (by decide) ?_
        refine j_putI (pc := 142) dX12_goesOn_142 f_X12_167 rfl n1.1 rfl ?_
        refine l_digits (S := zwI (zwI T1 123 23 (nI (zrun zsp X i))) 123 26 0) (q := zrun zsp X i) (by exact n1) (by exact hT1) ((zgI_nk (by decide)).trans zgI_self) _ (zrun zsp X i) _ hqle rfl (Nat.le_refl _) zK.rf ((zgI_nk (by decide)).trans ((zgI_nk (by decide)).trans g24)) (fun _ => ⟨0, by rw [Nat.sub_self]; decide, zgI_self, rfl⟩) (fun TD j kD g24D ej gd => ?_)
        have hjle : j ≤ X.length := by rw [ej]; exact zrun_le hqle
        have hjq : zrun zsp X i ≤ j := by rw [ej]; exact zrun_ge
        have nD := kD.ms (by exact n1)
        refine j_aload_n (pc := 222) dX12_goesOn_222 rfl ?_
        refine j_aload_n (pc := 223) dX12_goesOn_223 rfl ?_
        refine j_getIv (pc := 224) dX12_goesOn_224 f_X12_142 (Or.inl rfl) nD.1 (g24D) ?_
        refine j_aload_n (pc := 227) dX12_goesOn_227 rfl ?_
        refine j_getIv (pc := 228) dX12_goesOn_228 f_X12_149 (Or.inl rfl) nD.1 ((kD.2.2.2.1 _ _ (by omega)).trans ((zgI_nk (by decide)).trans zgI_self)) ?_
        refine j_isub (pc := 231) dX12_goesOn_231 ?_
        rw [show nI j - nI (zrun zsp X i) = nI (j - zrun zsp X i) from pk_sub hjq]
        refine j_iconst (pc := 232) (v := 4) dX12_goesOn_232 (by decide) ?_
        refine j_icmp_le (pc := 233) (tgt := 240) dX12_goesOn_233 (by decide) (fun h233 => ?_) (fun h233 => ?_)
        · refine j_iconst (pc := 240) (v := 3) dX12_goesOn_240 (by decide) ?_
          refine j_putI (pc := 241) dX12_goesOn_241 f_X12_152 rfl nD.1 rfl ?_
          refine j_vret (pc := 244) dX12_goesOn_244 rfl ?_
          have h4 : j - zrun zsp X i ≤ 4 := Nat.le_of_not_lt (fun z => nI_ge (a := 4) z (by omega) h233)
          obtain ⟨d, d1, d2, d3⟩ := gd h4
          have hp : (10 : Nat) ^ (j - zrun zsp X i) ≤ 10 ^ 4 := Nat.pow_le_pow_right (by decide) h4
          refine ⟨rfl, ((((k1.mo (fun c k z => by unfold zXo; omega)).tr (zK.wI (X := zXo) (a := 123) (k := 23) (v := nI (zrun zsp X i)) (by unfold zXo; omega))).tr (zK.wI (by unfold zXo; omega))).tr (kD.mo (fun c k z => by unfold zXo; omega))).tr (zK.wI (by unfold zXo; omega)), ?_⟩
          have ek : zadv X i = (j, 2, zrun zsp X i, zfo zcd zdig 0 X (zrun zsp X i)) := (ztk_D hb hnl hd).trans (by rw [← ej, if_pos h4])
          rw [ek]
          exact ⟨by rw [zgI_nk (by decide)]; exact g24D, by rw [zgI_nk (by decide), kD.2.2.2.1 _ _ (by omega), zgI_nk (by decide), zgI_self], zgI_self, fun _ => ⟨d, by omega, d3, by rw [zgI_nk (by decide)]; exact d2⟩⟩
        · refine j_iconst (pc := 236) (v := 1) dX12_goesOn_236 (by decide) ?_
          refine j_goto (pc := 237) (tgt := 241) dX12_goesOn_237 (by decide) ?_
          refine j_putI (pc := 241) dX12_goesOn_241 f_X12_152 rfl nD.1 rfl ?_
          refine j_vret (pc := 244) dX12_goesOn_244 rfl ?_
          have h4 : ¬ j - zrun zsp X i ≤ 4 := fun z => h233 (nI_le (b := 4) z (by decide))
          refine ⟨rfl, ((((k1.mo (fun c k z => by unfold zXo; omega)).tr (zK.wI (X := zXo) (a := 123) (k := 23) (v := nI (zrun zsp X i)) (by unfold zXo; omega))).tr (zK.wI (by unfold zXo; omega))).tr (kD.mo (fun c k z => by unfold zXo; omega))).tr (zK.wI (by unfold zXo; omega)), ?_⟩
          have ek : zadv X i = (j, 4, zrun zsp X i, zfo zcd zdig 0 X (zrun zsp X i)) := (ztk_D hb hnl hd).trans (by rw [← ej, if_neg h4])
          rw [ek]
          exact ⟨by rw [zgI_nk (by decide)]; exact g24D, by rw [zgI_nk (by decide), kD.2.2.2.1 _ _ (by omega), zgI_nk (by decide), zgI_self], zgI_self, fun z => absurd (show (4 : Nat) = 2 from z) (by decide)⟩
    · have hl : zlet b = true := by have := zbi_ne0 h65; rw [hb] at this; exact this
      have hrle : zrun zlet X (zrun zsp X i) ≤ X.length := zrun_le hqle
      refine l_letters (S := (zwI T1 123 23 (nI (zrun zsp X i)))) (by exact n1) (by exact hT1) _ (zrun zsp X i) _ hqle rfl zK.rf ((zgI_nk (by decide)).trans g24) (fun TL kL g24L => ?_)
      have nL := kL.ms (by exact n1)
      refine j_aload_n (pc := 102) dX12_goesOn_102 rfl ?_
      refine j_aload_n (pc := 103) dX12_goesOn_103 rfl ?_
      refine j_getIv (pc := 104) dX12_goesOn_104 f_X12_142 (Or.inl rfl) nL.1 (g24L) ?_
      refine j_aload_n (pc := 107) dX12_goesOn_107 rfl ?_
      refine j_getIv (pc := 108) dX12_goesOn_108 f_X12_149 (Or.inl rfl) nL.1 ((kL.2.2.2.1 _ _ (by omega)).trans zgI_self) ?_
      refine j_isub (pc := 111) dX12_goesOn_111 ?_
      rw [show nI (zrun zlet X (zrun zsp X i)) - nI (zrun zsp X i) = nI (zrun zlet X (zrun zsp X i) - zrun zsp X i) from pk_sub zrun_ge]
      refine j_bipush (pc := 112) (v := 6) dX12_goesOn_112 (by decide) ?_
      refine j_icmp_le (pc := 114) (tgt := 121) dX12_goesOn_114 (by decide) (fun h114 => ?_) (fun h114 => ?_)
      · refine j_iconst (pc := 121) (v := 2) dX12_goesOn_121 (by decide) ?_
        refine j_putI (pc := 122) dX12_goesOn_122 f_X12_152 rfl nL.1 rfl ?_
        refine j_vret (pc := 125) dX12_goesOn_125 rfl ?_
        have h6 : zrun zlet X (zrun zsp X i) - zrun zsp X i ≤ 6 := Nat.le_of_not_lt (fun z => nI_ge (a := 6) z (by omega) h114)
        refine ⟨rfl, (((k1.mo (fun c k z => by unfold zXo; omega)).tr (zK.wI (X := zXo) (a := 123) (k := 23) (v := nI (zrun zsp X i)) (by unfold zXo; omega))).tr (kL.mo (fun c k z => by unfold zXo; omega))).tr (zK.wI (by unfold zXo; omega)), ?_⟩
        have ek : zadv X i = (zrun zlet X (zrun zsp X i), 1, zrun zsp X i, zfo zcw zlet 0 X (zrun zsp X i)) := (ztk_L hb hl).trans (by rw [if_pos h6])
        rw [ek]
        exact ⟨by rw [zgI_nk (by decide)]; exact g24L, by rw [zgI_nk (by decide), kL.2.2.2.1 _ _ (by omega), zgI_self], zgI_self, fun z => absurd (show (1 : Nat) = 2 from z) (by decide)⟩
      · refine j_iconst (pc := 117) (v := 1) dX12_goesOn_117 (by decide) ?_
        refine j_goto (pc := 118) (tgt := 122) dX12_goesOn_118 (by decide) ?_
        refine j_putI (pc := 122) dX12_goesOn_122 f_X12_152 rfl nL.1 rfl ?_
        refine j_vret (pc := 125) dX12_goesOn_125 rfl ?_
        have h6 : ¬ zrun zlet X (zrun zsp X i) - zrun zsp X i ≤ 6 := fun z => h114 (nI_le (b := 6) z (by decide))
        refine ⟨rfl, (((k1.mo (fun c k z => by unfold zXo; omega)).tr (zK.wI (X := zXo) (a := 123) (k := 23) (v := nI (zrun zsp X i)) (by unfold zXo; omega))).tr (kL.mo (fun c k z => by unfold zXo; omega))).tr (zK.wI (by unfold zXo; omega)), ?_⟩
        have ek : zadv X i = (zrun zlet X (zrun zsp X i), 4, zrun zsp X i, zfo zcw zlet 0 X (zrun zsp X i)) := (ztk_L hb hl).trans (by rw [if_neg h6])
        rw [ek]
        exact ⟨by rw [zgI_nk (by decide)]; exact g24L, by rw [zgI_nk (by decide), kL.2.2.2.1 _ _ (by omega), zgI_self], zgI_self, fun z => absurd (show (4 : Nat) = 2 from z) (by decide)⟩
  · refine j_aload_n (pc := 48) dX12_goesOn_48 rfl ?_
    refine j_iconst (pc := 49) (v := 0) dX12_goesOn_49 (by decide) ?_
    refine j_putI (pc := 50) dX12_goesOn_50 f_X12_152 rfl n1.1 rfl ?_
    refine j_vret (pc := 53) dX12_goesOn_53 rfl ?_
    refine ⟨rfl, ((k1.mo (fun c k z => by unfold zXo; omega)).tr (zK.wI (X := zXo) (a := 123) (k := 23) (v := nI (zrun zsp X i)) (by unfold zXo; omega))).tr (zK.wI (by unfold zXo; omega)), ?_⟩
    have ek : zadv X i = (zrun zsp X i, 0, zrun zsp X i, 0) := ztk_E ((zsee_m1 hX.2.2.2).mp h45)
    rw [ek]
    exact ⟨by rw [zgI_nk (by decide), zgI_nk (by decide)]; exact g24, by rw [zgI_nk (by decide), zgI_self], zgI_self, fun z => absurd (show (0 : Nat) = 2 from z) (by decide)⟩
