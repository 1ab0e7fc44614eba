/-! table of the model -/
def zXT (c k : Nat) : Prop := zXs c k ∨ zXB c k ∨ (c = 123 ∧ (k = 1 ∨ k = 2 ∨ k = 3 ∨ k = 5))
theorem zMO.pq {S : zM} {s : zST} {n : Nat} (h : zMO S s) (hw : zWF n s) : ∃ q, zWp q ∧ mQ S q := by
  cases hP : sP s with
  | none => exact h.2.2.2.2.2.1.1.2 hP
  | some q =>
    obtain ⟨t, ht, hq⟩ := hw.pg hP
    exact ⟨q, hq, (h.2.2.2.2.2.1.2 q hP).1⟩
/-- a text that could not be read -/
theorem zMO.bad {S T : zM} {s : zST} {X : Nat → Nat → Prop} {tr fl : Nat} {pl : Int32} (h : zMO S s) (f : zK X S T) (hx : ∀ c k, X c k → zXs c k ∨ (c = 123 ∧ (k = 1 ∨ k = 2 ∨ k = 3 ∨ k = 5))) (h5 : zgI T 123 5 = 0) (h1 : zgI T 123 1 = nI tr) (h2 : zgI T 123 2 = nI fl) (h3 : zgI T 123 3 = pl) : zMO T ([], (tr, fl, pl), s.2.2) := by
  obtain ⟨h0, hA, hB, h12, hT, hP, hR⟩ := h
  have g : ∀ c k, ¬ (zXs c k ∨ (c = 123 ∧ (k = 1 ∨ k = 2 ∨ k = 3 ∨ k = 5))) → ¬ X c k := fun c k q z => q (hx c k z)
  exact ⟨f.ms h0, ⟨h5, fun i hi => absurd hi (Nat.not_lt_zero i)⟩, ⟨h1, h2, fun _ => h3⟩, ⟨(f.2.2.2.1 _ _ (g _ _ (by unfold zXs; omega))).trans h12.1, fun q => (f.2.2.2.1 _ _ (g _ _ (by unfold zXs; omega))).trans (h12.2 q)⟩, fun t ht => ⟨(hT t ht).1.k f (fun k hk => g _ _ (by unfold zXs; omega)) (fun c k hc => g _ _ (by unfold zXs; omega)), (hT t ht).2.k f (fun k => g _ _ (by unfold zXs; omega))⟩, hP.k f ⟨g _ _ (by unfold zXs; omega), g _ _ (by unfold zXs; omega)⟩ (fun c k _ _ => g _ _ (by unfold zXs; omega)), fun r hr => (hR r hr).k f (fun c k _ _ => g _ _ (by unfold zXs; omega))⟩
abbrev zTW (w : zPi) : zTB := (w.2.2.1, w.2.2.2.1, [], (fun _ => (fun i => decide (i < w.2.2.2.2.1), w.2.2.2.2.2)), w.2.2.2.2.1, 0, 0, fun _ => 0)
/-- a text that was read -/
theorem zMO.told {S S1 T : zM} {s : zST} {n : Nat} {X : List Nat} {w : zPi} {pl : Int32} (h : zMO S s) (hw : zWF n s) (f : zK zXT S T) (hd : mPd S1 X w) (h5 : zgI T 123 5 = 0) (h1 : zgI T 123 1 = 0) (h2 : zgI T 123 2 = 0)
    (hb : zgI T 123 6 = nI w.2.1.length ∧ zgI T 123 8 = nI w.2.2.2.1.length ∧ zgI T 123 12 = 1 ∧ zgI T 123 29 = 0 ∧ zgI T 123 30 = 0 ∧ zgI T 123 31 = nI w.2.2.2.2.1 ∧ zgI T 123 39 = 0 ∧ zgI T 123 46 = 0) (b1 : mB1 S1 T 4) (b2 : mB2 T w.2.1.length w.2.2.2.2.1 w.2.2.2.2.2 64) (br : ∀ r, r < 4 → zgI T 151 r = 0) : zMO T ([], (0, 0, pl), some (zTW w), none, fun _ => none) := by
  obtain ⟨c6, c8, c12, c29, c30, c31, c39, c46⟩ := hb
  obtain ⟨d0, d1, d2, d3, ⟨e1, e2, e3, e4⟩, ⟨o1, o2, o3⟩, ⟨v1, v2⟩⟩ := hd
  obtain ⟨q, hq1, hq2⟩ := h.pq hw
  refine ⟨f.ms h.1, ⟨h5, fun i hi => absurd hi (Nat.not_lt_zero i)⟩, ⟨h1, h2, fun z => absurd (show (0 : Nat) = 4 from z) (by decide)⟩, ⟨c12, fun z => by cases z⟩, fun t ht => ?_, ⟨⟨c46, fun _ => ⟨q, hq1, hq2.k f (by unfold zXT zXs zXB; omega) (fun c k hc => by unfold zXT zXs zXB; omega)⟩⟩, fun q z => by cases z⟩, fun r hr => br r hr⟩
  cases ht
  refine ⟨⟨⟨by rw [c6, e2.1], fun i b hb => ?_⟩, ⟨c8, fun i e he => ?_⟩, ⟨c39, fun i c hc => by cases (show (none : Option zSe) = some c from hc)⟩, ⟨c29, c30, c31⟩, fun u hu1 hu2 i hi => ?_⟩, ⟨fun _ => 0, fun i hi => ⟨(b2 i hi).2.1, Nat.le_refl _, Or.inl rfl⟩⟩, fun i _ => rfl, fun r x hr hx => by cases hx⟩
  · have hi := (List.getElem?_eq_some_iff.mp hb).1
    have hi : i < w.2.2.1.length := hi
    rw [(b1 i (by omega)).1, e4 i b hb, zbi_a1]
  · have hi := (List.getElem?_eq_some_iff.mp he).1
    have hi : i < w.2.2.2.1.length := hi
    have := b1 i (by omega)
    have ho := o3 i e he
    exact ⟨this.2.1.trans ho.1, by rw [this.2.2.1, ho.2.1, zbi_a1], by rw [this.2.2.2, ho.2.2, zbi_a1]⟩
  · have hu : u = 0 := Nat.eq_zero_of_le_zero hu1
    subst hu
    have := b2 i hi
    rw [show 64 * (0 % 41) + i = i by omega]
    exact ⟨this.1, fun hg c hc => this.2.2 (of_decide_eq_true hg) c (by rw [← e2.1]; exact hc)⟩
set_option maxRecDepth 20000 in
set_option maxHeartbeats 4000000 in
theorem m_table {E : zE} {S : zM} {s : zST} {n : Nat} (hE : zOKE E) (h : zMO S s) (hw : zWF n s) (x : Int32) : zSp E 9 0 0 mX12_table cX12_table [zR 123, zI x] S (fun r T => r = some (zI (q_table s x).1) ∧ zMO T (q_table s x).2 ∧ zF zMX S T) := by
  refine zSp.of (by decide) rfl (Nat.le_of_ble_eq_true rfl) rfl ?_
  have hM := h.1
  refine j_aload_n (pc := 0) dX12_table_0 rfl ?_
  refine j_iload_n (pc := 1) dX12_table_1 rfl ?_
  refine j_i2l (pc := 2) dX12_table_2 ?_
  refine j_lconst (pc := 3) (v := 0) dX12_table_3 (by decide) ?_
  refine j_aload_n (pc := 4) dX12_table_4 rfl ?_
  refine j_getIv (pc := 5) dX12_table_5 f_X12_132 (Or.inl rfl) hM.1 (h.2.1.1) ?_
  refine j_i2l (pc := 8) dX12_table_8 ?_
  refine j_callS (pc := 9) (n_in _ _ _) dX12_table_9 l_X12_159 mk_X12_in ms_X12_in (by decide) rfl rfl (Nat.le_of_ble_eq_true rfl) (Nat.le_refl _) (Nat.le_refl _) (fun r T h_1 => ?_)
  obtain ⟨rfl, rfl⟩ := h_1
  rw [zin_tp]
  refine j_if_eq (pc := 12) (tgt := 19) dX12_table_12 (by decide) (fun h12 => ?_) (fun h12 => ?_)
  · refine j_iconst (pc := 19) (v := 2) dX12_table_19 (by decide) ?_
    refine j_callV (pc := 20) (t := 12) (n_rf2 hM) dX12_table_20 l_X12_256 mk_X12_isRefused mv_X12_isRefused (by decide) rfl hM.1 (by decide) rfl rfl (Nat.le_of_ble_eq_true rfl) (Nat.le_refl _) (Nat.le_refl _) (fun r T h_1 => ?_)
    obtain ⟨rfl, rfl⟩ := h_1
    refine j_if_eq (pc := 23) (tgt := 28) dX12_table_23 (by decide) (fun h23 => absurd h23 (by decide)) (fun h23 => ?_)
    refine j_iconst (pc := 26) (v := (-1)) dX12_table_26 (by decide) ?_
    refine j_iret (pc := 27) dX12_table_27 rfl ?_
    exact m_ref h (n := 2) (by decide) (by rw [q_table, if_pos (zbi_eq0.mp h12)])
  · refine j_iconst (pc := 15) (v := 0) dX12_table_15 (by decide) ?_
    refine j_goto (pc := 16) (tgt := 20) dX12_table_16 (by decide) ?_
    refine j_callV (pc := 20) (t := 12) (n_ok hM) dX12_table_20 l_X12_256 mk_X12_isRefused mv_X12_isRefused (by decide) rfl hM.1 (by decide) rfl rfl (Nat.le_of_ble_eq_true rfl) (Nat.le_refl _) (Nat.le_refl _) (fun r T h_1 => ?_)
    obtain ⟨rfl, rfl⟩ := h_1
    refine j_if_eq (pc := 23) (tgt := 28) dX12_table_23 (by decide) (fun h23 => ?_) (fun h23 => absurd rfl h23)
    obtain ⟨k, hk, rfl⟩ := zoT_t hw.2.1.1 (zbi_ne0 h12)
    obtain ⟨X, hX, rfl⟩ : ∃ X, X = (sF s).take k ∧ k = X.length := ⟨_, rfl, by rw [List.length_take]; omega⟩
    have h9 : X.length ≤ 900 := by have := hw.2.1.1; omega
    have hbX : ∀ b ∈ X, b < 256 := fun b hb => hw.2.1.2 b (List.mem_of_mem_take (hX ▸ hb))
    have hAX : ∀ i, i < X.length → zgI S 124 i = nI (X.getD i 0) := fun i hi => by
      rw [h.2.1.2 i (by omega), hX, List.getD_eq_getElem?_getD, List.getD_eq_getElem?_getD, List.getElem?_take_of_lt hi]
    have eq : q_table s (nI X.length) = match zrt X with
      | .error e => (-1, ([], (4, e.1, nI e.2), s.2.2))
      | .ok w => (nI w.2.2.2.2.1, ([], (0, 0, sPl s), some (zTW w), none, fun _ => none)) := by
      rw [q_table, if_neg (by rw [zbi_ne0 h12]; decide), zn, nI_clamp (by omega), ← hX]
      cases zrt X <;> rfl
    refine j_aload_n (pc := 28) dX12_table_28 rfl ?_
    refine j_iconst (pc := 29) (v := 0) dX12_table_29 (by decide) ?_
    refine j_putI (pc := 30) dX12_table_30 f_X12_132 rfl hM.1 rfl ?_
    refine j_aload_n (pc := 33) dX12_table_33 rfl ?_
    refine j_iconst (pc := 34) (v := 0) dX12_table_34 (by decide) ?_
    refine j_putI (pc := 35) dX12_table_35 f_X12_259 rfl hM.1 rfl ?_
    refine j_aload_n (pc := 38) dX12_table_38 rfl ?_
    refine j_iload_n (pc := 39) dX12_table_39 rfl ?_
    refine j_callV (pc := 40) (t := 12) (n_readAll (S := (zwI (zwI (zNw S 0) 123 5 0) 123 2 0)) (X := X) hE (by exact hM) (by exact hAX) h9 hbX) dX12_table_40 l_X12_262 mk_X12_readAll mv_X12_readAll (by decide) rfl hM.1 (by decide) rfl rfl (Nat.le_of_ble_eq_true rfl) (Nat.le_refl _) (Nat.le_refl _) (fun r T1 h_1 => ?_)
    skip
    rw [eq]
    have kU : zK (fun c k => zXs c k ∨ (c = 123 ∧ (k = 1 ∨ k = 2 ∨ k = 3 ∨ k = 5))) S (zwI (zwI (zNw S 0) 123 5 0) 123 2 0) := ((((zK.wI (Or.inl (by unfold zXs; omega))).tr (zK.wI (Or.inr (by omega)))).tr (zK.wI (Or.inr (by omega)))).tr (zK.wI (Or.inr (by omega)))).tr (zK.wI (Or.inr (by omega)))
    cases hq : zrt X with
    | error e =>
      rw [hq] at h_1
      obtain ⟨rfl, k1, q27, q28⟩ := h_1
      have n1 := k1.ms (by exact hM)
      have c5 : zgI T1 123 5 = 0 := (k1.2.2.2.1 _ _ (by unfold zXp; omega)).trans ((zgI_nk (by decide)).trans zgI_self)
      refine j_if_ne (pc := 43) (tgt := 68) dX12_table_43 (by decide) (fun h43 => absurd rfl h43) (fun h43 => ?_)
      refine j_aload_n (pc := 46) dX12_table_46 rfl ?_
      refine j_aload_n (pc := 47) dX12_table_47 rfl ?_
      refine j_getIv (pc := 48) dX12_table_48 f_X12_180 (Or.inl rfl) n1.1 (q27) ?_
      refine j_putI (pc := 51) dX12_table_51 f_X12_259 rfl n1.1 rfl ?_
      refine j_aload_n (pc := 54) dX12_table_54 rfl ?_
      refine j_aload_n (pc := 55) dX12_table_55 rfl ?_
      refine j_getIv (pc := 56) dX12_table_56 f_X12_183 (Or.inl rfl) n1.1 ((zgI_nk (by decide)).trans q28) ?_
      refine j_putI (pc := 59) dX12_table_59 f_X12_11 rfl n1.1 rfl ?_
      refine j_aload_n (pc := 62) dX12_table_62 rfl ?_
      refine j_iconst (pc := 63) (v := 4) dX12_table_63 (by decide) ?_
      refine j_callV (pc := 64) (t := 12) (n_no (by exact n1) _) dX12_table_64 l_X12_265 mk_X12_no mv_X12_no (by decide) rfl n1.1 (by decide) rfl rfl (Nat.le_of_ble_eq_true rfl) (Nat.le_refl _) (Nat.le_refl _) (fun r T h_1 => ?_)
      obtain ⟨rfl, rfl⟩ := h_1
      refine j_iret (pc := 67) dX12_table_67 rfl ?_
      have kE : zK (fun c k => zXs c k ∨ (c = 123 ∧ (k = 1 ∨ k = 2 ∨ k = 3 ∨ k = 5))) S (zwI (zwI (zwI T1 123 2 (nI e.1)) 123 3 (nI e.2)) 123 1 4) := kU.tr ((((k1.mo (fun c k z => Or.inl (zXp.s z))).tr (zK.wI (Or.inr (by omega)))).tr (zK.wI (Or.inr (by omega)))).tr (zK.wI (Or.inr (by omega))))
      exact ⟨rfl, h.bad kE (fun c k z => z) ((zgI_nk (by decide)).trans ((zgI_nk (by decide)).trans ((zgI_nk (by decide)).trans c5))) zgI_self ((zgI_nk (by decide)).trans ((zgI_nk (by decide)).trans zgI_self)) ((zgI_nk (by decide)).trans zgI_self), kE.f (fun c k z => by unfold zXs at z; unfold zMX; omega)⟩
    | ok w =>
      rw [hq] at h_1
      obtain ⟨rfl, k1, h1⟩ := h_1
      have n1 := h1.1
      have c5 : zgI T1 123 5 = 0 := (k1.2.2.2.1 _ _ (by unfold zXp; omega)).trans ((zgI_nk (by decide)).trans zgI_self)
      have c2 : zgI T1 123 2 = 0 := (k1.2.2.2.1 _ _ (by unfold zXp; omega)).trans zgI_self
      have c1 : zgI T1 123 1 = 0 := (k1.2.2.2.1 _ _ (by unfold zXp; omega)).trans ((zgI_nk (by decide)).trans ((zgI_nk (by decide)).trans zgI_self))
      refine j_if_ne (pc := 43) (tgt := 68) dX12_table_43 (by decide) (fun h43 => ?_) (fun h43 => absurd h43 (by decide))
      refine j_aload_n (pc := 68) dX12_table_68 rfl ?_
      refine j_callV (pc := 69) (t := 12) (n_begins h1) dX12_table_69 l_X12_268 mk_X12_begins mv_X12_begins (by decide) rfl n1.1 (by decide) rfl rfl (Nat.le_of_ble_eq_true rfl) (Nat.le_refl _) (Nat.le_refl _) (fun r T2 h_1 => ?_)
      obtain ⟨rfl, k2, hb, b1, b2, br⟩ := h_1
      have n2 := k2.ms n1
      refine j_aload_n (pc := 72) dX12_table_72 rfl ?_
      refine j_getIv (pc := 73) dX12_table_73 f_X12_233 (Or.inl rfl) n2.1 ((k2.2.2.2.1 _ _ (by unfold zXB; omega)).trans h1.2.2.2.2.2.2.1.1) ?_
      refine j_iret (pc := 76) dX12_table_76 rfl ?_
      have kE : zK zXT S T2 := (kU.mo (fun c k z => z.elim Or.inl (fun z => Or.inr (Or.inr z)))).tr ((k1.mo (fun c k z => Or.inl (zXp.s z))).tr (k2.mo (fun c k z => Or.inr (Or.inl z))))
      exact ⟨rfl, h.told hw kE h1 ((k2.2.2.2.1 _ _ (by unfold zXB; omega)).trans c5) ((k2.2.2.2.1 _ _ (by unfold zXB; omega)).trans c1) ((k2.2.2.2.1 _ _ (by unfold zXB; omega)).trans c2) hb b1 b2 br, kE.f (fun c k z => by unfold zXT zXs zXB at z; unfold zMX; omega)⟩
