/-! the cells of a page that is being laid -/
def zPb (S : zM) (L : List Nat) (vs : Nat → Nat → Int64) (K : Nat) (T : zM) (A B : List Nat) : Prop := zK zXq S T ∧ (zgI T 123 46 = 1 ∧ zgI T 123 47 = nI L.length) ∧ (mTk T 0 A ∧ mTk T 1 B ∧ zTkn A ∧ zTkn B) ∧ (∀ i x, L[i]? = some x → zgI T 145 i = nI x) ∧ ∀ i c, i < L.length → c < K → zgL T 146 (4 * i + c) = vs i c
theorem zPb.k {S T U : zM} {L A B : List Nat} {vs : Nat → Nat → Int64} {K : Nat} {X : Nat → Nat → Prop} (h : zPb S L vs K T A B) (f : zK X T U) (hx : ∀ c k, X c k → zXkm c k ∨ c = 149) : zPb S L vs K U A B := by
  obtain ⟨h1, ⟨h2, h3⟩, ⟨h4, h5, h6, h7⟩, h8, h9⟩ := h
  have g : ∀ c k, ¬ (zXkm c k ∨ c = 149) → ¬ X c k := fun c k q z => q (hx c k z)
  exact ⟨h1.tr (f.mo (fun c k z => (hx c k z).elim Or.inl (fun q => Or.inr (Or.inl (by omega))))), ⟨(f.2.2.2.1 _ _ (g _ _ (by unfold zXkm zXk zXm; omega))).trans h2, (f.2.2.2.1 _ _ (g _ _ (by unfold zXkm zXk zXm; omega))).trans h3⟩, ⟨h4.k f h6.1 (g _ _ (by unfold zXkm zXk zXm; omega)) (fun i _ => g _ _ (by unfold zXkm zXk zXm; omega)), h5.k f h7.1 (g _ _ (by unfold zXkm zXk zXm; omega)) (fun i _ => g _ _ (by unfold zXkm zXk zXm; omega)), h6, h7⟩, fun i x hx => (f.2.2.2.1 _ _ (g _ _ (by unfold zXkm zXk zXm; omega))).trans (h8 i x hx), fun i c hi hc => (f.2.2.2.2 _ _ (g _ _ (by unfold zXkm zXk zXm; omega))).trans (h9 i c hi hc)⟩
theorem zPb.t {S T U : zM} {L A B : List Nat} {vs : Nat → Nat → Int64} {K w : Nat} {C : List Nat} (h : zPb S L vs K T A B) (f : zK (zXt w) T U) (hw : w < 2) (hC : mTk U w C) (hC9 : zTkn C) : zPb S L vs K U (if w = 0 then C else A) (if w = 0 then B else C) := by
  obtain ⟨h1, ⟨h2, h3⟩, ⟨h4, h5, h6, h7⟩, h8, h9⟩ := h
  refine ⟨h1.tr (f.mo (fun c k z => ?_)), ⟨(f.2.2.2.1 _ _ (by unfold zXt zXk; omega)).trans h2, (f.2.2.2.1 _ _ (by unfold zXt zXk; omega)).trans h3⟩, ?_, fun i x hx => (f.2.2.2.1 _ _ (by unfold zXt zXk; omega)).trans (h8 i x hx), fun i c hi hc => (f.2.2.2.2 _ _ (by unfold zXt zXk; omega)).trans (h9 i c hi hc)⟩
  · rcases z with z | z
    · exact Or.inl (Or.inl z)
    · exact Or.inr (Or.inl (by omega))
  · rcases (show w = 0 ∨ w = 1 by omega) with e | e <;> subst e
    · exact ⟨hC, h5.k f h7.1 (by unfold zXt zXk; omega) (fun i _ => by unfold zXt zXk; omega), hC9, h7⟩
    · exact ⟨h4.k f h6.1 (by unfold zXt zXk; omega) (fun i _ => by unfold zXt zXk; omega), hC, h6, hC9⟩
theorem zPb.mp {S T : zM} {L A B : List Nat} {vs : Nat → Nat → Int64} {K a b : Nat} (h : zPb S L vs K T A B) (ha : zgI T 149 0 = nI a) (hb : zgI T 149 1 = nI b) : mP T (some (L, vs, A, B, a, b)) K := by
  obtain ⟨h1, ⟨h2, h3⟩, ⟨h4, h5, h6, h7⟩, h8, h9⟩ := h
  refine ⟨⟨h2, fun q => by cases q⟩, fun q hq => ?_⟩
  cases hq
  exact ⟨⟨h3, h8, ⟨h4.1, h5.1⟩, fun i hi => by have := h4.2 i hi; rwa [show 900 * 0 + i = i by omega] at this, fun i hi => h5.2 i hi, ha, hb⟩, h9⟩
theorem zPb.mid {S T : zM} {L A B : List Nat} {vs : Nat → Nat → Int64} {K n : Nat} {s : zST} {t : zTB} (h : zPb S L vs K T A B) (h0 : zMO S s) (hw : zWF n s) (ht : sT s = some t) (hl : L.length ≤ 20) : ∃ q, zMO T (zsP s q) ∧ zWF n (zsP s q) := h0.mid hw ht (h.1.mo (fun _ _ z => zXq.g z)) h.2.1.1 h.2.1.2 hl h.2.2.1.1 h.2.2.1.2.1 h.2.2.1.2.2.1 h.2.2.1.2.2.2
set_option maxRecDepth 20000 in
set_option maxHeartbeats 4000000 in
theorem j_pages1 {E : zE} {S : zM} {s : zST} {t : zTB} {n u z : Nat} {L A : List Nat} (h : zMO S s) (hw : zWF n s) (ht : sT s = some t) (hu1 : u ≤ tv t) (hu2 : tv t ≤ u + 40) (hL : mFd S L) (hLi : ∀ x ∈ L, x < 64 ∧ (tH t u).1 x = true) (hL20 : L.length ≤ 20) (hA : mAs S A) (hA9 : zTkn A) (hz : z ≤ 20) (st : Bool)  (hpos : 0 < L.length) {A0 B0 : List Nat} (T : zM) (y : Option zV) (hb : zPb S L (fun i j => (tH t u).2 (L.getD i 0) j) (tK t).length T A0 B0) : zJ E 4 0 0 mX12_pages cX12_pages 89 [some (zR 123), some (zI (nI u)), some (zI (nI z)), some (zI (zbi st)), some (zI (nI L.length)), y] [] T (fun r T => r = some (zI (nI L.length)) ∧ zK zXq S T ∧ mP T (some (zpg t u L z (if st then u + 1 else 0) A)) (tK t).length) := by
  have hv := hw.v ht
  have mT := hb.1.ms h.1
  have hFd := hL.k hb.1 (by unfold zXq zXkm zXk zXm; omega) (fun i => by unfold zXq zXkm zXk zXm; omega)
  refine j_aload_n (pc := 89) dX12_pages_89 rfl ?_
  refine j_getIv (pc := 90) dX12_pages_90 f_X12_392 (Or.inl rfl) mT.1 (hFd.1) ?_
  refine j_if_le (pc := 93) (tgt := 166) dX12_pages_93 (by decide) (fun h93 => absurd h93 (by rw [Int32.not_le]; exact nI_lt (a := 0) hpos (by omega))) (fun h93 => ?_)
  obtain ⟨q1, m1, w1⟩ := hb.mid h hw ht hL20
  refine j_aload_n (pc := 96) dX12_pages_96 rfl ?_
  refine j_iconst (pc := 97) (v := 0) dX12_pages_97 (by decide) ?_
  refine j_iload_n (pc := 98) dX12_pages_98 rfl ?_
  refine j_iload_n (pc := 99) dX12_pages_99 rfl ?_
  refine j_iload_n (pc := 100) dX12_pages_100 rfl ?_
  refine j_aload_n (pc := 101) dX12_pages_101 rfl ?_
  refine j_getPv (pc := 102) dX12_pages_102 f_X12_75 (Or.inr ⟨_, rfl⟩) mT.1 (mp_found mT) ?_
  refine j_iconst (pc := 105) (v := 0) dX12_pages_105 (by decide) ?_
  refine j_ialdn (pc := 106) dX12_pages_106 (mk_found mT) (show 0 < 20 by decide) (Nat.le_of_ble_eq_true rfl) (hFd.2 0 _ (gD 0 hpos)) ?_
  refine j_callV (pc := 107) (t := 12) (n_laysToken (w := 0) m1 w1 ht hu1 hu2 (hLi _ (gD_mem hpos)).1 (hLi _ (gD_mem hpos)).2 (by decide) hz st) dX12_pages_107 l_X12_402 mk_X12_laysToken mv_X12_laysToken (by decide) rfl mT.1 (by decide) rfl rfl (Nat.le_of_ble_eq_true rfl) (Nat.le_refl _) (Nat.le_refl _) (fun r T1 h_1 => ?_)
  obtain ⟨rfl, k1, l1, t1⟩ := h_1
  have n1 := k1.ms mT
  have hb1 := hb.t k1 (by decide) t1 ⟨by rw [ztok_len]; have := zkf_len (t := tH t u) (id := (L.getD 0 0)) hv.2.2.2.1; omega, ztok_b zkf_b⟩
  refine j_aload_n (pc := 110) dX12_pages_110 rfl ?_
  refine j_callV (pc := 111) (t := 12) (n_marks n1 l1 (Nat.le_trans (zkf_len hv.2.2.2.1) (by decide))) dX12_pages_111 l_X12_355 mk_X12_marks mv_X12_marks (by decide) rfl n1.1 (by decide) rfl rfl (Nat.le_of_ble_eq_true rfl) (Nat.le_refl _) (Nat.le_refl _) (fun r T2 h_1 => ?_)
  obtain ⟨rfl, k2, l2⟩ := h_1
  have n2 := k2.ms n1
  have hb2 := hb1.k k2 (fun c k z => Or.inl (Or.inr z))
  obtain ⟨q2, m2, w2⟩ := hb2.mid h hw ht hL20
  refine j_aload_n (pc := 114) dX12_pages_114 rfl ?_
  refine j_getPv (pc := 115) dX12_pages_115 f_X12_93 (Or.inr ⟨_, rfl⟩) n2.1 (mp_beyonds n2) ?_
  refine j_iconst (pc := 118) (v := 0) dX12_pages_118 (by decide) ?_
  refine j_aload_n (pc := 119) dX12_pages_119 rfl ?_
  refine j_iload_n (pc := 120) dX12_pages_120 rfl ?_
  refine j_iconst (pc := 121) (v := 0) dX12_pages_121 (by decide) ?_
  refine j_callV (pc := 122) (t := 12) (n_countAhead m2 w2 ht hu1 hu2 l2 (Nat.le_trans (zkf_len hv.2.2.2.1) (by decide)) zkf_b false) dX12_pages_122 l_X12_406 mk_X12_countAhead mv_X12_countAhead (by decide) rfl n2.1 (by decide) rfl rfl (Nat.le_of_ble_eq_true rfl) (Nat.le_refl _) (Nat.le_refl _) (fun r T3 h_1 => ?_)
  obtain ⟨k3, rfl⟩ := h_1
  have n3 := k3.ms n2
  refine j_iastn (pc := 125) dX12_pages_125 (mk_beyonds n3) (show 0 < 2 by decide) (Nat.le_of_ble_eq_true rfl) ?_
  have hb3 := (hb2.k k3 (fun c k z => Or.inl (Or.inl z))).k (zK.wI (S := T3) (a := 149) (k := 0) (v := nI (zca (tO t) (tV t) (tH t u) (zkf (tO t) (tH t u) (L.getD 0 0)) false 64)) (X := fun c k => c = 149) rfl) (fun c k z => Or.inr z)
  have hFd3 := hL.k hb3.1 (by unfold zXq zXkm zXk zXm; omega) (fun i => by unfold zXq zXkm zXk zXm; omega)
  obtain ⟨q3, m3, w3⟩ := hb3.mid h hw ht hL20
  refine j_aload_n (pc := 126) dX12_pages_126 rfl ?_
  refine j_iconst (pc := 127) (v := 1) dX12_pages_127 (by decide) ?_
  refine j_iload_n (pc := 128) dX12_pages_128 rfl ?_
  refine j_iload_n (pc := 129) dX12_pages_129 rfl ?_
  refine j_iload_n (pc := 130) dX12_pages_130 rfl ?_
  refine j_aload_n (pc := 131) dX12_pages_131 rfl ?_
  refine j_getPv (pc := 132) dX12_pages_132 f_X12_75 (Or.inr ⟨_, rfl⟩) n3.1 (mp_found n3) ?_
  refine j_aload_n (pc := 135) dX12_pages_135 rfl ?_
  refine j_getIv (pc := 136) dX12_pages_136 f_X12_392 (Or.inl rfl) n3.1 (hFd3.1) ?_
  refine j_iconst (pc := 139) (v := 1) dX12_pages_139 (by decide) ?_
  refine j_isub (pc := 140) dX12_pages_140 ?_
  rw [show nI L.length - 1 = nI (L.length - 1) from pk_sub (b := 1) hpos]
  refine j_ialdn (pc := 141) dX12_pages_141 (mk_found n3) (by omega) (Nat.le_of_ble_eq_true rfl) (hFd3.2 (L.length - 1) _ (gD 0 (show L.length - 1 < L.length by omega))) ?_
  refine j_callV (pc := 142) (t := 12) (n_laysToken (w := 1) m3 w3 ht hu1 hu2 (hLi _ (gD_mem (show L.length - 1 < L.length by omega))).1 (hLi _ (gD_mem (show L.length - 1 < L.length by omega))).2 (by decide) hz st) dX12_pages_142 l_X12_402 mk_X12_laysToken mv_X12_laysToken (by decide) rfl n3.1 (by decide) rfl rfl (Nat.le_of_ble_eq_true rfl) (Nat.le_refl _) (Nat.le_refl _) (fun r T4 h_1 => ?_)
  obtain ⟨rfl, k4, l4, t4⟩ := h_1
  have n4 := k4.ms (by exact n3)
  have hb4 := hb3.t k4 (by decide) t4 ⟨by rw [ztok_len]; have := zkf_len (t := tH t u) (id := (L.getD (L.length - 1) 0)) hv.2.2.2.1; omega, ztok_b zkf_b⟩
  refine j_aload_n (pc := 145) dX12_pages_145 rfl ?_
  refine j_callV (pc := 146) (t := 12) (n_marks n4 l4 (Nat.le_trans (zkf_len hv.2.2.2.1) (by decide))) dX12_pages_146 l_X12_355 mk_X12_marks mv_X12_marks (by decide) rfl n4.1 (by decide) rfl rfl (Nat.le_of_ble_eq_true rfl) (Nat.le_refl _) (Nat.le_refl _) (fun r T5 h_1 => ?_)
  obtain ⟨rfl, k5, l5⟩ := h_1
  have n5 := k5.ms n4
  have hb5 := hb4.k k5 (fun c k z => Or.inl (Or.inr z))
  obtain ⟨q5, m5, w5⟩ := hb5.mid h hw ht hL20
  refine j_aload_n (pc := 149) dX12_pages_149 rfl ?_
  refine j_getPv (pc := 150) dX12_pages_150 f_X12_93 (Or.inr ⟨_, rfl⟩) n5.1 (mp_beyonds n5) ?_
  refine j_iconst (pc := 153) (v := 1) dX12_pages_153 (by decide) ?_
  refine j_aload_n (pc := 154) dX12_pages_154 rfl ?_
  refine j_iload_n (pc := 155) dX12_pages_155 rfl ?_
  refine j_iconst (pc := 156) (v := 1) dX12_pages_156 (by decide) ?_
  refine j_callV (pc := 157) (t := 12) (n_countAhead m5 w5 ht hu1 hu2 l5 (Nat.le_trans (zkf_len hv.2.2.2.1) (by decide)) zkf_b true) dX12_pages_157 l_X12_406 mk_X12_countAhead mv_X12_countAhead (by decide) rfl n5.1 (by decide) rfl rfl (Nat.le_of_ble_eq_true rfl) (Nat.le_refl _) (Nat.le_refl _) (fun r T6 h_1 => ?_)
  obtain ⟨k6, rfl⟩ := h_1
  have n6 := k6.ms n5
  refine j_iastn (pc := 160) dX12_pages_160 (mk_beyonds n6) (show 1 < 2 by decide) (Nat.le_of_ble_eq_true rfl) ?_
  have hb6 := (hb5.k k6 (fun c k z => Or.inl (Or.inl z))).k (zK.wI (S := T6) (a := 149) (k := 1) (v := nI (zca (tO t) (tV t) (tH t u) (zkf (tO t) (tH t u) (L.getD (L.length - 1) 0)) true 64)) (X := fun c k => c = 149) rfl) (fun c k z => Or.inr z)
  have hFd6 := hL.k hb6.1 (by unfold zXq zXkm zXk zXm; omega) (fun i => by unfold zXq zXkm zXk zXm; omega)
  refine j_aload_n (pc := 161) dX12_pages_161 rfl ?_
  refine j_getIv (pc := 162) dX12_pages_162 f_X12_392 (Or.inl rfl) n6.1 (hFd6.1) ?_
  refine j_iret (pc := 165) dX12_pages_165 rfl ?_
  have ez : zpg t u L z (if st then u + 1 else 0) A = (L, (fun i j => (tH t u).2 (L.getD i 0) j), ztok (tn t) z (if st then u + 1 else 0) (zkf (tO t) (tH t u) (L.getD 0 0)), ztok (tn t) z (if st then u + 1 else 0) (zkf (tO t) (tH t u) (L.getD (L.length - 1) 0)), zca (tO t) (tV t) (tH t u) (zkf (tO t) (tH t u) (L.getD 0 0)) false 64, zca (tO t) (tV t) (tH t u) (zkf (tO t) (tH t u) (L.getD (L.length - 1) 0)) true 64) := by
    unfold zpg
    simp only [if_neg (show ¬ L.length = 0 by omega), zca_lo, zca_hi]
  rw [ez]
  refine ⟨rfl, hb6.1, hb6.mp ?_ rfl⟩
  show zgI T6 149 0 = _
  rw [k6.2.2.2.1 _ _ (by unfold zXk; omega), k5.2.2.2.1 _ _ (by unfold zXm; omega), k4.2.2.2.1 _ _ (by unfold zXt zXk; omega)]
  rfl
