/-! what was read so far, and what a reading comes to -/
def mOd (S : zM) (O : List zOe) : Prop := zgI S 123 16 = nI O.length ∧ O.length ≤ 4 ∧ ∀ i e, O[i]? = some e → zgI S 131 i = nI e.1 ∧ zgI S 132 i = zbi e.2.2.1 ∧ zgI S 133 i = zbi e.2.2.2
/-- the rows that are read, and of the next one j values -/
def mVl (S : zM) (n j g : Nat) (vl : Nat → Nat → Int64) : Prop := (zgI S 123 20 = nI g ∧ g ≤ 30) ∧ ∀ i c, c < n → i < g ∨ (i = g ∧ c < j) → zgL S 134 (4 * i + c) = vl i c
def mPd (S : zM) (X : List Nat) (w : zPi) : Prop := zMs S ∧ mTx S X ∧ mTo S w.1 ∧ zTK X w.1 ∧ mNm S w.2.1 w.2.2.1 ∧ mOd S w.2.2.2.1 ∧ mVl S w.2.2.1.length 0 w.2.2.2.2.1 w.2.2.2.2.2
def mPQ (X : List Nat) (S : zM) (r : Option zV) (T : zM) (q : Except (Nat × Nat) zPi) : Prop := match q with
  | .error e => mEr S T r e.1 e.2
  | .ok w => r = some (zI 1) ∧ zK zXp S T ∧ mPd T X w
theorem mPQ.pre {X : List Nat} {S S1 T : zM} {r : Option zV} {q : Except (Nat × Nat) zPi} (f : zK zXp S S1) (h : mPQ X S1 r T q) : mPQ X S r T q := by
  cases q with
  | error e => exact ⟨h.1, f.tr h.2.1, h.2.2⟩
  | ok w => exact ⟨h.1, f.tr h.2.1, h.2.2⟩
theorem mNm.k {X : Nat → Nat → Prop} {S T : zM} {N : List Int64} {K : List Bool} (h : mNm S N K) (f : zK X S T) (h1 : ¬ X 123 13) (h2 : ∀ i, ¬ X 129 i) (h3 : ∀ i, ¬ X 130 i) : mNm T N K := ⟨(f.2.2.2.1 _ _ h1).trans h.1, h.2.1, fun i x hx => (f.2.2.2.2 _ _ (h2 i)).trans (h.2.2.1 i x hx), fun i b hb => (f.2.2.2.1 _ _ (h3 i)).trans (h.2.2.2 i b hb)⟩
theorem mOd.k {X : Nat → Nat → Prop} {S T : zM} {O : List zOe} (h : mOd S O) (f : zK X S T) (h1 : ¬ X 123 16) (h2 : ∀ c i, 131 ≤ c → c ≤ 133 → ¬ X c i) : mOd T O := ⟨(f.2.2.2.1 _ _ h1).trans h.1, h.2.1, fun i e he => ⟨(f.2.2.2.1 _ _ (h2 131 i (by decide) (by decide))).trans (h.2.2 i e he).1, (f.2.2.2.1 _ _ (h2 132 i (by decide) (by decide))).trans (h.2.2 i e he).2.1, (f.2.2.2.1 _ _ (h2 133 i (by decide) (by decide))).trans (h.2.2 i e he).2.2⟩⟩
theorem mVl.k {X : Nat → Nat → Prop} {S T : zM} {n j g : Nat} {vl : Nat → Nat → Int64} (h : mVl S n j g vl) (f : zK X S T) (h1 : ¬ X 123 20) (h2 : ∀ i, ¬ X 134 i) : mVl T n j g vl := ⟨⟨(f.2.2.2.1 _ _ h1).trans h.1.1, h.1.2⟩, fun i c hc hi => (f.2.2.2.2 _ _ (h2 _)).trans (h.2 i c hc hi)⟩
/-- the next token -/
theorem mPd.adv {S T : zM} {X : List Nat} {w : zPi} (h : mPd S X w) (f : zK zXo S T) (ho : mTo T (zadv X w.1.1)) : mPd T X (zadv X w.1.1, w.2) := ⟨f.ms h.1, h.2.1.xo f, ho, h.2.2.2.1.adv, h.2.2.2.2.1.k f (by unfold zXo; omega) (fun i => by unfold zXo; omega) (fun i => by unfold zXo; omega), h.2.2.2.2.2.1.k f (by unfold zXo; omega) (fun c i _ _ => by unfold zXo; omega), h.2.2.2.2.2.2.k f (by unfold zXo; omega) (fun i => by unfold zXo; omega)⟩
theorem n_adv {E : zE} {S : zM} {X : List Nat} {w : zPi} (h : mPd S X w) : zSp E 1 0 0 mX12_goesOn cX12_goesOn [zR 123] S (fun r T => r = none ∧ zK zXo S T ∧ mPd T X (zadv X w.1.1, w.2)) := (n_goesOn h.1 h.2.1 h.2.2.1.1 h.2.2.2.1.le.1).post (fun r T q => ⟨q.1, q.2.1, h.adv q.2.1 q.2.2⟩)
theorem n_isW {E : zE} {S : zM} {X : List Nat} {w : zPi} {j : Nat} (hE : zOKE E) (h : mPd S X w) (hj : j < 9) : zSp E 4 0 0 mX12_isWord cX12_isWord [zR 123, zQ j] S (fun r T => S = T ∧ r = some (zI (zbi (zisW w.1 (zWd j))))) := n_isWord hE h.1 h.2.1 h.2.2.1 h.2.2.2.1 hj
theorem n_err {E : zE} {S : zM} {X : List Nat} {w : zPi} {f : Nat} (h : mPd S X w) : zSp E 0 0 0 mX12_errs cX12_errs [zR 123, zI (nI f)] S (fun r T => mEr S T r f w.1.2.2.1) := n_errs h.1 h.2.2.1.2.1
/-- a column more -/
theorem mPd.col {S T : zM} {X : List Nat} {w : zPi} {x : Int64} {b : Bool} (h : mPd S X w) (hl : w.2.2.1.length < 4) (h0 : w.2.2.2.2.1 = 0) (f : zK (fun c k => (c = 129 ∧ k = w.2.1.length) ∨ (c = 130 ∧ k = w.2.1.length) ∨ (c = 123 ∧ k = 13)) S T) (e1 : zgL T 129 w.2.1.length = x) (e2 : zgI T 130 w.2.1.length = zbi b) (e3 : zgI T 123 13 = nI (w.2.1.length + 1)) : mPd T X (w.1, w.2.1 ++ [x], w.2.2.1 ++ [b], w.2.2.2) := by
  obtain ⟨a0, a1, a2, a3, ⟨b1, ⟨b2, b3⟩, b4, b5⟩, a5, a6⟩ := h
  refine ⟨f.ms a0, a1.k f (by omega) (fun k => by omega), a2.k f (fun i _ _ => by omega), a3, ⟨by rw [List.length_append]; exact e3, ⟨by rw [List.length_append, List.length_append, b2]; rfl, by rw [List.length_append]; show _ + 1 ≤ 4; omega⟩, fun i y hy => ?_, fun i y hy => ?_⟩, a5.k f (by omega) (fun c i _ _ => by omega), ⟨⟨(f.2.2.2.1 _ _ (by omega)).trans a6.1.1, a6.1.2⟩, fun i c _ hi => ?_⟩⟩
  · by_cases e : i < w.2.1.length
    · rw [List.getElem?_append_left e] at hy
      exact (f.2.2.2.2 _ _ (by omega)).trans (b4 i y hy)
    · have hi := (List.getElem?_eq_some_iff.mp hy).1
      rw [List.length_append] at hi
      have ei : i = w.2.1.length := by
        have : i < w.2.1.length + 1 := hi
        omega
      rw [ei, List.getElem?_concat_length] at hy
      cases hy
      rw [ei]
      exact e1
  · by_cases e : i < w.2.2.1.length
    · rw [List.getElem?_append_left e] at hy
      exact (f.2.2.2.1 _ _ (by omega)).trans (b5 i y hy)
    · have hi := (List.getElem?_eq_some_iff.mp hy).1
      rw [List.length_append] at hi
      have ei : i = w.2.2.1.length := by
        have : i < w.2.2.1.length + 1 := hi
        omega
      rw [ei, List.getElem?_concat_length] at hy
      cases hy
      rw [ei, b2]
      exact e2
  · rw [show (w.1, w.2.1 ++ [x], w.2.2.1 ++ [b], w.2.2.2).2.2.2.2.1 = 0 from h0] at hi
    omega
theorem zWd_0 : zWd 0 = 121450625394034 := by decide +kernel
theorem zWd_1 : zWd 1 = 2003792484 := by decide +kernel
theorem zWd_2 : zWd 2 = 499850046565 := by decide +kernel
theorem zWd_3 : zWd 3 = 478660552050 := by decide +kernel
theorem zWd_4 : zWd 4 = 7499639 := by decide +kernel
theorem zWd_5 : zWd 5 = 30064 := by decide +kernel
theorem zWd_6 : zWd 6 = 1685026670 := by decide +kernel
theorem zWd_7 : zWd 7 = 439855772532 := by decide +kernel
theorem zWd_8 : zWd 8 = 1852796517 := by decide +kernel
/-- places behind all that was read -/
def zXb (w : zPi) (c k : Nat) : Prop := (c = 129 ∧ w.2.1.length ≤ k) ∨ (c = 130 ∧ w.2.2.1.length ≤ k) ∨ (131 ≤ c ∧ c ≤ 133 ∧ w.2.2.2.1.length ≤ k) ∨ (c = 134 ∧ 4 * w.2.2.2.2.1 ≤ k)
theorem mPd.b {S T : zM} {X : List Nat} {w : zPi} (h : mPd S X w) (f : zK (zXb w) S T) : mPd T X w := by
  obtain ⟨a0, a1, a2, a3, ⟨b1, b2, b4, b5⟩, ⟨o1, o2, o3⟩, ⟨v1, v2⟩, v3⟩ := h
  refine ⟨f.ms a0, a1.k f (by unfold zXb; omega) (fun k => by unfold zXb; omega), a2.k f (fun i _ _ => by unfold zXb; omega), a3, ⟨(f.2.2.2.1 _ _ (by unfold zXb; omega)).trans b1, b2, fun i x hx => ?_, fun i x hx => ?_⟩, ⟨(f.2.2.2.1 _ _ (by unfold zXb; omega)).trans o1, o2, fun i e he => ?_⟩, ⟨(f.2.2.2.1 _ _ (by unfold zXb; omega)).trans v1, v2⟩, fun i c hc hi => ?_⟩
  · have := (List.getElem?_eq_some_iff.mp hx).1
    exact (f.2.2.2.2 _ _ (by unfold zXb; omega)).trans (b4 i x hx)
  · have := (List.getElem?_eq_some_iff.mp hx).1
    exact (f.2.2.2.1 _ _ (by unfold zXb; omega)).trans (b5 i x hx)
  · have := (List.getElem?_eq_some_iff.mp he).1
    exact ⟨(f.2.2.2.1 _ _ (by unfold zXb; omega)).trans (o3 i e he).1, (f.2.2.2.1 _ _ (by unfold zXb; omega)).trans (o3 i e he).2.1, (f.2.2.2.1 _ _ (by unfold zXb; omega)).trans (o3 i e he).2.2⟩
  · have hK := b2.1
    have hN := b2.2
    exact (f.2.2.2.2 _ _ (by unfold zXb; omega)).trans (v3 i c hc hi)
set_option maxRecDepth 20000 in
set_option maxHeartbeats 4000000 in
theorem n_readColumn {E : zE} {S : zM} {X : List Nat} {w : zPi} (hE : zOKE E) (h : mPd S X w) (hl : w.2.2.1.length < 4) (h0 : w.2.2.2.2.1 = 0) : zSp E 5 0 0 mX12_readColumn cX12_readColumn [zR 123] S (fun r T => mPQ X S r T (zrC X w)) := by
  refine zSp.of (by decide) rfl (Nat.le_of_ble_eq_true rfl) rfl ?_
  have hM := h.1
  have hlN := h.2.2.2.2.1.2.1
  refine j_aload_n (pc := 0) dX12_readColumn_0 rfl ?_
  refine j_getIv (pc := 1) dX12_readColumn_1 f_X12_152 (Or.inl rfl) hM.1 (h.2.2.1.2.2.1) ?_
  refine j_iconst (pc := 4) (v := 2) dX12_readColumn_4 (by decide) ?_
  refine j_icmp_eq (pc := 5) (tgt := 14) dX12_readColumn_5 (by decide) (fun h5 => ?_) (fun h5 => ?_)
  · have h1 : w.1.2.1 = 1 := h.2.2.2.1.c2.mp h5
    refine j_aload_n (pc := 14) dX12_readColumn_14 rfl ?_
    refine j_callV (pc := 15) (t := 12) (n_columnHere h.1 h.2.1 h.2.2.1 h.2.2.2.1 h1 h.2.2.2.2.1) dX12_readColumn_15 l_X12_199 mk_X12_columnHere mv_X12_columnHere (by decide) rfl hM.1 (by decide) rfl rfl (Nat.le_of_ble_eq_true rfl) (Nat.le_refl _) (Nat.le_refl _) (fun r T h_1 => ?_)
    obtain ⟨rfl, rfl⟩ := h_1
    refine j_iconst (pc := 18) (v := (-1)) dX12_readColumn_18 (by decide) ?_
    refine j_icmp_eq (pc := 19) (tgt := 28) dX12_readColumn_19 (by decide) (fun h19 => ?_) (fun h19 => ?_)
    · refine j_aload_n (pc := 28) dX12_readColumn_28 rfl ?_
      refine j_getPv (pc := 29) dX12_readColumn_29 f_X12_32 (Or.inr ⟨_, rfl⟩) hM.1 (mp_readNames hM) ?_
      refine j_aload_n (pc := 32) dX12_readColumn_32 rfl ?_
      refine j_getIv (pc := 33) dX12_readColumn_33 f_X12_188 (Or.inl rfl) hM.1 (h.2.2.2.2.1.1) ?_
      refine j_aload_n (pc := 36) dX12_readColumn_36 rfl ?_
      refine j_callV (pc := 37) (t := 12) (n_spelt h.1 h.2.1 h.2.2.1 h.2.2.2.1 h1) dX12_readColumn_37 l_X12_191 mk_X12_spelt mv_X12_spelt (by decide) rfl hM.1 (by decide) rfl rfl (Nat.le_of_ble_eq_true rfl) (Nat.le_refl _) (Nat.le_refl _) (fun r T h_1 => ?_)
      obtain ⟨rfl, rfl⟩ := h_1
      refine j_lastn (pc := 40) dX12_readColumn_40 (mk_readNames hM) (by omega) (Nat.le_of_ble_eq_true rfl) ?_
      refine j_aload_n (pc := 41) dX12_readColumn_41 rfl ?_
      refine j_callV (pc := 42) (t := 12) (n_adv (h.b (T := zwL S 129 w.2.1.length w.1.2.2.2) (zK.wL (Or.inl ⟨rfl, Nat.le_refl _⟩)))) dX12_readColumn_42 l_X12_202 mk_X12_goesOn mv_X12_goesOn (by decide) rfl hM.1 (by decide) rfl rfl (Nat.le_of_ble_eq_true rfl) (Nat.le_refl _) (Nat.le_refl _) (fun r T2 h_1 => ?_)
      obtain ⟨rfl, k2, h2⟩ := h_1
      have e129 : zgL T2 129 w.2.1.length = w.1.2.2.2 := (k2.2.2.2.2 _ _ (by unfold zXo; omega)).trans zgL_self
      have kA : zK zXp S T2 := (zK.wL (Or.inl (by omega))).tr (k2.mo (fun c k z => zXo.p z))
      refine j_aload_n (pc := 45) dX12_readColumn_45 rfl ?_
      refine j_ldcQ (pc := 46) (j := 0) hE dX12_readColumn_46 rfl (by decide) rfl ?_
      refine j_callV (pc := 48) (t := 12) (n_isW hE h2 (by decide)) dX12_readColumn_48 l_X12_207 mk_X12_isWord mv_X12_isWord (by decide) rfl h2.1.1 (by decide) rfl rfl (Nat.le_of_ble_eq_true rfl) (Nat.le_refl _) (Nat.le_refl _) (fun r T h_1 => ?_)
      obtain ⟨rfl, rfl⟩ := h_1
      refine j_if_ne (pc := 51) (tgt := 69) dX12_readColumn_51 (by decide) (fun h51 => ?_) (fun h51 => ?_)
      · refine j_aload_n (pc := 69) dX12_readColumn_69 rfl ?_
        refine j_getPv (pc := 70) dX12_readColumn_70 f_X12_36 (Or.inr ⟨_, rfl⟩) h2.1.1 (mp_readText h2.1) ?_
        refine j_aload_n (pc := 73) dX12_readColumn_73 rfl ?_
        refine j_getIv (pc := 74) dX12_readColumn_74 f_X12_188 (Or.inl rfl) h2.1.1 (h2.2.2.2.2.1.1) ?_
        refine j_aload_n (pc := 77) dX12_readColumn_77 rfl ?_
        refine j_ldcQ (pc := 78) (j := 1) hE dX12_readColumn_78 rfl (by decide) rfl ?_
        refine j_callV (pc := 80) (t := 12) (n_isW hE h2 (by decide)) dX12_readColumn_80 l_X12_207 mk_X12_isWord mv_X12_isWord (by decide) rfl h2.1.1 (by decide) rfl rfl (Nat.le_of_ble_eq_true rfl) (Nat.le_refl _) (Nat.le_refl _) (fun r T h_1 => ?_)
        obtain ⟨rfl, rfl⟩ := h_1
        have hzb := zbi_01 (zisW (zadv X w.1.1) (zWd 1))
        have hzn := zbi_n (zisW (zadv X w.1.1) (zWd 1))
        refine j_zastn (pc := 83) dX12_readColumn_83 (mk_readText h2.1) (show w.2.1.length < 4 by omega) (Nat.le_of_ble_eq_true rfl) (by first | assumption | decide) ?_
        refine j_aload_n (pc := 84) dX12_readColumn_84 rfl ?_
        refine j_dup (pc := 85) dX12_readColumn_85 rfl ?_
        refine j_getIv (pc := 86) dX12_readColumn_86 f_X12_188 (Or.inl rfl) h2.1.1 ((zgI_ne (by decide)).trans h2.2.2.2.2.1.1) ?_
        refine j_iconst (pc := 89) (v := 1) dX12_readColumn_89 (by decide) ?_
        refine j_iadd (pc := 90) dX12_readColumn_90 ?_
        rw [nI_1]
        refine j_putI (pc := 91) dX12_readColumn_91 f_X12_188 rfl h2.1.1 rfl ?_
        refine j_aload_n (pc := 94) dX12_readColumn_94 rfl ?_
        have h3 := h2.col (x := w.1.2.2.2) (b := zisW (zadv X w.1.1) (zWd 1)) hl h0 ((zK.wI (a := 130) (k := w.2.1.length) (v := zbi (zisW (zadv X w.1.1) (zWd 1))) (Or.inr (Or.inl ⟨rfl, rfl⟩))).tr (zK.wI (a := 123) (k := 13) (v := nI (w.2.1.length + 1)) (Or.inr (Or.inr ⟨rfl, rfl⟩)))) (by exact e129) (by rw [zgI_ne (by decide)]; exact zgI_self) zgI_self
        refine j_callV (pc := 95) (t := 12) (n_adv h3) dX12_readColumn_95 l_X12_202 mk_X12_goesOn mv_X12_goesOn (by decide) rfl h2.1.1 (by decide) rfl rfl (Nat.le_of_ble_eq_true rfl) (Nat.le_refl _) (Nat.le_refl _) (fun r T4 h_1 => ?_)
        obtain ⟨rfl, k4, h4⟩ := h_1
        refine j_iconst (pc := 98) (v := 1) dX12_readColumn_98 (by decide) ?_
        refine j_zret (pc := 99) dX12_readColumn_99 rfl (by first | assumption | decide) ?_
        have ez : zrC X w = .ok (zadv X (zadv X w.1.1).1, w.2.1 ++ [w.1.2.2.2], w.2.2.1 ++ [zisW (zadv X w.1.1) (zWd 1)], w.2.2.2) := by
          rw [zrC, if_neg (not_not_intro h1), if_neg (not_not_intro h19), ← zWd_0, ← zWd_1, if_neg (fun q => by rw [zbi_ne0 h51] at q; cases q.1)]
        rw [ez]
        exact ⟨rfl, ((kA.tr ((zK.wI (Or.inl (by omega))).tr (zK.wI (Or.inr (by omega))))).tr (k4.mo (fun c k z => zXo.p z))), h4⟩
      · refine j_aload_n (pc := 54) dX12_readColumn_54 rfl ?_
        refine j_ldcQ (pc := 55) (j := 1) hE dX12_readColumn_55 rfl (by decide) rfl ?_
        refine j_callV (pc := 57) (t := 12) (n_isW hE h2 (by decide)) dX12_readColumn_57 l_X12_207 mk_X12_isWord mv_X12_isWord (by decide) rfl h2.1.1 (by decide) rfl rfl (Nat.le_of_ble_eq_true rfl) (Nat.le_refl _) (Nat.le_refl _) (fun r T h_1 => ?_)
        obtain ⟨rfl, rfl⟩ := h_1
        refine j_if_ne (pc := 60) (tgt := 69) dX12_readColumn_60 (by decide) (fun h60 => ?_) (fun h60 => ?_)
        · refine j_aload_n (pc := 69) dX12_readColumn_69 rfl ?_
          refine j_getPv (pc := 70) dX12_readColumn_70 f_X12_36 (Or.inr ⟨_, rfl⟩) h2.1.1 (mp_readText h2.1) ?_
          refine j_aload_n (pc := 73) dX12_readColumn_73 rfl ?_
          refine j_getIv (pc := 74) dX12_readColumn_74 f_X12_188 (Or.inl rfl) h2.1.1 (h2.2.2.2.2.1.1) ?_
          refine j_aload_n (pc := 77) dX12_readColumn_77 rfl ?_
          refine j_ldcQ (pc := 78) (j := 1) hE dX12_readColumn_78 rfl (by decide) rfl ?_
          refine j_callV (pc := 80) (t := 12) (n_isW hE h2 (by decide)) dX12_readColumn_80 l_X12_207 mk_X12_isWord mv_X12_isWord (by decide) rfl h2.1.1 (by decide) rfl rfl (Nat.le_of_ble_eq_true rfl) (Nat.le_refl _) (Nat.le_refl _) (fun r T h_1 => ?_)
          obtain ⟨rfl, rfl⟩ := h_1
          have hzb := zbi_01 (zisW (zadv X w.1.1) (zWd 1))
          have hzn := zbi_n (zisW (zadv X w.1.1) (zWd 1))
          refine j_zastn (pc := 83) dX12_readColumn_83 (mk_readText h2.1) (show w.2.1.length < 4 by omega) (Nat.le_of_ble_eq_true rfl) (by first | assumption | decide) ?_
          refine j_aload_n (pc := 84) dX12_readColumn_84 rfl ?_
          refine j_dup (pc := 85) dX12_readColumn_85 rfl ?_
          refine j_getIv (pc := 86) dX12_readColumn_86 f_X12_188 (Or.inl rfl) h2.1.1 ((zgI_ne (by decide)).trans h2.2.2.2.2.1.1) ?_
          refine j_iconst (pc := 89) (v := 1) dX12_readColumn_89 (by decide) ?_
          refine j_iadd (pc := 90) dX12_readColumn_90 ?_
          rw [nI_1]
          refine j_putI (pc := 91) dX12_readColumn_91 f_X12_188 rfl h2.1.1 rfl ?_
          refine j_aload_n (pc := 94) dX12_readColumn_94 rfl ?_
          have h3 := h2.col (x := w.1.2.2.2) (b := zisW (zadv X w.1.1) (zWd 1)) hl h0 ((zK.wI (a := 130) (k := w.2.1.length) (v := zbi (zisW (zadv X w.1.1) (zWd 1))) (Or.inr (Or.inl ⟨rfl, rfl⟩))).tr (zK.wI (a := 123) (k := 13) (v := nI (w.2.1.length + 1)) (Or.inr (Or.inr ⟨rfl, rfl⟩)))) (by exact e129) (by rw [zgI_ne (by decide)]; exact zgI_self) zgI_self
          refine j_callV (pc := 95) (t := 12) (n_adv h3) dX12_readColumn_95 l_X12_202 mk_X12_goesOn mv_X12_goesOn (by decide) rfl h2.1.1 (by decide) rfl rfl (Nat.le_of_ble_eq_true rfl) (Nat.le_refl _) (Nat.le_refl _) (fun r T4 h_1 => ?_)
          obtain ⟨rfl, k4, h4⟩ := h_1
          refine j_iconst (pc := 98) (v := 1) dX12_readColumn_98 (by decide) ?_
          refine j_zret (pc := 99) dX12_readColumn_99 rfl (by first | assumption | decide) ?_
          have ez : zrC X w = .ok (zadv X (zadv X w.1.1).1, w.2.1 ++ [w.1.2.2.2], w.2.2.1 ++ [zisW (zadv X w.1.1) (zWd 1)], w.2.2.2) := by
            rw [zrC, if_neg (not_not_intro h1), if_neg (not_not_intro h19), ← zWd_0, ← zWd_1, if_neg (fun q => by rw [zbi_ne0 h60] at q; cases q.2)]
          rw [ez]
          exact ⟨rfl, ((kA.tr ((zK.wI (Or.inl (by omega))).tr (zK.wI (Or.inr (by omega))))).tr (k4.mo (fun c k z => zXo.p z))), h4⟩
        · refine j_aload_n (pc := 63) dX12_readColumn_63 rfl ?_
          refine j_iconst (pc := 64) (v := 1) dX12_readColumn_64 (by decide) ?_
          refine j_callV (pc := 65) (t := 12) (n_err h2) dX12_readColumn_65 l_X12_195 mk_X12_errs mv_X12_errs (by decide) rfl h2.1.1 (by decide) rfl rfl (Nat.le_of_ble_eq_true rfl) (Nat.le_refl _) (Nat.le_refl _) (fun r T h_1 => ?_)
          obtain ⟨rfl, q2, q3, q4⟩ := h_1
          refine j_zret (pc := 68) dX12_readColumn_68 rfl (by first | assumption | decide) ?_
          rw [zrC, if_neg (not_not_intro h1), if_neg (not_not_intro h19), ← zWd_0, ← zWd_1, if_pos ⟨zbi_eq0.mp h51, zbi_eq0.mp h60⟩]
          exact ⟨rfl, kA.tr q2, q3, q4⟩
    · refine j_aload_n (pc := 22) dX12_readColumn_22 rfl ?_
      refine j_iconst (pc := 23) (v := 3) dX12_readColumn_23 (by decide) ?_
      refine j_callV (pc := 24) (t := 12) (n_err h) dX12_readColumn_24 l_X12_195 mk_X12_errs mv_X12_errs (by decide) rfl hM.1 (by decide) rfl rfl (Nat.le_of_ble_eq_true rfl) (Nat.le_refl _) (Nat.le_refl _) (fun r T h_1 => ?_)
      obtain ⟨rfl, q2, q3, q4⟩ := h_1
      refine j_zret (pc := 27) dX12_readColumn_27 rfl (by first | assumption | decide) ?_
      rw [zrC, if_neg (not_not_intro h1), if_pos h19]
      exact ⟨rfl, q2, q3, q4⟩
  · refine j_aload_n (pc := 8) dX12_readColumn_8 rfl ?_
    refine j_iconst (pc := 9) (v := 1) dX12_readColumn_9 (by decide) ?_
    refine j_callV (pc := 10) (t := 12) (n_err h) dX12_readColumn_10 l_X12_195 mk_X12_errs mv_X12_errs (by decide) rfl hM.1 (by decide) rfl rfl (Nat.le_of_ble_eq_true rfl) (Nat.le_refl _) (Nat.le_refl _) (fun r T h_1 => ?_)
    obtain ⟨rfl, q2, q3, q4⟩ := h_1
    refine j_zret (pc := 13) dX12_readColumn_13 rfl (by first | assumption | decide) ?_
    rw [zrC, if_pos (fun q => h5 (h.2.2.2.1.c2.mpr q))]
    exact ⟨rfl, q2, q3, q4⟩
