/-! the next token: where it ends, its sort (0 end, 1 letters, 2 digits, 3 sign, 4 bad), where it starts, what it holds -/
def zsp (b : Nat) : Bool := decide (b = 32)
def ztk (X : List Nat) (q : Nat) : Nat × Nat × Nat × Int64 := match X[q]? with
  | none => (q, 0, q, 0)
  | some b => if zlet b then (zrun zlet X q, (if zrun zlet X q - q ≤ 6 then 1 else 4), q, zfo zcw zlet 0 X q) else if zdig b then (zrun zdig X q, (if zrun zdig X q - q ≤ 4 then 2 else 4), q, zfo zcd zdig 0 X q) else (q + 1, (if b = 59 ∨ b = 44 ∨ b = 45 then 3 else 4), q, (nI b).toInt64)
def zadv (X : List Nat) (i : Nat) : Nat × Nat × Nat × Int64 := ztk X (zrun zsp X i)
theorem ztk_E {X : List Nat} {q : Nat} (h : X.length ≤ q) : ztk X q = (q, 0, q, 0) := by
  unfold ztk
  rw [List.getElem?_eq_none h]
theorem ztk_L {X : List Nat} {q b : Nat} (h : X[q]? = some b) (hl : zlet b = true) : ztk X q = (zrun zlet X q, (if zrun zlet X q - q ≤ 6 then 1 else 4), q, zfo zcw zlet 0 X q) := by
  unfold ztk
  rw [h]
  exact if_pos hl
theorem ztk_D {X : List Nat} {q b : Nat} (h : X[q]? = some b) (hl : zlet b = false) (hd : zdig b = true) : ztk X q = (zrun zdig X q, (if zrun zdig X q - q ≤ 4 then 2 else 4), q, zfo zcd zdig 0 X q) := by
  unfold ztk
  rw [h]
  exact (if_neg (by rw [hl]; decide)).trans (if_pos hd)
theorem ztk_S {X : List Nat} {q b : Nat} (h : X[q]? = some b) (hl : zlet b = false) (hd : zdig b = false) : ztk X q = (q + 1, (if b = 59 ∨ b = 44 ∨ b = 45 then 3 else 4), q, (nI b).toInt64) := by
  unfold ztk
  rw [h]
  exact (if_neg (by rw [hl]; decide)).trans (if_neg (by rw [hd]; decide))
theorem ztk_le {X : List Nat} {q : Nat} (h : q ≤ X.length) : (ztk X q).1 ≤ X.length ∧ q ≤ (ztk X q).1 ∧ (ztk X q).2.2.1 = q := by
  by_cases hq : X.length ≤ q
  · rw [ztk_E hq]
    exact ⟨h, Nat.le_refl _, rfl⟩
  · obtain ⟨b, hb⟩ : ∃ b, X[q]? = some b := ⟨_, List.getElem?_eq_getElem (by omega)⟩
    by_cases h1 : zlet b = true
    · rw [ztk_L hb h1]
      exact ⟨zrun_le h, zrun_ge, rfl⟩
    · have h1 := Bool.eq_false_iff.mpr h1
      by_cases h2 : zdig b = true
      · rw [ztk_D hb h1 h2]
        exact ⟨zrun_le h, zrun_ge, rfl⟩
      · rw [ztk_S hb h1 (Bool.eq_false_iff.mpr h2)]
        exact ⟨by show q + 1 ≤ _; omega, Nat.le_succ _, rfl⟩
theorem ztk_0 {X : List Nat} {q : Nat} (h : (ztk X q).2.1 ≠ 0) : q < (ztk X q).1 := by
  by_cases hq : X.length ≤ q
  · rw [ztk_E hq] at h
    exact absurd rfl h
  · obtain ⟨b, hb⟩ : ∃ b, X[q]? = some b := ⟨_, List.getElem?_eq_getElem (by omega)⟩
    by_cases h1 : zlet b = true
    · rw [ztk_L hb h1]
      show q < zrun zlet X q
      rw [zrun_T hb h1]
      exact Nat.lt_of_lt_of_le (Nat.lt_succ_self q) zrun_ge
    · have h1 := Bool.eq_false_iff.mpr h1
      by_cases h2 : zdig b = true
      · rw [ztk_D hb h1 h2]
        show q < zrun zdig X q
        rw [zrun_T hb h2]
        exact Nat.lt_of_lt_of_le (Nat.lt_succ_self q) zrun_ge
      · rw [ztk_S hb h1 (Bool.eq_false_iff.mpr h2)]
        exact Nat.lt_succ_self q
theorem zadv_le {X : List Nat} {i : Nat} (h : i ≤ X.length) : (zadv X i).1 ≤ X.length ∧ i ≤ (zadv X i).1 := by
  have := ztk_le (q := zrun zsp X i) (zrun_le h)
  exact ⟨this.1, Nat.le_trans zrun_ge this.2.1⟩
theorem zadv_0 {X : List Nat} {i : Nat} (h : (zadv X i).2.1 ≠ 0) : i < (zadv X i).1 := Nat.lt_of_le_of_lt zrun_ge (ztk_0 h)
set_option maxRecDepth 20000 in
set_option maxHeartbeats 4000000 in
theorem c_advance {E : zE} {S : zM} {x tp tp2 cap : Nat} {F : List Nat} {n ps0 so sr : Nat} {co : Int64} (h0 : zLx S x tp tp2 cap F n ps0 so sr co) (hps0 : ps0 ≤ n) : zSp E 2 0 0 mX2_advance cX2_advance [zR x] S (fun r T => r = none ∧ zF (fun c => c = x) S T ∧ zLx T x tp tp2 cap F n (zadv (F.take n) ps0).1 (zadv (F.take n) ps0).2.1 (zadv (F.take n) ps0).2.2.1 (zadv (F.take n) ps0).2.2.2) := by
  refine zSp.of (by decide) rfl (Nat.le_of_ble_eq_true rfl) rfl ?_
  have tail : ∀ (ps : Nat) (T : zM), zF (fun c => c = x) S T → zLx T x tp tp2 cap F n ps so sr co → ps ≤ n → zrun zsp (F.take n) ps0 = ps → zJ E 2 0 0 mX2_advance cX2_advance 40 [some (zR x), none] [] T (fun r T => r = none ∧ zF (fun c => c = x) S T ∧ zLx T x tp tp2 cap F n (zadv (F.take n) ps0).1 (zadv (F.take n) ps0).2.1 (zadv (F.take n) ps0).2.2.1 (zadv (F.take n) ps0).2.2.2) := by
    intro ps T hF h hps hr
    have k1 := h.1
    have kt := h.2.2.1.1
    have hp := h.2.1
    have e1 := h.2.2.2.2.1
    have e2 := h.2.2.2.2.2.1
    obtain ⟨hX, hn31⟩ := h.ln
    have h2 := (h.w4 ps).w5 0
    have F2 : zF (fun c => c = x) S (zwL (zwI T x 4 (nI ps)) x 5 0) := (hF.tr (zF.wI rfl)).tr (zF.wL rfl)
    refine j_aload_n (pc := 40) dX2_advance_40 rfl ?_
    refine j_aload_n (pc := 41) dX2_advance_41 rfl ?_
    refine j_getI (pc := 42) dX2_advance_42 f_X2_19 (Or.inl rfl) (by assumption) ?_
    rw [e2]
    refine j_putI (pc := 45) dX2_advance_45 f_X2_25 rfl (by assumption) rfl ?_
    refine j_aload_n (pc := 48) dX2_advance_48 rfl ?_
    refine j_lconst (pc := 49) (v := 0) dX2_advance_49 (by decide) ?_
    refine j_putL (pc := 50) dX2_advance_50 f_X2_28 rfl (by assumption) rfl ?_
    refine j_aload_n (pc := 53) dX2_advance_53 rfl ?_
    refine j_getI (pc := 54) dX2_advance_54 f_X2_19 (Or.inl rfl) (by assumption) ?_
    rw [h2.2.2.2.2.2.1]
    refine j_aload_n (pc := 57) dX2_advance_57 rfl ?_
    refine j_getI (pc := 58) dX2_advance_58 f_X2_15 (Or.inl rfl) (by assumption) ?_
    rw [h2.2.2.2.2.1]
    refine j_icmp_lt (pc := 61) (tgt := 70) dX2_advance_61 (by decide) (fun h61 => ?_) (fun h61 => ?_)
    · have hlt : ps < n := Nat.lt_of_not_le (fun z => Int32.not_le.mpr h61 (nI_le z (by omega)))
      obtain ⟨b, hxb, hgb, hb256⟩ := h2.at (i := ps) hlt
      refine j_aload_n (pc := 70) dX2_advance_70 rfl ?_
      refine j_getP (pc := 71) dX2_advance_71 f_X2_9 (Or.inl ⟨_, rfl⟩) (by assumption) ?_
      rw [h2.2.1]
      refine j_aload_n (pc := 74) dX2_advance_74 rfl ?_
      refine j_getI (pc := 75) dX2_advance_75 f_X2_19 (Or.inl rfl) (by assumption) ?_
      rw [h2.2.2.2.2.2.1]
      refine j_callV (pc := 78) (t := 1) (c_get h2.2.2.1 _) dX2_advance_78 l_X2_32 mk_X1_get mv_X1_get (by decide) rfl (by assumption) (by decide) rfl rfl (Nat.le_of_ble_eq_true rfl) (Nat.le_refl _) (Nat.le_refl _) (fun r T5 h_1 => ?_)
      obtain ⟨rfl, rfl⟩ := h_1
      rw [hgb]
      refine j_istore_n (pc := 81) (ls' := [_, _]) dX2_advance_81 (by decide) rfl rfl ?_
      refine j_iload_n (pc := 82) dX2_advance_82 rfl ?_
      refine j_callS (pc := 83) (c_isLetter hb256) dX2_advance_83 l_X2_38 mk_X2_isLetter ms_X2_isLetter (by decide) rfl rfl (Nat.le_of_ble_eq_true rfl) (Nat.le_refl _) (Nat.le_refl _) (fun r T5 h_1 => ?_)
      obtain ⟨rfl, rfl⟩ := h_1
      refine j_if_eq (pc := 86) (tgt := 96) dX2_advance_86 (by decide) (fun h86 => ?_) (fun h86 => ?_)
      · refine j_iload_n (pc := 96) dX2_advance_96 rfl ?_
        refine j_callS (pc := 97) (c_isDigit hb256) dX2_advance_97 l_X2_45 mk_X2_isDigit ms_X2_isDigit (by decide) rfl rfl (Nat.le_of_ble_eq_true rfl) (Nat.le_refl _) (Nat.le_refl _) (fun r T5 h_1 => ?_)
        obtain ⟨rfl, rfl⟩ := h_1
        refine j_if_eq (pc := 100) (tgt := 110) dX2_advance_100 (by decide) (fun h100 => ?_) (fun h100 => ?_)
        · refine j_aload_n (pc := 110) dX2_advance_110 rfl ?_
          refine j_iload_n (pc := 111) dX2_advance_111 rfl ?_
          refine j_bipush (pc := 112) (v := 59) dX2_advance_112 (by decide) ?_
          refine j_icmp_eq (pc := 114) (tgt := 129) dX2_advance_114 (by decide) (fun h114 => ?_) (fun h114 => ?_)
          · refine j_iconst (pc := 129) (v := 3) dX2_advance_129 (by decide) ?_
            refine j_goto (pc := 130) (tgt := 134) dX2_advance_130 (by decide) ?_
            refine j_putI (pc := 134) dX2_advance_134 f_X2_22 rfl (by assumption) rfl ?_
            refine j_aload_n (pc := 137) dX2_advance_137 rfl ?_
            refine j_iload_n (pc := 138) dX2_advance_138 rfl ?_
            refine j_i2l (pc := 139) dX2_advance_139 ?_
            refine j_putL (pc := 140) dX2_advance_140 f_X2_28 rfl (by assumption) rfl ?_
            refine j_aload_n (pc := 143) dX2_advance_143 rfl ?_
            refine j_dup (pc := 144) dX2_advance_144 rfl ?_
            refine j_getI (pc := 145) dX2_advance_145 f_X2_19 (Or.inl rfl) (by assumption) ?_
            rw [show ∀ (v : Int32) (w : Int64), zgI (zwL (zwI (zwL (zwI T x 4 (nI ps)) x 5 0) x 3 v) x 5 w) x 2 = nI ps from fun v w => (zgI_nk (by decide)).trans h2.2.2.2.2.2.1]
            refine j_iconst (pc := 148) (v := 1) dX2_advance_148 (by decide) ?_
            refine j_iadd (pc := 149) dX2_advance_149 ?_
            rw [nI_1]
            refine j_putI (pc := 150) dX2_advance_150 f_X2_19 rfl (by assumption) rfl ?_
            refine j_vret (pc := 153) dX2_advance_153 rfl ?_
            refine ⟨rfl, ((F2.tr (zF.wI rfl)).tr (zF.wL rfl)).tr (zF.wI rfl), ?_⟩
            rw [show zadv (F.take n) ps0 = ztk (F.take n) ps from by unfold zadv; rw [hr], ztk_S hxb (zbi_eq0.mp h86) (zbi_eq0.mp h100)]
            rw [if_pos (Or.inl ((nI_eq (b := 59) (by omega) (by decide)).mp h114))]
            exact ((h2.w3 3).w5 (nI b).toInt64).w2 (ps + 1)
          · refine j_iload_n (pc := 117) dX2_advance_117 rfl ?_
            refine j_bipush (pc := 118) (v := 44) dX2_advance_118 (by decide) ?_
            refine j_icmp_eq (pc := 120) (tgt := 129) dX2_advance_120 (by decide) (fun h120 => ?_) (fun h120 => ?_)
            · refine j_iconst (pc := 129) (v := 3) dX2_advance_129 (by decide) ?_
              refine j_goto (pc := 130) (tgt := 134) dX2_advance_130 (by decide) ?_
              refine j_putI (pc := 134) dX2_advance_134 f_X2_22 rfl (by assumption) rfl ?_
              refine j_aload_n (pc := 137) dX2_advance_137 rfl ?_
              refine j_iload_n (pc := 138) dX2_advance_138 rfl ?_
              refine j_i2l (pc := 139) dX2_advance_139 ?_
              refine j_putL (pc := 140) dX2_advance_140 f_X2_28 rfl (by assumption) rfl ?_
              refine j_aload_n (pc := 143) dX2_advance_143 rfl ?_
              refine j_dup (pc := 144) dX2_advance_144 rfl ?_
              refine j_getI (pc := 145) dX2_advance_145 f_X2_19 (Or.inl rfl) (by assumption) ?_
              rw [show ∀ (v : Int32) (w : Int64), zgI (zwL (zwI (zwL (zwI T x 4 (nI ps)) x 5 0) x 3 v) x 5 w) x 2 = nI ps from fun v w => (zgI_nk (by decide)).trans h2.2.2.2.2.2.1]
              refine j_iconst (pc := 148) (v := 1) dX2_advance_148 (by decide) ?_
              refine j_iadd (pc := 149) dX2_advance_149 ?_
              rw [nI_1]
              refine j_putI (pc := 150) dX2_advance_150 f_X2_19 rfl (by assumption) rfl ?_
              refine j_vret (pc := 153) dX2_advance_153 rfl ?_
              refine ⟨rfl, ((F2.tr (zF.wI rfl)).tr (zF.wL rfl)).tr (zF.wI rfl), ?_⟩
              rw [show zadv (F.take n) ps0 = ztk (F.take n) ps from by unfold zadv; rw [hr], ztk_S hxb (zbi_eq0.mp h86) (zbi_eq0.mp h100)]
              rw [if_pos (Or.inr (Or.inl ((nI_eq (b := 44) (by omega) (by decide)).mp h120)))]
              exact ((h2.w3 3).w5 (nI b).toInt64).w2 (ps + 1)
            · refine j_iload_n (pc := 123) dX2_advance_123 rfl ?_
              refine j_bipush (pc := 124) (v := 45) dX2_advance_124 (by decide) ?_
              refine j_icmp_ne (pc := 126) (tgt := 133) dX2_advance_126 (by decide) (fun h126 => ?_) (fun h126 => ?_)
              · refine j_iconst (pc := 133) (v := 4) dX2_advance_133 (by decide) ?_
                refine j_putI (pc := 134) dX2_advance_134 f_X2_22 rfl (by assumption) rfl ?_
                refine j_aload_n (pc := 137) dX2_advance_137 rfl ?_
                refine j_iload_n (pc := 138) dX2_advance_138 rfl ?_
                refine j_i2l (pc := 139) dX2_advance_139 ?_
                refine j_putL (pc := 140) dX2_advance_140 f_X2_28 rfl (by assumption) rfl ?_
                refine j_aload_n (pc := 143) dX2_advance_143 rfl ?_
                refine j_dup (pc := 144) dX2_advance_144 rfl ?_
                refine j_getI (pc := 145) dX2_advance_145 f_X2_19 (Or.inl rfl) (by assumption) ?_
                rw [show ∀ (v : Int32) (w : Int64), zgI (zwL (zwI (zwL (zwI T x 4 (nI ps)) x 5 0) x 3 v) x 5 w) x 2 = nI ps from fun v w => (zgI_nk (by decide)).trans h2.2.2.2.2.2.1]
                refine j_iconst (pc := 148) (v := 1) dX2_advance_148 (by decide) ?_
                refine j_iadd (pc := 149) dX2_advance_149 ?_
                rw [nI_1]
                refine j_putI (pc := 150) dX2_advance_150 f_X2_19 rfl (by assumption) rfl ?_
                refine j_vret (pc := 153) dX2_advance_153 rfl ?_
                refine ⟨rfl, ((F2.tr (zF.wI rfl)).tr (zF.wL rfl)).tr (zF.wI rfl), ?_⟩
                rw [show zadv (F.take n) ps0 = ztk (F.take n) ps from by unfold zadv; rw [hr], ztk_S hxb (zbi_eq0.mp h86) (zbi_eq0.mp h100)]
                rw [if_neg (fun z => z.elim (fun w => h114 ((nI_eq (b := 59) (by omega) (by decide)).mpr w)) (fun z => z.elim (fun w => h120 ((nI_eq (b := 44) (by omega) (by decide)).mpr w)) (fun w => h126 ((nI_eq (b := 45) (by omega) (by decide)).mpr w))))]
                exact ((h2.w3 4).w5 (nI b).toInt64).w2 (ps + 1)
              · refine j_iconst (pc := 129) (v := 3) dX2_advance_129 (by decide) ?_
                refine j_goto (pc := 130) (tgt := 134) dX2_advance_130 (by decide) ?_
                refine j_putI (pc := 134) dX2_advance_134 f_X2_22 rfl (by assumption) rfl ?_
                refine j_aload_n (pc := 137) dX2_advance_137 rfl ?_
                refine j_iload_n (pc := 138) dX2_advance_138 rfl ?_
                refine j_i2l (pc := 139) dX2_advance_139 ?_
                refine j_putL (pc := 140) dX2_advance_140 f_X2_28 rfl (by assumption) rfl ?_
                refine j_aload_n (pc := 143) dX2_advance_143 rfl ?_
                refine j_dup (pc := 144) dX2_advance_144 rfl ?_
                refine j_getI (pc := 145) dX2_advance_145 f_X2_19 (Or.inl rfl) (by assumption) ?_
                rw [show ∀ (v : Int32) (w : Int64), zgI (zwL (zwI (zwL (zwI T x 4 (nI ps)) x 5 0) x 3 v) x 5 w) x 2 = nI ps from fun v w => (zgI_nk (by decide)).trans h2.2.2.2.2.2.1]
                refine j_iconst (pc := 148) (v := 1) dX2_advance_148 (by decide) ?_
                refine j_iadd (pc := 149) dX2_advance_149 ?_
                rw [nI_1]
                refine j_putI (pc := 150) dX2_advance_150 f_X2_19 rfl (by assumption) rfl ?_
                refine j_vret (pc := 153) dX2_advance_153 rfl ?_
                refine ⟨rfl, ((F2.tr (zF.wI rfl)).tr (zF.wL rfl)).tr (zF.wI rfl), ?_⟩
                rw [show zadv (F.take n) ps0 = ztk (F.take n) ps from by unfold zadv; rw [hr], ztk_S hxb (zbi_eq0.mp h86) (zbi_eq0.mp h100)]
                rw [if_pos (Or.inr (Or.inr ((nI_eq (b := 45) (by omega) (by decide)).mp h126)))]
                exact ((h2.w3 3).w5 (nI b).toInt64).w2 (ps + 1)
        · refine j_aload_n (pc := 103) dX2_advance_103 rfl ?_
          refine j_callV (pc := 104) (t := 2) (c_takeDigits h2 hps (Nat.le_refl _)) dX2_advance_104 l_X2_48 mk_X2_takeDigits mv_X2_takeDigits (by decide) rfl (by assumption) (by decide) rfl rfl (Nat.le_of_ble_eq_true rfl) (Nat.le_refl _) (Nat.le_refl _) (fun r T5 h_1 => ?_)
          obtain ⟨rfl, f1, h3⟩ := h_1
          refine j_goto (pc := 107) (tgt := 153) dX2_advance_107 (by decide) ?_
          refine j_vret (pc := 153) dX2_advance_153 rfl ?_
          refine ⟨rfl, F2.tr f1, ?_⟩
          rw [show zadv (F.take n) ps0 = ztk (F.take n) ps from by unfold zadv; rw [hr], ztk_D hxb (zbi_eq0.mp h86) (zbi_ne0 h100)]
          exact h3
      · refine j_aload_n (pc := 89) dX2_advance_89 rfl ?_
        refine j_callV (pc := 90) (t := 2) (c_takeLetters h2 hps (Nat.le_refl _)) dX2_advance_90 l_X2_42 mk_X2_takeLetters mv_X2_takeLetters (by decide) rfl (by assumption) (by decide) rfl rfl (Nat.le_of_ble_eq_true rfl) (Nat.le_refl _) (Nat.le_refl _) (fun r T5 h_1 => ?_)
        obtain ⟨rfl, f1, h3⟩ := h_1
        refine j_goto (pc := 93) (tgt := 153) dX2_advance_93 (by decide) ?_
        refine j_vret (pc := 153) dX2_advance_153 rfl ?_
        refine ⟨rfl, F2.tr f1, ?_⟩
        rw [show zadv (F.take n) ps0 = ztk (F.take n) ps from by unfold zadv; rw [hr], ztk_L hxb (zbi_ne0 h86)]
        exact h3
    · refine j_aload_n (pc := 64) dX2_advance_64 rfl ?_
      refine j_iconst (pc := 65) (v := 0) dX2_advance_65 (by decide) ?_
      refine j_putI (pc := 66) dX2_advance_66 f_X2_22 rfl (by assumption) rfl ?_
      refine j_vret (pc := 69) dX2_advance_69 rfl ?_
      refine ⟨rfl, F2.tr (zF.wI rfl), ?_⟩
      rw [show zadv (F.take n) ps0 = ztk (F.take n) ps from by unfold zadv; rw [hr], ztk_E (by rw [hX]; exact Nat.le_of_not_lt (fun z => h61 (Int32.not_le.mp (fun q => absurd q (nI_ge z (by omega))))))]
      exact h2.w3 0
  have lp : ∀ (m ps : Nat) (T : zM), ps + m = n → zF (fun c => c = x) S T → zLx T x tp tp2 cap F n ps so sr co → ps ≤ n → zrun zsp (F.take n) ps0 = zrun zsp (F.take n) ps → zJ E 2 0 0 mX2_advance cX2_advance 0 [some (zR x), none] [] T (fun r T => r = none ∧ zF (fun c => c = x) S T ∧ zLx T x tp tp2 cap F n (zadv (F.take n) ps0).1 (zadv (F.take n) ps0).2.1 (zadv (F.take n) ps0).2.2.1 (zadv (F.take n) ps0).2.2.2) := by
    intro m
    induction m with
    | zero =>
      intro ps T hm hF h hps hr
      have k1 := h.1
      have kt := h.2.2.1.1
      have hp := h.2.1
      have e1 := h.2.2.2.2.1
      have e2 := h.2.2.2.2.2.1
      obtain ⟨hX, hn31⟩ := h.ln
      refine j_aload_n (pc := 0) dX2_advance_0 rfl ?_
      refine j_getI (pc := 1) dX2_advance_1 f_X2_19 (Or.inl rfl) (by assumption) ?_
      rw [e2]
      refine j_aload_n (pc := 4) dX2_advance_4 rfl ?_
      refine j_getI (pc := 5) dX2_advance_5 f_X2_15 (Or.inl rfl) (by assumption) ?_
      rw [e1]
      refine j_icmp_ge (pc := 8) (tgt := 40) dX2_advance_8 (by decide) (fun h8 => ?_) (fun h8 => ?_)
      · exact tail ps T hF h hps (hr.trans (zrun_E (by omega)))
      · exact absurd (nI_le (by omega) (by omega)) h8
    | succ m ih =>
      intro ps T hm hF h hps hr
      have k1 := h.1
      have kt := h.2.2.1.1
      have hp := h.2.1
      have e1 := h.2.2.2.2.1
      have e2 := h.2.2.2.2.2.1
      obtain ⟨hX, hn31⟩ := h.ln
      obtain ⟨b, hxb, hgb, hb256⟩ := h.at (i := ps) (by omega)
      refine j_aload_n (pc := 0) dX2_advance_0 rfl ?_
      refine j_getI (pc := 1) dX2_advance_1 f_X2_19 (Or.inl rfl) (by assumption) ?_
      rw [e2]
      refine j_aload_n (pc := 4) dX2_advance_4 rfl ?_
      refine j_getI (pc := 5) dX2_advance_5 f_X2_15 (Or.inl rfl) (by assumption) ?_
      rw [e1]
      refine j_icmp_ge (pc := 8) (tgt := 40) dX2_advance_8 (by decide) (fun h8 => ?_) (fun h8 => ?_)
      · exact absurd h8 (nI_ge (by omega) (by omega))
      · refine j_aload_n (pc := 11) dX2_advance_11 rfl ?_
        refine j_getP (pc := 12) dX2_advance_12 f_X2_9 (Or.inl ⟨_, rfl⟩) (by assumption) ?_
        rw [hp]
        refine j_aload_n (pc := 15) dX2_advance_15 rfl ?_
        refine j_getI (pc := 16) dX2_advance_16 f_X2_19 (Or.inl rfl) (by assumption) ?_
        rw [e2]
        refine j_callV (pc := 19) (t := 1) (c_get h.2.2.1 _) dX2_advance_19 l_X2_32 mk_X1_get mv_X1_get (by decide) rfl (by assumption) (by decide) rfl rfl (Nat.le_of_ble_eq_true rfl) (Nat.le_refl _) (Nat.le_refl _) (fun r T h_1 => ?_)
        obtain ⟨rfl, rfl⟩ := h_1
        rw [hgb]
        refine j_bipush (pc := 22) (v := 32) dX2_advance_22 (by decide) ?_
        refine j_icmp_ne (pc := 24) (tgt := 40) dX2_advance_24 (by decide) (fun h24 => ?_) (fun h24 => ?_)
        · have hb32 : zsp b = false := decide_eq_false (fun z => h24 ((nI_eq (b := 32) (by omega) (by decide)).mpr z))
          exact tail ps _ hF h hps (hr.trans (zrun_F hxb hb32))
        · refine j_aload_n (pc := 27) dX2_advance_27 rfl ?_
          refine j_dup (pc := 28) dX2_advance_28 rfl ?_
          refine j_getI (pc := 29) dX2_advance_29 f_X2_19 (Or.inl rfl) (by assumption) ?_
          rw [e2]
          refine j_iconst (pc := 32) (v := 1) dX2_advance_32 (by decide) ?_
          refine j_iadd (pc := 33) dX2_advance_33 ?_
          rw [nI_1]
          refine j_putI (pc := 34) dX2_advance_34 f_X2_19 rfl (by assumption) rfl ?_
          refine j_goto (pc := 37) (tgt := 0) dX2_advance_37 (by decide) ?_
          have hb32 : zsp b = true := decide_eq_true ((nI_eq (b := 32) (by omega) (by decide)).mp h24)
          exact ih (ps + 1) _ (by omega) (hF.tr (zF.wI rfl)) (h.w2 (ps + 1)) (by omega) (hr.trans (zrun_T hxb hb32))
  exact lp (n - ps0) ps0 S (by omega) zF.rf h0 hps0 rfl
