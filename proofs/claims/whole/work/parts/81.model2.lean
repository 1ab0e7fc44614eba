theorem i64_0 (x : Int32) : ¬ x.toInt64 < 0 ↔ ¬ x < 0 := by
  have := fa_wide_lt x 0
  rw [show (0 : Int32).toInt64 = 0 from rfl] at this
  rw [this]
theorem zin_lit {m : Nat} (hm : m + 1 < 2 ^ 31) (x : Int32) : decide (¬ x.toInt64 < 0 ∧ ¬ (nI m).toInt64 < x.toInt64) = zcl2 (m + 1) x := by
  rw [zcl2]
  congr 1
  refine propext (and_congr (i64_0 x) ?_)
  rw [fa_wide_lt]
  constructor
  · intro h q
    exact h (Int32.lt_of_lt_of_le (nI_lt (Nat.lt_succ_self m) hm) q)
  · intro h q
    rcases pk_ix x (n := m + 1) hm with g | g | ⟨j, hj, rfl⟩
    · exact absurd (Int32.lt_trans q g) (nI_pos (by omega))
    · exact h g
    · exact absurd q (Int32.not_lt.mpr (nI_le (by omega) (by omega)))
theorem zin_col {n : Nat} (hn : n < 2 ^ 20) (x : Int32) : decide (¬ x.toInt64 < 0 ∧ ¬ (nI n - 1).toInt64 < x.toInt64) = zcl2 n x := by
  cases n with
  | zero =>
    rw [zcl2]
    congr 1
    refine propext (and_congr (i64_0 x) ?_)
    rw [fa_wide_lt]
    constructor
    · intro h q
      exact h (Int32.lt_of_lt_of_le (by decide) q)
    · intro h q
      rcases pk_ix x (n := 1) (by decide) with g | g | ⟨j, hj, rfl⟩
      · have h1 := (fa_lt _ _).mp q
        have h2 := (fa_lt _ _).mp g
        have e1 : (nI 0 - 1 : Int32).toInt = -1 := by decide
        have e2 : (0 : Int32).toInt = 0 := by decide
        omega
      · exact h (Int32.le_trans (by decide) g)
      · exact h (nI_le (Nat.zero_le _) (by omega))
  | succ m =>
    rw [show nI (m + 1) - 1 = nI m from pk_sub (b := 1) (by omega)]
    exact zin_lit (by omega) x
theorem zin_sz (x : Int32) : decide (¬ x.toInt64 < 1 ∧ ¬ (20 : Int64) < x.toInt64) = zsz x := by
  rw [zsz]
  congr 1
  have h1 := fa_wide_lt x 1
  have h2 := fa_wide_lt 20 x
  rw [show (1 : Int32).toInt64 = 1 from rfl] at h1
  rw [show (20 : Int32).toInt64 = 20 from rfl] at h2
  rw [h1, h2]
theorem zin_tp {m : Nat} (x : Int32) : decide (¬ x.toInt64 < 0 ∧ ¬ (nI m).toInt64 < x.toInt64) = zoT m x := by
  rw [zoT]
  congr 1
  rw [fa_wide_lt, propext (i64_0 x)]
theorem zin_cv {v : Nat} (x : Int32) : decide (¬ x.toInt64 < (nI (v - 40)).toInt64 ∧ ¬ (nI v).toInt64 < x.toInt64) = zcv v x := by
  rw [zcv]
  congr 1
  rw [fa_wide_lt, fa_wide_lt, Int32.not_lt, Int32.not_lt]
set_option maxRecDepth 20000 in
set_option maxHeartbeats 4000000 in
theorem n_in {E : zE} {S : zM}  (v lo hi : Int64) : zSp E 0 0 0 mX12_in cX12_in [zL v, zL lo, zL hi] S (fun r T => S = T ∧ r = some (zI (zbi (decide (¬ v < lo ∧ ¬ hi < v))))) := by
  refine zSp.of (by decide) rfl (Nat.le_of_ble_eq_true rfl) rfl ?_
  refine j_lload_n (pc := 0) dX12_in_0 rfl ?_
  refine j_lload_n (pc := 1) dX12_in_1 rfl ?_
  refine j_lcmp (pc := 2) dX12_in_2 ?_
  refine j_if_lt (pc := 3) (tgt := 17) dX12_in_3 (by decide) (fun h3 => ?_) (fun h3 => ?_)
  · refine j_iconst (pc := 17) (v := 0) dX12_in_17 (by decide) ?_
    refine j_zret (pc := 18) dX12_in_18 rfl (by first | assumption | decide) ?_
    exact ⟨rfl, by rw [decide_eq_false (fun q => q.1 ((lg_cmp_lt _ _).mp h3))]; rfl⟩
  · refine j_lload_n (pc := 6) dX12_in_6 rfl ?_
    refine j_lload (pc := 7) dX12_in_7 rfl ?_
    refine j_lcmp (pc := 9) dX12_in_9 ?_
    refine j_if_gt (pc := 10) (tgt := 17) dX12_in_10 (by decide) (fun h10 => ?_) (fun h10 => ?_)
    · refine j_iconst (pc := 17) (v := 0) dX12_in_17 (by decide) ?_
      refine j_zret (pc := 18) dX12_in_18 rfl (by first | assumption | decide) ?_
      exact ⟨rfl, by rw [decide_eq_false (fun q => q.2 ((lg_cmp_gt _ _).mp h10))]; rfl⟩
    · refine j_iconst (pc := 13) (v := 1) dX12_in_13 (by decide) ?_
      refine j_goto (pc := 14) (tgt := 18) dX12_in_14 (by decide) ?_
      refine j_zret (pc := 18) dX12_in_18 rfl (by first | assumption | decide) ?_
      exact ⟨rfl, by rw [decide_eq_true (p := ¬ v < lo ∧ ¬ hi < v) ⟨fun q => h3 ((lg_cmp_lt _ _).mpr q), fun q => h10 ((lg_cmp_gt _ _).mpr q)⟩]; rfl⟩
set_option maxRecDepth 20000 in
set_option maxHeartbeats 4000000 in
theorem n_no {E : zE} {S : zM}  (hM : zMs S) (x : Int32) : zSp E 0 0 0 mX12_no cX12_no [zR 123, zI x] S (fun r T => T = zwI S 123 1 x ∧ r = some (zI (-1))) := by
  refine zSp.of (by decide) rfl (Nat.le_of_ble_eq_true rfl) rfl ?_
  refine j_aload_n (pc := 0) dX12_no_0 rfl ?_
  refine j_iload_n (pc := 1) dX12_no_1 rfl ?_
  refine j_putI (pc := 2) dX12_no_2 f_X12_129 rfl hM.1 rfl ?_
  refine j_iconst (pc := 5) (v := (-1)) dX12_no_5 (by decide) ?_
  refine j_iret (pc := 6) dX12_no_6 rfl ?_
  exact ⟨rfl, rfl⟩
set_option maxRecDepth 20000 in
set_option maxHeartbeats 4000000 in
theorem n_isRefused {E : zE} {S : zM}  (hM : zMs S) (x : Int32) : zSp E 0 0 0 mX12_isRefused cX12_isRefused [zR 123, zI x] S (fun r T => T = zNw S x ∧ r = some (zI (zbi (decide (¬ x = 0))))) := by
  refine zSp.of (by decide) rfl (Nat.le_of_ble_eq_true rfl) rfl ?_
  refine j_aload_n (pc := 0) dX12_isRefused_0 rfl ?_
  refine j_iconst (pc := 1) (v := 0) dX12_isRefused_1 (by decide) ?_
  refine j_putI (pc := 2) dX12_isRefused_2 f_X12_126 rfl hM.1 rfl ?_
  refine j_aload_n (pc := 5) dX12_isRefused_5 rfl ?_
  refine j_iconst (pc := 6) (v := (-1)) dX12_isRefused_6 (by decide) ?_
  refine j_putI (pc := 7) dX12_isRefused_7 f_X12_11 rfl hM.1 rfl ?_
  refine j_aload_n (pc := 10) dX12_isRefused_10 rfl ?_
  refine j_iload_n (pc := 11) dX12_isRefused_11 rfl ?_
  refine j_putI (pc := 12) dX12_isRefused_12 f_X12_129 rfl hM.1 rfl ?_
  refine j_iload_n (pc := 15) dX12_isRefused_15 rfl ?_
  refine j_if_eq (pc := 16) (tgt := 23) dX12_isRefused_16 (by decide) (fun h16 => ?_) (fun h16 => ?_)
  · refine j_iconst (pc := 23) (v := 0) dX12_isRefused_23 (by decide) ?_
    refine j_zret (pc := 24) dX12_isRefused_24 rfl (by first | assumption | decide) ?_
    exact ⟨rfl, by rw [decide_eq_false (not_not_intro h16)]; rfl⟩
  · refine j_iconst (pc := 19) (v := 1) dX12_isRefused_19 (by decide) ?_
    refine j_goto (pc := 20) (tgt := 24) dX12_isRefused_20 (by decide) ?_
    refine j_zret (pc := 24) dX12_isRefused_24 rfl (by first | assumption | decide) ?_
    exact ⟨rfl, by rw [decide_eq_true (p := ¬ x = 0) h16]; rfl⟩
set_option maxRecDepth 20000 in
set_option maxHeartbeats 4000000 in
theorem n_unless {E : zE} {S : zM}  (b : Bool) : zSp E 0 0 0 mX12_unless cX12_unless [zI (zbi b)] S (fun r T => S = T ∧ r = some (zI (nI (if b then 0 else 1)))) := by
  refine zSp.of (by decide) rfl (Nat.le_of_ble_eq_true rfl) rfl ?_
  refine j_iload_n (pc := 0) dX12_unless_0 rfl ?_
  refine j_if_eq (pc := 1) (tgt := 8) dX12_unless_1 (by decide) (fun h1 => ?_) (fun h1 => ?_)
  · refine j_iconst (pc := 8) (v := 1) dX12_unless_8 (by decide) ?_
    refine j_iret (pc := 9) dX12_unless_9 rfl ?_
    exact ⟨rfl, by rw [zbi_eq0.mp h1]; rfl⟩
  · refine j_iconst (pc := 4) (v := 0) dX12_unless_4 (by decide) ?_
    refine j_goto (pc := 5) (tgt := 9) dX12_unless_5 (by decide) ?_
    refine j_iret (pc := 9) dX12_unless_9 rfl ?_
    exact ⟨rfl, by rw [zbi_ne0 h1]; rfl⟩
set_option maxRecDepth 20000 in
set_option maxHeartbeats 4000000 in
theorem n_rowAt {E : zE} {S : zM} {u i : Nat} (hu : u < 2 ^ 20) : zSp E 0 0 0 mX12_rowAt cX12_rowAt [zI (nI u), zI (nI i)] S (fun r T => S = T ∧ r = some (zI (nI (64 * (u % 41) + i)))) := by
  refine zSp.of (by decide) rfl (Nat.le_of_ble_eq_true rfl) rfl ?_
  refine j_bipush (pc := 0) (v := 64) dX12_rowAt_0 (by decide) ?_
  refine j_iload_n (pc := 2) dX12_rowAt_2 rfl ?_
  refine j_bipush (pc := 3) (v := 41) dX12_rowAt_3 (by decide) ?_
  refine j_irem (pc := 5) dX12_rowAt_5 (by decide) ?_
  rw [show nI u - nI u / 41 * 41 = nI (u % 41) from pk_rem (d := 41) (by omega) (by decide) (by decide)]
  refine j_imul (pc := 6) dX12_rowAt_6 ?_
  rw [show (64 : Int32) * nI (u % 41) = nI (64 * (u % 41)) from pk_mul 64 _]
  refine j_iload_n (pc := 7) dX12_rowAt_7 rfl ?_
  refine j_iadd (pc := 8) dX12_rowAt_8 ?_
  rw [nI_add]
  refine j_iret (pc := 9) dX12_rowAt_9 rfl ?_
  exact ⟨rfl, rfl⟩
theorem zth_f1 {th : Nat → Bool} {x : Int32} (h : zcl2 64 x = false) : zth th x = false := by
  have : decide (¬ x < 0 ∧ ¬ 64 ≤ x) = false := h
  rw [zth, this, Bool.false_and]
set_option maxRecDepth 20000 in
set_option maxHeartbeats 4000000 in
theorem n_isThen {E : zE} {S : zM} {s : zST} {t : zTB} {u : Nat} (h : zMO S s) (ht : sT s = some t) (hu1 : u ≤ tv t) (hu2 : tv t ≤ u + 40) (hu3 : u < 2 ^ 20) (x : Int32) : zSp E 1 0 0 mX12_isThen cX12_isThen [zR 123, zI (nI u), zI x] S (fun r T => S = T ∧ r = some (zI (zbi (zth (tH t u).1 x)))) := by
  refine zSp.of (by decide) rfl (Nat.le_of_ble_eq_true rfl) rfl ?_
  have hM := h.1
  have hH := (h.2.2.2.2.1 t ht).1.2.2.2.2
  refine j_iload_n (pc := 0) dX12_isThen_0 rfl ?_
  refine j_i2l (pc := 1) dX12_isThen_1 ?_
  refine j_lconst (pc := 2) (v := 0) dX12_isThen_2 (by decide) ?_
  refine j_ldcL (pc := 3) dX12_isThen_3 k_X12_299 ?_
  refine j_callS (pc := 6) (n_in x.toInt64 0 63) dX12_isThen_6 l_X12_159 mk_X12_in ms_X12_in (by decide) rfl rfl (Nat.le_of_ble_eq_true rfl) (Nat.le_refl _) (Nat.le_refl _) (fun r T h_1 => ?_)
  obtain ⟨rfl, rfl⟩ := h_1
  rw [show decide (¬ x.toInt64 < 0 ∧ ¬ (63 : Int64) < x.toInt64) = zcl2 64 x from zin_lit (m := 63) (by decide) x]
  refine j_if_eq (pc := 9) (tgt := 29) dX12_isThen_9 (by decide) (fun h9 => ?_) (fun h9 => ?_)
  · refine j_iconst (pc := 29) (v := 0) dX12_isThen_29 (by decide) ?_
    refine j_zret (pc := 30) dX12_isThen_30 rfl (by first | assumption | decide) ?_
    exact ⟨rfl, by rw [zth_f1 (zbi_eq0.mp h9)]; rfl⟩
  · obtain ⟨j, hj, rfl⟩ := zcl2_t (by decide) (zbi_ne0 h9)
    have hj2 := (hH u hu1 hu2 j hj).1
    refine j_aload_n (pc := 12) dX12_isThen_12 rfl ?_
    refine j_getPv (pc := 13) dX12_isThen_13 f_X12_51 (Or.inr ⟨_, rfl⟩) hM.1 (mp_isThere hM) ?_
    refine j_iload_n (pc := 16) dX12_isThen_16 rfl ?_
    refine j_iload_n (pc := 17) dX12_isThen_17 rfl ?_
    refine j_callS (pc := 18) (n_rowAt hu3) dX12_isThen_18 l_X12_301 mk_X12_rowAt ms_X12_rowAt (by decide) rfl rfl (Nat.le_of_ble_eq_true rfl) (Nat.le_refl _) (Nat.le_refl _) (fun r T h_1 => ?_)
    obtain ⟨rfl, rfl⟩ := h_1
    refine j_zaldn (pc := 21) dX12_isThen_21 (mk_isThere hM) (show 64 * (u % 41) + j < 2624 by omega) (Nat.le_of_ble_eq_true rfl) (hj2) ?_
    refine j_if_eq (pc := 22) (tgt := 29) dX12_isThen_22 (by decide) (fun h22 => ?_) (fun h22 => ?_)
    · refine j_iconst (pc := 29) (v := 0) dX12_isThen_29 (by decide) ?_
      refine j_zret (pc := 30) dX12_isThen_30 rfl (by first | assumption | decide) ?_
      exact ⟨rfl, by rw [zth_nI _ hj, h22]⟩
    · refine j_iconst (pc := 25) (v := 1) dX12_isThen_25 (by decide) ?_
      refine j_goto (pc := 26) (tgt := 30) dX12_isThen_26 (by decide) ?_
      refine j_zret (pc := 30) dX12_isThen_30 rfl (by first | assumption | decide) ?_
      exact ⟨rfl, by rw [zth_nI _ hj, zbi_ne0 h22]; rfl⟩
theorem zWF.v {n : Nat} {s : zST} {t : zTB} (h : zWF n s) (ht : sT s = some t) : tv t < 600 ∧ tn t < 600 ∧ (tK t).length ≤ 4 ∧ (tO t).length ≤ 4 ∧ (tV t).length ≤ 2 ∧ tG t ≤ 64 := by
  have h2 := h.2.2.2
  rw [ht] at h2
  have h3 := h2.1
  have := h.1
  exact ⟨by have := h3.2.2.2.2.2.1.1; omega, by have := h3.2.2.2.2.2.1.2; omega, h3.1.2.2, h3.1.2.1, h3.2.2.2.1.1, h3.2.2.2.2.1.1⟩
theorem zWF.t {n : Nat} {s : zST} {t : zTB} (h : zWF n s) (ht : sT s = some t) : zWt n t ∧ (∀ q, sP s = some q → zWp q) ∧ ∀ r x, sR s r = some x → zWr t x := by
  have h2 := h.2.2.2
  rw [ht] at h2
  exact h2
theorem isS {α : Type} {o : Option α} (h : o.isSome = true) : ∃ a, o = some a := Option.isSome_iff_exists.mp h
theorem isN {α : Type} {o : Option α} (h : o.isSome = false) : o = none := by cases o; rfl; cases h
set_option maxRecDepth 20000 in
set_option maxHeartbeats 4000000 in
theorem n_isNow {E : zE} {S : zM} {s : zST} {n : Nat} (h : zMO S s) (hw : zWF n s) (x : Int32) : zSp E 2 0 0 mX12_isNow cX12_isNow [zR 123, zI x] S (fun r T => S = T ∧ r = some (zI (zbi (zrow s x)))) := by
  refine zSp.of (by decide) rfl (Nat.le_of_ble_eq_true rfl) rfl ?_
  have hM := h.1
  refine j_aload_n (pc := 0) dX12_isNow_0 rfl ?_
  refine j_getIv (pc := 1) dX12_isNow_1 f_X12_296 (Or.inr rfl) hM.1 (h.2.2.2.1.1) ?_
  refine j_if_eq (pc := 4) (tgt := 23) dX12_isNow_4 (by decide) (fun h4 => ?_) (fun h4 => ?_)
  · refine j_iconst (pc := 23) (v := 0) dX12_isNow_23 (by decide) ?_
    refine j_zret (pc := 24) dX12_isNow_24 rfl (by first | assumption | decide) ?_
    exact ⟨rfl, by rw [zrow_n (isN (zbi_eq0.mp h4))]; rfl⟩
  · obtain ⟨t, ht⟩ := isS (zbi_ne0 h4)
    have hv := hw.v ht
    refine j_aload_n (pc := 7) dX12_isNow_7 rfl ?_
    refine j_aload_n (pc := 8) dX12_isNow_8 rfl ?_
    refine j_getIv (pc := 9) dX12_isNow_9 f_X12_277 (Or.inl rfl) hM.1 ((h.2.2.2.2.1 t ht).1.2.2.2.1.1) ?_
    refine j_iload_n (pc := 12) dX12_isNow_12 rfl ?_
    refine j_callV (pc := 13) (t := 12) (n_isThen h ht (Nat.le_refl _) (Nat.le_add_right _ _) (by omega) x) dX12_isNow_13 l_X12_305 mk_X12_isThen mv_X12_isThen (by decide) rfl hM.1 (by decide) rfl rfl (Nat.le_of_ble_eq_true rfl) (Nat.le_refl _) (Nat.le_refl _) (fun r T h_1 => ?_)
    obtain ⟨rfl, rfl⟩ := h_1
    refine j_if_eq (pc := 16) (tgt := 23) dX12_isNow_16 (by decide) (fun h16 => ?_) (fun h16 => ?_)
    · refine j_iconst (pc := 23) (v := 0) dX12_isNow_23 (by decide) ?_
      refine j_zret (pc := 24) dX12_isNow_24 rfl (by first | assumption | decide) ?_
      exact ⟨rfl, by rw [zrow_s ht, zbi_eq0.mp h16]; rfl⟩
    · refine j_iconst (pc := 19) (v := 1) dX12_isNow_19 (by decide) ?_
      refine j_goto (pc := 20) (tgt := 24) dX12_isNow_20 (by decide) ?_
      refine j_zret (pc := 24) dX12_isNow_24 rfl (by first | assumption | decide) ?_
      exact ⟨rfl, by rw [zrow_s ht, zbi_ne0 h16]; rfl⟩
set_option maxRecDepth 20000 in
set_option maxHeartbeats 4000000 in
theorem n_valueThen {E : zE} {S : zM} {s : zST} {t : zTB} {u i c : Nat} (h : zMO S s) (ht : sT s = some t) (hu1 : u ≤ tv t) (hu2 : tv t ≤ u + 40) (hu3 : u < 2 ^ 20) (hi : i < 64) (hc : c < (tK t).length) (hK : (tK t).length ≤ 4) (hth : (tH t u).1 i = true) : zSp E 1 0 0 mX12_valueThen cX12_valueThen [zR 123, zI (nI u), zI (nI i), zI (nI c)] S (fun r T => S = T ∧ r = some (zL ((tH t u).2 i c))) := by
  refine zSp.of (by decide) rfl (Nat.le_of_ble_eq_true rfl) rfl ?_
  have hM := h.1
  have hH := ((h.2.2.2.2.1 t ht).1.2.2.2.2 u hu1 hu2 i hi).2 hth c hc
  refine j_aload_n (pc := 0) dX12_valueThen_0 rfl ?_
  refine j_getPv (pc := 1) dX12_valueThen_1 f_X12_54 (Or.inr ⟨_, rfl⟩) hM.1 (mp_values hM) ?_
  refine j_iconst (pc := 4) (v := 4) dX12_valueThen_4 (by decide) ?_
  refine j_iload_n (pc := 5) dX12_valueThen_5 rfl ?_
  refine j_iload_n (pc := 6) dX12_valueThen_6 rfl ?_
  refine j_callS (pc := 7) (n_rowAt hu3) dX12_valueThen_7 l_X12_301 mk_X12_rowAt ms_X12_rowAt (by decide) rfl rfl (Nat.le_of_ble_eq_true rfl) (Nat.le_refl _) (Nat.le_refl _) (fun r T h_1 => ?_)
  obtain ⟨rfl, rfl⟩ := h_1
  refine j_imul (pc := 10) dX12_valueThen_10 ?_
  rw [show (4 : Int32) * nI (64 * (u % 41) + i) = nI (4 * (64 * (u % 41) + i)) from pk_mul 4 _]
  refine j_iload_n (pc := 11) dX12_valueThen_11 rfl ?_
  refine j_iadd (pc := 12) dX12_valueThen_12 ?_
  rw [nI_add]
  refine j_laldn (pc := 13) dX12_valueThen_13 (mk_values hM) (show 4 * (64 * (u % 41) + i) + c < 10496 by omega) (Nat.le_of_ble_eq_true rfl) (hH) ?_
  refine j_lret (pc := 14) dX12_valueThen_14 rfl ?_
  exact ⟨rfl, rfl⟩
set_option maxRecDepth 20000 in
set_option maxHeartbeats 4000000 in
theorem n_earliest {E : zE} {S : zM} {v : Nat} (hM : zMs S) (hv : zgI S 123 29 = nI v) (hv2 : v < 2 ^ 20) : zSp E 0 0 0 mX12_earliest cX12_earliest [zR 123] S (fun r T => S = T ∧ r = some (zI (nI (v - 40)))) := by
  refine zSp.of (by decide) rfl (Nat.le_of_ble_eq_true rfl) rfl ?_
  refine j_aload_n (pc := 0) dX12_earliest_0 rfl ?_
  refine j_getIv (pc := 1) dX12_earliest_1 f_X12_277 (Or.inl rfl) hM.1 (hv) ?_
  refine j_bipush (pc := 4) (v := 40) dX12_earliest_4 (by decide) ?_
  refine j_icmp_ge (pc := 6) (tgt := 13) dX12_earliest_6 (by decide) (fun h6 => ?_) (fun h6 => ?_)
  · refine j_aload_n (pc := 13) dX12_earliest_13 rfl ?_
    refine j_getIv (pc := 14) dX12_earliest_14 f_X12_277 (Or.inl rfl) hM.1 (hv) ?_
    refine j_bipush (pc := 17) (v := 41) dX12_earliest_17 (by decide) ?_
    refine j_isub (pc := 19) dX12_earliest_19 ?_
    refine j_iconst (pc := 20) (v := 1) dX12_earliest_20 (by decide) ?_
    refine j_iadd (pc := 21) dX12_earliest_21 ?_
    rw [show nI v - 41 + 1 = nI (v - 40) by have h40 : 40 ≤ v := Nat.le_of_not_lt (fun q => nI_ge (b := 40) q (by decide) h6); rw [fa_eq, fb_addI (by rw [show (nI v - 41 : Int32).toInt = (v : Int) - 41 from pk_sub_toInt (b := 41) (by omega) (by decide), show (1 : Int32).toInt = 1 from rfl]; omega) (by rw [show (nI v - 41 : Int32).toInt = (v : Int) - 41 from pk_sub_toInt (b := 41) (by omega) (by decide), show (1 : Int32).toInt = 1 from rfl]; omega), show (nI v - 41 : Int32).toInt = (v : Int) - 41 from pk_sub_toInt (b := 41) (by omega) (by decide), show (1 : Int32).toInt = 1 from rfl, nI_toInt (by omega)]; omega]
    refine j_iret (pc := 22) dX12_earliest_22 rfl ?_
    exact ⟨rfl, rfl⟩
  · refine j_iconst (pc := 9) (v := 0) dX12_earliest_9 (by decide) ?_
    refine j_goto (pc := 10) (tgt := 22) dX12_earliest_10 (by decide) ?_
    
    refine j_iret (pc := 22) dX12_earliest_22 rfl ?_
    exact ⟨rfl, by rw [show v - 40 = 0 from by have := Nat.lt_of_not_le (fun q => h6 (nI_le (a := 40) q (by omega))); omega]; rfl⟩
set_option maxRecDepth 20000 in
set_option maxHeartbeats 4000000 in
theorem n_canView {E : zE} {S : zM} {v : Nat} (hM : zMs S) (hv : zgI S 123 29 = nI v) (hv2 : v < 2 ^ 20) (x : Int32) : zSp E 1 0 0 mX12_canView cX12_canView [zR 123, zI x] S (fun r T => S = T ∧ r = some (zI (zbi (zcv v x)))) := by
  refine zSp.of (by decide) rfl (Nat.le_of_ble_eq_true rfl) rfl ?_
  refine j_iload_n (pc := 0) dX12_canView_0 rfl ?_
  refine j_i2l (pc := 1) dX12_canView_1 ?_
  refine j_aload_n (pc := 2) dX12_canView_2 rfl ?_
  refine j_callV (pc := 3) (t := 12) (n_earliest hM hv hv2) dX12_canView_3 l_X12_309 mk_X12_earliest mv_X12_earliest (by decide) rfl hM.1 (by decide) rfl rfl (Nat.le_of_ble_eq_true rfl) (Nat.le_refl _) (Nat.le_refl _) (fun r T h_1 => ?_)
  obtain ⟨rfl, rfl⟩ := h_1
  refine j_i2l (pc := 6) dX12_canView_6 ?_
  refine j_aload_n (pc := 7) dX12_canView_7 rfl ?_
  refine j_getIv (pc := 8) dX12_canView_8 f_X12_277 (Or.inl rfl) hM.1 (hv) ?_
  refine j_i2l (pc := 11) dX12_canView_11 ?_
  refine j_callS (pc := 12) (n_in _ _ _) dX12_canView_12 l_X12_159 mk_X12_in ms_X12_in (by decide) rfl rfl (Nat.le_of_ble_eq_true rfl) (Nat.le_refl _) (Nat.le_refl _) (fun r T h_1 => ?_)
  obtain ⟨rfl, rfl⟩ := h_1
  rw [zin_cv]
  refine j_zret (pc := 15) dX12_canView_15 rfl (zbi_n _) ?_
  exact ⟨rfl, rfl⟩
set_option maxRecDepth 20000 in
set_option maxHeartbeats 4000000 in
theorem n_isColumn {E : zE} {S : zM} {s : zST} {n : Nat} (h : zMO S s) (hw : zWF n s) (x : Int32) : zSp E 1 0 0 mX12_isColumn cX12_isColumn [zR 123, zI x] S (fun r T => S = T ∧ r = some (zI (zbi (zcol s x)))) := by
  refine zSp.of (by decide) rfl (Nat.le_of_ble_eq_true rfl) rfl ?_
  have hM := h.1
  refine j_aload_n (pc := 0) dX12_isColumn_0 rfl ?_
  refine j_getIv (pc := 1) dX12_isColumn_1 f_X12_296 (Or.inr rfl) hM.1 (h.2.2.2.1.1) ?_
  refine j_if_eq (pc := 4) (tgt := 27) dX12_isColumn_4 (by decide) (fun h4 => ?_) (fun h4 => ?_)
  · refine j_iconst (pc := 27) (v := 0) dX12_isColumn_27 (by decide) ?_
    refine j_zret (pc := 28) dX12_isColumn_28 rfl (by first | assumption | decide) ?_
    exact ⟨rfl, by rw [zcol_n (isN (zbi_eq0.mp h4))]; rfl⟩
  · obtain ⟨t, ht⟩ := isS (zbi_ne0 h4)
    have hv := hw.v ht
    refine j_iload_n (pc := 7) dX12_isColumn_7 rfl ?_
    refine j_i2l (pc := 8) dX12_isColumn_8 ?_
    refine j_lconst (pc := 9) (v := 0) dX12_isColumn_9 (by decide) ?_
    refine j_aload_n (pc := 10) dX12_isColumn_10 rfl ?_
    refine j_getIv (pc := 11) dX12_isColumn_11 f_X12_271 (Or.inl rfl) hM.1 ((h.2.2.2.2.1 t ht).1.1.1) ?_
    refine j_iconst (pc := 14) (v := 1) dX12_isColumn_14 (by decide) ?_
    refine j_isub (pc := 15) dX12_isColumn_15 ?_
    refine j_i2l (pc := 16) dX12_isColumn_16 ?_
    refine j_callS (pc := 17) (n_in _ _ _) dX12_isColumn_17 l_X12_159 mk_X12_in ms_X12_in (by decide) rfl rfl (Nat.le_of_ble_eq_true rfl) (Nat.le_refl _) (Nat.le_refl _) (fun r T h_1 => ?_)
    obtain ⟨rfl, rfl⟩ := h_1
    rw [zin_col (by omega)]
    refine j_if_eq (pc := 20) (tgt := 27) dX12_isColumn_20 (by decide) (fun h20 => ?_) (fun h20 => ?_)
    · refine j_iconst (pc := 27) (v := 0) dX12_isColumn_27 (by decide) ?_
      refine j_zret (pc := 28) dX12_isColumn_28 rfl (by first | assumption | decide) ?_
      exact ⟨rfl, by rw [zcol_s ht, zbi_eq0.mp h20]; rfl⟩
    · refine j_iconst (pc := 23) (v := 1) dX12_isColumn_23 (by decide) ?_
      refine j_goto (pc := 24) (tgt := 28) dX12_isColumn_24 (by decide) ?_
      refine j_zret (pc := 28) dX12_isColumn_28 rfl (by first | assumption | decide) ?_
      exact ⟨rfl, by rw [zcol_s ht, zbi_ne0 h20]; rfl⟩
