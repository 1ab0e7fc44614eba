/-! THE CLASS ITSELF: answers, and what they rest on -/
set_option maxRecDepth 20000 in
set_option maxHeartbeats 4000000 in
theorem c_refused {E : zE} {S : zM}  (k1 : zkd S 1 = (12, 0)) (x : Int32) : zSp E 0 0 0 mX11_refused cX11_refused [zR 1, zI x] S (fun r T => T = zwI S 1 6 x ∧ r = some (zI (-1))) := by
  refine zSp.of (by decide) rfl (Nat.le_of_ble_eq_true rfl) rfl ?_
  refine j_aload_n (pc := 0) dX11_refused_0 rfl ?_
  refine j_iload_n (pc := 1) dX11_refused_1 rfl ?_
  refine j_putI (pc := 2) dX11_refused_2 f_X11_48 rfl (by assumption) rfl ?_
  refine j_iconst (pc := 5) (v := (-1)) dX11_refused_5 (by decide) ?_
  refine j_iret (pc := 6) dX11_refused_6 rfl ?_
  exact ⟨rfl, rfl⟩
set_option maxRecDepth 20000 in
set_option maxHeartbeats 4000000 in
theorem c_refusedV {E : zE} {S : zM}  (k1 : zkd S 1 = (12, 0)) (x : Int32) : zSp E 0 0 0 mX11_refusedValue cX11_refusedValue [zR 1, zI x] S (fun r T => T = zwI S 1 6 x ∧ r = some (zL zMiss)) := by
  refine zSp.of (by decide) rfl (Nat.le_of_ble_eq_true rfl) rfl ?_
  refine j_aload_n (pc := 0) dX11_refusedValue_0 rfl ?_
  refine j_iload_n (pc := 1) dX11_refusedValue_1 rfl ?_
  refine j_putI (pc := 2) dX11_refusedValue_2 f_X11_48 rfl (by assumption) rfl ?_
  refine j_ldcL (pc := 5) dX11_refusedValue_5 k_X11_292 ?_
  refine j_lret (pc := 8) dX11_refusedValue_8 rfl ?_
  exact ⟨rfl, rfl⟩
set_option maxRecDepth 20000 in
set_option maxHeartbeats 4000000 in
theorem c_answered {E : zE} {S : zM}  (k1 : zkd S 1 = (12, 0)) (x : Int32) : zSp E 0 0 0 mX11_answered cX11_answered [zR 1, zI x] S (fun r T => T = zwI S 1 6 0 ∧ r = some (zI x)) := by
  refine zSp.of (by decide) rfl (Nat.le_of_ble_eq_true rfl) rfl ?_
  refine j_aload_n (pc := 0) dX11_answered_0 rfl ?_
  refine j_iconst (pc := 1) (v := 0) dX11_answered_1 (by decide) ?_
  refine j_putI (pc := 2) dX11_answered_2 f_X11_48 rfl (by assumption) rfl ?_
  refine j_iload_n (pc := 5) dX11_answered_5 rfl ?_
  refine j_iret (pc := 6) dX11_answered_6 rfl ?_
  exact ⟨rfl, rfl⟩
set_option maxRecDepth 20000 in
set_option maxHeartbeats 4000000 in
theorem c_answeredV {E : zE} {S : zM}  (k1 : zkd S 1 = (12, 0)) (x : Int64) : zSp E 0 0 0 mX11_answeredValue cX11_answeredValue [zR 1, zL x] S (fun r T => T = zwI S 1 6 0 ∧ r = some (zL x)) := by
  refine zSp.of (by decide) rfl (Nat.le_of_ble_eq_true rfl) rfl ?_
  refine j_aload_n (pc := 0) dX11_answeredValue_0 rfl ?_
  refine j_iconst (pc := 1) (v := 0) dX11_answeredValue_1 (by decide) ?_
  refine j_putI (pc := 2) dX11_answeredValue_2 f_X11_48 rfl (by assumption) rfl ?_
  refine j_lload_n (pc := 5) dX11_answeredValue_5 rfl ?_
  refine j_lret (pc := 6) dX11_answeredValue_6 rfl ?_
  exact ⟨rfl, rfl⟩
set_option maxRecDepth 20000 in
set_option maxHeartbeats 4000000 in
theorem c_ansOrNone {E : zE} {S : zM}  (k1 : zkd S 1 = (12, 0)) (x : Int32) : zSp E 1 0 0 mX11_answeredOrNone cX11_answeredOrNone [zR 1, zI x] S (fun r T => T = zwI S 1 6 (if x = -1 then 1 else 0) ∧ r = some (zI x)) := by
  refine zSp.of (by decide) rfl (Nat.le_of_ble_eq_true rfl) rfl ?_
  refine j_iload_n (pc := 0) dX11_answeredOrNone_0 rfl ?_
  refine j_iconst (pc := 1) (v := (-1)) dX11_answeredOrNone_1 (by decide) ?_
  refine j_icmp_ne (pc := 2) (tgt := 13) dX11_answeredOrNone_2 (by decide) (fun h2 => ?_) (fun h2 => ?_)
  · refine j_aload_n (pc := 13) dX11_answeredOrNone_13 rfl ?_
    refine j_iload_n (pc := 14) dX11_answeredOrNone_14 rfl ?_
    refine j_callV (pc := 15) (t := 11) (c_answered k1 x) dX11_answeredOrNone_15 l_X11_103 mk_X11_answered mv_X11_answered (by decide) rfl (by assumption) (by decide) rfl rfl (Nat.le_of_ble_eq_true rfl) (Nat.le_refl _) (Nat.le_refl _) (fun r T h_1 => ?_)
    obtain ⟨rfl, rfl⟩ := h_1
    refine j_iret (pc := 18) dX11_answeredOrNone_18 rfl ?_
    exact ⟨by rw [if_neg h2], rfl⟩
  · refine j_aload_n (pc := 5) dX11_answeredOrNone_5 rfl ?_
    refine j_iconst (pc := 6) (v := 1) dX11_answeredOrNone_6 (by decide) ?_
    refine j_callV (pc := 7) (t := 11) (c_refused k1 1) dX11_answeredOrNone_7 l_X11_68 mk_X11_refused mv_X11_refused (by decide) rfl (by assumption) (by decide) rfl rfl (Nat.le_of_ble_eq_true rfl) (Nat.le_refl _) (Nat.le_refl _) (fun r T h_1 => ?_)
    obtain ⟨rfl, rfl⟩ := h_1
    refine j_goto (pc := 10) (tgt := 18) dX11_answeredOrNone_10 (by decide) ?_
    refine j_iret (pc := 18) dX11_answeredOrNone_18 rfl ?_
    exact ⟨by rw [if_pos h2], by rw [h2]⟩
def zoT (n : Nat) (x : Int32) : Bool := decide (¬ x < 0 ∧ ¬ nI n < x)
set_option maxRecDepth 20000 in
set_option maxHeartbeats 4000000 in
theorem c_isOnTape {E : zE} {S : zM} {F : List Nat} (k1 : zkd S 1 = (12, 0)) (p0 : zgP S 1 0 = 2) (hF : zBy S 2 3 900 F) (x : Int32) : zSp E 0 0 0 mX11_isOnTape cX11_isOnTape [zR 1, zI x] S (fun r T => S = T ∧ r = some (zI (zbi (zoT F.length x)))) := by
  refine zSp.of (by decide) rfl (Nat.le_of_ble_eq_true rfl) rfl ?_
  have k2 := hF.1
  refine j_iload_n (pc := 0) dX11_isOnTape_0 rfl ?_
  refine j_if_lt (pc := 1) (tgt := 19) dX11_isOnTape_1 (by decide) (fun h1 => ?_) (fun h1 => ?_)
  · refine j_iconst (pc := 19) (v := 0) dX11_isOnTape_19 (by decide) ?_
    refine j_zret (pc := 20) dX11_isOnTape_20 rfl (by first | assumption | decide) ?_
    exact ⟨rfl, by rw [zoT, decide_eq_false (fun q => q.1 h1)]; rfl⟩
  · refine j_iload_n (pc := 4) dX11_isOnTape_4 rfl ?_
    refine j_aload_n (pc := 5) dX11_isOnTape_5 rfl ?_
    refine j_getPv (pc := 6) dX11_isOnTape_6 f_X11_16 (Or.inl ⟨_, rfl⟩) (by assumption) (p0) ?_
    refine j_getIv (pc := 9) dX11_isOnTape_9 f_X11_58 (Or.inl rfl) (by assumption) (hF.2.2.2.2.1) ?_
    refine j_icmp_gt (pc := 12) (tgt := 19) dX11_isOnTape_12 (by decide) (fun h12 => ?_) (fun h12 => ?_)
    · refine j_iconst (pc := 19) (v := 0) dX11_isOnTape_19 (by decide) ?_
      refine j_zret (pc := 20) dX11_isOnTape_20 rfl (by first | assumption | decide) ?_
      exact ⟨rfl, by rw [zoT, decide_eq_false (fun q => q.2 h12)]; rfl⟩
    · refine j_iconst (pc := 15) (v := 1) dX11_isOnTape_15 (by decide) ?_
      refine j_goto (pc := 16) (tgt := 20) dX11_isOnTape_16 (by decide) ?_
      refine j_zret (pc := 20) dX11_isOnTape_20 rfl (by first | assumption | decide) ?_
      exact ⟨rfl, by rw [zoT, decide_eq_true (p := ¬ x < 0 ∧ ¬ nI F.length < x) ⟨h1, h12⟩]; rfl⟩
def zsz (x : Int32) : Bool := decide (¬ x < 1 ∧ ¬ 20 < x)
set_option maxRecDepth 20000 in
set_option maxHeartbeats 4000000 in
theorem c_isPageSize {E : zE} {S : zM}  (x : Int32) : zSp E 0 0 0 mX11_isPageSize cX11_isPageSize [zI x] S (fun r T => S = T ∧ r = some (zI (zbi (zsz x)))) := by
  refine zSp.of (by decide) rfl (Nat.le_of_ble_eq_true rfl) rfl ?_
  refine j_iload_n (pc := 0) dX11_isPageSize_0 rfl ?_
  refine j_iconst (pc := 1) (v := 1) dX11_isPageSize_1 (by decide) ?_
  refine j_icmp_lt (pc := 2) (tgt := 15) dX11_isPageSize_2 (by decide) (fun h2 => ?_) (fun h2 => ?_)
  · refine j_iconst (pc := 15) (v := 0) dX11_isPageSize_15 (by decide) ?_
    refine j_zret (pc := 16) dX11_isPageSize_16 rfl (by first | assumption | decide) ?_
    exact ⟨rfl, by rw [zsz, decide_eq_false (fun q => q.1 h2)]; rfl⟩
  · refine j_iload_n (pc := 5) dX11_isPageSize_5 rfl ?_
    refine j_bipush (pc := 6) (v := 20) dX11_isPageSize_6 (by decide) ?_
    refine j_icmp_gt (pc := 8) (tgt := 15) dX11_isPageSize_8 (by decide) (fun h8 => ?_) (fun h8 => ?_)
    · refine j_iconst (pc := 15) (v := 0) dX11_isPageSize_15 (by decide) ?_
      refine j_zret (pc := 16) dX11_isPageSize_16 rfl (by first | assumption | decide) ?_
      exact ⟨rfl, by rw [zsz, decide_eq_false (fun q => q.2 h8)]; rfl⟩
    · refine j_iconst (pc := 11) (v := 1) dX11_isPageSize_11 (by decide) ?_
      refine j_goto (pc := 12) (tgt := 16) dX11_isPageSize_12 (by decide) ?_
      refine j_zret (pc := 16) dX11_isPageSize_16 rfl (by first | assumption | decide) ?_
      exact ⟨rfl, by rw [zsz, decide_eq_true (p := ¬ x < 1 ∧ ¬ 20 < x) ⟨h2, h8⟩]; rfl⟩
def zcl2 (n : Nat) (x : Int32) : Bool := decide (¬ x < 0 ∧ ¬ nI n ≤ x)
def zcol (s : zST) (x : Int32) : Bool := match sT s with
  | none => false
  | some t => zcl2 (tK t).length x
def zrow (s : zST) (x : Int32) : Bool := match sT s with
  | none => false
  | some t => zth (tW t).1 x
def zbeg (s : zST) (x : Int32) : Bool := match sT s with
  | none => false
  | some _ => decide (¬ x < 0 ∧ ¬ 4 ≤ x) && (sR s x.toNatClampNeg).isSome
theorem zcol_n {s : zST} (h : sT s = none) (x : Int32) : zcol s x = false := by rw [zcol, h]
theorem zcol_s {s : zST} {t : zTB} (h : sT s = some t) (x : Int32) : zcol s x = zcl2 (tK t).length x := by rw [zcol, h]
theorem zrow_n {s : zST} (h : sT s = none) (x : Int32) : zrow s x = false := by rw [zrow, h]
theorem zrow_s {s : zST} {t : zTB} (h : sT s = some t) (x : Int32) : zrow s x = zth (tW t).1 x := by rw [zrow, h]
theorem zbeg_n {s : zST} (h : sT s = none) (x : Int32) : zbeg s x = false := by rw [zbeg, h]
theorem zbeg_s {s : zST} {t : zTB} (h : sT s = some t) (x : Int32) : zbeg s x = (decide (¬ x < 0 ∧ ¬ 4 ≤ x) && (sR s x.toNatClampNeg).isSome) := by rw [zbeg, h]
theorem zTt.d {S : zM} {a : Nat} {t : zTB} (h : zTt S a t) : zkd S a = (10, 0) ∧ zgP S a 2 = a + 3 ∧ zgP S a 3 = a + 8 ∧ zgP S a 4 = a + 13 ∧ zgP S a 5 = a + 16 ∧ zgP S a 6 = a + 21 ∧ zgP S a 1 = a + 2 ∧ zgI S a 7 = nI (tK t).length ∧ zgI S a 8 = nI (tn t) := by
  obtain ⟨so, si, sc, ol, h, -⟩ := h
  exact ⟨h.1.1.1, h.2.1.1, h.2.1.2.1, h.2.1.2.2.1, h.2.1.2.2.2.1, h.2.1.2.2.2.2, h.1.1.2.2, h.1.2.1, h.2.2.2.2.2.2.2.1⟩
set_option maxRecDepth 20000 in
set_option maxHeartbeats 4000000 in
theorem c_isColumn {E : zE} {S : zM} {s : zST} (h : zCI S s) (x : Int32) : zSp E 0 0 0 mX11_isColumn cX11_isColumn [zR 1, zI x] S (fun r T => S = T ∧ r = some (zI (zbi (zcol s x)))) := by
  refine zSp.of (by decide) rfl (Nat.le_of_ble_eq_true rfl) rfl ?_
  obtain ⟨h0, hF, hG, hi, hV, hP, hR, hT⟩ := id h
  have k1 := h0.1
  cases ht : sT s with
  | none =>
    rw [ht] at hT
    rw [zcol_n ht]
    have p5 : zgP S 1 5 = 0 := hT
    refine j_aload_n (pc := 0) dX11_isColumn_0 rfl ?_
    refine j_getPv (pc := 1) dX11_isColumn_1 f_X11_44 (Or.inl ⟨_, rfl⟩) (by assumption) (p5) ?_
    refine j_ifnull (pc := 4) (tgt := 26) dX11_isColumn_4 (by decide) (fun h4 => ?_) (fun h4 => absurd rfl h4)
    refine j_iconst (pc := 26) (v := 0) dX11_isColumn_26 (by decide) ?_
    refine j_zret (pc := 27) dX11_isColumn_27 rfl (by first | assumption | decide) ?_
    exact ⟨rfl, rfl⟩
  | some t =>
    rw [ht] at hT
    rw [zcol_s ht]
    obtain ⟨a, p5, a161, ag, hTt, hVI⟩ := hT
    obtain ⟨ka, q2, q3, q4, q5, q6, q1, i7, i8⟩ := hTt.d
    refine j_aload_n (pc := 0) dX11_isColumn_0 rfl ?_
    refine j_getPv (pc := 1) dX11_isColumn_1 f_X11_44 (Or.inl ⟨_, rfl⟩) (by assumption) (p5) ?_
    refine j_ifnull (pc := 4) (tgt := 26) dX11_isColumn_4 (by decide) (fun h4 => absurd h4 (by omega)) (fun h4 => ?_)
    refine j_iload_n (pc := 7) dX11_isColumn_7 rfl ?_
    refine j_if_lt (pc := 8) (tgt := 26) dX11_isColumn_8 (by decide) (fun h8 => ?_) (fun h8 => ?_)
    · refine j_iconst (pc := 26) (v := 0) dX11_isColumn_26 (by decide) ?_
      refine j_zret (pc := 27) dX11_isColumn_27 rfl (by first | assumption | decide) ?_
      exact ⟨rfl, by rw [zcl2, decide_eq_false (fun q => q.1 h8)]; rfl⟩
    · refine j_iload_n (pc := 11) dX11_isColumn_11 rfl ?_
      refine j_aload_n (pc := 12) dX11_isColumn_12 rfl ?_
      refine j_getPv (pc := 13) dX11_isColumn_13 f_X11_44 (Or.inl ⟨_, rfl⟩) (by assumption) (p5) ?_
      refine j_getIv (pc := 16) dX11_isColumn_16 f_X11_106 (Or.inl rfl) (by assumption) (i7) ?_
      refine j_icmp_ge (pc := 19) (tgt := 26) dX11_isColumn_19 (by decide) (fun h19 => ?_) (fun h19 => ?_)
      · refine j_iconst (pc := 26) (v := 0) dX11_isColumn_26 (by decide) ?_
        refine j_zret (pc := 27) dX11_isColumn_27 rfl (by first | assumption | decide) ?_
        exact ⟨rfl, by rw [zcl2, decide_eq_false (fun q => q.2 h19)]; rfl⟩
      · refine j_iconst (pc := 22) (v := 1) dX11_isColumn_22 (by decide) ?_
        refine j_goto (pc := 23) (tgt := 27) dX11_isColumn_23 (by decide) ?_
        refine j_zret (pc := 27) dX11_isColumn_27 rfl (by first | assumption | decide) ?_
        exact ⟨rfl, by rw [zcl2, decide_eq_true (p := ¬ x < 0 ∧ ¬ nI (tK t).length ≤ x) ⟨h8, h19⟩]; rfl⟩
set_option maxRecDepth 20000 in
set_option maxHeartbeats 4000000 in
theorem c_isRow {E : zE} {S : zM} {s : zST} (h : zCI S s) (x : Int32) : zSp E 1 0 0 mX11_isRow cX11_isRow [zR 1, zI x] S (fun r T => S = T ∧ r = some (zI (zbi (zrow s x)))) := by
  refine zSp.of (by decide) rfl (Nat.le_of_ble_eq_true rfl) rfl ?_
  obtain ⟨h0, hF, hG, hi, hV, hP, hR, hT⟩ := id h
  have k1 := h0.1
  cases ht : sT s with
  | none =>
    rw [ht] at hT
    rw [zrow_n ht]
    have p5 : zgP S 1 5 = 0 := hT
    refine j_aload_n (pc := 0) dX11_isRow_0 rfl ?_
    refine j_getPv (pc := 1) dX11_isRow_1 f_X11_44 (Or.inl ⟨_, rfl⟩) (by assumption) (p5) ?_
    refine j_ifnull (pc := 4) (tgt := 25) dX11_isRow_4 (by decide) (fun h4 => ?_) (fun h4 => absurd rfl h4)
    refine j_iconst (pc := 25) (v := 0) dX11_isRow_25 (by decide) ?_
    refine j_zret (pc := 26) dX11_isRow_26 rfl (by first | assumption | decide) ?_
    exact ⟨rfl, rfl⟩
  | some t =>
    rw [ht] at hT
    rw [zrow_s ht]
    obtain ⟨a, p5, a161, ag, hTt, hVI⟩ := hT
    obtain ⟨ka, q2, q3, q4, q5, q6, q1, i7, i8⟩ := hTt.d
    obtain ⟨so, si, sc, ol, hTA, hHi⟩ := hTt
    have hRo := hTA.2.2.2.2.1
    have kr := hRo.1
    refine j_aload_n (pc := 0) dX11_isRow_0 rfl ?_
    refine j_getPv (pc := 1) dX11_isRow_1 f_X11_44 (Or.inl ⟨_, rfl⟩) (by assumption) (p5) ?_
    refine j_ifnull (pc := 4) (tgt := 25) dX11_isRow_4 (by decide) (fun h4 => absurd h4 (by omega)) (fun h4 => ?_)
    refine j_aload_n (pc := 7) dX11_isRow_7 rfl ?_
    refine j_getPv (pc := 8) dX11_isRow_8 f_X11_44 (Or.inl ⟨_, rfl⟩) (by assumption) (p5) ?_
    refine j_getPv (pc := 11) dX11_isRow_11 f_X11_96 (Or.inl ⟨_, rfl⟩) (by assumption) (q4) ?_
    refine j_iload_n (pc := 14) dX11_isRow_14 rfl ?_
    refine j_callV (pc := 15) (t := 7) (c_has hRo x) dX11_isRow_15 l_X11_174 mk_X7_has mv_X7_has (by decide) rfl (by assumption) (by decide) rfl rfl (Nat.le_of_ble_eq_true rfl) (Nat.le_refl _) (Nat.le_refl _) (fun r T h_1 => ?_)
    obtain ⟨rfl, rfl⟩ := h_1
    refine j_if_eq (pc := 18) (tgt := 25) dX11_isRow_18 (by decide) (fun h18 => ?_) (fun h18 => ?_)
    · refine j_iconst (pc := 25) (v := 0) dX11_isRow_25 (by decide) ?_
      refine j_zret (pc := 26) dX11_isRow_26 rfl (by first | assumption | decide) ?_
      exact ⟨rfl, by rw [zbi_eq0.mp h18]; rfl⟩
    · refine j_iconst (pc := 21) (v := 1) dX11_isRow_21 (by decide) ?_
      refine j_goto (pc := 22) (tgt := 26) dX11_isRow_22 (by decide) ?_
      refine j_zret (pc := 26) dX11_isRow_26 rfl (by first | assumption | decide) ?_
      exact ⟨rfl, by rw [zbi_ne0 h18]; rfl⟩
theorem zCr.k {S : zM} {a : Nat} {x : Option zRDR} (h : zCr S a x) : zkd S a = (7, 0) ∧ zgI S a 3 = zbi x.isSome := by
  cases x with
  | none =>
    obtain ⟨sb, en, sz, vr, pg, sg, sa, L, h⟩ := h
    exact ⟨h.1.1, h.2.2.1.1⟩
  | some x => exact ⟨h.1.1, h.2.2.1.1⟩
set_option maxRecDepth 20000 in
set_option maxHeartbeats 4000000 in
theorem c_hasBegun {E : zE} {S : zM} {s : zST} (h : zCI S s) (x : Int32) : zSp E 0 0 0 mX11_hasBegun cX11_hasBegun [zR 1, zI x] S (fun r T => S = T ∧ r = some (zI (zbi (zbeg s x)))) := by
  refine zSp.of (by decide) rfl (Nat.le_of_ble_eq_true rfl) rfl ?_
  obtain ⟨h0, hF, hG, hi, hV, hP, hR, hT⟩ := id h
  have k1 := h0.1
  cases ht : sT s with
  | none =>
    rw [ht] at hT
    rw [zbeg_n ht]
    have p5 : zgP S 1 5 = 0 := hT
    refine j_aload_n (pc := 0) dX11_hasBegun_0 rfl ?_
    refine j_getPv (pc := 1) dX11_hasBegun_1 f_X11_44 (Or.inl ⟨_, rfl⟩) (by assumption) (p5) ?_
    refine j_ifnull (pc := 4) (tgt := 32) dX11_hasBegun_4 (by decide) (fun h4 => ?_) (fun h4 => absurd rfl h4)
    refine j_iconst (pc := 32) (v := 0) dX11_hasBegun_32 (by decide) ?_
    refine j_zret (pc := 33) dX11_hasBegun_33 rfl (by first | assumption | decide) ?_
    exact ⟨rfl, rfl⟩
  | some t =>
    rw [ht] at hT
    rw [zbeg_s ht]
    obtain ⟨a, p5, a161, ag, hTt, hVI⟩ := hT
    obtain ⟨ka, q2, q3, q4, q5, q6, q1, i7, i8⟩ := hTt.d
    have k102 : zkd S 102 = (14 + 4, 4) := h0.2.2.1
    rcases pk_ix x (n := 4) (by decide) with hx | hx | ⟨j, hj, rfl⟩
    · rw [decide_eq_false (fun q => q.1 hx), Bool.false_and]
      refine j_aload_n (pc := 0) dX11_hasBegun_0 rfl ?_
      refine j_getPv (pc := 1) dX11_hasBegun_1 f_X11_44 (Or.inl ⟨_, rfl⟩) (by assumption) (p5) ?_
      refine j_ifnull (pc := 4) (tgt := 32) dX11_hasBegun_4 (by decide) (fun h4 => absurd h4 (by omega)) (fun h4 => ?_)
      refine j_iload_n (pc := 7) dX11_hasBegun_7 rfl ?_
      refine j_if_lt (pc := 8) (tgt := 32) dX11_hasBegun_8 (by decide) (fun h8 => ?_) (fun h8 => absurd hx h8)
      refine j_iconst (pc := 32) (v := 0) dX11_hasBegun_32 (by decide) ?_
      refine j_zret (pc := 33) dX11_hasBegun_33 rfl (by first | assumption | decide) ?_
      exact ⟨rfl, rfl⟩
    · rw [decide_eq_false (fun q => q.2 hx), Bool.false_and]
      refine j_aload_n (pc := 0) dX11_hasBegun_0 rfl ?_
      refine j_getPv (pc := 1) dX11_hasBegun_1 f_X11_44 (Or.inl ⟨_, rfl⟩) (by assumption) (p5) ?_
      refine j_ifnull (pc := 4) (tgt := 32) dX11_hasBegun_4 (by decide) (fun h4 => absurd h4 (by omega)) (fun h4 => ?_)
      refine j_iload_n (pc := 7) dX11_hasBegun_7 rfl ?_
      refine j_if_lt (pc := 8) (tgt := 32) dX11_hasBegun_8 (by decide) (fun h8 => ?_) (fun h8 => ?_)
      · refine j_iconst (pc := 32) (v := 0) dX11_hasBegun_32 (by decide) ?_
        refine j_zret (pc := 33) dX11_hasBegun_33 rfl (by decide) ?_
        exact ⟨rfl, rfl⟩
      · refine j_iload_n (pc := 11) dX11_hasBegun_11 rfl ?_
        refine j_iconst (pc := 12) (v := 4) dX11_hasBegun_12 (by decide) ?_
        refine j_icmp_ge (pc := 13) (tgt := 32) dX11_hasBegun_13 (by decide) (fun h13 => ?_) (fun h13 => absurd hx h13)
        refine j_iconst (pc := 32) (v := 0) dX11_hasBegun_32 (by decide) ?_
        refine j_zret (pc := 33) dX11_hasBegun_33 rfl (by decide) ?_
        exact ⟨rfl, rfl⟩
    · have hr := (hR j hj).k
      rw [decide_eq_true (p := ¬ nI j < 0 ∧ ¬ 4 ≤ nI j) ⟨nI_pos (by omega), nI_ge (b := 4) hj (by decide)⟩, Bool.true_and, nI_clamp (by omega)]
      have kr := hr.1
      refine j_aload_n (pc := 0) dX11_hasBegun_0 rfl ?_
      refine j_getPv (pc := 1) dX11_hasBegun_1 f_X11_44 (Or.inl ⟨_, rfl⟩) (by assumption) (p5) ?_
      refine j_ifnull (pc := 4) (tgt := 32) dX11_hasBegun_4 (by decide) (fun h4 => absurd h4 (by omega)) (fun h4 => ?_)
      refine j_iload_n (pc := 7) dX11_hasBegun_7 rfl ?_
      refine j_if_lt (pc := 8) (tgt := 32) dX11_hasBegun_8 (by decide) (fun h8 => absurd h8 (nI_pos (by omega))) (fun h8 => ?_)
      refine j_iload_n (pc := 11) dX11_hasBegun_11 rfl ?_
      refine j_iconst (pc := 12) (v := 4) dX11_hasBegun_12 (by decide) ?_
      refine j_icmp_ge (pc := 13) (tgt := 32) dX11_hasBegun_13 (by decide) (fun h13 => absurd h13 (nI_ge (b := 4) hj (by decide))) (fun h13 => ?_)
      refine j_aload_n (pc := 16) dX11_hasBegun_16 rfl ?_
      refine j_getPv (pc := 17) dX11_hasBegun_17 f_X11_39 (Or.inr ⟨_, rfl⟩) (by assumption) (h0.2.1.2.2.2.2) ?_
      refine j_iload_n (pc := 20) dX11_hasBegun_20 rfl ?_
      refine j_aaldn (pc := 21) (j := 4) dX11_hasBegun_21 k102 (by decide) hj (by decide) (h0.2.2.2.1 j hj) ?_
      refine j_getIv (pc := 22) dX11_hasBegun_22 f_X11_332 (Or.inr rfl) (by assumption) (hr.2) ?_
      refine j_if_eq (pc := 25) (tgt := 32) dX11_hasBegun_25 (by decide) (fun h25 => ?_) (fun h25 => ?_)
      · refine j_iconst (pc := 32) (v := 0) dX11_hasBegun_32 (by decide) ?_
        refine j_zret (pc := 33) dX11_hasBegun_33 rfl (by first | assumption | decide) ?_
        exact ⟨rfl, by rw [zbi_eq0.mp h25]; rfl⟩
      · refine j_iconst (pc := 28) (v := 1) dX11_hasBegun_28 (by decide) ?_
        refine j_goto (pc := 29) (tgt := 33) dX11_hasBegun_29 (by decide) ?_
        refine j_zret (pc := 33) dX11_hasBegun_33 rfl (by first | assumption | decide) ?_
        exact ⟨rfl, by rw [zbi_ne0 h25]; rfl⟩
