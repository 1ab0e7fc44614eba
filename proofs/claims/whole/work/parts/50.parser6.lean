theorem zup_lt {g : Nat} : va_up (fun i => decide (i < g)) g true = fun i => decide (i < g + 1) := by
  funext i
  unfold va_up
  by_cases h : i = g
  · subst h
    simp
  · simp only [h, if_false]
    exact decide_eq_decide.mpr ⟨fun q => by omega, fun q => by omega⟩
theorem zPd.add {S T : zM} {a tp tp2 cap : Nat} {F : List Nat} {n : Nat} {w : zPi} (h : zPd S a tp tp2 cap F n w) (f : zF (fun c => c = a + 13 ∨ c = a + 13 + 1) S T) (ho : zRo T (a + 13) (va_up (fun i => decide (i < w.2.2.2.2.1)) w.2.2.2.2.1 true) w.2.2.2.2.2 (w.2.2.2.2.1 + 1)) : zPd T a tp tp2 cap F n (w.1, w.2.1, w.2.2.1, w.2.2.2.1, w.2.2.2.2.1 + 1, w.2.2.2.2.2) := by
  rw [zup_lt] at ho
  obtain ⟨h1, h2, h3, h4, h5, h6, so, si, sc, ol, ⟨t1, t2, t3, t4, t5, t6, t7, t8, t9⟩⟩ := h
  exact ⟨by rw [f.1, f.2.2.1]; exact h1, h2.far f (by omega) (by omega) (by omega), h3, (f.2.2.2.1 (a + 22) (by omega) 2).trans h4, h5.ag (f.ag (by omega)) (f.ag (by omega)), h6, so, si, sc, ol, ⟨t1.keep f (by omega) (by omega), by rw [f.2.2.1]; exact t2, t3.keep f (fun k hk => by omega), t4.keep f (fun k hk => by omega), ho, t6.keep f (fun k hk => by omega), ⟨by rw [f.1]; exact t7.1, fun i hi => (f.2.2.2.1 (a + 21) (by omega) i).trans (t7.2 i hi)⟩, (f.2.2.2.1 a (by omega) 8).trans t8, t9⟩⟩
theorem zrV_ok {X : List Nat} {w v : zPi} {i j : Nat} {b bl ms : Bool} {k : zTo} (h : zrV X b bl ms k w i j = .ok v) : v.1 = zadv X k.1 ∧ v.2.1 = w.2.1 ∧ v.2.2.1 = w.2.2.1 ∧ v.2.2.2.1 = w.2.2.2.1 ∧ v.2.2.2.2.1 = w.2.2.2.2.1 := by
  unfold zrV at h
  by_cases q : ms = false ∧ ¬ k.2.1 = (if b then 1 else 2)
  · rw [if_pos q] at h
    cases h
  · rw [if_neg q] at h
    cases h
    exact ⟨rfl, rfl, rfl, rfl, rfl⟩
theorem zrW_ok {X : List Nat} {w v : zPi} {i j : Nat} {b : Bool} (h : zrW X w i j b = .ok v) : v.2.1 = w.2.1 ∧ v.2.2.1 = w.2.2.1 ∧ v.2.2.2.1 = w.2.2.2.1 ∧ v.2.2.2.2.1 = w.2.2.2.2.1 := by
  exact (zrV_ok h).2
/-- the values of a row, one kind behind the other -/
def zrRs (X : List Nat) (i : Nat) : List Bool → Nat → zPi → Except (Nat × Nat) zPi
  | [], _, w => .ok w
  | b :: bs, j, w => match zrW X w i j b with
    | .error e => .error e
    | .ok v => zrRs X i bs (j + 1) v
def zrR (X : List Nat) (w : zPi) : Except (Nat × Nat) zPi := if w.2.2.1.length = 0 ∨ w.2.2.2.1.length = 0 then .error (5, w.1.2.2.1) else if 30 ≤ w.2.2.2.2.1 then .error (4, w.1.2.2.1) else zrRs X w.2.2.2.2.1 w.2.2.1 0 (zadv X w.1.1, w.2.1, w.2.2.1, w.2.2.2.1, w.2.2.2.2.1 + 1, w.2.2.2.2.2)
set_option maxRecDepth 20000 in
set_option maxHeartbeats 4000000 in
theorem l_row {E : zE} {S : zM} {a tp tp2 cap : Nat} {F : List Nat} {n g : Nat} {Z : Except (Nat × Nat) zPi} (hg : g < 64) : ∀ (bs : List Bool) (j : Nat) (v : zPi) (T : zM), j + bs.length = v.2.2.1.length → (∀ k x, bs[k]? = some x → v.2.2.1[j + k]? = some x) → zF (zXa a) S T → zPd T a tp tp2 cap F n v → Z = zrRs (F.take n) g bs j v → zJ E 4 0 0 mX5_readRow cX5_readRow 70 [some (zR (a + 22)), some (zI (nI g)), some (zI (nI j))] [] T (fun r T => zPQ a tp tp2 cap F n S r T Z) := by
  intro bs
  induction bs with
  | nil =>
    intro j v T hi hk hF h hz
    rw [List.length_nil] at hi
    have k22_0 := h.1.1
    have p0_0 := h.1.2.1
    have p1_0 := h.1.2.2
    have k23_0 := h.2.1.1
    have ka_0 := h.ka
    have e7 := h.tb.2.1
    have l4 := h.tb.2.2.1
    refine j_iload_n (pc := 70) dX5_readRow_70 rfl ?_
    refine j_aload_n (pc := 71) dX5_readRow_71 rfl ?_
    refine j_getP (pc := 72) dX5_readRow_72 f_X5_20 (Or.inl ⟨_, rfl⟩) (by assumption) ?_
    rw [p1_0]
    refine j_getI (pc := 75) dX5_readRow_75 f_X5_79 (Or.inl rfl) (by assumption) ?_
    rw [e7]
    refine j_icmp_ge (pc := 78) (tgt := 98) dX5_readRow_78 (by decide) (fun h78 => ?_) (fun h78 => ?_)
    · refine j_iconst (pc := 98) (v := 1) dX5_readRow_98 (by decide) ?_
      refine j_zret (pc := 99) dX5_readRow_99 rfl (by first | assumption | decide) ?_
      rw [hz]
      exact zPQ.pre hF ⟨rfl, zF.rf, h⟩
    · exact absurd (nI_le (by omega) (by omega)) h78
  | cons b bs ih =>
    intro j v T hi hk hF h hz
    rw [List.length_cons] at hi
    have k22_0 := h.1.1
    have p0_0 := h.1.2.1
    have p1_0 := h.1.2.2
    have k23_0 := h.2.1.1
    have ka_0 := h.ka
    have e7 := h.tb.2.1
    have l4 := h.tb.2.2.1
    refine j_iload_n (pc := 70) dX5_readRow_70 rfl ?_
    refine j_aload_n (pc := 71) dX5_readRow_71 rfl ?_
    refine j_getP (pc := 72) dX5_readRow_72 f_X5_20 (Or.inl ⟨_, rfl⟩) (by assumption) ?_
    rw [p1_0]
    refine j_getI (pc := 75) dX5_readRow_75 f_X5_79 (Or.inl rfl) (by assumption) ?_
    rw [e7]
    refine j_icmp_ge (pc := 78) (tgt := 98) dX5_readRow_78 (by decide) (fun h78 => ?_) (fun h78 => ?_)
    · exact absurd h78 (nI_ge (by omega) (by omega))
    · refine j_aload_n (pc := 81) dX5_readRow_81 rfl ?_
      refine j_iload_n (pc := 82) dX5_readRow_82 rfl ?_
      refine j_iload_n (pc := 83) dX5_readRow_83 rfl ?_
      refine j_callV (pc := 84) (t := 5) (c_readValue h hg (hk 0 b rfl)) dX5_readRow_84 l_X5_133 mk_X5_readValue mv_X5_readValue (by decide) rfl (by assumption) (by decide) rfl rfl (Nat.le_of_ble_eq_true rfl) (Nat.le_refl _) (Nat.le_refl _) (fun r T2 h_1 => ?_)
      skip
      cases hc : zrW (F.take n) v g j b with
      | error e =>
        rw [show j + 0 = j from rfl, hc] at h_1
        obtain ⟨rfl, f2, g2, g3⟩ := h_1
        refine j_if_ne (pc := 87) (tgt := 92) dX5_readRow_87 (by decide) (fun h87 => ?_) (fun h87 => ?_)
        · exact absurd rfl h87
        · refine j_iconst (pc := 90) (v := 0) dX5_readRow_90 (by decide) ?_
          refine j_zret (pc := 91) dX5_readRow_91 rfl (by first | assumption | decide) ?_
          rw [hz]
          show zPQ _ _ _ _ _ _ _ _ _ (match zrW (F.take n) v g j b with | .error e => Except.error e | .ok v => zrRs (F.take n) g bs (j + 1) v)
          rw [hc]
          exact zPQ.pre hF ⟨rfl, f2, g2, g3⟩
      | ok u =>
        rw [show j + 0 = j from rfl, hc] at h_1
        obtain ⟨rfl, f2, h2⟩ := h_1
        have hu := zrW_ok hc
        refine j_if_ne (pc := 87) (tgt := 92) dX5_readRow_87 (by decide) (fun h87 => ?_) (fun h87 => ?_)
        · refine j_iinc (pc := 92) (v := _ + 1) (ls' := [_, _, _]) dX5_readRow_92 rfl rfl (by decide) rfl rfl ?_
          refine j_goto (pc := 95) (tgt := 70) dX5_readRow_95 (by decide) ?_
          rw [nI_1]
          refine ih (j + 1) u T2 (by rw [hu.2.1]; omega) (fun k x hx => by rw [hu.2.1, show j + 1 + k = j + (k + 1) by omega]; exact hk (k + 1) x hx) (hF.tr f2) h2 ?_
          rw [hz]
          show (match zrW (F.take n) v g j b with | .error e => Except.error e | .ok v => zrRs (F.take n) g bs (j + 1) v) = _
          rw [hc]
        · exact absurd h87 (by decide)
set_option maxRecDepth 20000 in
set_option maxHeartbeats 4000000 in
theorem c_readRow {E : zE} {S : zM} {a tp tp2 cap : Nat} {F : List Nat} {n : Nat} {w : zPi} (h : zPd S a tp tp2 cap F n w) : zSp E 4 0 0 mX5_readRow cX5_readRow [zR (a + 22)] S (fun r T => zPQ a tp tp2 cap F n S r T (zrR (F.take n) w)) := by
  refine zSp.of (by decide) rfl (Nat.le_of_ble_eq_true rfl) rfl ?_
  have k22_0 := h.1.1
  have p0_0 := h.1.2.1
  have p1_0 := h.1.2.2
  have k23_0 := h.2.1.1
  have ka_0 := h.ka
  have e7 := h.tb.2.1
  have l4 := h.tb.2.2.1
  have p2 := h.od.2
  have ko := h.od.1.1.1
  have e4 := h.od.1.2.2.1
  have lo := h.od.1.2.2.2.1
  have p4 := h.ro.2
  have kr := h.ro.1.1
  have eg := h.ro.1.2.2.2.2.2.1
  have lg := h.ro.1.2.2.2.2.2.2.2.2.2
  refine j_aload_n (pc := 0) dX5_readRow_0 rfl ?_
  refine j_getP (pc := 1) dX5_readRow_1 f_X5_20 (Or.inl ⟨_, rfl⟩) (by assumption) ?_
  rw [p1_0]
  refine j_getI (pc := 4) dX5_readRow_4 f_X5_79 (Or.inl rfl) (by assumption) ?_
  rw [e7]
  refine j_if_eq (pc := 7) (tgt := 23) dX5_readRow_7 (by decide) (fun h7 => ?_) (fun h7 => ?_)
  · refine j_aload_n (pc := 23) dX5_readRow_23 rfl ?_
    refine j_iconst (pc := 24) (v := 5) dX5_readRow_24 (by decide) ?_
    refine j_callV (pc := 25) (t := 5) (c_fails (f := 5) h) dX5_readRow_25 l_X5_54 mk_X5_fails mv_X5_fails (by decide) rfl (by assumption) (by decide) rfl rfl (Nat.le_of_ble_eq_true rfl) (Nat.le_refl _) (Nat.le_refl _) (fun r T9 h_1 => ?_)
    obtain ⟨rfl, f9, g9, g10⟩ := h_1
    refine j_zret (pc := 28) dX5_readRow_28 rfl (by first | assumption | decide) ?_
    unfold zrR
    rw [if_pos (Or.inl ((nI_eq (b := 0) (by omega) (by decide)).mp h7))]
    exact ⟨rfl, f9, g9, g10⟩
  · refine j_aload_n (pc := 10) dX5_readRow_10 rfl ?_
    refine j_getP (pc := 11) dX5_readRow_11 f_X5_20 (Or.inl ⟨_, rfl⟩) (by assumption) ?_
    rw [p1_0]
    refine j_getP (pc := 14) dX5_readRow_14 f_X5_61 (Or.inl ⟨_, rfl⟩) (by assumption) ?_
    rw [p2]
    refine j_getI (pc := 17) dX5_readRow_17 f_X5_67 (Or.inl rfl) (by assumption) ?_
    rw [e4]
    refine j_if_ne (pc := 20) (tgt := 29) dX5_readRow_20 (by decide) (fun h20 => ?_) (fun h20 => ?_)
    · refine j_aload_n (pc := 29) dX5_readRow_29 rfl ?_
      refine j_getP (pc := 30) dX5_readRow_30 f_X5_20 (Or.inl ⟨_, rfl⟩) (by assumption) ?_
      rw [p1_0]
      refine j_getP (pc := 33) dX5_readRow_33 f_X5_121 (Or.inl ⟨_, rfl⟩) (by assumption) ?_
      rw [p4]
      refine j_getI (pc := 36) dX5_readRow_36 f_X5_125 (Or.inl rfl) (by assumption) ?_
      rw [eg]
      refine j_bipush (pc := 39) (v := 30) dX5_readRow_39 (by decide) ?_
      refine j_icmp_lt (pc := 41) (tgt := 50) dX5_readRow_41 (by decide) (fun h41 => ?_) (fun h41 => ?_)
      · have g30 : ¬ 30 ≤ w.2.2.2.2.1 := fun z => Int32.not_lt.mpr (nI_le (a := 30) z (by omega)) h41
        refine j_aload_n (pc := 50) dX5_readRow_50 rfl ?_
        refine j_getP (pc := 51) dX5_readRow_51 f_X5_14 (Or.inl ⟨_, rfl⟩) (by assumption) ?_
        rw [p0_0]
        refine j_callV (pc := 54) (t := 2) (c_adv h) dX5_readRow_54 l_X5_31 mk_X2_advance mv_X2_advance (by decide) rfl (by assumption) (by decide) rfl rfl (Nat.le_of_ble_eq_true rfl) (Nat.le_refl _) (Nat.le_refl _) (fun r T1 h_1 => ?_)
        obtain ⟨rfl, f1, h1⟩ := h_1
        have k22_1 := h1.1.1
        have p0_1 := h1.1.2.1
        have p1_1 := h1.1.2.2
        have k23_1 := h1.2.1.1
        have ka_1 := h1.ka
        refine j_aload_n (pc := 57) dX5_readRow_57 rfl ?_
        refine j_getP (pc := 58) dX5_readRow_58 f_X5_20 (Or.inl ⟨_, rfl⟩) (by assumption) ?_
        rw [p1_1]
        refine j_getP (pc := 61) dX5_readRow_61 f_X5_121 (Or.inl ⟨_, rfl⟩) (by assumption) ?_
        rw [h1.ro.2]
        have kr1 := h1.ro.1.1
        refine j_callV (pc := 64) (t := 7) (c_add h1.ro.1 (by show w.2.2.2.2.1 < 64; omega)) dX5_readRow_64 l_X5_130 mk_X7_add mv_X7_add (by decide) rfl (by assumption) (by decide) rfl rfl (Nat.le_of_ble_eq_true rfl) (Nat.le_refl _) (Nat.le_refl _) (fun r T2 h_1 => ?_)
        obtain ⟨rfl, r1, f2⟩ := h_1
        have h2 := h1.add f2 r1
        refine j_istore_n (pc := 67) (ls' := [_, _, _]) dX5_readRow_67 (by decide) rfl rfl ?_
        refine j_iconst (pc := 68) (v := 0) dX5_readRow_68 (by decide) ?_
        refine j_istore_n (pc := 69) (ls' := [_, _, _]) dX5_readRow_69 (by decide) rfl rfl ?_
        refine l_row (g := w.2.2.2.2.1) (by omega) w.2.2.1 0 (zadv (F.take n) w.1.1, w.2.1, w.2.2.1, w.2.2.2.1, w.2.2.2.2.1 + 1, w.2.2.2.2.2) T2 (Nat.zero_add _) (fun k x hx => by rw [Nat.zero_add]; exact hx) ((f1.tr (f2.mo (fun c z => by unfold zXa; omega)))) h2 ?_
        unfold zrR
        rw [if_neg (fun z => z.elim (fun q => h7 (by rw [q]; rfl)) (fun q => h20 (by rw [q]; rfl))), if_neg g30]
      · refine j_aload_n (pc := 44) dX5_readRow_44 rfl ?_
        refine j_iconst (pc := 45) (v := 4) dX5_readRow_45 (by decide) ?_
        refine j_callV (pc := 46) (t := 5) (c_fails (f := 4) h) dX5_readRow_46 l_X5_54 mk_X5_fails mv_X5_fails (by decide) rfl (by assumption) (by decide) rfl rfl (Nat.le_of_ble_eq_true rfl) (Nat.le_refl _) (Nat.le_refl _) (fun r T9 h_1 => ?_)
        obtain ⟨rfl, f9, g9, g10⟩ := h_1
        refine j_zret (pc := 49) dX5_readRow_49 rfl (by first | assumption | decide) ?_
        unfold zrR
        rw [if_neg (fun z => z.elim (fun q => h7 (by rw [q]; rfl)) (fun q => h20 (by rw [q]; rfl))), if_pos ((zle_nI (a := 30) (by decide) (by omega)).mp (Int32.not_lt.mp h41))]
        exact ⟨rfl, f9, g9, g10⟩
    · refine j_aload_n (pc := 23) dX5_readRow_23 rfl ?_
      refine j_iconst (pc := 24) (v := 5) dX5_readRow_24 (by decide) ?_
      refine j_callV (pc := 25) (t := 5) (c_fails (f := 5) h) dX5_readRow_25 l_X5_54 mk_X5_fails mv_X5_fails (by decide) rfl (by assumption) (by decide) rfl rfl (Nat.le_of_ble_eq_true rfl) (Nat.le_refl _) (Nat.le_refl _) (fun r T9 h_1 => ?_)
      obtain ⟨rfl, f9, g9, g10⟩ := h_1
      refine j_zret (pc := 28) dX5_readRow_28 rfl (by first | assumption | decide) ?_
      unfold zrR
      rw [if_pos (Or.inr ((nI_eq (b := 0) (by omega) (by decide)).mp h20))]
      exact ⟨rfl, f9, g9, g10⟩
