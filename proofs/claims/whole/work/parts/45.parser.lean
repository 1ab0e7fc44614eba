/-! PARSER: a table is told from a text. What is read so far: the token, names, kinds, order, rows, values -/
abbrev zTo : Type := Nat × Nat × Nat × Int64
abbrev zPi : Type := zTo × List Int64 × List Bool × List zOe × Nat × (Nat → Nat → Int64)
def zisW (k : zTo) (w : Int64) : Bool := decide (k.2.1 = 1 ∧ k.2.2.2 = w)
def zisS (k : zTo) (c : Nat) : Bool := decide (k.2.1 = 3 ∧ k.2.2.2 = (nI c).toInt64)
abbrev zXa (a : Nat) : Nat → Prop := fun c => a ≤ c ∧ c ≤ a + 23
def zPd (S : zM) (a tp tp2 cap : Nat) (F : List Nat) (n : Nat) (w : zPi) : Prop := (zkd S (a + 22) = (6, 0) ∧ zgP S (a + 22) 0 = a + 23 ∧ zgP S (a + 22) 1 = a) ∧ zLx S (a + 23) tp tp2 cap F n w.1.1 w.1.2.1 w.1.2.2.1 w.1.2.2.2 ∧ (w.1.1 ≤ n ∧ w.1.2.1 ≤ 4 ∧ tp < a ∧ tp2 < a) ∧ zgI S (a + 22) 2 = nI 0 ∧ zTn S a w.2.1 ∧ w.2.2.1.length = w.2.1.length ∧ ∃ (so si sc : Nat → Nat) (ol : Nat → Int64), zTA S a w.2.2.1 w.2.2.2.1 [] (fun i => decide (i < w.2.2.2.2.1), w.2.2.2.2.2) w.2.2.2.2.1 so si sc ol 0 0 (fun _ => 0)
def zPQ (a tp tp2 cap : Nat) (F : List Nat) (n : Nat) (S : zM) (r : Option zV) (T : zM) (q : Except (Nat × Nat) zPi) : Prop := match q with
  | .error e => r = some (zI 0) ∧ zF (zXa a) S T ∧ zgI T (a + 22) 2 = nI e.1 ∧ zgI T (a + 22) 3 = nI e.2
  | .ok w => r = some (zI 1) ∧ zF (zXa a) S T ∧ zPd T a tp tp2 cap F n w
theorem zPQ.pre {a tp tp2 cap : Nat} {F : List Nat} {n : Nat} {S S1 : zM} {r : Option zV} {T : zM} {q : Except (Nat × Nat) zPi} (f : zF (zXa a) S S1) (h : zPQ a tp tp2 cap F n S1 r T q) : zPQ a tp tp2 cap F n S r T q := by
  cases q with
  | error e => exact ⟨h.1, f.tr h.2.1, h.2.2⟩
  | ok w => exact ⟨h.1, f.tr h.2.1, h.2.2⟩
theorem zk4 {k j : Nat} (h : k ≤ 4) (hj : j ≤ 4) : nI k = nI j ↔ k = j := nI_eq (by omega) (by omega)
theorem zadv_4 {X : List Nat} {i : Nat} : (zadv X i).2.1 ≤ 4 := by
  unfold zadv ztk
  split
  · exact Nat.zero_le _
  · split
    · show (if _ then 1 else 4) ≤ 4
      split <;> decide
    · split
      · show (if _ then 2 else 4) ≤ 4
        split <;> decide
      · show (if _ then 3 else 4) ≤ 4
        split <;> decide
theorem zTn.ag {S T : zM} {a : Nat} {N : List Int64} (h : zTn S a N) (f0 : zAg S T a) (f1 : zAg S T (a + 1)) : zTn T a N := ⟨⟨f1.1.trans h.1.1, (f0.2.2.2 0).trans h.1.2⟩, fun i x hx => (f1.2.2.1 i).trans (h.2 i x hx)⟩
theorem zPd.tk {S T : zM} {a tp tp2 cap : Nat} {F : List Nat} {n : Nat} {w : zPi} (h : zPd S a tp tp2 cap F n w) {k : zTo} (f : zF (fun c => c = a + 23) S T) (g : zLx T (a + 23) tp tp2 cap F n k.1 k.2.1 k.2.2.1 k.2.2.2) (hk : k.1 ≤ n) (hk4 : k.2.1 ≤ 4) : zPd T a tp tp2 cap F n (k, w.2) := by
  obtain ⟨h1, -, h3, h4, h5, h6, so, si, sc, ol, h7⟩ := h
  exact ⟨by rw [f.1, f.2.2.1]; exact h1, g, ⟨hk, hk4, h3.2.2⟩, (f.2.2.2.1 (a + 22) (by omega) 2).trans h4, h5.ag (f.ag (by omega)) (f.ag (by omega)), h6, so, si, sc, ol, h7.ag (fun k hk => f.ag (by omega))⟩
theorem zPd.col {S T : zM} {a tp tp2 cap : Nat} {F : List Nat} {n : Nat} {w : zPi} (h : zPd S a tp tp2 cap F n w) {N : List Int64} {K : List Bool} (f : zF (zX3 a) S T) (hk : zTk T a K) (hn : zTn T a N) (hl : K.length = N.length) (h8 : zgI T a 8 = zgI S a 8) : zPd T a tp tp2 cap F n (w.1, N, K, w.2.2.2) := by
  obtain ⟨h1, h2, h3, h4, h5, h6, so, si, sc, ol, ⟨t1, t2, t3, t4, t5, t6, t7, t8, t9⟩⟩ := h
  refine ⟨by rw [f.1, f.2.2.1]; exact h1, ?_, h3, (f.2.2.2.1 (a + 22) (by unfold zX3; omega) 2).trans h4, hn, hl, so, si, sc, ol, ⟨hk, by rw [f.2.2.1]; exact t2, t3.keep f (fun k hk => by unfold zX3; omega), t4.keep f (fun k hk => by unfold zX3; omega), t5.keep f (by unfold zX3; omega) (by unfold zX3; omega) (by unfold zX3; omega), t6.keep f (fun k hk => by unfold zX3; omega), ⟨by rw [f.1]; exact t7.1, fun i hi => (f.2.2.2.1 (a + 21) (by unfold zX3; omega) i).trans (t7.2 i hi)⟩, h8.trans t8, t9⟩⟩
  obtain ⟨l1, l2, l3, l4, l5, l6, l7, l8, l9⟩ := h2
  have fa := f.ag (c := a + 23) (by unfold zX3; omega)
  have f1 := f.ag (c := tp) (by unfold zX3; omega)
  have f2 := f.ag (c := tp2) (by unfold zX3; omega)
  exact ⟨fa.1.trans l1, (fa.2.2.2 0).trans l2, l3.ag f1 f2, l4, (fa.2.1 1).trans l5, (fa.2.1 2).trans l6, (fa.2.1 3).trans l7, (fa.2.1 4).trans l8, (fa.2.2.1 5).trans l9⟩
theorem c_isWd {E : zE} {S : zM} {a tp tp2 cap : Nat} {F : List Nat} {n : Nat} {w : zPi} (h : zPd S a tp tp2 cap F n w) (x : Int64) : zSp E 0 0 0 mX2_isWord cX2_isWord [zR (a + 23), zL x] S (fun r T => S = T ∧ r = some (zI (zbi (zisW w.1 x)))) := by
  refine (c_isWord h.2.1 x).post (fun r T q => ⟨q.1, q.2.trans ?_⟩)
  have e : nI w.1.2.1 = 1 ↔ w.1.2.1 = 1 := zk4 (j := 1) h.2.2.1.2.1 (by decide)
  unfold zisW
  simp only [e]
theorem c_isSg {E : zE} {S : zM} {a tp tp2 cap : Nat} {F : List Nat} {n : Nat} {w : zPi} (h : zPd S a tp tp2 cap F n w) (x : Nat) : zSp E 0 0 0 mX2_isSign cX2_isSign [zR (a + 23), zI (nI x)] S (fun r T => S = T ∧ r = some (zI (zbi (zisS w.1 x)))) := by
  refine (c_isSign (c := x) h.2.1).post (fun r T q => ⟨q.1, q.2.trans ?_⟩)
  have e : nI w.1.2.1 = 3 ↔ w.1.2.1 = 3 := zk4 (j := 3) h.2.2.1.2.1 (by decide)
  unfold zisS
  simp only [e]
theorem c_adv {E : zE} {S : zM} {a tp tp2 cap : Nat} {F : List Nat} {n : Nat} {w : zPi} (h : zPd S a tp tp2 cap F n w) : zSp E 2 0 0 mX2_advance cX2_advance [zR (a + 23)] S (fun r T => r = none ∧ zF (zXa a) S T ∧ zPd T a tp tp2 cap F n (zadv (F.take n) w.1.1, w.2)) := by
  refine (c_advance h.2.1 h.2.2.1.1).post (fun r T q => ⟨q.1, q.2.1.mo (fun c z => by unfold zXa; omega), h.tk q.2.1 q.2.2 ?_ zadv_4⟩)
  have hX := h.2.1.ln.1
  have := (zadv_le (X := F.take n) (i := w.1.1) (by rw [hX]; exact h.2.2.1.1)).1
  rw [hX] at this
  exact this
set_option maxRecDepth 20000 in
set_option maxHeartbeats 4000000 in
theorem c_fails {E : zE} {S : zM} {a tp tp2 cap : Nat} {F : List Nat} {n : Nat} {w : zPi} {f : Nat} (h : zPd S a tp tp2 cap F n w) : zSp E 0 0 0 mX5_fails cX5_fails [zR (a + 22), zI (nI f)] S (fun r T => zPQ a tp tp2 cap F n S r T (.error (f, w.1.2.2.1))) := by
  refine zSp.of (by decide) rfl (Nat.le_of_ble_eq_true rfl) rfl ?_
  have k22 := h.1.1
  have p0 := h.1.2.1
  have k23 := h.2.1.1
  have e4 := h.2.1.2.2.2.2.2.2.2.1
  refine j_aload_n (pc := 0) dX5_fails_0 rfl ?_
  refine j_iload_n (pc := 1) dX5_fails_1 rfl ?_
  refine j_putI (pc := 2) dX5_fails_2 f_X5_24 rfl (by assumption) rfl ?_
  refine j_aload_n (pc := 5) dX5_fails_5 rfl ?_
  refine j_aload_n (pc := 6) dX5_fails_6 rfl ?_
  refine j_getP (pc := 7) dX5_fails_7 f_X5_14 (Or.inl ⟨_, rfl⟩) (by assumption) ?_
  rw [show zgP (zwI S (a + 22) 2 (nI f)) (a + 22) 0 = a + 23 from p0]
  refine j_getI (pc := 10) dX5_fails_10 f_X5_76 (Or.inl rfl) (by assumption) ?_
  rw [show zgI (zwI S (a + 22) 2 (nI f)) (a + 23) 4 = nI w.1.2.2.1 from (zgI_ne (by omega)).trans e4]
  refine j_putI (pc := 13) dX5_fails_13 f_X5_28 rfl (by assumption) rfl ?_
  refine j_iconst (pc := 16) (v := 0) dX5_fails_16 (by decide) ?_
  refine j_zret (pc := 17) dX5_fails_17 rfl (by first | assumption | decide) ?_
  exact ⟨rfl, (zF.wI (by unfold zXa; omega)).tr (zF.wI (by unfold zXa; omega)), (zgI_nk (by decide)).trans zgI_self, zgI_self⟩
theorem zPd.ka {S : zM} {a tp tp2 cap : Nat} {F : List Nat} {n : Nat} {w : zPi} (h : zPd S a tp tp2 cap F n w) : zkd S a = (10, 0) := by
  obtain ⟨-, -, -, -, -, -, so, si, sc, ol, h7⟩ := h
  exact h7.1.1.1
theorem zPd.tb {S : zM} {a tp tp2 cap : Nat} {F : List Nat} {n : Nat} {w : zPi} (h : zPd S a tp tp2 cap F n w) : zTk S a w.2.2.1 := by
  obtain ⟨-, -, -, -, -, -, so, si, sc, ol, h7⟩ := h
  exact h7.1
/-- one column -/
def zrC (X : List Nat) (w : zPi) : Except (Nat × Nat) zPi :=
  if ¬ w.1.2.1 = 1 then .error (1, w.1.2.2.1) else if ¬ zco w.2.1 w.1.2.2.2 = -1 then .error (3, w.1.2.2.1) else if zisW (zadv X w.1.1) 121450625394034 = false ∧ zisW (zadv X w.1.1) 2003792484 = false then .error (1, (zadv X w.1.1).2.2.1) else .ok (zadv X (zadv X w.1.1).1, w.2.1 ++ [w.1.2.2.2], w.2.2.1 ++ [zisW (zadv X w.1.1) 2003792484], w.2.2.2)
set_option maxRecDepth 20000 in
set_option maxHeartbeats 4000000 in
theorem c_readColumn {E : zE} {S : zM} {a tp tp2 cap : Nat} {F : List Nat} {n : Nat} {w : zPi} (h : zPd S a tp tp2 cap F n w) (hl : w.2.2.1.length < 4) : zSp E 3 0 0 mX5_readColumn cX5_readColumn [zR (a + 22)] S (fun r T => zPQ a tp tp2 cap F n S r T (zrC (F.take n) w)) := by
  refine zSp.of (by decide) rfl (Nat.le_of_ble_eq_true rfl) rfl ?_
  have k22_0 := h.1.1
  have p0_0 := h.1.2.1
  have p1_0 := h.1.2.2
  have k23_0 := h.2.1.1
  have ka_0 := h.ka
  have e3 := h.2.1.2.2.2.2.2.2.1
  have e5 := h.2.1.2.2.2.2.2.2.2.2
  refine j_aload_n (pc := 0) dX5_readColumn_0 rfl ?_
  refine j_getP (pc := 1) dX5_readColumn_1 f_X5_14 (Or.inl ⟨_, rfl⟩) (by assumption) ?_
  rw [p0_0]
  refine j_getI (pc := 4) dX5_readColumn_4 f_X5_58 (Or.inl rfl) (by assumption) ?_
  rw [e3]
  refine j_iconst (pc := 7) (v := 1) dX5_readColumn_7 (by decide) ?_
  refine j_icmp_eq (pc := 8) (tgt := 17) dX5_readColumn_8 (by decide) (fun h8 => ?_) (fun h8 => ?_)
  · have hso : w.1.2.1 = 1 := (zk4 (j := 1) h.2.2.1.2.1 (by decide)).mp h8
    refine j_aload_n (pc := 17) dX5_readColumn_17 rfl ?_
    refine j_getP (pc := 18) dX5_readColumn_18 f_X5_14 (Or.inl ⟨_, rfl⟩) (by assumption) ?_
    rw [p0_0]
    refine j_getL (pc := 21) dX5_readColumn_21 f_X5_85 rfl (by assumption) ?_
    rw [e5]
    refine j_lstore_n (pc := 24) (ls' := [_, _, _]) dX5_readColumn_24 (by decide) rfl rfl ?_
    refine j_aload_n (pc := 25) dX5_readColumn_25 rfl ?_
    refine j_getP (pc := 26) dX5_readColumn_26 f_X5_20 (Or.inl ⟨_, rfl⟩) (by assumption) ?_
    rw [p1_0]
    refine j_lload_n (pc := 29) dX5_readColumn_29 rfl ?_
    refine j_callV (pc := 30) (t := 9) (c_columnOf h.tb h.2.2.2.2.1 h.2.2.2.2.2.1 _) dX5_readColumn_30 l_X5_89 mk_X9_columnOf mv_X9_columnOf (by decide) rfl (by assumption) (by decide) rfl rfl (Nat.le_of_ble_eq_true rfl) (Nat.le_refl _) (Nat.le_refl _) (fun r T h_1 => ?_)
    obtain ⟨rfl, rfl⟩ := h_1
    refine j_iconst (pc := 33) (v := (-1)) dX5_readColumn_33 (by decide) ?_
    refine j_icmp_eq (pc := 34) (tgt := 43) dX5_readColumn_34 (by decide) (fun h34 => ?_) (fun h34 => ?_)
    · refine j_aload_n (pc := 43) dX5_readColumn_43 rfl ?_
      refine j_getP (pc := 44) dX5_readColumn_44 f_X5_14 (Or.inl ⟨_, rfl⟩) (by assumption) ?_
      rw [p0_0]
      refine j_callV (pc := 47) (t := 2) (c_adv h) dX5_readColumn_47 l_X5_31 mk_X2_advance mv_X2_advance (by decide) rfl (by assumption) (by decide) rfl rfl (Nat.le_of_ble_eq_true rfl) (Nat.le_refl _) (Nat.le_refl _) (fun r T1 h_1 => ?_)
      obtain ⟨rfl, f1, h1⟩ := h_1
      have k22_1 := h1.1.1
      have p0_1 := h1.1.2.1
      have p1_1 := h1.1.2.2
      have k23_1 := h1.2.1.1
      have ka_1 := h1.ka
      refine j_aload_n (pc := 50) dX5_readColumn_50 rfl ?_
      refine j_getP (pc := 51) dX5_readColumn_51 f_X5_14 (Or.inl ⟨_, rfl⟩) (by assumption) ?_
      rw [p0_1]
      refine j_ldcL (pc := 54) dX5_readColumn_54 k_X5_93 ?_
      refine j_callV (pc := 57) (t := 2) (c_isWd h1 _) dX5_readColumn_57 l_X5_36 mk_X2_isWord mv_X2_isWord (by decide) rfl (by assumption) (by decide) rfl rfl (Nat.le_of_ble_eq_true rfl) (Nat.le_refl _) (Nat.le_refl _) (fun r T h_1 => ?_)
      obtain ⟨rfl, rfl⟩ := h_1
      refine j_if_ne (pc := 60) (tgt := 82) dX5_readColumn_60 (by decide) (fun h60 => ?_) (fun h60 => ?_)
      · refine j_aload_n (pc := 82) dX5_readColumn_82 rfl ?_
        refine j_getP (pc := 83) dX5_readColumn_83 f_X5_20 (Or.inl ⟨_, rfl⟩) (by assumption) ?_
        rw [p1_1]
        refine j_lload_n (pc := 86) dX5_readColumn_86 rfl ?_
        refine j_aload_n (pc := 87) dX5_readColumn_87 rfl ?_
        refine j_getP (pc := 88) dX5_readColumn_88 f_X5_14 (Or.inl ⟨_, rfl⟩) (by assumption) ?_
        rw [p0_1]
        refine j_ldcL (pc := 91) dX5_readColumn_91 k_X5_95 ?_
        refine j_callV (pc := 94) (t := 2) (c_isWd h1 _) dX5_readColumn_94 l_X5_36 mk_X2_isWord mv_X2_isWord (by decide) rfl (by assumption) (by decide) rfl rfl (Nat.le_of_ble_eq_true rfl) (Nat.le_refl _) (Nat.le_refl _) (fun r T h_1 => ?_)
        obtain ⟨rfl, rfl⟩ := h_1
        refine j_if_eq (pc := 97) (tgt := 104) dX5_readColumn_97 (by decide) (fun h97 => ?_) (fun h97 => ?_)
        · refine j_iconst (pc := 104) (v := 0) dX5_readColumn_104 (by decide) ?_
          refine j_callV (pc := 105) (t := 9) (c_addColumn (b := false) h1.tb h1.2.2.2.2.1 h1.2.2.2.2.2.1 hl w.1.2.2.2) dX5_readColumn_105 l_X5_97 mk_X9_addColumn mv_X9_addColumn (by decide) rfl (by assumption) (by decide) rfl rfl (Nat.le_of_ble_eq_true rfl) (Nat.le_refl _) (Nat.le_refl _) (fun r T2 h_1 => ?_)
          obtain ⟨rfl, t1, t2, f2, g2⟩ := h_1
          have h2 := h1.col f2 t1 t2 (by rw [List.length_append, List.length_append, h1.2.2.2.2.2.1]; rfl) (g2 8 (by decide))
          have k22_2 := h2.1.1
          have p0_2 := h2.1.2.1
          have p1_2 := h2.1.2.2
          have k23_2 := h2.2.1.1
          have ka_2 := h2.ka
          refine j_aload_n (pc := 108) dX5_readColumn_108 rfl ?_
          refine j_getP (pc := 109) dX5_readColumn_109 f_X5_14 (Or.inl ⟨_, rfl⟩) (by assumption) ?_
          rw [p0_2]
          refine j_callV (pc := 112) (t := 2) (c_adv h2) dX5_readColumn_112 l_X5_31 mk_X2_advance mv_X2_advance (by decide) rfl (by assumption) (by decide) rfl rfl (Nat.le_of_ble_eq_true rfl) (Nat.le_refl _) (Nat.le_refl _) (fun r T3 h_1 => ?_)
          obtain ⟨rfl, f3, h3⟩ := h_1
          refine j_iconst (pc := 115) (v := 1) dX5_readColumn_115 (by decide) ?_
          refine j_zret (pc := 116) dX5_readColumn_116 rfl (by first | assumption | decide) ?_
          refine zPQ.pre ((f1.tr (f2.mo (fun c z => by unfold zX3 at z; unfold zXa; omega))).tr f3) ?_
          unfold zrC
          rw [if_neg (not_not_intro hso), if_neg (not_not_intro h34), if_neg (fun z => h60 (zbi_eq0.mpr z.1))]
          rw [show zisW (zadv (F.take n) w.1.1) 2003792484 = false from zbi_eq0.mp h97]
          exact ⟨rfl, zF.rf, h3⟩
        · refine j_iconst (pc := 100) (v := 1) dX5_readColumn_100 (by decide) ?_
          refine j_goto (pc := 101) (tgt := 105) dX5_readColumn_101 (by decide) ?_
          refine j_callV (pc := 105) (t := 9) (c_addColumn (b := true) h1.tb h1.2.2.2.2.1 h1.2.2.2.2.2.1 hl w.1.2.2.2) dX5_readColumn_105 l_X5_97 mk_X9_addColumn mv_X9_addColumn (by decide) rfl (by assumption) (by decide) rfl rfl (Nat.le_of_ble_eq_true rfl) (Nat.le_refl _) (Nat.le_refl _) (fun r T2 h_1 => ?_)
          obtain ⟨rfl, t1, t2, f2, g2⟩ := h_1
          have h2 := h1.col f2 t1 t2 (by rw [List.length_append, List.length_append, h1.2.2.2.2.2.1]; rfl) (g2 8 (by decide))
          have k22_2 := h2.1.1
          have p0_2 := h2.1.2.1
          have p1_2 := h2.1.2.2
          have k23_2 := h2.2.1.1
          have ka_2 := h2.ka
          refine j_aload_n (pc := 108) dX5_readColumn_108 rfl ?_
          refine j_getP (pc := 109) dX5_readColumn_109 f_X5_14 (Or.inl ⟨_, rfl⟩) (by assumption) ?_
          rw [p0_2]
          refine j_callV (pc := 112) (t := 2) (c_adv h2) dX5_readColumn_112 l_X5_31 mk_X2_advance mv_X2_advance (by decide) rfl (by assumption) (by decide) rfl rfl (Nat.le_of_ble_eq_true rfl) (Nat.le_refl _) (Nat.le_refl _) (fun r T3 h_1 => ?_)
          obtain ⟨rfl, f3, h3⟩ := h_1
          refine j_iconst (pc := 115) (v := 1) dX5_readColumn_115 (by decide) ?_
          refine j_zret (pc := 116) dX5_readColumn_116 rfl (by first | assumption | decide) ?_
          refine zPQ.pre ((f1.tr (f2.mo (fun c z => by unfold zX3 at z; unfold zXa; omega))).tr f3) ?_
          unfold zrC
          rw [if_neg (not_not_intro hso), if_neg (not_not_intro h34), if_neg (fun z => h60 (zbi_eq0.mpr z.1))]
          rw [show zisW (zadv (F.take n) w.1.1) 2003792484 = true from zbi_ne0 h97]
          exact ⟨rfl, zF.rf, h3⟩
      · refine j_aload_n (pc := 63) dX5_readColumn_63 rfl ?_
        refine j_getP (pc := 64) dX5_readColumn_64 f_X5_14 (Or.inl ⟨_, rfl⟩) (by assumption) ?_
        rw [p0_1]
        refine j_ldcL (pc := 67) dX5_readColumn_67 k_X5_95 ?_
        refine j_callV (pc := 70) (t := 2) (c_isWd h1 _) dX5_readColumn_70 l_X5_36 mk_X2_isWord mv_X2_isWord (by decide) rfl (by assumption) (by decide) rfl rfl (Nat.le_of_ble_eq_true rfl) (Nat.le_refl _) (Nat.le_refl _) (fun r T h_1 => ?_)
        obtain ⟨rfl, rfl⟩ := h_1
        refine j_if_ne (pc := 73) (tgt := 82) dX5_readColumn_73 (by decide) (fun h73 => ?_) (fun h73 => ?_)
        · refine j_aload_n (pc := 82) dX5_readColumn_82 rfl ?_
          refine j_getP (pc := 83) dX5_readColumn_83 f_X5_20 (Or.inl ⟨_, rfl⟩) (by assumption) ?_
          rw [p1_1]
          refine j_lload_n (pc := 86) dX5_readColumn_86 rfl ?_
          refine j_aload_n (pc := 87) dX5_readColumn_87 rfl ?_
          refine j_getP (pc := 88) dX5_readColumn_88 f_X5_14 (Or.inl ⟨_, rfl⟩) (by assumption) ?_
          rw [p0_1]
          refine j_ldcL (pc := 91) dX5_readColumn_91 k_X5_95 ?_
          refine j_callV (pc := 94) (t := 2) (c_isWd h1 _) dX5_readColumn_94 l_X5_36 mk_X2_isWord mv_X2_isWord (by decide) rfl (by assumption) (by decide) rfl rfl (Nat.le_of_ble_eq_true rfl) (Nat.le_refl _) (Nat.le_refl _) (fun r T h_1 => ?_)
          obtain ⟨rfl, rfl⟩ := h_1
          refine j_if_eq (pc := 97) (tgt := 104) dX5_readColumn_97 (by decide) (fun h97 => ?_) (fun h97 => ?_)
          · refine j_iconst (pc := 104) (v := 0) dX5_readColumn_104 (by decide) ?_
            refine j_callV (pc := 105) (t := 9) (c_addColumn (b := false) h1.tb h1.2.2.2.2.1 h1.2.2.2.2.2.1 hl w.1.2.2.2) dX5_readColumn_105 l_X5_97 mk_X9_addColumn mv_X9_addColumn (by decide) rfl (by assumption) (by decide) rfl rfl (Nat.le_of_ble_eq_true rfl) (Nat.le_refl _) (Nat.le_refl _) (fun r T2 h_1 => ?_)
            obtain ⟨rfl, t1, t2, f2, g2⟩ := h_1
            have h2 := h1.col f2 t1 t2 (by rw [List.length_append, List.length_append, h1.2.2.2.2.2.1]; rfl) (g2 8 (by decide))
            have k22_2 := h2.1.1
            have p0_2 := h2.1.2.1
            have p1_2 := h2.1.2.2
            have k23_2 := h2.2.1.1
            have ka_2 := h2.ka
            refine j_aload_n (pc := 108) dX5_readColumn_108 rfl ?_
            refine j_getP (pc := 109) dX5_readColumn_109 f_X5_14 (Or.inl ⟨_, rfl⟩) (by assumption) ?_
            rw [p0_2]
            refine j_callV (pc := 112) (t := 2) (c_adv h2) dX5_readColumn_112 l_X5_31 mk_X2_advance mv_X2_advance (by decide) rfl (by assumption) (by decide) rfl rfl (Nat.le_of_ble_eq_true rfl) (Nat.le_refl _) (Nat.le_refl _) (fun r T3 h_1 => ?_)
            obtain ⟨rfl, f3, h3⟩ := h_1
            refine j_iconst (pc := 115) (v := 1) dX5_readColumn_115 (by decide) ?_
            refine j_zret (pc := 116) dX5_readColumn_116 rfl (by first | assumption | decide) ?_
            refine zPQ.pre ((f1.tr (f2.mo (fun c z => by unfold zX3 at z; unfold zXa; omega))).tr f3) ?_
            unfold zrC
            rw [if_neg (not_not_intro hso), if_neg (not_not_intro h34), if_neg (fun z => h73 (zbi_eq0.mpr z.2))]
            rw [show zisW (zadv (F.take n) w.1.1) 2003792484 = false from zbi_eq0.mp h97]
            exact ⟨rfl, zF.rf, h3⟩
          · refine j_iconst (pc := 100) (v := 1) dX5_readColumn_100 (by decide) ?_
            refine j_goto (pc := 101) (tgt := 105) dX5_readColumn_101 (by decide) ?_
            refine j_callV (pc := 105) (t := 9) (c_addColumn (b := true) h1.tb h1.2.2.2.2.1 h1.2.2.2.2.2.1 hl w.1.2.2.2) dX5_readColumn_105 l_X5_97 mk_X9_addColumn mv_X9_addColumn (by decide) rfl (by assumption) (by decide) rfl rfl (Nat.le_of_ble_eq_true rfl) (Nat.le_refl _) (Nat.le_refl _) (fun r T2 h_1 => ?_)
            obtain ⟨rfl, t1, t2, f2, g2⟩ := h_1
            have h2 := h1.col f2 t1 t2 (by rw [List.length_append, List.length_append, h1.2.2.2.2.2.1]; rfl) (g2 8 (by decide))
            have k22_2 := h2.1.1
            have p0_2 := h2.1.2.1
            have p1_2 := h2.1.2.2
            have k23_2 := h2.2.1.1
            have ka_2 := h2.ka
            refine j_aload_n (pc := 108) dX5_readColumn_108 rfl ?_
            refine j_getP (pc := 109) dX5_readColumn_109 f_X5_14 (Or.inl ⟨_, rfl⟩) (by assumption) ?_
            rw [p0_2]
            refine j_callV (pc := 112) (t := 2) (c_adv h2) dX5_readColumn_112 l_X5_31 mk_X2_advance mv_X2_advance (by decide) rfl (by assumption) (by decide) rfl rfl (Nat.le_of_ble_eq_true rfl) (Nat.le_refl _) (Nat.le_refl _) (fun r T3 h_1 => ?_)
            obtain ⟨rfl, f3, h3⟩ := h_1
            refine j_iconst (pc := 115) (v := 1) dX5_readColumn_115 (by decide) ?_
            refine j_zret (pc := 116) dX5_readColumn_116 rfl (by first | assumption | decide) ?_
            refine zPQ.pre ((f1.tr (f2.mo (fun c z => by unfold zX3 at z; unfold zXa; omega))).tr f3) ?_
            unfold zrC
            rw [if_neg (not_not_intro hso), if_neg (not_not_intro h34), if_neg (fun z => h73 (zbi_eq0.mpr z.2))]
            rw [show zisW (zadv (F.take n) w.1.1) 2003792484 = true from zbi_ne0 h97]
            exact ⟨rfl, zF.rf, h3⟩
        · refine j_aload_n (pc := 76) dX5_readColumn_76 rfl ?_
          refine j_iconst (pc := 77) (v := 1) dX5_readColumn_77 (by decide) ?_
          refine j_callV (pc := 78) (t := 5) (c_fails (f := 1) h1) dX5_readColumn_78 l_X5_54 mk_X5_fails mv_X5_fails (by decide) rfl (by assumption) (by decide) rfl rfl (Nat.le_of_ble_eq_true rfl) (Nat.le_refl _) (Nat.le_refl _) (fun r T9 h_1 => ?_)
          obtain ⟨rfl, f9, g9, g10⟩ := h_1
          refine j_zret (pc := 81) dX5_readColumn_81 rfl (by first | assumption | decide) ?_
          refine zPQ.pre f1 ?_
          unfold zrC
          rw [if_neg (not_not_intro hso), if_neg (not_not_intro h34), if_pos ⟨zbi_eq0.mp h60, zbi_eq0.mp h73⟩]
          exact ⟨rfl, f9, g9, g10⟩
    · refine j_aload_n (pc := 37) dX5_readColumn_37 rfl ?_
      refine j_iconst (pc := 38) (v := 3) dX5_readColumn_38 (by decide) ?_
      refine j_callV (pc := 39) (t := 5) (c_fails (f := 3) h) dX5_readColumn_39 l_X5_54 mk_X5_fails mv_X5_fails (by decide) rfl (by assumption) (by decide) rfl rfl (Nat.le_of_ble_eq_true rfl) (Nat.le_refl _) (Nat.le_refl _) (fun r T9 h_1 => ?_)
      obtain ⟨rfl, f9, g9, g10⟩ := h_1
      refine j_zret (pc := 42) dX5_readColumn_42 rfl (by first | assumption | decide) ?_
      unfold zrC
      rw [if_neg (not_not_intro hso), if_pos h34]
      exact ⟨rfl, f9, g9, g10⟩
  · refine j_aload_n (pc := 11) dX5_readColumn_11 rfl ?_
    refine j_iconst (pc := 12) (v := 1) dX5_readColumn_12 (by decide) ?_
    refine j_callV (pc := 13) (t := 5) (c_fails (f := 1) h) dX5_readColumn_13 l_X5_54 mk_X5_fails mv_X5_fails (by decide) rfl (by assumption) (by decide) rfl rfl (Nat.le_of_ble_eq_true rfl) (Nat.le_refl _) (Nat.le_refl _) (fun r T9 h_1 => ?_)
    obtain ⟨rfl, f9, g9, g10⟩ := h_1
    refine j_zret (pc := 16) dX5_readColumn_16 rfl (by first | assumption | decide) ?_
    have q8 : ¬ w.1.2.1 = 1 := fun z => h8 ((zk4 (j := 1) h.2.2.1.2.1 (by decide)).mpr z)
    unfold zrC
    rw [if_pos q8]
    exact ⟨rfl, f9, g9, g10⟩
