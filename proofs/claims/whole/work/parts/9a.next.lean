/-! the row next to the mark -/
def zcnd (O : List zOe) (V : List zSe) (t : zRW) (F : List Nat) (bk : Bool) (o : Nat) : Bool := (t.1 o && zpf V t o) && (if bk then zkl (zkf O t o) F else zkl F (zkf O t o))
def zbt (O : List zOe) (t : zRW) (bk : Bool) (a b : Nat) : Bool := if bk then zkl (zkf O t b) (zkf O t a) else zkl (zkf O t a) (zkf O t b)
theorem zbt_tr {O : List zOe} {t : zRW} {bk : Bool} {a b c : Nat} (h : zbt O t bk a b = true) (g : zbt O t bk b c = true) : zbt O t bk a c = true := by
  unfold zbt at *
  cases bk
  · exact zkl_tr _ _ _ h g
  · exact zkl_tr _ _ _ g h
theorem zbt_tot {O : List zOe} {t : zRW} {bk : Bool} {a b : Nat} (ha : a < 64) (hb : b < 64) (h : a ≠ b) : zbt O t bk a b = true ∨ zbt O t bk b a = true := by
  unfold zbt
  rcases zkl_tot (zkf O t a) (zkf O t b) with e | e | e
  · exact absurd (zkey_inj ha hb e) h
  · cases bk
    · exact Or.inl e
    · exact Or.inr e
  · cases bk
    · exact Or.inr e
    · exact Or.inl e
/-- the best of those below i -/
def zbs (O : List zOe) (V : List zSe) (t : zRW) (F : List Nat) (bk : Bool) (i : Nat) (bo : Option Nat) : Prop := match bo with
  | none => ∀ o, o < i → zcnd O V t F bk o = false
  | some b => b < i ∧ zcnd O V t F bk b = true ∧ ∀ o, o < i → zcnd O V t F bk o = true → o = b ∨ zbt O t bk b o = true
theorem zbs.no {O : List zOe} {V : List zSe} {t : zRW} {F : List Nat} {bk : Bool} {i : Nat} {bo : Option Nat} (h : zbs O V t F bk i bo) (hc : zcnd O V t F bk i = false) : zbs O V t F bk (i + 1) bo := by
  cases bo with
  | none =>
    intro o ho
    by_cases e : o = i
    · rw [e]
      exact hc
    · exact h o (by omega)
  | some b =>
    obtain ⟨h1, h2, h3⟩ := h
    refine ⟨by omega, h2, fun o ho hd => ?_⟩
    by_cases e : o = i
    · rw [e, hc] at hd
      cases hd
    · exact h3 o (by omega) hd
theorem zbs.first {O : List zOe} {V : List zSe} {t : zRW} {F : List Nat} {bk : Bool} {i : Nat} (h : zbs O V t F bk i none) (hc : zcnd O V t F bk i = true) : zbs O V t F bk (i + 1) (some i) := ⟨Nat.lt_succ_self i, hc, fun o ho hd => by
  by_cases e : o = i
  · exact Or.inl e
  · have := h o (by omega)
    rw [this] at hd
    cases hd⟩
theorem zbs.keep {O : List zOe} {V : List zSe} {t : zRW} {F : List Nat} {bk : Bool} {i b : Nat} (h : zbs O V t F bk i (some b)) (hl : zbt O t bk b i = true) : zbs O V t F bk (i + 1) (some b) := ⟨Nat.lt_succ_of_lt h.1, h.2.1, fun o ho hd => by
  by_cases e : o = i
  · rw [e]
    exact Or.inr hl
  · exact h.2.2 o (by omega) hd⟩
theorem zbs.take {O : List zOe} {V : List zSe} {t : zRW} {F : List Nat} {bk : Bool} {i b : Nat} (h : zbs O V t F bk i (some b)) (hi : i < 64) (hc : zcnd O V t F bk i = true) (hl : zbt O t bk b i = false) : zbs O V t F bk (i + 1) (some i) := by
  have hb := h.1
  have hib : zbt O t bk i b = true := (zbt_tot (bk := bk) hi (by omega) (by omega)).resolve_right (by rw [hl]; decide)
  refine ⟨Nat.lt_succ_self i, hc, fun o ho hd => ?_⟩
  by_cases e : o = i
  · exact Or.inl e
  · rcases h.2.2 o (by omega) hd with g | g
    · rw [g]
      exact Or.inr hib
    · exact Or.inr (zbt_tr hib g)
def mBk (S : zM) (H : List Nat) : Prop := ∀ i, i < H.length → zgI S 144 i = nI (H.getD i 0)
set_option maxRecDepth 20000 in
set_option maxHeartbeats 4000000 in
theorem n_isKept {E : zE} {S : zM} {L H : List Nat} (hM : zMs S) (hL : mL S L) (hH : mBk S H) (hl : L.length ≤ 36) (hh : H.length ≤ 36) (hLb : ∀ b ∈ L, b < 256) (hHb : ∀ b ∈ H, b < 256) (bk : Bool) : zSp E 0 0 0 mX12_isKept cX12_isKept [zR 123, zR 144, zI (nI H.length), zI (zbi bk)] S (fun r T => S = T ∧ r = some (zI (zbi (if bk then zkl L H else zkl H L)))) := by
  refine zSp.of (by decide) rfl (Nat.le_of_ble_eq_true rfl) rfl ?_
  have hbk := zbi_01 bk
  have fin : ∀ (x : Int32) (y : Nat), zside x L H → zJ E 0 0 0 mX12_isKept cX12_isKept 74 [some (zR 123), some (zR 144), some (zI (nI H.length)), some (zI (zbi bk)), some (zI (nI y)), none] [zI x] S (fun r T => S = T ∧ r = some (zI (zbi (if bk then zkl L H else zkl H L)))) := by
    intro x y hx
    refine j_istore (pc := 74) (ls' := [_, _, _, _, _, _]) dX12_isKept_74 (by decide) rfl rfl ?_
    refine j_iload_n (pc := 76) dX12_isKept_76 rfl ?_
    refine j_if_eq (pc := 77) (tgt := 93) dX12_isKept_77 (by decide) (fun h77 => ?_) (fun h77 => ?_)
    · refine j_iload (pc := 93) dX12_isKept_93 rfl ?_
      refine j_if_le (pc := 95) (tgt := 102) dX12_isKept_95 (by decide) (fun h95 => ?_) (fun h95 => ?_)
      · refine j_iconst (pc := 102) (v := 0) dX12_isKept_102 (by decide) ?_
        refine j_zret (pc := 103) dX12_isKept_103 rfl (by first | assumption | decide) ?_
        exact ⟨rfl, by rw [zbi_eq0.mp h77, if_neg (by decide), hx.e0.2.mp (Int32.not_lt.mpr h95)]; rfl⟩
      · refine j_iconst (pc := 98) (v := 1) dX12_isKept_98 (by decide) ?_
        refine j_goto (pc := 99) (tgt := 103) dX12_isKept_99 (by decide) ?_
        refine j_zret (pc := 103) dX12_isKept_103 rfl (by first | assumption | decide) ?_
        exact ⟨rfl, by rw [zbi_eq0.mp h77, if_neg (by decide), hx.2.mp (Int32.not_le.mp h95)]; rfl⟩
    · refine j_iload (pc := 80) dX12_isKept_80 rfl ?_
      refine j_if_ge (pc := 82) (tgt := 89) dX12_isKept_82 (by decide) (fun h82 => ?_) (fun h82 => ?_)
      · refine j_iconst (pc := 89) (v := 0) dX12_isKept_89 (by decide) ?_
        refine j_goto (pc := 90) (tgt := 103) dX12_isKept_90 (by decide) ?_
        refine j_zret (pc := 103) dX12_isKept_103 rfl (by first | assumption | decide) ?_
        exact ⟨rfl, by rw [zbi_ne0 h77, if_pos rfl, hx.e0.1.mp (Int32.not_lt.mpr h82)]; rfl⟩
      · refine j_iconst (pc := 85) (v := 1) dX12_isKept_85 (by decide) ?_
        refine j_goto (pc := 86) (tgt := 103) dX12_isKept_86 (by decide) ?_
        refine j_zret (pc := 103) dX12_isKept_103 rfl (by first | assumption | decide) ?_
        exact ⟨rfl, by rw [zbi_ne0 h77, if_pos rfl, hx.1.mp (Int32.not_le.mp h82)]; rfl⟩
  have tail : ∀ i, (∀ j, j < i → L.getD j 0 = H.getD j 0) → i ≤ L.length → i ≤ H.length → (i < L.length → i < H.length → L.getD i 0 ≠ H.getD i 0) → zJ E 0 0 0 mX12_isKept cX12_isKept 38 [some (zR 123), some (zR 144), some (zI (nI H.length)), some (zI (zbi bk)), some (zI (nI i)), none] [] S (fun r T => S = T ∧ r = some (zI (zbi (if bk then zkl L H else zkl H L)))) := by
    intro i hp h1 h2 hne
    refine j_iload (pc := 38) dX12_isKept_38 rfl ?_
    refine j_aload_n (pc := 40) dX12_isKept_40 rfl ?_
    refine j_getIv (pc := 41) dX12_isKept_41 f_X12_334 (Or.inl rfl) hM.1 (hL.1) ?_
    refine j_icmp_ge (pc := 44) (tgt := 68) dX12_isKept_44 (by decide) (fun h44 => ?_) (fun h44 => ?_)
    · refine j_aload_n (pc := 68) dX12_isKept_68 rfl ?_
      refine j_getIv (pc := 69) dX12_isKept_69 f_X12_334 (Or.inl rfl) hM.1 (hL.1) ?_
      refine j_iload_n (pc := 72) dX12_isKept_72 rfl ?_
      refine j_isub (pc := 73) dX12_isKept_73 ?_
      exact fin _ i (zside_out (by omega) (by omega) hp (Or.inl (Nat.le_antisymm h1 (Nat.le_of_not_lt (fun q => nI_ge q (by omega) h44)))) h1 h2)
    · refine j_iload (pc := 47) dX12_isKept_47 rfl ?_
      refine j_iload_n (pc := 49) dX12_isKept_49 rfl ?_
      refine j_icmp_ge (pc := 50) (tgt := 68) dX12_isKept_50 (by decide) (fun h50 => ?_) (fun h50 => ?_)
      · refine j_aload_n (pc := 68) dX12_isKept_68 rfl ?_
        refine j_getIv (pc := 69) dX12_isKept_69 f_X12_334 (Or.inl rfl) hM.1 (hL.1) ?_
        refine j_iload_n (pc := 72) dX12_isKept_72 rfl ?_
        refine j_isub (pc := 73) dX12_isKept_73 ?_
        exact fin _ i (zside_out (by omega) (by omega) hp (Or.inr (Nat.le_antisymm h2 (Nat.le_of_not_lt (fun q => nI_ge q (by omega) h50)))) h1 h2)
      · have hi1 : i < L.length := Nat.lt_of_not_le (fun q => h44 (nI_le q (by omega)))
        have hi2 : i < H.length := Nat.lt_of_not_le (fun q => h50 (nI_le q (by omega)))
        refine j_aload_n (pc := 53) dX12_isKept_53 rfl ?_
        refine j_getPv (pc := 54) dX12_isKept_54 f_X12_60 (Or.inr ⟨_, rfl⟩) hM.1 (mp_key hM) ?_
        refine j_iload (pc := 57) dX12_isKept_57 rfl ?_
        refine j_ialdn (pc := 59) dX12_isKept_59 (mk_key hM) (by omega) (Nat.le_of_ble_eq_true rfl) (hL.2 i hi1) ?_
        refine j_aload_n (pc := 60) dX12_isKept_60 rfl ?_
        refine j_iload (pc := 61) dX12_isKept_61 rfl ?_
        refine j_ialdn (pc := 63) dX12_isKept_63 (mk_bestKey hM) (by omega) (Nat.le_of_ble_eq_true rfl) (hH i hi2) ?_
        refine j_isub (pc := 64) dX12_isKept_64 ?_
        refine j_goto (pc := 65) (tgt := 74) dX12_isKept_65 (by decide) ?_
        exact fin _ i (zside_in hLb hHb hp hi1 hi2 (hne hi1 hi2))
  have lp : ∀ (m i : Nat), i + m = L.length → i ≤ L.length → i ≤ H.length → (∀ j, j < i → L.getD j 0 = H.getD j 0) → zJ E 0 0 0 mX12_isKept cX12_isKept 3 [some (zR 123), some (zR 144), some (zI (nI H.length)), some (zI (zbi bk)), some (zI (nI i)), none] [] S (fun r T => S = T ∧ r = some (zI (zbi (if bk then zkl L H else zkl H L)))) := by
    intro m
    induction m with
    | zero =>
      intro i hi h1 h2 hp
      refine j_iload (pc := 3) dX12_isKept_3 rfl ?_
      refine j_aload_n (pc := 5) dX12_isKept_5 rfl ?_
      refine j_getIv (pc := 6) dX12_isKept_6 f_X12_334 (Or.inl rfl) hM.1 (hL.1) ?_
      refine j_icmp_ge (pc := 9) (tgt := 38) dX12_isKept_9 (by decide) (fun h9 => ?_) (fun h9 => absurd (nI_le (show L.length ≤ i by omega) (by omega)) h9)
      exact tail i hp (by omega) h2 (fun a b => by omega)
    | succ m ih =>
      intro i hi h1 h2 hp
      refine j_iload (pc := 3) dX12_isKept_3 rfl ?_
      refine j_aload_n (pc := 5) dX12_isKept_5 rfl ?_
      refine j_getIv (pc := 6) dX12_isKept_6 f_X12_334 (Or.inl rfl) hM.1 (hL.1) ?_
      refine j_icmp_ge (pc := 9) (tgt := 38) dX12_isKept_9 (by decide) (fun h9 => ?_) (fun h9 => ?_)
      · exact tail i hp (by omega) h2 (fun a b => absurd h9 (nI_ge a (by omega)))
      · refine j_iload (pc := 12) dX12_isKept_12 rfl ?_
        refine j_iload_n (pc := 14) dX12_isKept_14 rfl ?_
        refine j_icmp_ge (pc := 15) (tgt := 38) dX12_isKept_15 (by decide) (fun h15 => ?_) (fun h15 => ?_)
        · exact tail i hp (Nat.le_of_not_lt (fun q => h9 (nI_le (Nat.le_of_lt q) (by omega)))) h2 (fun a b => absurd h15 (nI_ge b (by omega)))
        · have hi1 : i < L.length := Nat.lt_of_not_le (fun q => h9 (nI_le q (by omega)))
          have hi2 : i < H.length := Nat.lt_of_not_le (fun q => h15 (nI_le q (by omega)))
          refine j_aload_n (pc := 18) dX12_isKept_18 rfl ?_
          refine j_getPv (pc := 19) dX12_isKept_19 f_X12_60 (Or.inr ⟨_, rfl⟩) hM.1 (mp_key hM) ?_
          refine j_iload (pc := 22) dX12_isKept_22 rfl ?_
          refine j_ialdn (pc := 24) dX12_isKept_24 (mk_key hM) (by omega) (Nat.le_of_ble_eq_true rfl) (hL.2 i hi1) ?_
          refine j_aload_n (pc := 25) dX12_isKept_25 rfl ?_
          refine j_iload (pc := 26) dX12_isKept_26 rfl ?_
          refine j_ialdn (pc := 28) dX12_isKept_28 (mk_bestKey hM) (by omega) (Nat.le_of_ble_eq_true rfl) (hH i hi2) ?_
          refine j_icmp_ne (pc := 29) (tgt := 38) dX12_isKept_29 (by decide) (fun h29 => ?_) (fun h29 => ?_)
          · exact tail i hp (Nat.le_of_lt hi1) h2 (fun a b q => h29 (by rw [q]))
          · refine j_iinc (pc := 32) (v := _ + 1) (ls' := [_, _, _, _, _, _]) dX12_isKept_32 rfl rfl (by decide) rfl rfl ?_
            refine j_goto (pc := 35) (tgt := 3) dX12_isKept_35 (by decide) ?_
            rw [nI_1]
            refine ih (i + 1) (by omega) (by omega) (by omega) (fun j hj => ?_)
            by_cases e : j = i
            · rw [e]
              exact (nI_eq (by have := hLb _ (gD_mem hi1); omega) (by have := hHb _ (gD_mem hi2); omega)).mp h29
            · exact hp j (by omega)
  refine j_iconst (pc := 0) (v := 0) dX12_isKept_0 (by decide) ?_
  refine j_istore (pc := 1) (ls' := [_, _, _, _, _, _]) dX12_isKept_1 (by decide) rfl rfl ?_
  exact lp L.length 0 (by omega) (Nat.zero_le _) (Nat.zero_le _) (fun j hj => absurd hj (Nat.not_lt_zero j))
abbrev zXn (c k : Nat) : Prop := zXk c k ∨ c = 144
abbrev zbl (bo : Option Nat) : Int32 := match bo with
  | none => -1
  | some b => nI b
abbrev zbh (kf : Nat → List Nat) (bo : Option Nat) : List Nat := match bo with
  | none => []
  | some b => kf b
theorem zcnd_th {O : List zOe} {V : List zSe} {t : zRW} {F : List Nat} {bk : Bool} {o : Nat} (h : zcnd O V t F bk o = true) : t.1 o = true := by
  rw [zcnd, Bool.and_eq_true, Bool.and_eq_true] at h
  exact h.1.1
set_option maxRecDepth 20000 in
set_option maxHeartbeats 4000000 in
theorem n_nextRow {E : zE} {S : zM} {s : zST} {t : zTB} {n u : Nat} {F : List Nat} (h : zMO S s) (hw : zWF n s) (ht : sT s = some t) (hu1 : u ≤ tv t) (hu2 : tv t ≤ u + 40) (hm : mM S F) (hF42 : F.length ≤ 42) (hFb : ∀ b ∈ F, b < 256) (bk : Bool) : zSp E 3 0 0 mX12_nextRow cX12_nextRow [zR 123, zI (nI u), zI (zbi bk)] S (fun r T => zK (fun c k => zXkm c k ∨ c = 144) S T ∧ ∃ bo, r = some (zI (zbl bo)) ∧ zbs (tO t) (tV t) (tH t u) F bk 64 bo ∧ mM T (match bo with | none => F | some b => zkf (tO t) (tH t u) b)) := by
  refine zSp.of (by decide) rfl (Nat.le_of_ble_eq_true rfl) rfl ?_
  have hM := h.1
  have hv := hw.v ht
  have hbk := zbi_01 bk
  have lp : ∀ (m i : Nat) (bo : Option Nat) (y z : Option zV) (T : zM), i + m = 64 → zK zXn S T → zbs (tO t) (tV t) (tH t u) F bk i bo → mBk T (zbh (zkf (tO t) (tH t u)) bo) → mM T F → zJ E 3 0 0 mX12_nextRow cX12_nextRow 14 [some (zR 123), some (zI (nI u)), some (zI (zbi bk)), some (zI (zbl bo)), some (zR 144), some (zI (nI (zbh (zkf (tO t) (tH t u)) bo).length)), some (zI (nI i)), y, z] [] T (fun r T => zK (fun c k => zXkm c k ∨ c = 144) S T ∧ ∃ bo, r = some (zI (zbl bo)) ∧ zbs (tO t) (tV t) (tH t u) F bk 64 bo ∧ mM T (match bo with | none => F | some b => zkf (tO t) (tH t u) b)) := by
    intro m
    induction m with
    | zero =>
      intro i bo y z T hi hk hbs hb hm
      have ei : i = 64 := by omega
      subst ei
      have hT := h.scr hk (fun c k z => by unfold zXn zXk at z; unfold zXs; omega)
      have hMT := hT.1
      refine j_iload (pc := 14) dX12_nextRow_14 rfl ?_
      refine j_bipush (pc := 16) (v := 64) dX12_nextRow_16 (by decide) ?_
      refine j_icmp_ge (pc := 18) (tgt := 132) dX12_nextRow_18 (by decide) (fun h18 => ?_) (fun h18 => absurd (nI_le (a := 64) (Nat.le_refl _) (by decide)) h18)
      cases bo with
      | none =>
        refine j_iload_n (pc := 132) dX12_nextRow_132 rfl ?_
        refine j_iconst (pc := 133) (v := (-1)) dX12_nextRow_133 (by decide) ?_
        refine j_icmp_eq (pc := 134) (tgt := 147) dX12_nextRow_134 (by decide) (fun h134 => ?_) (fun h134 => absurd rfl h134)
        refine j_iload_n (pc := 147) dX12_nextRow_147 rfl ?_
        refine j_iret (pc := 148) dX12_nextRow_148 rfl ?_
        exact ⟨hk.mo (fun c k z => Or.elim z (fun q => Or.inl (Or.inl q)) Or.inr), none, rfl, hbs, hm⟩
      | some b =>
        refine j_iload_n (pc := 132) dX12_nextRow_132 rfl ?_
        refine j_iconst (pc := 133) (v := (-1)) dX12_nextRow_133 (by decide) ?_
        refine j_icmp_eq (pc := 134) (tgt := 147) dX12_nextRow_134 (by decide) (fun h134 => absurd h134 (nI_byte (by have := hbs.1; omega))) (fun h134 => ?_)
        refine j_aload_n (pc := 137) dX12_nextRow_137 rfl ?_
        refine j_iload_n (pc := 138) dX12_nextRow_138 rfl ?_
        refine j_iload_n (pc := 139) dX12_nextRow_139 rfl ?_
        refine j_callV (pc := 140) (t := 12) (n_laysKey hT hw ht hu1 hu2 hbs.1 (zcnd_th hbs.2.1)) dX12_nextRow_140 l_X12_351 mk_X12_laysKey mv_X12_laysKey (by decide) rfl hMT.1 (by decide) rfl rfl (Nat.le_of_ble_eq_true rfl) (Nat.le_refl _) (Nat.le_refl _) (fun r T1 h_1 => ?_)
        obtain ⟨rfl, k1, l1⟩ := h_1
        have m1 := k1.ms hMT
        refine j_aload_n (pc := 143) dX12_nextRow_143 rfl ?_
        refine j_callV (pc := 144) (t := 12) (n_marks m1 l1 (Nat.le_trans (zkf_len hv.2.2.2.1) (by decide))) dX12_nextRow_144 l_X12_355 mk_X12_marks mv_X12_marks (by decide) rfl m1.1 (by decide) rfl rfl (Nat.le_of_ble_eq_true rfl) (Nat.le_refl _) (Nat.le_refl _) (fun r T2 h_1 => ?_)
        obtain ⟨rfl, k2, l2⟩ := h_1
        refine j_iload_n (pc := 147) dX12_nextRow_147 rfl ?_
        refine j_iret (pc := 148) dX12_nextRow_148 rfl ?_
        exact ⟨((hk.mo (fun c k z => Or.elim z (fun q => Or.inl (Or.inl q)) Or.inr)).tr (k1.mo (fun c k z => Or.inl (Or.inl z)))).tr (k2.mo (fun c k z => Or.inl (Or.inr z))), some b, rfl, hbs, l2⟩
    | succ m ih =>
      intro i bo y z T hi hk hbs hb hm
      have hT := h.scr hk (fun c k z => by unfold zXn zXk at z; unfold zXs; omega)
      have hMT := hT.1
      refine j_iload (pc := 14) dX12_nextRow_14 rfl ?_
      refine j_bipush (pc := 16) (v := 64) dX12_nextRow_16 (by decide) ?_
      refine j_icmp_ge (pc := 18) (tgt := 132) dX12_nextRow_18 (by decide) (fun h18 => absurd h18 (nI_ge (b := 64) (by omega) (by decide))) (fun h18 => ?_)
      refine j_aload_n (pc := 21) dX12_nextRow_21 rfl ?_
      refine j_iload_n (pc := 22) dX12_nextRow_22 rfl ?_
      refine j_iload (pc := 23) dX12_nextRow_23 rfl ?_
      refine j_callV (pc := 25) (t := 12) (n_doesPass hT hw ht hu1 hu2 (show i < 64 by omega)) dX12_nextRow_25 l_X12_385 mk_X12_doesPass mv_X12_doesPass (by decide) rfl hMT.1 (by decide) rfl rfl (Nat.le_of_ble_eq_true rfl) (Nat.le_refl _) (Nat.le_refl _) (fun r T1 h_1 => ?_)
      obtain ⟨rfl, rfl⟩ := h_1
      rw [zth_nI _ (by omega)]
      refine j_if_ne (pc := 28) (tgt := 34) dX12_nextRow_28 (by decide) (fun h28 => ?_) (fun h28 => ?_)
      · refine j_aload_n (pc := 34) dX12_nextRow_34 rfl ?_
        refine j_iload_n (pc := 35) dX12_nextRow_35 rfl ?_
        refine j_iload (pc := 36) dX12_nextRow_36 rfl ?_
        refine j_callV (pc := 38) (t := 12) (n_laysKey hT hw ht hu1 hu2 (show i < 64 by omega) (Bool.and_eq_true _ _ ▸ zbi_ne0 h28).1) dX12_nextRow_38 l_X12_351 mk_X12_laysKey mv_X12_laysKey (by decide) rfl hMT.1 (by decide) rfl rfl (Nat.le_of_ble_eq_true rfl) (Nat.le_refl _) (Nat.le_refl _) (fun r T2 h_1 => ?_)
        obtain ⟨rfl, k1, l1⟩ := h_1
        have mT2 := k1.ms hMT
        have hm2 := hm.k k1 (by unfold zXk; omega) (fun k => by unfold zXk; omega)
        refine j_aload_n (pc := 41) dX12_nextRow_41 rfl ?_
        refine j_callV (pc := 42) (t := 12) (n_compared mT2 l1 hm2 (Nat.le_trans (zkf_len hv.2.2.2.1) (by decide)) hF42 zkf_b hFb) dX12_nextRow_42 l_X12_358 mk_X12_compared mv_X12_compared (by decide) rfl mT2.1 (by decide) rfl rfl (Nat.le_of_ble_eq_true rfl) (Nat.le_refl _) (Nat.le_refl _) (fun r T3 h_1 => ?_)
        obtain ⟨rfl, x, rfl, hx⟩ := h_1
        refine j_istore (pc := 45) (ls' := [_, _, _, _, _, _, _, _, _]) dX12_nextRow_45 (by decide) rfl rfl ?_
        refine j_iload_n (pc := 47) dX12_nextRow_47 rfl ?_
        refine j_if_eq (pc := 48) (tgt := 59) dX12_nextRow_48 (by decide) (fun h48 => ?_) (fun h48 => ?_)
        · refine j_iload (pc := 59) dX12_nextRow_59 rfl ?_
          refine j_if_gt (pc := 61) (tgt := 67) dX12_nextRow_61 (by decide) (fun h61 => ?_) (fun h61 => ?_)
          · have hcd : zcnd (tO t) (tV t) (tH t u) F bk i = true := by rw [zcnd, zbi_ne0 h28, Bool.true_and, zbi_eq0.mp h48, if_neg (by decide)]; exact hx.2.mp h61
            cases bo with
            | none =>
              refine j_iload_n (pc := 67) dX12_nextRow_67 rfl ?_
              refine j_iconst (pc := 68) (v := (-1)) dX12_nextRow_68 (by decide) ?_
              refine j_icmp_eq (pc := 69) (tgt := 87) dX12_nextRow_69 (by decide) (fun h69 => ?_) (fun h69 => absurd rfl h69)
              refine j_iload (pc := 87) dX12_nextRow_87 rfl ?_
              refine j_istore_n (pc := 89) (ls' := [_, _, _, _, _, _, _, _, _]) dX12_nextRow_89 (by decide) rfl rfl ?_
              refine j_aload_n (pc := 90) dX12_nextRow_90 rfl ?_
              refine j_getIv (pc := 91) dX12_nextRow_91 f_X12_334 (Or.inl rfl) mT2.1 (l1.1) ?_
              refine j_istore (pc := 94) (ls' := [_, _, _, _, _, _, _, _, _]) dX12_nextRow_94 (by decide) rfl rfl ?_
              refine j_iconst (pc := 96) (v := 0) dX12_nextRow_96 (by decide) ?_
              refine j_istore (pc := 97) (ls' := [_, _, _, _, _, _, _, _, _]) dX12_nextRow_97 (by decide) rfl rfl ?_
              have hlen : (zkf (tO t) (tH t u) i).length ≤ 34 := zkf_len hv.2.2.2.1
              have cp : ∀ (m2 k : Nat) (z : Option zV) (T9 : zM), k + m2 = (zkf (tO t) (tH t u) i).length → zK (fun c k => c = 144) T2 T9 → (∀ j, j < k → zgI T9 144 j = nI ((zkf (tO t) (tH t u) i).getD j 0)) → zJ E 3 0 0 mX12_nextRow cX12_nextRow 99 [some (zR 123), some (zI (nI u)), some (zI (zbi bk)), some (zI (nI i)), some (zR 144), some (zI (nI (zkf (tO t) (tH t u) i).length)), some (zI (nI i)), some (zI x), some (zI (nI k))] [] T9 (fun r T => zK (fun c k => zXkm c k ∨ c = 144) S T ∧ ∃ bo, r = some (zI (zbl bo)) ∧ zbs (tO t) (tV t) (tH t u) F bk 64 bo ∧ mM T (match bo with | none => F | some b => zkf (tO t) (tH t u) b)) := by
                intro m2
                induction m2 with
                | zero =>
                  intro k z T9 hk9 f9 hq9
                  have ek : k = (zkf (tO t) (tH t u) i).length := by omega
                  have hM9 := f9.ms mT2
                  have hL9 := l1.k f9 (by omega) (fun k => by omega)
                  rw [ek]
                  refine j_iload (pc := 99) dX12_nextRow_99 rfl ?_
                  refine j_aload_n (pc := 101) dX12_nextRow_101 rfl ?_
                  refine j_getIv (pc := 102) dX12_nextRow_102 f_X12_334 (Or.inl rfl) hM9.1 (hL9.1) ?_
                  refine j_icmp_ge (pc := 105) (tgt := 126) dX12_nextRow_105 (by decide) (fun h105 => ?_) (fun h105 => absurd (nI_le (Nat.le_refl _) (by omega)) h105)
                  refine j_iinc (pc := 126) (v := _ + 1) (ls' := [_, _, _, _, _, _, _, _, _]) dX12_nextRow_126 rfl rfl (by decide) rfl rfl ?_
                  refine j_goto (pc := 129) (tgt := 14) dX12_nextRow_129 (by decide) ?_
                  rw [nI_1]
                  refine ih (i + 1) (some i) _ _ T9 (by omega) ((hk.tr (k1.mo (fun c k z => Or.inl z))).tr (f9.mo (fun c k z => Or.inr z))) (hbs.first hcd) (fun j hj => hq9 j (by rw [ek]; exact hj)) ((hm.k k1 (by unfold zXk; omega) (fun k => by unfold zXk; omega)).k f9 (by omega) (fun k => by omega))
                | succ m2 ih2 =>
                  intro k z T9 hk9 f9 hq9
                  have hM9 := f9.ms mT2
                  have hL9 := l1.k f9 (by omega) (fun k => by omega)
                  refine j_iload (pc := 99) dX12_nextRow_99 rfl ?_
                  refine j_aload_n (pc := 101) dX12_nextRow_101 rfl ?_
                  refine j_getIv (pc := 102) dX12_nextRow_102 f_X12_334 (Or.inl rfl) hM9.1 (hL9.1) ?_
                  refine j_icmp_ge (pc := 105) (tgt := 126) dX12_nextRow_105 (by decide) (fun h105 => absurd h105 (nI_ge (by omega) (by omega))) (fun h105 => ?_)
                  refine j_aload (pc := 108) dX12_nextRow_108 rfl ?_
                  refine j_iload (pc := 110) dX12_nextRow_110 rfl ?_
                  refine j_aload_n (pc := 112) dX12_nextRow_112 rfl ?_
                  refine j_getPv (pc := 113) dX12_nextRow_113 f_X12_60 (Or.inr ⟨_, rfl⟩) hM9.1 (mp_key hM9) ?_
                  refine j_iload (pc := 116) dX12_nextRow_116 rfl ?_
                  refine j_ialdn (pc := 118) dX12_nextRow_118 (mk_key hM9) (by omega) (Nat.le_of_ble_eq_true rfl) (hL9.2 k (by omega)) ?_
                  refine j_iastn (pc := 119) dX12_nextRow_119 (mk_bestKey hM9) (by omega) (Nat.le_of_ble_eq_true rfl) ?_
                  refine j_iinc (pc := 120) (v := _ + 1) (ls' := [_, _, _, _, _, _, _, _, _]) dX12_nextRow_120 rfl rfl (by decide) rfl rfl ?_
                  refine j_goto (pc := 123) (tgt := 99) dX12_nextRow_123 (by decide) ?_
                  rw [nI_1]
                  refine ih2 (k + 1) none _ (by omega) (f9.tr (zK.wI rfl)) (fun j hj => ?_)
                  rw [zgI_wI]
                  by_cases e : j = k
                  · rw [if_pos ⟨rfl, e⟩, e]
                  · rw [if_neg (fun w => e w.2)]
                    exact hq9 j (by omega)
              exact cp (zkf (tO t) (tH t u) i).length 0 none T2 (by omega) zK.rf (fun j hj => absurd hj (Nat.not_lt_zero j))
            | some b =>
              refine j_iload_n (pc := 67) dX12_nextRow_67 rfl ?_
              refine j_iconst (pc := 68) (v := (-1)) dX12_nextRow_68 (by decide) ?_
              refine j_icmp_eq (pc := 69) (tgt := 87) dX12_nextRow_69 (by decide) (fun h69 => absurd h69 (nI_byte (by have := hbs.1; omega))) (fun h69 => ?_)
              refine j_aload_n (pc := 72) dX12_nextRow_72 rfl ?_
              refine j_aload (pc := 73) dX12_nextRow_73 rfl ?_
              refine j_iload (pc := 75) dX12_nextRow_75 rfl ?_
              refine j_iload_n (pc := 77) dX12_nextRow_77 rfl ?_
              refine j_callV (pc := 78) (t := 12) (n_isKept mT2 l1 (fun i' hi' => (k1.2.2.2.1 144 _ (by unfold zXk; omega)).trans (hb i' hi')) (Nat.le_trans (zkf_len hv.2.2.2.1) (by decide)) (Nat.le_trans (zkf_len hv.2.2.2.1) (by decide)) zkf_b zkf_b bk) dX12_nextRow_78 l_X12_388 mk_X12_isKept mv_X12_isKept (by decide) rfl mT2.1 (by decide) rfl rfl (Nat.le_of_ble_eq_true rfl) (Nat.le_refl _) (Nat.le_refl _) (fun r T5 h_1 => ?_)
              obtain ⟨rfl, rfl⟩ := h_1
              refine j_if_eq (pc := 81) (tgt := 87) dX12_nextRow_81 (by decide) (fun h81 => ?_) (fun h81 => ?_)
              · refine j_iload (pc := 87) dX12_nextRow_87 rfl ?_
                refine j_istore_n (pc := 89) (ls' := [_, _, _, _, _, _, _, _, _]) dX12_nextRow_89 (by decide) rfl rfl ?_
                refine j_aload_n (pc := 90) dX12_nextRow_90 rfl ?_
                refine j_getIv (pc := 91) dX12_nextRow_91 f_X12_334 (Or.inl rfl) mT2.1 (l1.1) ?_
                refine j_istore (pc := 94) (ls' := [_, _, _, _, _, _, _, _, _]) dX12_nextRow_94 (by decide) rfl rfl ?_
                refine j_iconst (pc := 96) (v := 0) dX12_nextRow_96 (by decide) ?_
                refine j_istore (pc := 97) (ls' := [_, _, _, _, _, _, _, _, _]) dX12_nextRow_97 (by decide) rfl rfl ?_
                have hlen : (zkf (tO t) (tH t u) i).length ≤ 34 := zkf_len hv.2.2.2.1
                have cp : ∀ (m2 k : Nat) (z : Option zV) (T9 : zM), k + m2 = (zkf (tO t) (tH t u) i).length → zK (fun c k => c = 144) T2 T9 → (∀ j, j < k → zgI T9 144 j = nI ((zkf (tO t) (tH t u) i).getD j 0)) → zJ E 3 0 0 mX12_nextRow cX12_nextRow 99 [some (zR 123), some (zI (nI u)), some (zI (zbi bk)), some (zI (nI i)), some (zR 144), some (zI (nI (zkf (tO t) (tH t u) i).length)), some (zI (nI i)), some (zI x), some (zI (nI k))] [] T9 (fun r T => zK (fun c k => zXkm c k ∨ c = 144) S T ∧ ∃ bo, r = some (zI (zbl bo)) ∧ zbs (tO t) (tV t) (tH t u) F bk 64 bo ∧ mM T (match bo with | none => F | some b => zkf (tO t) (tH t u) b)) := by
                  intro m2
                  induction m2 with
                  | zero =>
                    intro k z T9 hk9 f9 hq9
                    have ek : k = (zkf (tO t) (tH t u) i).length := by omega
                    have hM9 := f9.ms mT2
                    have hL9 := l1.k f9 (by omega) (fun k => by omega)
                    rw [ek]
                    refine j_iload (pc := 99) dX12_nextRow_99 rfl ?_
                    refine j_aload_n (pc := 101) dX12_nextRow_101 rfl ?_
                    refine j_getIv (pc := 102) dX12_nextRow_102 f_X12_334 (Or.inl rfl) hM9.1 (hL9.1) ?_
                    refine j_icmp_ge (pc := 105) (tgt := 126) dX12_nextRow_105 (by decide) (fun h105 => ?_) (fun h105 => absurd (nI_le (Nat.le_refl _) (by omega)) h105)
                    refine j_iinc (pc := 126) (v := _ + 1) (ls' := [_, _, _, _, _, _, _, _, _]) dX12_nextRow_126 rfl rfl (by decide) rfl rfl ?_
                    refine j_goto (pc := 129) (tgt := 14) dX12_nextRow_129 (by decide) ?_
                    rw [nI_1]
                    refine ih (i + 1) (some i) _ _ T9 (by omega) ((hk.tr (k1.mo (fun c k z => Or.inl z))).tr (f9.mo (fun c k z => Or.inr z))) (hbs.take (by omega) hcd (by unfold zbt; exact zbi_eq0.mp h81)) (fun j hj => hq9 j (by rw [ek]; exact hj)) ((hm.k k1 (by unfold zXk; omega) (fun k => by unfold zXk; omega)).k f9 (by omega) (fun k => by omega))
                  | succ m2 ih2 =>
                    intro k z T9 hk9 f9 hq9
                    have hM9 := f9.ms mT2
                    have hL9 := l1.k f9 (by omega) (fun k => by omega)
                    refine j_iload (pc := 99) dX12_nextRow_99 rfl ?_
                    refine j_aload_n (pc := 101) dX12_nextRow_101 rfl ?_
                    refine j_getIv (pc := 102) dX12_nextRow_102 f_X12_334 (Or.inl rfl) hM9.1 (hL9.1) ?_
                    refine j_icmp_ge (pc := 105) (tgt := 126) dX12_nextRow_105 (by decide) (fun h105 => absurd h105 (nI_ge (by omega) (by omega))) (fun h105 => ?_)
                    refine j_aload (pc := 108) dX12_nextRow_108 rfl ?_
                    refine j_iload (pc := 110) dX12_nextRow_110 rfl ?_
                    refine j_aload_n (pc := 112) dX12_nextRow_112 rfl ?_
                    refine j_getPv (pc := 113) dX12_nextRow_113 f_X12_60 (Or.inr ⟨_, rfl⟩) hM9.1 (mp_key hM9) ?_
                    refine j_iload (pc := 116) dX12_nextRow_116 rfl ?_
                    refine j_ialdn (pc := 118) dX12_nextRow_118 (mk_key hM9) (by omega) (Nat.le_of_ble_eq_true rfl) (hL9.2 k (by omega)) ?_
                    refine j_iastn (pc := 119) dX12_nextRow_119 (mk_bestKey hM9) (by omega) (Nat.le_of_ble_eq_true rfl) ?_
                    refine j_iinc (pc := 120) (v := _ + 1) (ls' := [_, _, _, _, _, _, _, _, _]) dX12_nextRow_120 rfl rfl (by decide) rfl rfl ?_
                    refine j_goto (pc := 123) (tgt := 99) dX12_nextRow_123 (by decide) ?_
                    rw [nI_1]
                    refine ih2 (k + 1) none _ (by omega) (f9.tr (zK.wI rfl)) (fun j hj => ?_)
                    rw [zgI_wI]
                    by_cases e : j = k
                    · rw [if_pos ⟨rfl, e⟩, e]
                    · rw [if_neg (fun w => e w.2)]
                      exact hq9 j (by omega)
                exact cp (zkf (tO t) (tH t u) i).length 0 none T2 (by omega) zK.rf (fun j hj => absurd hj (Nat.not_lt_zero j))
              · refine j_goto (pc := 84) (tgt := 126) dX12_nextRow_84 (by decide) ?_
                refine j_iinc (pc := 126) (v := _ + 1) (ls' := [_, _, _, _, _, _, _, _, _]) dX12_nextRow_126 rfl rfl (by decide) rfl rfl ?_
                refine j_goto (pc := 129) (tgt := 14) dX12_nextRow_129 (by decide) ?_
                rw [nI_1]
                refine ih (i + 1) (some b) _ _ T2 (by omega) (hk.tr (k1.mo (fun c k z => Or.inl z))) (hbs.keep (by unfold zbt; exact zbi_ne0 h81)) (fun i' hi' => (k1.2.2.2.1 144 _ (by unfold zXk; omega)).trans (hb i' hi')) (hm.k k1 (by unfold zXk; omega) (fun k => by unfold zXk; omega))
          · refine j_goto (pc := 64) (tgt := 126) dX12_nextRow_64 (by decide) ?_
            refine j_iinc (pc := 126) (v := _ + 1) (ls' := [_, _, _, _, _, _, _, _, _]) dX12_nextRow_126 rfl rfl (by decide) rfl rfl ?_
            refine j_goto (pc := 129) (tgt := 14) dX12_nextRow_129 (by decide) ?_
            rw [nI_1]
            refine ih (i + 1) bo _ _ T2 (by omega) (hk.tr (k1.mo (fun c k z => Or.inl z))) (hbs.no (by rw [zcnd, zbi_ne0 h28, Bool.true_and, zbi_eq0.mp h48, if_neg (by decide)]; exact hx.e0.2.mp h61)) (fun i' hi' => (k1.2.2.2.1 144 _ (by unfold zXk; omega)).trans (hb i' hi')) (hm.k k1 (by unfold zXk; omega) (fun k => by unfold zXk; omega))
        · refine j_iload (pc := 51) dX12_nextRow_51 rfl ?_
          refine j_if_lt (pc := 53) (tgt := 67) dX12_nextRow_53 (by decide) (fun h53 => ?_) (fun h53 => ?_)
          · have hcd : zcnd (tO t) (tV t) (tH t u) F bk i = true := by rw [zcnd, zbi_ne0 h28, Bool.true_and, zbi_ne0 h48, if_pos rfl]; exact hx.1.mp h53
            cases bo with
            | none =>
              refine j_iload_n (pc := 67) dX12_nextRow_67 rfl ?_
              refine j_iconst (pc := 68) (v := (-1)) dX12_nextRow_68 (by decide) ?_
              refine j_icmp_eq (pc := 69) (tgt := 87) dX12_nextRow_69 (by decide) (fun h69 => ?_) (fun h69 => absurd rfl h69)
              refine j_iload (pc := 87) dX12_nextRow_87 rfl ?_
              refine j_istore_n (pc := 89) (ls' := [_, _, _, _, _, _, _, _, _]) dX12_nextRow_89 (by decide) rfl rfl ?_
              refine j_aload_n (pc := 90) dX12_nextRow_90 rfl ?_
              refine j_getIv (pc := 91) dX12_nextRow_91 f_X12_334 (Or.inl rfl) mT2.1 (l1.1) ?_
              refine j_istore (pc := 94) (ls' := [_, _, _, _, _, _, _, _, _]) dX12_nextRow_94 (by decide) rfl rfl ?_
              refine j_iconst (pc := 96) (v := 0) dX12_nextRow_96 (by decide) ?_
              refine j_istore (pc := 97) (ls' := [_, _, _, _, _, _, _, _, _]) dX12_nextRow_97 (by decide) rfl rfl ?_
              have hlen : (zkf (tO t) (tH t u) i).length ≤ 34 := zkf_len hv.2.2.2.1
              have cp : ∀ (m2 k : Nat) (z : Option zV) (T9 : zM), k + m2 = (zkf (tO t) (tH t u) i).length → zK (fun c k => c = 144) T2 T9 → (∀ j, j < k → zgI T9 144 j = nI ((zkf (tO t) (tH t u) i).getD j 0)) → zJ E 3 0 0 mX12_nextRow cX12_nextRow 99 [some (zR 123), some (zI (nI u)), some (zI (zbi bk)), some (zI (nI i)), some (zR 144), some (zI (nI (zkf (tO t) (tH t u) i).length)), some (zI (nI i)), some (zI x), some (zI (nI k))] [] T9 (fun r T => zK (fun c k => zXkm c k ∨ c = 144) S T ∧ ∃ bo, r = some (zI (zbl bo)) ∧ zbs (tO t) (tV t) (tH t u) F bk 64 bo ∧ mM T (match bo with | none => F | some b => zkf (tO t) (tH t u) b)) := by
                intro m2
                induction m2 with
                | zero =>
                  intro k z T9 hk9 f9 hq9
                  have ek : k = (zkf (tO t) (tH t u) i).length := by omega
                  have hM9 := f9.ms mT2
                  have hL9 := l1.k f9 (by omega) (fun k => by omega)
                  rw [ek]
                  refine j_iload (pc := 99) dX12_nextRow_99 rfl ?_
                  refine j_aload_n (pc := 101) dX12_nextRow_101 rfl ?_
                  refine j_getIv (pc := 102) dX12_nextRow_102 f_X12_334 (Or.inl rfl) hM9.1 (hL9.1) ?_
                  refine j_icmp_ge (pc := 105) (tgt := 126) dX12_nextRow_105 (by decide) (fun h105 => ?_) (fun h105 => absurd (nI_le (Nat.le_refl _) (by omega)) h105)
                  refine j_iinc (pc := 126) (v := _ + 1) (ls' := [_, _, _, _, _, _, _, _, _]) dX12_nextRow_126 rfl rfl (by decide) rfl rfl ?_
                  refine j_goto (pc := 129) (tgt := 14) dX12_nextRow_129 (by decide) ?_
                  rw [nI_1]
                  refine ih (i + 1) (some i) _ _ T9 (by omega) ((hk.tr (k1.mo (fun c k z => Or.inl z))).tr (f9.mo (fun c k z => Or.inr z))) (hbs.first hcd) (fun j hj => hq9 j (by rw [ek]; exact hj)) ((hm.k k1 (by unfold zXk; omega) (fun k => by unfold zXk; omega)).k f9 (by omega) (fun k => by omega))
                | succ m2 ih2 =>
                  intro k z T9 hk9 f9 hq9
                  have hM9 := f9.ms mT2
                  have hL9 := l1.k f9 (by omega) (fun k => by omega)
                  refine j_iload (pc := 99) dX12_nextRow_99 rfl ?_
                  refine j_aload_n (pc := 101) dX12_nextRow_101 rfl ?_
                  refine j_getIv (pc := 102) dX12_nextRow_102 f_X12_334 (Or.inl rfl) hM9.1 (hL9.1) ?_
                  refine j_icmp_ge (pc := 105) (tgt := 126) dX12_nextRow_105 (by decide) (fun h105 => absurd h105 (nI_ge (by omega) (by omega))) (fun h105 => ?_)
                  refine j_aload (pc := 108) dX12_nextRow_108 rfl ?_
                  refine j_iload (pc := 110) dX12_nextRow_110 rfl ?_
                  refine j_aload_n (pc := 112) dX12_nextRow_112 rfl ?_
                  refine j_getPv (pc := 113) dX12_nextRow_113 f_X12_60 (Or.inr ⟨_, rfl⟩) hM9.1 (mp_key hM9) ?_
                  refine j_iload (pc := 116) dX12_nextRow_116 rfl ?_
                  refine j_ialdn (pc := 118) dX12_nextRow_118 (mk_key hM9) (by omega) (Nat.le_of_ble_eq_true rfl) (hL9.2 k (by omega)) ?_
                  refine j_iastn (pc := 119) dX12_nextRow_119 (mk_bestKey hM9) (by omega) (Nat.le_of_ble_eq_true rfl) ?_
                  refine j_iinc (pc := 120) (v := _ + 1) (ls' := [_, _, _, _, _, _, _, _, _]) dX12_nextRow_120 rfl rfl (by decide) rfl rfl ?_
                  refine j_goto (pc := 123) (tgt := 99) dX12_nextRow_123 (by decide) ?_
                  rw [nI_1]
                  refine ih2 (k + 1) none _ (by omega) (f9.tr (zK.wI rfl)) (fun j hj => ?_)
                  rw [zgI_wI]
                  by_cases e : j = k
                  · rw [if_pos ⟨rfl, e⟩, e]
                  · rw [if_neg (fun w => e w.2)]
                    exact hq9 j (by omega)
              exact cp (zkf (tO t) (tH t u) i).length 0 none T2 (by omega) zK.rf (fun j hj => absurd hj (Nat.not_lt_zero j))
            | some b =>
              refine j_iload_n (pc := 67) dX12_nextRow_67 rfl ?_
              refine j_iconst (pc := 68) (v := (-1)) dX12_nextRow_68 (by decide) ?_
              refine j_icmp_eq (pc := 69) (tgt := 87) dX12_nextRow_69 (by decide) (fun h69 => absurd h69 (nI_byte (by have := hbs.1; omega))) (fun h69 => ?_)
              refine j_aload_n (pc := 72) dX12_nextRow_72 rfl ?_
              refine j_aload (pc := 73) dX12_nextRow_73 rfl ?_
              refine j_iload (pc := 75) dX12_nextRow_75 rfl ?_
              refine j_iload_n (pc := 77) dX12_nextRow_77 rfl ?_
              refine j_callV (pc := 78) (t := 12) (n_isKept mT2 l1 (fun i' hi' => (k1.2.2.2.1 144 _ (by unfold zXk; omega)).trans (hb i' hi')) (Nat.le_trans (zkf_len hv.2.2.2.1) (by decide)) (Nat.le_trans (zkf_len hv.2.2.2.1) (by decide)) zkf_b zkf_b bk) dX12_nextRow_78 l_X12_388 mk_X12_isKept mv_X12_isKept (by decide) rfl mT2.1 (by decide) rfl rfl (Nat.le_of_ble_eq_true rfl) (Nat.le_refl _) (Nat.le_refl _) (fun r T5 h_1 => ?_)
              obtain ⟨rfl, rfl⟩ := h_1
              refine j_if_eq (pc := 81) (tgt := 87) dX12_nextRow_81 (by decide) (fun h81 => ?_) (fun h81 => ?_)
              · refine j_iload (pc := 87) dX12_nextRow_87 rfl ?_
                refine j_istore_n (pc := 89) (ls' := [_, _, _, _, _, _, _, _, _]) dX12_nextRow_89 (by decide) rfl rfl ?_
                refine j_aload_n (pc := 90) dX12_nextRow_90 rfl ?_
                refine j_getIv (pc := 91) dX12_nextRow_91 f_X12_334 (Or.inl rfl) mT2.1 (l1.1) ?_
                refine j_istore (pc := 94) (ls' := [_, _, _, _, _, _, _, _, _]) dX12_nextRow_94 (by decide) rfl rfl ?_
                refine j_iconst (pc := 96) (v := 0) dX12_nextRow_96 (by decide) ?_
                refine j_istore (pc := 97) (ls' := [_, _, _, _, _, _, _, _, _]) dX12_nextRow_97 (by decide) rfl rfl ?_
                have hlen : (zkf (tO t) (tH t u) i).length ≤ 34 := zkf_len hv.2.2.2.1
                have cp : ∀ (m2 k : Nat) (z : Option zV) (T9 : zM), k + m2 = (zkf (tO t) (tH t u) i).length → zK (fun c k => c = 144) T2 T9 → (∀ j, j < k → zgI T9 144 j = nI ((zkf (tO t) (tH t u) i).getD j 0)) → zJ E 3 0 0 mX12_nextRow cX12_nextRow 99 [some (zR 123), some (zI (nI u)), some (zI (zbi bk)), some (zI (nI i)), some (zR 144), some (zI (nI (zkf (tO t) (tH t u) i).length)), some (zI (nI i)), some (zI x), some (zI (nI k))] [] T9 (fun r T => zK (fun c k => zXkm c k ∨ c = 144) S T ∧ ∃ bo, r = some (zI (zbl bo)) ∧ zbs (tO t) (tV t) (tH t u) F bk 64 bo ∧ mM T (match bo with | none => F | some b => zkf (tO t) (tH t u) b)) := by
                  intro m2
                  induction m2 with
                  | zero =>
                    intro k z T9 hk9 f9 hq9
                    have ek : k = (zkf (tO t) (tH t u) i).length := by omega
                    have hM9 := f9.ms mT2
                    have hL9 := l1.k f9 (by omega) (fun k => by omega)
                    rw [ek]
                    refine j_iload (pc := 99) dX12_nextRow_99 rfl ?_
                    refine j_aload_n (pc := 101) dX12_nextRow_101 rfl ?_
                    refine j_getIv (pc := 102) dX12_nextRow_102 f_X12_334 (Or.inl rfl) hM9.1 (hL9.1) ?_
                    refine j_icmp_ge (pc := 105) (tgt := 126) dX12_nextRow_105 (by decide) (fun h105 => ?_) (fun h105 => absurd (nI_le (Nat.le_refl _) (by omega)) h105)
                    refine j_iinc (pc := 126) (v := _ + 1) (ls' := [_, _, _, _, _, _, _, _, _]) dX12_nextRow_126 rfl rfl (by decide) rfl rfl ?_
                    refine j_goto (pc := 129) (tgt := 14) dX12_nextRow_129 (by decide) ?_
                    rw [nI_1]
                    refine ih (i + 1) (some i) _ _ T9 (by omega) ((hk.tr (k1.mo (fun c k z => Or.inl z))).tr (f9.mo (fun c k z => Or.inr z))) (hbs.take (by omega) hcd (by unfold zbt; exact zbi_eq0.mp h81)) (fun j hj => hq9 j (by rw [ek]; exact hj)) ((hm.k k1 (by unfold zXk; omega) (fun k => by unfold zXk; omega)).k f9 (by omega) (fun k => by omega))
                  | succ m2 ih2 =>
                    intro k z T9 hk9 f9 hq9
                    have hM9 := f9.ms mT2
                    have hL9 := l1.k f9 (by omega) (fun k => by omega)
                    refine j_iload (pc := 99) dX12_nextRow_99 rfl ?_
                    refine j_aload_n (pc := 101) dX12_nextRow_101 rfl ?_
                    refine j_getIv (pc := 102) dX12_nextRow_102 f_X12_334 (Or.inl rfl) hM9.1 (hL9.1) ?_
                    refine j_icmp_ge (pc := 105) (tgt := 126) dX12_nextRow_105 (by decide) (fun h105 => absurd h105 (nI_ge (by omega) (by omega))) (fun h105 => ?_)
                    refine j_aload (pc := 108) dX12_nextRow_108 rfl ?_
                    refine j_iload (pc := 110) dX12_nextRow_110 rfl ?_
                    refine j_aload_n (pc := 112) dX12_nextRow_112 rfl ?_
                    refine j_getPv (pc := 113) dX12_nextRow_113 f_X12_60 (Or.inr ⟨_, rfl⟩) hM9.1 (mp_key hM9) ?_
                    refine j_iload (pc := 116) dX12_nextRow_116 rfl ?_
                    refine j_ialdn (pc := 118) dX12_nextRow_118 (mk_key hM9) (by omega) (Nat.le_of_ble_eq_true rfl) (hL9.2 k (by omega)) ?_
                    refine j_iastn (pc := 119) dX12_nextRow_119 (mk_bestKey hM9) (by omega) (Nat.le_of_ble_eq_true rfl) ?_
                    refine j_iinc (pc := 120) (v := _ + 1) (ls' := [_, _, _, _, _, _, _, _, _]) dX12_nextRow_120 rfl rfl (by decide) rfl rfl ?_
                    refine j_goto (pc := 123) (tgt := 99) dX12_nextRow_123 (by decide) ?_
                    rw [nI_1]
                    refine ih2 (k + 1) none _ (by omega) (f9.tr (zK.wI rfl)) (fun j hj => ?_)
                    rw [zgI_wI]
                    by_cases e : j = k
                    · rw [if_pos ⟨rfl, e⟩, e]
                    · rw [if_neg (fun w => e w.2)]
                      exact hq9 j (by omega)
                exact cp (zkf (tO t) (tH t u) i).length 0 none T2 (by omega) zK.rf (fun j hj => absurd hj (Nat.not_lt_zero j))
              · refine j_goto (pc := 84) (tgt := 126) dX12_nextRow_84 (by decide) ?_
                refine j_iinc (pc := 126) (v := _ + 1) (ls' := [_, _, _, _, _, _, _, _, _]) dX12_nextRow_126 rfl rfl (by decide) rfl rfl ?_
                refine j_goto (pc := 129) (tgt := 14) dX12_nextRow_129 (by decide) ?_
                rw [nI_1]
                refine ih (i + 1) (some b) _ _ T2 (by omega) (hk.tr (k1.mo (fun c k z => Or.inl z))) (hbs.keep (by unfold zbt; exact zbi_ne0 h81)) (fun i' hi' => (k1.2.2.2.1 144 _ (by unfold zXk; omega)).trans (hb i' hi')) (hm.k k1 (by unfold zXk; omega) (fun k => by unfold zXk; omega))
          · refine j_goto (pc := 56) (tgt := 126) dX12_nextRow_56 (by decide) ?_
            refine j_iinc (pc := 126) (v := _ + 1) (ls' := [_, _, _, _, _, _, _, _, _]) dX12_nextRow_126 rfl rfl (by decide) rfl rfl ?_
            refine j_goto (pc := 129) (tgt := 14) dX12_nextRow_129 (by decide) ?_
            rw [nI_1]
            refine ih (i + 1) bo _ _ T2 (by omega) (hk.tr (k1.mo (fun c k z => Or.inl z))) (hbs.no (by rw [zcnd, zbi_ne0 h28, Bool.true_and, zbi_ne0 h48, if_pos rfl]; exact hx.e0.1.mp h53)) (fun i' hi' => (k1.2.2.2.1 144 _ (by unfold zXk; omega)).trans (hb i' hi')) (hm.k k1 (by unfold zXk; omega) (fun k => by unfold zXk; omega))
      · refine j_goto (pc := 31) (tgt := 126) dX12_nextRow_31 (by decide) ?_
        refine j_iinc (pc := 126) (v := _ + 1) (ls' := [_, _, _, _, _, _, _, _, _]) dX12_nextRow_126 rfl rfl (by decide) rfl rfl ?_
        refine j_goto (pc := 129) (tgt := 14) dX12_nextRow_129 (by decide) ?_
        rw [nI_1]
        refine ih (i + 1) bo _ _ T (by omega) hk (hbs.no (by rw [zcnd, zbi_eq0.mp h28, Bool.false_and])) hb hm
  refine j_iconst (pc := 0) (v := (-1)) dX12_nextRow_0 (by decide) ?_
  refine j_istore_n (pc := 1) (ls' := [_, _, _, _, _, _, _, _, _]) dX12_nextRow_1 (by decide) rfl rfl ?_
  refine j_aload_n (pc := 2) dX12_nextRow_2 rfl ?_
  refine j_getPv (pc := 3) dX12_nextRow_3 f_X12_78 (Or.inr ⟨_, rfl⟩) hM.1 (mp_bestKey hM) ?_
  refine j_astore (pc := 6) (ls' := [_, _, _, _, _, _, _, _, _]) dX12_nextRow_6 (by decide) rfl rfl ?_
  refine j_iconst (pc := 8) (v := 0) dX12_nextRow_8 (by decide) ?_
  refine j_istore (pc := 9) (ls' := [_, _, _, _, _, _, _, _, _]) dX12_nextRow_9 (by decide) rfl rfl ?_
  refine j_iconst (pc := 11) (v := 0) dX12_nextRow_11 (by decide) ?_
  refine j_istore (pc := 12) (ls' := [_, _, _, _, _, _, _, _, _]) dX12_nextRow_12 (by decide) rfl rfl ?_
  exact lp 64 0 none none none S (by omega) zK.rf (fun o ho => absurd ho (Nat.not_lt_zero o)) (fun i hi => absurd hi (Nat.not_lt_zero i)) hm
