theorem j_ldcIw {E : zE} {lv mc ms : Nat} {M : zMI} {cc : ByteArray} {pc : Nat} {ls : List (Option zV)} {st : List zV} {S : zM} {Q : Option zV → zM → Prop} {i : Nat} {v : Int32} (hd : decode cc pc = .ok (.ldc_w i, 3)) (hc : Cond.constant M.1 i v ∈ lw_tbl) (k : zJ E lv mc ms M cc (pc + 3) ls (zI v :: st) S Q) : zJ E lv mc ms M cc pc ls st S Q := by
  intro p l e R s m args below meth c H locs cells slots mcT msT lsA C hP hL
  exact lv_ldcw C.1 C.2.1 C.2.2.2.2.2.2.1 (C.2.2.2.2.2.2.2.1.w hc rfl _) hd (k p l e R s m args below meth c H locs cells slots mcT msT lsA C hP hL)
/-! THE MODEL'S KEYS: the key that is laid, and the mark -/
def mL (S : zM) (L : List Nat) : Prop := zgI S 123 36 = nI L.length ∧ ∀ i, i < L.length → zgI S 138 i = nI (L.getD i 0)
def mM (S : zM) (L : List Nat) : Prop := zgI S 123 38 = nI L.length ∧ ∀ i, i < L.length → zgI S 139 i = nI (L.getD i 0)
abbrev zXk (c k : Nat) : Prop := c = 138 ∨ (c = 123 ∧ k = 36)
abbrev zXm (c k : Nat) : Prop := c = 139 ∨ (c = 123 ∧ k = 38)
theorem mL.k {X : Nat → Nat → Prop} {S T : zM} {L : List Nat} (h : mL S L) (f : zK X S T) (h1 : ¬ X 123 36) (h2 : ∀ k, ¬ X 138 k) : mL T L := ⟨(f.2.2.2.1 _ _ h1).trans h.1, fun i hi => (f.2.2.2.1 _ _ (h2 i)).trans (h.2 i hi)⟩
theorem mM.k {X : Nat → Nat → Prop} {S T : zM} {L : List Nat} (h : mM S L) (f : zK X S T) (h1 : ¬ X 123 38) (h2 : ∀ k, ¬ X 139 k) : mM T L := ⟨(f.2.2.2.1 _ _ h1).trans h.1, fun i hi => (f.2.2.2.1 _ _ (h2 i)).trans (h.2 i hi)⟩
theorem zXk.s {c k : Nat} (h : zXk c k) : zXs c k := by unfold zXk at h; unfold zXs; omega
theorem zXm.s {c k : Nat} (h : zXm c k) : zXs c k := by unfold zXm at h; unfold zXs; omega
theorem gD_app {L : List Nat} {x i : Nat} (h : i < L.length) : (L ++ [x]).getD i 0 = L.getD i 0 := by rw [List.getD_eq_getElem?_getD, List.getD_eq_getElem?_getD, List.getElem?_append_left h]
theorem gD_last {L : List Nat} {x : Nat} : (L ++ [x]).getD L.length 0 = x := by rw [List.getD_eq_getElem?_getD, List.getElem?_concat_length]; rfl
theorem mL.add {S : zM} {L : List Nat} {b : Nat} (h : mL S L) : mL (zwI (zwI S 138 L.length (nI b)) 123 36 (nI (L.length + 1))) (L ++ [b]) := by
  refine ⟨by rw [List.length_append]; exact zgI_self, fun i hi => ?_⟩
  rw [List.length_append] at hi
  rw [zgI_ne (by decide), zgI_wI]
  by_cases e : i = L.length
  · rw [if_pos ⟨rfl, e⟩, e, gD_last]
  · have hi : i < L.length := by have : i < L.length + 1 := hi; omega
    rw [if_neg (fun z => e z.2), gD_app hi]
    exact h.2 i hi
set_option maxRecDepth 20000 in
set_option maxHeartbeats 4000000 in
theorem n_laysByte {E : zE} {S : zM} {L : List Nat} {b : Nat} (hM : zMs S) (hL : mL S L) (hl : L.length < 36) (hb : b < 256) (dn : Bool) : zSp E 0 0 0 mX12_laysByte cX12_laysByte [zR 123, zI (nI b), zI (zbi dn)] S (fun r T => r = none ∧ zK zXk S T ∧ mL T (L ++ [if dn then 255 - b else b])) := by
  refine zSp.of (by decide) rfl (Nat.le_of_ble_eq_true rfl) rfl ?_
  refine j_aload_n (pc := 0) dX12_laysByte_0 rfl ?_
  refine j_getPv (pc := 1) dX12_laysByte_1 f_X12_60 (Or.inr ⟨_, rfl⟩) hM.1 (mp_key hM) ?_
  refine j_aload_n (pc := 4) dX12_laysByte_4 rfl ?_
  refine j_getIv (pc := 5) dX12_laysByte_5 f_X12_334 (Or.inl rfl) hM.1 (hL.1) ?_
  refine j_iload_n (pc := 8) dX12_laysByte_8 rfl ?_
  refine j_if_eq (pc := 9) (tgt := 20) dX12_laysByte_9 (by decide) (fun h9 => ?_) (fun h9 => ?_)
  · refine j_iload_n (pc := 20) dX12_laysByte_20 rfl ?_
    refine j_iastn (pc := 21) dX12_laysByte_21 (mk_key hM) (by omega) (Nat.le_of_ble_eq_true rfl) ?_
    refine j_aload_n (pc := 22) dX12_laysByte_22 rfl ?_
    refine j_dup (pc := 23) dX12_laysByte_23 rfl ?_
    refine j_getIv (pc := 24) dX12_laysByte_24 f_X12_334 (Or.inl rfl) hM.1 (hL.1) ?_
    refine j_iconst (pc := 27) (v := 1) dX12_laysByte_27 (by decide) ?_
    refine j_iadd (pc := 28) dX12_laysByte_28 ?_
    rw [nI_1]
    refine j_putI (pc := 29) dX12_laysByte_29 f_X12_334 rfl hM.1 rfl ?_
    refine j_vret (pc := 32) dX12_laysByte_32 rfl ?_
    rw [zbi_eq0.mp h9]
    exact ⟨rfl, (zK.wI (Or.inl rfl)).tr (zK.wI (Or.inr ⟨rfl, rfl⟩)), hL.add⟩
  · refine j_sipush (pc := 12) (v := 255) dX12_laysByte_12 (by decide) ?_
    refine j_iload_n (pc := 15) dX12_laysByte_15 rfl ?_
    refine j_isub (pc := 16) dX12_laysByte_16 ?_
    rw [show (255 : Int32) - nI b = nI (255 - b) from pk_sub (a := 255) (by omega)]
    refine j_goto (pc := 17) (tgt := 21) dX12_laysByte_17 (by decide) ?_
    refine j_iastn (pc := 21) dX12_laysByte_21 (mk_key hM) (by omega) (Nat.le_of_ble_eq_true rfl) ?_
    refine j_aload_n (pc := 22) dX12_laysByte_22 rfl ?_
    refine j_dup (pc := 23) dX12_laysByte_23 rfl ?_
    refine j_getIv (pc := 24) dX12_laysByte_24 f_X12_334 (Or.inl rfl) hM.1 (hL.1) ?_
    refine j_iconst (pc := 27) (v := 1) dX12_laysByte_27 (by decide) ?_
    refine j_iadd (pc := 28) dX12_laysByte_28 ?_
    rw [nI_1]
    refine j_putI (pc := 29) dX12_laysByte_29 f_X12_334 rfl hM.1 rfl ?_
    refine j_vret (pc := 32) dX12_laysByte_32 rfl ?_
    rw [zbi_ne0 h9]
    exact ⟨rfl, (zK.wI (Or.inl rfl)).tr (zK.wI (Or.inr ⟨rfl, rfl⟩)), hL.add⟩
set_option maxRecDepth 20000 in
set_option maxHeartbeats 4000000 in
theorem n_marks {E : zE} {S : zM} {L : List Nat} (hM : zMs S) (hL : mL S L) (hl : L.length ≤ 36) : zSp E 0 0 0 mX12_marks cX12_marks [zR 123] S (fun r T => r = none ∧ zK zXm S T ∧ mM T L) := by
  refine zSp.of (by decide) rfl (Nat.le_of_ble_eq_true rfl) rfl ?_
  have lp : ∀ (m i : Nat) (T : zM), i + m = L.length → zK zXm S T → zgI T 123 38 = nI L.length → (∀ j, j < i → zgI T 139 j = nI (L.getD j 0)) → zJ E 0 0 0 mX12_marks cX12_marks 10 [some (zR 123), some (zI (nI i))] [] T (fun r T => r = none ∧ zK zXm S T ∧ mM T L) := by
    intro m
    induction m with
    | zero =>
      intro i T hi hk he hq
      have ei : i = L.length := by omega
      subst ei
      have hMT := hk.ms hM
      have hLT := hL.k hk (by unfold zXm; omega) (fun k => by unfold zXm; omega)
      refine j_iload_n (pc := 10) dX12_marks_10 rfl ?_
      refine j_aload_n (pc := 11) dX12_marks_11 rfl ?_
      refine j_getIv (pc := 12) dX12_marks_12 f_X12_334 (Or.inl rfl) hMT.1 (hLT.1) ?_
      refine j_icmp_ge (pc := 15) (tgt := 36) dX12_marks_15 (by decide) (fun h15 => ?_) (fun h15 => absurd (nI_le (Nat.le_refl _) (by omega)) h15)
      refine j_vret (pc := 36) dX12_marks_36 rfl ?_
      exact ⟨rfl, hk, he, hq⟩
    | succ m ih =>
      intro i T hi hk he hq
      have hMT := hk.ms hM
      have hLT := hL.k hk (by unfold zXm; omega) (fun k => by unfold zXm; omega)
      refine j_iload_n (pc := 10) dX12_marks_10 rfl ?_
      refine j_aload_n (pc := 11) dX12_marks_11 rfl ?_
      refine j_getIv (pc := 12) dX12_marks_12 f_X12_334 (Or.inl rfl) hMT.1 (hLT.1) ?_
      refine j_icmp_ge (pc := 15) (tgt := 36) dX12_marks_15 (by decide) (fun h15 => absurd h15 (nI_ge (by omega) (by omega))) (fun h15 => ?_)
      refine j_aload_n (pc := 18) dX12_marks_18 rfl ?_
      refine j_getPv (pc := 19) dX12_marks_19 f_X12_63 (Or.inr ⟨_, rfl⟩) hMT.1 (mp_mark hMT) ?_
      refine j_iload_n (pc := 22) dX12_marks_22 rfl ?_
      refine j_aload_n (pc := 23) dX12_marks_23 rfl ?_
      refine j_getPv (pc := 24) dX12_marks_24 f_X12_60 (Or.inr ⟨_, rfl⟩) hMT.1 (mp_key hMT) ?_
      refine j_iload_n (pc := 27) dX12_marks_27 rfl ?_
      refine j_ialdn (pc := 28) dX12_marks_28 (mk_key hMT) (by omega) (Nat.le_of_ble_eq_true rfl) (hLT.2 i (by omega)) ?_
      refine j_iastn (pc := 29) dX12_marks_29 (mk_mark hMT) (by omega) (Nat.le_of_ble_eq_true rfl) ?_
      refine j_iinc (pc := 30) (v := _ + 1) (ls' := [_, _]) dX12_marks_30 rfl rfl (by decide) rfl rfl ?_
      refine j_goto (pc := 33) (tgt := 10) dX12_marks_33 (by decide) ?_
      rw [nI_1]
      refine ih (i + 1) _ (by omega) (hk.tr (zK.wI (Or.inl rfl))) ((zgI_ne (by decide)).trans he) (fun j hj => ?_)
      rw [zgI_wI]
      by_cases e : j = i
      · rw [if_pos ⟨rfl, e⟩, e]
      · rw [if_neg (fun z => e z.2)]
        exact hq j (by omega)
  refine j_aload_n (pc := 0) dX12_marks_0 rfl ?_
  refine j_aload_n (pc := 1) dX12_marks_1 rfl ?_
  refine j_getIv (pc := 2) dX12_marks_2 f_X12_334 (Or.inl rfl) hM.1 (hL.1) ?_
  refine j_putI (pc := 5) dX12_marks_5 f_X12_348 rfl hM.1 rfl ?_
  refine j_iconst (pc := 8) (v := 0) dX12_marks_8 (by decide) ?_
  refine j_istore_n (pc := 9) (ls' := [_, _]) dX12_marks_9 (by decide) rfl rfl ?_
  exact lp L.length 0 _ (by omega) (zK.wI (Or.inr ⟨rfl, rfl⟩)) zgI_self (fun j hj => absurd hj (Nat.not_lt_zero j))
/-- an int that tells how two keys stand -/
def zside (x : Int32) (L F : List Nat) : Prop := (x < 0 ↔ zkl L F = true) ∧ (0 < x ↔ zkl F L = true)
theorem zside.e0 {x : Int32} {L F : List Nat} (h : zside x L F) : (¬ x < 0 ↔ zkl L F = false) ∧ (¬ 0 < x ↔ zkl F L = false) := by
  constructor
  · rw [h.1]
    exact Bool.not_eq_true _ ▸ Iff.rfl
  · rw [h.2]
    exact Bool.not_eq_true _ ▸ Iff.rfl
theorem zkl_ne {L F : List Nat} {i : Nat} (hp : ∀ j, j < i → L.getD j 0 = F.getD j 0) (h1 : i < L.length) (h2 : i < F.length) : (zgt L i = L.getD i 0 + 1 ∧ zgt F i = F.getD i 0 + 1) ∧ ∀ j, j < i → zgt L j = zgt F j := by
  refine ⟨⟨by rw [zgt, if_pos h1], by rw [zgt, if_pos h2]⟩, fun j hj => ?_⟩
  rw [zgt, if_pos (by omega), zgt, if_pos (by omega), hp j hj]
theorem zside_in {L F : List Nat} {i : Nat} (hL : ∀ b ∈ L, b < 256) (hF : ∀ b ∈ F, b < 256) (hp : ∀ j, j < i → L.getD j 0 = F.getD j 0) (h1 : i < L.length) (h2 : i < F.length) (hne : L.getD i 0 ≠ F.getD i 0) : zside (nI (L.getD i 0) - nI (F.getD i 0)) L F := by
  obtain ⟨⟨g1, g2⟩, g3⟩ := zkl_ne hp h1 h2
  have b1 := hL _ (gD_mem h1)
  have b2 := hF _ (gD_mem h2)
  have e : (nI (L.getD i 0) - nI (F.getD i 0)).toInt = (L.getD i 0 : Int) - F.getD i 0 := pk_sub_toInt (by omega) (by omega)
  have e0 : (0 : Int32).toInt = 0 := rfl
  rcases Nat.lt_or_gt_of_ne hne with g | g
  · have hk := zkl_of i L F g3 (by omega)
    refine ⟨⟨fun _ => hk, fun _ => by rw [fa_lt]; omega⟩, ⟨fun q => ?_, fun q => ?_⟩⟩
    · rw [fa_lt] at q
      omega
    · rw [zkl_asym _ _ hk] at q
      cases q
  · have hk := zkl_of i F L (fun j hj => (g3 j hj).symm) (by omega)
    refine ⟨⟨fun q => ?_, fun q => ?_⟩, ⟨fun _ => hk, fun _ => by rw [fa_lt]; omega⟩⟩
    · rw [fa_lt] at q
      omega
    · rw [zkl_asym _ _ hk] at q
      cases q
theorem zside_out {L F : List Nat} {i : Nat} (hl : L.length < 2 ^ 20) (hf : F.length < 2 ^ 20) (hp : ∀ j, j < i → L.getD j 0 = F.getD j 0) (hi : i = L.length ∨ i = F.length) (h1 : i ≤ L.length) (h2 : i ≤ F.length) : zside (nI L.length - nI F.length) L F := by
  have g3 : ∀ j, j < i → zgt L j = zgt F j := fun j hj => by rw [zgt, if_pos (by omega), zgt, if_pos (by omega), hp j hj]
  have e : (nI L.length - nI F.length).toInt = (L.length : Int) - F.length := pk_sub_toInt (by omega) (by omega)
  have e0 : (0 : Int32).toInt = 0 := rfl
  rcases Nat.lt_trichotomy L.length F.length with g | g | g
  · have hk := zkl_of i L F g3 (by rw [zgt, if_neg (by omega), zgt, if_pos (by omega)]; omega)
    refine ⟨⟨fun _ => hk, fun _ => by rw [fa_lt]; omega⟩, ⟨fun q => ?_, fun q => ?_⟩⟩
    · rw [fa_lt] at q
      omega
    · rw [zkl_asym _ _ hk] at q
      cases q
  · have hE : L = F := zkl_eq L F (fun j hj => g3 j (by omega))
    rw [hE, zside, zkl_irr]
    have e9 : nI F.length - nI F.length = 0 := by rw [pk_sub (Nat.le_refl _), Nat.sub_self]; rfl
    rw [e9]
    decide
  · have hk := zkl_of i F L (fun j hj => (g3 j hj).symm) (by rw [zgt, if_neg (by omega), zgt, if_pos (by omega)]; omega)
    refine ⟨⟨fun q => ?_, fun q => ?_⟩, ⟨fun _ => hk, fun _ => by rw [fa_lt]; omega⟩⟩
    · rw [fa_lt] at q
      omega
    · rw [zkl_asym _ _ hk] at q
      cases q
set_option maxRecDepth 20000 in
set_option maxHeartbeats 4000000 in
theorem n_compared {E : zE} {S : zM} {L F : List Nat} (hM : zMs S) (hL : mL S L) (hF : mM S F) (hl : L.length ≤ 36) (hf : F.length ≤ 42) (hLb : ∀ b ∈ L, b < 256) (hFb : ∀ b ∈ F, b < 256) : zSp E 0 0 0 mX12_compared cX12_compared [zR 123] S (fun r T => S = T ∧ ∃ x, r = some (zI x) ∧ zside x L F) := by
  refine zSp.of (by decide) rfl (Nat.le_of_ble_eq_true rfl) rfl ?_
  have tail : ∀ i, (∀ j, j < i → L.getD j 0 = F.getD j 0) → i ≤ L.length → i ≤ F.length → (i < L.length → i < F.length → L.getD i 0 ≠ F.getD i 0) → zJ E 0 0 0 mX12_compared cX12_compared 39 [some (zR 123), some (zI (nI i))] [] S (fun r T => S = T ∧ ∃ x, r = some (zI x) ∧ zside x L F) := by
    intro i hp h1 h2 hne
    refine j_iload_n (pc := 39) dX12_compared_39 rfl ?_
    refine j_aload_n (pc := 40) dX12_compared_40 rfl ?_
    refine j_getIv (pc := 41) dX12_compared_41 f_X12_334 (Or.inl rfl) hM.1 (hL.1) ?_
    refine j_icmp_ge (pc := 44) (tgt := 71) dX12_compared_44 (by decide) (fun h44 => ?_) (fun h44 => ?_)
    · refine j_aload_n (pc := 71) dX12_compared_71 rfl ?_
      refine j_getIv (pc := 72) dX12_compared_72 f_X12_334 (Or.inl rfl) hM.1 (hL.1) ?_
      refine j_aload_n (pc := 75) dX12_compared_75 rfl ?_
      refine j_getIv (pc := 76) dX12_compared_76 f_X12_348 (Or.inl rfl) hM.1 (hF.1) ?_
      refine j_isub (pc := 79) dX12_compared_79 ?_
      refine j_iret (pc := 80) dX12_compared_80 rfl ?_
      exact ⟨rfl, _, rfl, zside_out (by omega) (by omega) hp (Or.inl (Nat.le_antisymm h1 (Nat.le_of_not_lt (fun q => nI_ge q (by omega) h44)))) h1 h2⟩
    · refine j_iload_n (pc := 47) dX12_compared_47 rfl ?_
      refine j_aload_n (pc := 48) dX12_compared_48 rfl ?_
      refine j_getIv (pc := 49) dX12_compared_49 f_X12_348 (Or.inl rfl) hM.1 (hF.1) ?_
      refine j_icmp_ge (pc := 52) (tgt := 71) dX12_compared_52 (by decide) (fun h52 => ?_) (fun h52 => ?_)
      · refine j_aload_n (pc := 71) dX12_compared_71 rfl ?_
        refine j_getIv (pc := 72) dX12_compared_72 f_X12_334 (Or.inl rfl) hM.1 (hL.1) ?_
        refine j_aload_n (pc := 75) dX12_compared_75 rfl ?_
        refine j_getIv (pc := 76) dX12_compared_76 f_X12_348 (Or.inl rfl) hM.1 (hF.1) ?_
        refine j_isub (pc := 79) dX12_compared_79 ?_
        refine j_iret (pc := 80) dX12_compared_80 rfl ?_
        exact ⟨rfl, _, rfl, zside_out (by omega) (by omega) hp (Or.inr (Nat.le_antisymm h2 (Nat.le_of_not_lt (fun q => nI_ge q (by omega) h52)))) h1 h2⟩
      · have hi1 : i < L.length := Nat.lt_of_not_le (fun q => h44 (nI_le q (by omega)))
        have hi2 : i < F.length := Nat.lt_of_not_le (fun q => h52 (nI_le q (by omega)))
        refine j_aload_n (pc := 55) dX12_compared_55 rfl ?_
        refine j_getPv (pc := 56) dX12_compared_56 f_X12_60 (Or.inr ⟨_, rfl⟩) hM.1 (mp_key hM) ?_
        refine j_iload_n (pc := 59) dX12_compared_59 rfl ?_
        refine j_ialdn (pc := 60) dX12_compared_60 (mk_key hM) (by omega) (Nat.le_of_ble_eq_true rfl) (hL.2 i hi1) ?_
        refine j_aload_n (pc := 61) dX12_compared_61 rfl ?_
        refine j_getPv (pc := 62) dX12_compared_62 f_X12_63 (Or.inr ⟨_, rfl⟩) hM.1 (mp_mark hM) ?_
        refine j_iload_n (pc := 65) dX12_compared_65 rfl ?_
        refine j_ialdn (pc := 66) dX12_compared_66 (mk_mark hM) (by omega) (Nat.le_of_ble_eq_true rfl) (hF.2 i hi2) ?_
        refine j_isub (pc := 67) dX12_compared_67 ?_
        refine j_goto (pc := 68) (tgt := 80) dX12_compared_68 (by decide) ?_
        refine j_iret (pc := 80) dX12_compared_80 rfl ?_
        exact ⟨rfl, _, rfl, zside_in hLb hFb hp hi1 hi2 (hne hi1 hi2)⟩
  have lp : ∀ (m i : Nat), i + m = L.length → i ≤ L.length → i ≤ F.length → (∀ j, j < i → L.getD j 0 = F.getD j 0) → zJ E 0 0 0 mX12_compared cX12_compared 2 [some (zR 123), some (zI (nI i))] [] S (fun r T => S = T ∧ ∃ x, r = some (zI x) ∧ zside x L F) := by
    intro m
    induction m with
    | zero =>
      intro i hi h1 h2 hp
      refine j_iload_n (pc := 2) dX12_compared_2 rfl ?_
      refine j_aload_n (pc := 3) dX12_compared_3 rfl ?_
      refine j_getIv (pc := 4) dX12_compared_4 f_X12_334 (Or.inl rfl) hM.1 (hL.1) ?_
      refine j_icmp_ge (pc := 7) (tgt := 39) dX12_compared_7 (by decide) (fun h7 => ?_) (fun h7 => absurd (nI_le (show L.length ≤ i by omega) (by omega)) h7)
      exact tail i hp (by omega) h2 (fun a b => by omega)
    | succ m ih =>
      intro i hi h1 h2 hp
      refine j_iload_n (pc := 2) dX12_compared_2 rfl ?_
      refine j_aload_n (pc := 3) dX12_compared_3 rfl ?_
      refine j_getIv (pc := 4) dX12_compared_4 f_X12_334 (Or.inl rfl) hM.1 (hL.1) ?_
      refine j_icmp_ge (pc := 7) (tgt := 39) dX12_compared_7 (by decide) (fun h7 => ?_) (fun h7 => ?_)
      · exact tail i hp (by omega) h2 (fun a b => absurd h7 (nI_ge a (by omega)))
      · refine j_iload_n (pc := 10) dX12_compared_10 rfl ?_
        refine j_aload_n (pc := 11) dX12_compared_11 rfl ?_
        refine j_getIv (pc := 12) dX12_compared_12 f_X12_348 (Or.inl rfl) hM.1 (hF.1) ?_
        refine j_icmp_ge (pc := 15) (tgt := 39) dX12_compared_15 (by decide) (fun h15 => ?_) (fun h15 => ?_)
        · exact tail i hp (Nat.le_of_not_lt (fun q => h7 (nI_le (Nat.le_of_lt q) (by omega)))) h2 (fun a b => absurd h15 (nI_ge b (by omega)))
        · have hi1 : i < L.length := Nat.lt_of_not_le (fun q => h7 (nI_le q (by omega)))
          have hi2 : i < F.length := Nat.lt_of_not_le (fun q => h15 (nI_le q (by omega)))
          refine j_aload_n (pc := 18) dX12_compared_18 rfl ?_
          refine j_getPv (pc := 19) dX12_compared_19 f_X12_60 (Or.inr ⟨_, rfl⟩) hM.1 (mp_key hM) ?_
          refine j_iload_n (pc := 22) dX12_compared_22 rfl ?_
          refine j_ialdn (pc := 23) dX12_compared_23 (mk_key hM) (by omega) (Nat.le_of_ble_eq_true rfl) (hL.2 i hi1) ?_
          refine j_aload_n (pc := 24) dX12_compared_24 rfl ?_
          refine j_getPv (pc := 25) dX12_compared_25 f_X12_63 (Or.inr ⟨_, rfl⟩) hM.1 (mp_mark hM) ?_
          refine j_iload_n (pc := 28) dX12_compared_28 rfl ?_
          refine j_ialdn (pc := 29) dX12_compared_29 (mk_mark hM) (by omega) (Nat.le_of_ble_eq_true rfl) (hF.2 i hi2) ?_
          refine j_icmp_ne (pc := 30) (tgt := 39) dX12_compared_30 (by decide) (fun h30 => ?_) (fun h30 => ?_)
          · exact tail i hp (Nat.le_of_lt hi1) h2 (fun a b q => h30 (by rw [q]))
          · refine j_iinc (pc := 33) (v := _ + 1) (ls' := [_, _]) dX12_compared_33 rfl rfl (by decide) rfl rfl ?_
            refine j_goto (pc := 36) (tgt := 2) dX12_compared_36 (by decide) ?_
            rw [nI_1]
            refine ih (i + 1) (by omega) (by omega) (by omega) (fun j hj => ?_)
            by_cases e : j = i
            · rw [e]
              exact (nI_eq (by have := hLb _ (gD_mem hi1); omega) (by have := hFb _ (gD_mem hi2); omega)).mp h30
            · exact hp j (by omega)
  refine j_iconst (pc := 0) (v := 0) dX12_compared_0 (by decide) ?_
  refine j_istore_n (pc := 1) (ls' := [_, _]) dX12_compared_1 (by decide) rfl rfl ?_
  exact lp L.length 0 (by omega) (Nat.zero_le _) (Nat.zero_le _) (fun j hj => absurd hj (Nat.not_lt_zero j))
