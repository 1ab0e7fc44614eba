/-! the rows next to a mark, one after another -/
def zsq (O : List zOe) (V : List zSe) (t : zRW) (F : List Nat) (bk : Bool) (i : Nat) : Option Nat := if bk then (if i < zlf O V t F then (zBB O V t)[zlf O V t F - 1 - i]? else none) else (zBB O V t)[zlg O V t F + i]?
def zsn (O : List zOe) (V : List zSe) (t : zRW) (F : List Nat) (bk : Bool) : Nat := if bk then zlf O V t F else (zBB O V t).length - zlg O V t F
theorem zsq_no {O : List zOe} {V : List zSe} {t : zRW} {F : List Nat} {bk : Bool} {i : Nat} (h : zsq O V t F bk i = none) : zsn O V t F bk ≤ i := by
  unfold zsq at h
  unfold zsn
  have hl := zlf_le (O := O) (V := V) (t := t) (F := F)
  cases bk
  · rw [if_neg Bool.false_ne_true] at h ⊢
    have := List.getElem?_eq_none_iff.mp h
    omega
  · rw [if_pos rfl] at h ⊢
    split at h
    · have := List.getElem?_eq_none_iff.mp h
      omega
    · omega
theorem zsq_lt {O : List zOe} {V : List zSe} {t : zRW} {F : List Nat} {bk : Bool} {i x : Nat} (h : zsq O V t F bk i = some x) : i < zsn O V t F bk := by
  unfold zsq at h
  unfold zsn
  cases bk
  · rw [if_neg Bool.false_ne_true] at h ⊢
    have := (List.getElem?_eq_some_iff.mp h).1
    omega
  · rw [if_pos rfl] at h ⊢
    split at h
    · assumption
    · cases h
theorem zsq_mem {O : List zOe} {V : List zSe} {t : zRW} {F : List Nat} {bk : Bool} {i x : Nat} (h : zsq O V t F bk i = some x) : x ∈ zBB O V t := by
  unfold zsq at h
  cases bk
  · rw [if_neg Bool.false_ne_true] at h
    exact List.mem_of_getElem? h
  · rw [if_pos rfl] at h
    split at h
    · exact List.mem_of_getElem? h
    · cases h
theorem zcnd_in {O : List zOe} {V : List zSe} {t : zRW} {F : List Nat} {bk : Bool} {o : Nat} (ho : o < 64) : zcnd O V t F bk o = true ↔ o ∈ zBB O V t ∧ (if bk then zkl (zkf O t o) F else zkl F (zkf O t o)) = true := by
  rw [zcnd, Bool.and_eq_true, Bool.and_eq_true, zBB_mem]
  exact ⟨fun h => ⟨⟨ho, h.1.1, h.1.2⟩, h.2⟩, fun h => ⟨⟨h.1.2.1, h.1.2.2⟩, h.2⟩⟩
/-- the first of them is there, and is on the mark's side -/
theorem zsq_cnd {O : List zOe} {V : List zSe} {t : zRW} {F : List Nat} {bk : Bool} {x : Nat} (h : zsq O V t F bk 0 = some x) : x < 64 ∧ zcnd O V t F bk x = true := by
  have h64 := zBB_64 (zsq_mem h)
  refine ⟨h64, (zcnd_in h64).mpr ⟨zsq_mem h, ?_⟩⟩
  unfold zsq at h
  cases bk
  · rw [if_neg Bool.false_ne_true] at h ⊢
    exact zlg_hi h (Nat.le_refl _)
  · rw [if_pos rfl] at h ⊢
    split at h
    · exact zlf_lo h (by omega)
    · cases h
/-- none on the mark's side comes before it -/
theorem zsq_best {O : List zOe} {V : List zSe} {t : zRW} {F : List Nat} {bk : Bool} {o : Nat} (ho : o < 64) (hc : zcnd O V t F bk o = true) : ∃ x, zsq O V t F bk 0 = some x ∧ (o = x ∨ zbt O t bk x o = true) := by
  obtain ⟨h1, h2⟩ := (zcnd_in ho).mp hc
  obtain ⟨i, hi⟩ := List.getElem?_of_mem h1
  have hil := (List.getElem?_eq_some_iff.mp hi).1
  unfold zsq zbt
  cases bk
  · rw [if_neg Bool.false_ne_true] at h2 ⊢
    have hge : zlg O V t F ≤ i := Nat.le_of_not_lt (fun q => by rw [zlg_lo hi q] at h2; cases h2)
    obtain ⟨y, hy⟩ : ∃ y, (zBB O V t)[zlg O V t F]? = some y := ⟨_, List.getElem?_eq_getElem (Nat.lt_of_le_of_lt hge hil)⟩
    refine ⟨y, hy, ?_⟩
    by_cases e : zlg O V t F = i
    · rw [e, hi] at hy
      cases hy
      exact Or.inl rfl
    · rw [if_neg Bool.false_ne_true]
      exact Or.inr (zSo_lt (zBB_so O V t) (show zlg O V t F < i by omega) hy hi)
  · rw [if_pos rfl] at h2 ⊢
    have hlt : i < zlf O V t F := Nat.lt_of_not_le (fun q => by rw [zlf_hi hi q] at h2; cases h2)
    have hl := zlf_le (O := O) (V := V) (t := t) (F := F)
    rw [if_pos (by omega)]
    obtain ⟨y, hy⟩ : ∃ y, (zBB O V t)[zlf O V t F - 1 - 0]? = some y := ⟨_, List.getElem?_eq_getElem (by omega)⟩
    refine ⟨y, hy, ?_⟩
    by_cases e : zlf O V t F - 1 - 0 = i
    · rw [e, hi] at hy
      cases hy
      exact Or.inl rfl
    · rw [if_pos rfl]
      exact Or.inr (zSo_lt (zBB_so O V t) (show i < zlf O V t F - 1 - 0 by omega) hi hy)
theorem zbt_asym {O : List zOe} {V : List zSe} {t : zRW} {F : List Nat} {bk : Bool} {a b : Nat} (h : zbt O t bk a b = true) : zbt O t bk b a = false := by
  unfold zbt at *
  cases bk
  · exact zkl_asym _ _ h
  · exact zkl_asym _ _ h
theorem zbs_sq {O : List zOe} {V : List zSe} {t : zRW} {F : List Nat} {bk : Bool} {bo : Option Nat} (h : zbs O V t F bk 64 bo) : bo = zsq O V t F bk 0 := by
  cases bo with
  | none =>
    cases e : zsq O V t F bk 0 with
    | none => rfl
    | some x =>
      obtain ⟨h1, h2⟩ := zsq_cnd e
      rw [h x h1] at h2
      cases h2
  | some b =>
    obtain ⟨h1, h2, h3⟩ := h
    obtain ⟨x, hx, ho⟩ := zsq_best h1 h2
    rw [hx]
    rcases ho with e | e
    · rw [e]
    · obtain ⟨q1, q2⟩ := zsq_cnd hx
      rcases h3 x q1 q2 with g | g
      · rw [g]
      · rw [zbt_asym (V := V) (F := F) g] at e
        cases e
theorem zsq_mark {O : List zOe} {V : List zSe} {t : zRW} {F : List Nat} {bk : Bool} {k x : Nat} (h : zsq O V t F bk k = some x) : zsq O V t (zkf O t x) bk 0 = zsq O V t F bk (k + 1) := by
  unfold zsq at *
  cases bk
  · rw [if_neg Bool.false_ne_true] at h ⊢
    rw [if_neg Bool.false_ne_true, zlg_at h]
    rfl
  · rw [if_pos rfl] at h ⊢
    rw [if_pos rfl]
    split at h
    · rw [zlf_at h]
      by_cases e : k + 1 < zlf O V t F
      · rw [if_pos e, if_pos (by omega), show zlf O V t F - 1 - k - 1 - 0 = zlf O V t F - 1 - (k + 1) by omega]
      · rw [if_neg e, if_neg (by omega)]
    · cases h
/-- the stretch -/
theorem zsq_id {O : List zOe} {V : List zSe} {t : zRW} {F : List Nat} {z : Nat} {bk : Bool} {i x : Nat} (h : (zid O V t (zbf O V t F z (!bk)) (zbe O V t F z (!bk)))[i]? = some x) : (zsq O V t F bk (if bk then min z (zsn O V t F bk) - 1 - i else i)) = some x ∧ i < min z (zsn O V t F bk) := by
  have hil := (List.getElem?_eq_some_iff.mp h).1
  have hl := zlf_le (O := O) (V := V) (t := t) (F := F)
  have hg := zlg_le (O := O) (V := V) (t := t) (F := F)
  unfold zid at h hil
  rw [List.length_take, List.length_drop] at hil
  unfold zsq zsn
  cases bk
  · have ef : zbf O V t F z (!false) = zlg O V t F := rfl
    have ee : zbe O V t F z (!false) = min (zlg O V t F + z) (zBB O V t).length := rfl
    rw [ef, ee] at h hil
    rw [List.getElem?_take_of_lt (by omega), List.getElem?_drop] at h
    simp only [Bool.false_eq_true, if_false]
    exact ⟨h, by omega⟩
  · have ef : zbf O V t F z (!true) = zlf O V t F - z := rfl
    have ee : zbe O V t F z (!true) = zlf O V t F := rfl
    rw [ef, ee] at h hil
    rw [List.getElem?_take_of_lt (by omega), List.getElem?_drop] at h
    simp only [if_true]
    rw [if_pos (by omega), show zlf O V t F - 1 - (min z (zlf O V t F) - 1 - i) = zlf O V t F - z + i by omega]
    exact ⟨h, by omega⟩
theorem zidl {O : List zOe} {V : List zSe} {t : zRW} {F : List Nat} {z : Nat} {bk : Bool} : (zid O V t (zbf O V t F z (!bk)) (zbe O V t F z (!bk))).length = min z (zsn O V t F bk) := by
  have hl := zlf_le (O := O) (V := V) (t := t) (F := F)
  have hg := zlg_le (O := O) (V := V) (t := t) (F := F)
  unfold zid zsn
  rw [List.length_take, List.length_drop]
  cases bk
  · have ef : zbf O V t F z (!false) = zlg O V t F := rfl
    have ee : zbe O V t F z (!false) = min (zlg O V t F + z) (zBB O V t).length := rfl
    rw [ef, ee, if_neg Bool.false_ne_true]
    omega
  · have ef : zbf O V t F z (!true) = zlf O V t F - z := rfl
    have ee : zbe O V t F z (!true) = zlf O V t F := rfl
    rw [ef, ee, if_pos rfl]
    omega
abbrev zXf (c k : Nat) : Prop := zXkm c k ∨ c = 144 ∨ c = 143 ∨ (c = 123 ∧ k = 44)
theorem zXf.s {c k : Nat} (h : zXf c k) : zXs c k := by
  rcases h with h | h
  · exact zXkm.s h
  · unfold zXs
    omega
def mFd (S : zM) (L : List Nat) : Prop := zgI S 123 44 = nI L.length ∧ ∀ i x, L[i]? = some x → zgI S 143 i = nI x
set_option maxRecDepth 20000 in
set_option maxHeartbeats 4000000 in
theorem n_finds {E : zE} {S : zM} {s : zST} {t : zTB} {n u z : Nat} {F : List Nat} (h : zMO S s) (hw : zWF n s) (ht : sT s = some t) (hu1 : u ≤ tv t) (hu2 : tv t ≤ u + 40) (hm : mM S F) (hF42 : F.length ≤ 42) (hFb : ∀ b ∈ F, b < 256) (hz1 : 1 ≤ z) (hz2 : z ≤ 20) (bk : Bool) : zSp E 4 0 0 mX12_finds cX12_finds [zR 123, zI (nI u), zI (nI z), zI (zbi bk)] S (fun r T => r = none ∧ zK zXf S T ∧ mFd T (zid (tO t) (tV t) (tH t u) (zbf (tO t) (tV t) (tH t u) F z (!bk)) (zbe (tO t) (tV t) (tH t u) F z (!bk)))) := by
  refine zSp.of (by decide) rfl (Nat.le_of_ble_eq_true rfl) rfl ?_
  have hM := h.1
  have hv := hw.v ht
  have hsome : ∀ i, i < zsn (tO t) (tV t) (tH t u) F bk → ∃ x, zsq (tO t) (tV t) (tH t u) F bk i = some x := by
    intro i hi
    cases e : zsq (tO t) (tV t) (tH t u) F bk i with
    | none => exact absurd (zsq_no e) (by omega)
    | some x => exact ⟨x, rfl⟩
  have rev : ∀ (k m j : Nat) (y : Option zV) (T : zM), k ≤ z → k ≤ zsn (tO t) (tV t) (tH t u) F bk → k = min z (zsn (tO t) (tV t) (tH t u) F bk) → j + m = k / 2 → zK zXf S T → zgI T 123 44 = nI k → (bk ≠ true → ∀ i x, zsq (tO t) (tV t) (tH t u) F bk i = some x → i < k → zgI T 143 i = nI x) → (∀ i x, zsq (tO t) (tV t) (tH t u) F bk i = some x → i < k → j ≤ i → i + j < k → zgI T 143 i = nI x) → (bk = true → ∀ i x, (i < j ∨ k ≤ i + j) → i < k → zsq (tO t) (tV t) (tH t u) F bk (k - 1 - i) = some x → zgI T 143 i = nI x) → zJ E 4 0 0 mX12_finds cX12_finds 66 [some (zR 123), some (zI (nI u)), some (zI (nI z)), some (zI (zbi bk)), some (zI (-1)), some (zI (nI j)), y] [] T (fun r T => r = none ∧ zK zXf S T ∧ mFd T (zid (tO t) (tV t) (tH t u) (zbf (tO t) (tV t) (tH t u) F z (!bk)) (zbe (tO t) (tV t) (tH t u) F z (!bk)))) := by
    intro k m
    induction m with
    | zero =>
      intro j y T hkz hks hkk hj hk hfm hlow hin hout
      have hMT := (h.scr hk (fun c k z => zXf.s z)).1
      have ediv : nI k / 2 = nI (k / 2) := pk_div (d := 2) (by omega) (by decide) (by decide)
      refine j_iload_n (pc := 66) dX12_finds_66 rfl ?_
      refine j_if_eq (pc := 67) (tgt := 133) dX12_finds_67 (by decide) (fun h67 => ?_) (fun h67 => ?_)
      · refine j_vret (pc := 133) dX12_finds_133 rfl ?_
        have eb : bk = false := zbi_eq0.mp h67
        exact ⟨rfl, hk, by rw [zidl]; exact hfm.trans (by rw [hkk]), fun i x hx => by
          obtain ⟨g1, g2⟩ := zsq_id hx
          rw [eb, if_neg Bool.false_ne_true, ← eb] at g1
          exact hlow (by rw [eb]; exact fun q => Bool.noConfusion q) i x g1 (by rw [hkk]; exact g2)⟩
      · have eb : bk = true := zbi_ne0 h67
        refine j_iload (pc := 70) dX12_finds_70 rfl ?_
        refine j_aload_n (pc := 72) dX12_finds_72 rfl ?_
        refine j_getIv (pc := 73) dX12_finds_73 f_X12_392 (Or.inl rfl) hMT.1 (hfm) ?_
        refine j_iconst (pc := 76) (v := 2) dX12_finds_76 (by decide) ?_
        refine j_idiv (pc := 77) dX12_finds_77 (by decide) ?_
        rw [ediv]
        refine j_icmp_ge (pc := 78) (tgt := 133) dX12_finds_78 (by decide) (fun h78 => ?_) (fun h78 => absurd (nI_le (show k / 2 ≤ j by omega) (by omega)) h78)
        refine j_vret (pc := 133) dX12_finds_133 rfl ?_
        exact ⟨rfl, hk, by rw [zidl]; exact hfm.trans (by rw [hkk]), fun i x hx => by
          obtain ⟨g1, g2⟩ := zsq_id hx
          rw [eb, if_pos rfl, ← eb, ← hkk] at g1
          rw [← hkk] at g2
          by_cases q : i < j ∨ k ≤ i + j
          · exact hout eb i x q g2 g1
          · have e1 : k - 1 - i = i := by omega
            rw [e1] at g1
            exact hin i x g1 g2 (by omega) (by omega)⟩
    | succ m ih =>
      intro j y T hkz hks hkk hj hk hfm hlow hin hout
      have hMT := (h.scr hk (fun c k z => zXf.s z)).1
      have ediv : nI k / 2 = nI (k / 2) := pk_div (d := 2) (by omega) (by decide) (by decide)
      have esub : nI k - 1 - nI j = nI (k - 1 - j) := by rw [show (1 : Int32) = nI 1 from rfl, pk_sub (by omega), pk_sub (by omega)]
      refine j_iload_n (pc := 66) dX12_finds_66 rfl ?_
      refine j_if_eq (pc := 67) (tgt := 133) dX12_finds_67 (by decide) (fun h67 => ?_) (fun h67 => ?_)
      · refine j_vret (pc := 133) dX12_finds_133 rfl ?_
        have eb : bk = false := zbi_eq0.mp h67
        exact ⟨rfl, hk, by rw [zidl]; exact hfm.trans (by rw [hkk]), fun i x hx => by
          obtain ⟨g1, g2⟩ := zsq_id hx
          rw [eb, if_neg Bool.false_ne_true, ← eb] at g1
          exact hlow (by rw [eb]; exact fun q => Bool.noConfusion q) i x g1 (by rw [hkk]; exact g2)⟩
      · have eb : bk = true := zbi_ne0 h67
        refine j_iload (pc := 70) dX12_finds_70 rfl ?_
        refine j_aload_n (pc := 72) dX12_finds_72 rfl ?_
        refine j_getIv (pc := 73) dX12_finds_73 f_X12_392 (Or.inl rfl) hMT.1 (hfm) ?_
        refine j_iconst (pc := 76) (v := 2) dX12_finds_76 (by decide) ?_
        refine j_idiv (pc := 77) dX12_finds_77 (by decide) ?_
        rw [ediv]
        refine j_icmp_ge (pc := 78) (tgt := 133) dX12_finds_78 (by decide) (fun h78 => absurd h78 (nI_ge (by omega) (by omega))) (fun h78 => ?_)
        obtain ⟨a, ha⟩ := hsome j (by omega)
        obtain ⟨b, hb⟩ := hsome (k - 1 - j) (by omega)
        refine j_aload_n (pc := 81) dX12_finds_81 rfl ?_
        refine j_getPv (pc := 82) dX12_finds_82 f_X12_75 (Or.inr ⟨_, rfl⟩) hMT.1 (mp_found hMT) ?_
        refine j_aload_n (pc := 85) dX12_finds_85 rfl ?_
        refine j_getIv (pc := 86) dX12_finds_86 f_X12_392 (Or.inl rfl) hMT.1 (hfm) ?_
        refine j_iconst (pc := 89) (v := 1) dX12_finds_89 (by decide) ?_
        refine j_isub (pc := 90) dX12_finds_90 ?_
        refine j_iload (pc := 91) dX12_finds_91 rfl ?_
        refine j_isub (pc := 93) dX12_finds_93 ?_
        rw [esub]
        refine j_ialdn (pc := 94) dX12_finds_94 (mk_found hMT) (by omega) (Nat.le_of_ble_eq_true rfl) (hin (k - 1 - j) b hb (by omega) (by omega) (by omega)) ?_
        refine j_istore (pc := 95) (ls' := [_, _, _, _, _, _, _]) dX12_finds_95 (by decide) rfl rfl ?_
        refine j_aload_n (pc := 97) dX12_finds_97 rfl ?_
        refine j_getPv (pc := 98) dX12_finds_98 f_X12_75 (Or.inr ⟨_, rfl⟩) hMT.1 (mp_found hMT) ?_
        refine j_aload_n (pc := 101) dX12_finds_101 rfl ?_
        refine j_getIv (pc := 102) dX12_finds_102 f_X12_392 (Or.inl rfl) hMT.1 (hfm) ?_
        refine j_iconst (pc := 105) (v := 1) dX12_finds_105 (by decide) ?_
        refine j_isub (pc := 106) dX12_finds_106 ?_
        refine j_iload (pc := 107) dX12_finds_107 rfl ?_
        refine j_isub (pc := 109) dX12_finds_109 ?_
        refine j_aload_n (pc := 110) dX12_finds_110 rfl ?_
        refine j_getPv (pc := 111) dX12_finds_111 f_X12_75 (Or.inr ⟨_, rfl⟩) hMT.1 (mp_found hMT) ?_
        refine j_iload (pc := 114) dX12_finds_114 rfl ?_
        rw [esub]
        refine j_ialdn (pc := 116) dX12_finds_116 (mk_found hMT) (by omega) (Nat.le_of_ble_eq_true rfl) (hin j a ha (by omega) (Nat.le_refl _) (by omega)) ?_
        refine j_iastn (pc := 117) dX12_finds_117 (mk_found hMT) (by omega) (Nat.le_of_ble_eq_true rfl) ?_
        refine j_aload_n (pc := 118) dX12_finds_118 rfl ?_
        refine j_getPv (pc := 119) dX12_finds_119 f_X12_75 (Or.inr ⟨_, rfl⟩) hMT.1 (mp_found hMT) ?_
        refine j_iload (pc := 122) dX12_finds_122 rfl ?_
        refine j_iload (pc := 124) dX12_finds_124 rfl ?_
        refine j_iastn (pc := 126) dX12_finds_126 (mk_found hMT) (by omega) (Nat.le_of_ble_eq_true rfl) ?_
        refine j_iinc (pc := 127) (v := _ + 1) (ls' := [_, _, _, _, _, _, _]) dX12_finds_127 rfl rfl (by decide) rfl rfl ?_
        refine j_goto (pc := 130) (tgt := 66) dX12_finds_130 (by decide) ?_
        rw [nI_1]
        refine ih (j + 1) _ _ hkz hks hkk (by omega) ((hk.tr (zK.wI (Or.inr (Or.inr (Or.inl rfl))))).tr (zK.wI (Or.inr (Or.inr (Or.inl rfl))))) hfm (fun q => absurd eb q) (fun i x hx hi h1 h2 => ?_) (fun _ i x q hi hx => ?_)
        · rw [zgI_wI, if_neg (by omega), zgI_wI, if_neg (by omega)]
          exact hin i x hx hi (by omega) (by omega)
        · rw [zgI_wI]
          by_cases e1 : i = j
          · rw [if_pos ⟨rfl, e1⟩]
            rw [e1, hb] at hx
            cases hx
            rfl
          · rw [if_neg (fun w => e1 w.2), zgI_wI]
            by_cases e2 : i = k - 1 - j
            · rw [if_pos ⟨rfl, e2⟩]
              rw [e2, show k - 1 - (k - 1 - j) = j by omega, ha] at hx
              cases hx
              rfl
            · rw [if_neg (fun w => e2 w.2)]
              exact hout eb i x (by omega) hi hx
  have lp : ∀ (m k : Nat) (bo : Option Nat) (T : zM), k + m = z → k ≤ z → k ≤ zsn (tO t) (tV t) (tH t u) F bk → zK zXf S T → zgI T 123 44 = nI k → (∀ i x, zsq (tO t) (tV t) (tH t u) F bk i = some x → i < k → zgI T 143 i = nI x) → (match bo with | none => zsn (tO t) (tV t) (tH t u) F bk ≤ k ∨ k = z | some x => zsq (tO t) (tV t) (tH t u) F bk k = some x ∧ k < z ∧ mM T (zkf (tO t) (tH t u) x)) → zJ E 4 0 0 mX12_finds cX12_finds 13 [some (zR 123), some (zI (nI u)), some (zI (nI z)), some (zI (zbi bk)), some (zI (zbl bo)), none, none] [] T (fun r T => r = none ∧ zK zXf S T ∧ mFd T (zid (tO t) (tV t) (tH t u) (zbf (tO t) (tV t) (tH t u) F z (!bk)) (zbe (tO t) (tV t) (tH t u) F z (!bk)))) := by
    intro m
    induction m with
    | zero =>
      intro k bo T hk0 hkz hks hk hfm hfd hend
      cases bo with
      | some x => exact absurd hend.2.1 (by omega)
      | none =>
        refine j_iload (pc := 13) dX12_finds_13 rfl ?_
        refine j_iconst (pc := 15) (v := (-1)) dX12_finds_15 (by decide) ?_
        refine j_icmp_eq (pc := 16) (tgt := 63) dX12_finds_16 (by decide) (fun h16 => ?_) (fun h16 => absurd rfl h16)
        refine j_iconst (pc := 63) (v := 0) dX12_finds_63 (by decide) ?_
        refine j_istore (pc := 64) (ls' := [_, _, _, _, _, _, _]) dX12_finds_64 (by decide) rfl rfl ?_
        exact rev k (k / 2) 0 none T hkz hks (hend.elim (fun q => by omega) (fun q => by omega)) (by omega) hk hfm (fun _ i x hx hi => hfd i x hx hi) (fun i x hx hi _ _ => hfd i x hx hi) (fun _ i x q hi => by omega)
    | succ m ih =>
      intro k bo T hk0 hkz hks hk hfm hfd hend
      cases bo with
      | none =>
        refine j_iload (pc := 13) dX12_finds_13 rfl ?_
        refine j_iconst (pc := 15) (v := (-1)) dX12_finds_15 (by decide) ?_
        refine j_icmp_eq (pc := 16) (tgt := 63) dX12_finds_16 (by decide) (fun h16 => ?_) (fun h16 => absurd rfl h16)
        refine j_iconst (pc := 63) (v := 0) dX12_finds_63 (by decide) ?_
        refine j_istore (pc := 64) (ls' := [_, _, _, _, _, _, _]) dX12_finds_64 (by decide) rfl rfl ?_
        exact rev k (k / 2) 0 none T hkz hks (hend.elim (fun q => by omega) (fun q => by omega)) (by omega) hk hfm (fun _ i x hx hi => hfd i x hx hi) (fun i x hx hi _ _ => hfd i x hx hi) (fun _ i x q hi => by omega)
      | some x =>
        obtain ⟨hx, hkz2, hmx⟩ := hend
        have hx64 := zBB_64 (zsq_mem hx)
        have hMT := (h.scr hk (fun c k z => zXf.s z)).1
        refine j_iload (pc := 13) dX12_finds_13 rfl ?_
        refine j_iconst (pc := 15) (v := (-1)) dX12_finds_15 (by decide) ?_
        refine j_icmp_eq (pc := 16) (tgt := 63) dX12_finds_16 (by decide) (fun h16 => absurd h16 (nI_byte (by omega))) (fun h16 => ?_)
        refine j_aload_n (pc := 19) dX12_finds_19 rfl ?_
        refine j_getPv (pc := 20) dX12_finds_20 f_X12_75 (Or.inr ⟨_, rfl⟩) hMT.1 (mp_found hMT) ?_
        refine j_aload_n (pc := 23) dX12_finds_23 rfl ?_
        refine j_getIv (pc := 24) dX12_finds_24 f_X12_392 (Or.inl rfl) hMT.1 (hfm) ?_
        refine j_iload (pc := 27) dX12_finds_27 rfl ?_
        refine j_iastn (pc := 29) dX12_finds_29 (mk_found hMT) (by omega) (Nat.le_of_ble_eq_true rfl) ?_
        refine j_aload_n (pc := 30) dX12_finds_30 rfl ?_
        refine j_dup (pc := 31) dX12_finds_31 rfl ?_
        refine j_getIv (pc := 32) dX12_finds_32 f_X12_392 (Or.inl rfl) hMT.1 (hfm) ?_
        refine j_iconst (pc := 35) (v := 1) dX12_finds_35 (by decide) ?_
        refine j_iadd (pc := 36) dX12_finds_36 ?_
        rw [nI_1]
        refine j_putI (pc := 37) dX12_finds_37 f_X12_392 rfl hMT.1 rfl ?_
        have hk2 : zK zXf S (zwI (zwI T 143 k (nI x)) 123 44 (nI (k + 1))) := (hk.tr (zK.wI (Or.inr (Or.inr (Or.inl rfl))))).tr (zK.wI (Or.inr (Or.inr (Or.inr ⟨rfl, rfl⟩))))
        have hm2 : mM (zwI (zwI T 143 k (nI x)) 123 44 (nI (k + 1))) (zkf (tO t) (tH t u) x) := hmx
        have hfm2 : zgI (zwI (zwI T 143 k (nI x)) 123 44 (nI (k + 1))) 123 44 = nI (k + 1) := rfl
        have hfd2 : ∀ i y, zsq (tO t) (tV t) (tH t u) F bk i = some y → i < k + 1 → zgI (zwI (zwI T 143 k (nI x)) 123 44 (nI (k + 1))) 143 i = nI y := fun i y hy hi => by
          show zgI (zwI T 143 k (nI x)) 143 i = nI y
          rw [zgI_wI]
          by_cases e : i = k
          · rw [if_pos ⟨rfl, e⟩]
            rw [e, hx] at hy
            cases hy
            rfl
          · rw [if_neg (fun w => e w.2)]
            exact hfd i y hy (by omega)
        have hM2 := (h.scr hk2 (fun c k z => zXf.s z)).1
        refine j_aload_n (pc := 40) dX12_finds_40 rfl ?_
        refine j_getIv (pc := 41) dX12_finds_41 f_X12_392 (Or.inl rfl) hMT.1 (hfm2) ?_
        refine j_iload_n (pc := 44) dX12_finds_44 rfl ?_
        refine j_icmp_ne (pc := 45) (tgt := 52) dX12_finds_45 (by decide) (fun h45 => ?_) (fun h45 => ?_)
        · refine j_aload_n (pc := 52) dX12_finds_52 rfl ?_
          refine j_iload_n (pc := 53) dX12_finds_53 rfl ?_
          refine j_iload_n (pc := 54) dX12_finds_54 rfl ?_
          refine j_callV (pc := 55) (t := 12) (n_nextRow (h.scr hk2 (fun c k z => zXf.s z)) hw ht hu1 hu2 hm2 (Nat.le_trans (zkf_len hv.2.2.2.1) (by decide)) zkf_b bk) dX12_finds_55 l_X12_395 mk_X12_nextRow mv_X12_nextRow (by decide) rfl hM2.1 (by decide) rfl rfl (Nat.le_of_ble_eq_true rfl) (Nat.le_refl _) (Nat.le_refl _) (fun r T2 h_1 => ?_)
          obtain ⟨k3, bo2, rfl, hb2, hm3⟩ := h_1
          refine j_istore (pc := 58) (ls' := [_, _, _, _, _, _, _]) dX12_finds_58 (by decide) rfl rfl ?_
          refine j_goto (pc := 60) (tgt := 13) dX12_finds_60 (by decide) ?_
          have eb2 := (zbs_sq hb2).trans (zsq_mark hx)
          have k4 := hk2.tr (k3.mo (fun c k z => z.elim Or.inl (fun q => Or.inr (Or.inl q))))
          have g1 : zgI T2 123 44 = nI (k + 1) := (k3.2.2.2.1 _ _ (by show ¬ (zXkm _ _ ∨ _); unfold zXkm zXk zXm; omega)).trans hfm2
          have g2 : ∀ i y, zsq (tO t) (tV t) (tH t u) F bk i = some y → i < k + 1 → zgI T2 143 i = nI y := fun i y hy hi => (k3.2.2.2.1 _ _ (by show ¬ (zXkm _ _ ∨ _); unfold zXkm zXk zXm; omega)).trans (hfd2 i y hy hi)
          refine ih (k + 1) bo2 T2 (by omega) (by omega) (by have := zsq_lt hx; omega) k4 g1 g2 ?_
          cases bo2 with
          | none => exact Or.inl (zsq_no eb2.symm)
          | some y => exact ⟨eb2.symm, Nat.lt_of_le_of_ne hkz2 (fun q => h45 (by rw [← q])), hm3⟩
        · refine j_iconst (pc := 48) (v := (-1)) dX12_finds_48 (by decide) ?_
          refine j_goto (pc := 49) (tgt := 58) dX12_finds_49 (by decide) ?_
          refine j_istore (pc := 58) (ls' := [_, _, _, _, _, _, _]) dX12_finds_58 (by decide) rfl rfl ?_
          refine j_goto (pc := 60) (tgt := 13) dX12_finds_60 (by decide) ?_
          refine ih (k + 1) none _ (by omega) (by omega) (by have := zsq_lt hx; omega) hk2 hfm2 hfd2 (Or.inr ?_)
          exact (nI_eq (by omega) (by omega)).mp h45
  refine j_aload_n (pc := 0) dX12_finds_0 rfl ?_
  refine j_iconst (pc := 1) (v := 0) dX12_finds_1 (by decide) ?_
  refine j_putI (pc := 2) dX12_finds_2 f_X12_392 rfl hM.1 rfl ?_
  have k0 : zK zXf S (zwI S 123 44 0) := zK.wI (Or.inr (Or.inr (Or.inr ⟨rfl, rfl⟩)))
  have hm0 : mM (zwI S 123 44 0) F := hm
  refine j_aload_n (pc := 5) dX12_finds_5 rfl ?_
  refine j_iload_n (pc := 6) dX12_finds_6 rfl ?_
  refine j_iload_n (pc := 7) dX12_finds_7 rfl ?_
  refine j_callV (pc := 8) (t := 12) (n_nextRow (h.scr k0 (fun c k z => zXf.s z)) hw ht hu1 hu2 hm0 hF42 hFb bk) dX12_finds_8 l_X12_395 mk_X12_nextRow mv_X12_nextRow (by decide) rfl hM.1 (by decide) rfl rfl (Nat.le_of_ble_eq_true rfl) (Nat.le_refl _) (Nat.le_refl _) (fun r T2 h_1 => ?_)
  obtain ⟨k3, bo2, rfl, hb2, hm3⟩ := h_1
  refine j_istore (pc := 11) (ls' := [_, _, _, _, _, _, _]) dX12_finds_11 (by decide) rfl rfl ?_
  have eb2 := zbs_sq hb2
  have k4 := k0.tr (k3.mo (fun c k z => z.elim Or.inl (fun q => Or.inr (Or.inl q))))
  refine lp z 0 bo2 T2 (by omega) (by omega) (Nat.zero_le _) k4 ((k3.2.2.2.1 _ _ (by show ¬ (zXkm _ _ ∨ _); unfold zXkm zXk zXm; omega)).trans rfl) (fun i x _ hi => absurd hi (Nat.not_lt_zero i)) ?_
  cases bo2 with
  | none => exact Or.inl (zsq_no eb2.symm)
  | some y => exact ⟨eb2.symm, by omega, hm3⟩
