theorem zc2_int (c : Int32) : (zc2 c).toInt = c.toInt / 4 := by
  rw [zc2, pk_shr _ _ 2 (by decide), Int.shiftRight_eq_div_pow]
  rfl
theorem zc2_bad {n : Nat} {c : Int32} (hn : n ≤ 4) (h : zcl2 (4 * n) c = false) : zc2 c < 0 ∨ nI n ≤ zc2 c := by
  rcases pk_ix c (n := 4 * n) (by omega) with g | g | ⟨b, hb, rfl⟩
  · left
    rw [fa_lt, zc2_int]
    have := (fa_lt _ _).mp g
    have e : (0 : Int32).toInt = 0 := rfl
    omega
  · right
    rw [fa_le, zc2_int, nI_toInt (by omega)]
    have := (fa_le _ _).mp g
    rw [nI_toInt (by omega)] at this
    omega
  · rw [zcl2_nI hb (by omega)] at h
    cases h
theorem zc2_nI {b : Nat} (h : b < 2 ^ 31) : zc2 (nI b) = nI (b / 4) := by
  rw [fa_eq, zc2_int, nI_toInt h, nI_toInt (by omega)]
  omega
theorem zc2_of {c : Int32} {m : Nat} (hm : m < 4) (h : zc2 c = nI m) : ∃ b, b < 16 ∧ c = nI b ∧ b / 4 = m := by
  have h1 := (fa_eq _ _).mp h
  rw [zc2_int, nI_toInt (by omega)] at h1
  refine ⟨c.toInt.toNat, by omega, ?_, by omega⟩
  rw [fa_eq, nI_toInt (by omega)]
  omega
theorem zdn : ∀ b, b < 16 → ((nI b / 2 - nI b / 2 / 2 * 2 = 1) ↔ ¬ nI b &&& 2 = 0) := by decide +kernel
theorem zfs : ∀ b, b < 16 → ((nI b - nI b / 2 * 2 = 1) ↔ ¬ nI b &&& 1 = 0) := by decide +kernel
/-- what the codes before k tell -/
def zpre (n : Nat) (cs : List Int32) (k U : Nat) (bs : List Nat) : Prop := bs.length = k ∧ cs.take k = bs.map nI ∧ (∀ b ∈ bs, b < 4 * n) ∧ ∀ M, U.testBit M = bs.any (fun b => decide (b / 4 = M))
theorem zpre.at {n : Nat} {cs : List Int32} {k U : Nat} {bs : List Nat} (h : zpre n cs k U bs) {o : Nat} (ho : o < k) : cs[o]? = some (nI (bs.getD o 0)) ∧ bs.getD o 0 < 4 * n := by
  obtain ⟨h1, h2, h3, -⟩ := h
  have hg := gD 0 (show o < bs.length by omega)
  refine ⟨?_, h3 _ (List.mem_of_getElem? hg)⟩
  have : (cs.take k)[o]? = some (nI (bs.getD o 0)) := by rw [h2, List.getElem?_map, hg]; rfl
  rwa [List.getElem?_take_of_lt ho] at this
theorem zlo_m1 {n : Nat} {cs : List Int32} {l u o : Int32} : zlo n (-1 :: cs) l u o = zlo n cs l u 1 := by rw [zlo, if_pos rfl]
theorem zlo_bad {n : Nat} {c : Int32} {cs : List Int32} {l u o : Int32} (h : c ≠ -1) (hb : ¬ o = 0 ∨ zc2 c < 0 ∨ nI n ≤ zc2 c ∨ ¬ (u >>> ((zc2 c) &&& 31)) &&& 1 = 0) : zlo n (c :: cs) l u o = 0 := by rw [zlo, if_neg h, if_pos hb]
theorem zlo_ok {n : Nat} {b l U : Nat} {cs : List Int32} {o : Int32} (ho : o = 0) (hn : n ≤ 4) (hb : b < 4 * n) (hU : U < 16) (hf : U.testBit (b / 4) = false) : zlo n (nI b :: cs) (nI l) (nI U) o = zlo n cs (nI (l + 1)) (nI (U ||| 2 ^ (b / 4))) o := by
  have e := zc2_nI (b := b) (by omega)
  have e' : nI b >>> (2 &&& 31) = nI (b / 4) := e
  have hne : nI b ≠ -1 := nI_byte (by omega)
  rw [zlo, if_neg hne, e', if_neg, nI_1, zbit_s U hU _ (by omega)]
  rintro (g | g | g | g)
  · exact g ho
  · exact nI_pos (by omega) g
  · exact nI_ge (by omega) (by omega) g
  · exact g ((zbit_t U hU _ (by omega)).mpr hf)
set_option maxRecDepth 20000 in
set_option maxHeartbeats 4000000 in
theorem n_turnMany {E : zE} {S : zM} {n : Nat} {x1 x2 x3 x4 : Int32} (hM : zMs S) (hn6 : zgI S 123 6 = nI n) (hn : n ≤ 4) (hce : ∀ i x, [x1, x2, x3, x4][i]? = some x → zgI S 159 i = x) : zSp E 1 0 0 mX12_turnMany cX12_turnMany [zR 123] S (fun r T => S = T ∧ r = some (zI (if zlo n [x1, x2, x3, x4] 0 0 0 = 0 then -1 else zlo n [x1, x2, x3, x4] 0 0 0))) := by
  refine zSp.of (by decide) rfl (Nat.le_of_ble_eq_true rfl) rfl ?_
  have lp : ∀ (m k l U : Nat) (o : Int32) (y : Option zV), k + m = 4 → zlo n [x1, x2, x3, x4] 0 0 0 = zlo n ([x1, x2, x3, x4].drop k) (nI l) (nI U) o → U < 16 → l ≤ k → (l = k → o = 0 ∧ ∃ bs, zpre n [x1, x2, x3, x4] k U bs) → (l ≠ k → o = 1) → zJ E 1 0 0 mX12_turnMany cX12_turnMany 4 [some (zR 123), some (zI (nI l)), some (zI (nI k)), y] [] S (fun r T => S = T ∧ r = some (zI (if zlo n [x1, x2, x3, x4] 0 0 0 = 0 then -1 else zlo n [x1, x2, x3, x4] 0 0 0))) := by
    intro m
    induction m with
    | zero =>
      intro k l U o y hk hq hU hl hbs hno1
      have ek : k = 4 := by omega
      subst ek
      refine j_iload_n (pc := 4) dX12_turnMany_4 rfl ?_
      refine j_iconst (pc := 5) (v := 4) dX12_turnMany_5 (by decide) ?_
      refine j_icmp_ge (pc := 6) (tgt := 95) dX12_turnMany_6 (by decide) (fun h6 => ?_) (fun h6 => absurd (nI_le (a := 4) (Nat.le_refl _) (by decide)) h6)
      refine j_iload_n (pc := 95) dX12_turnMany_95 rfl ?_
      refine j_if_ne (pc := 96) (tgt := 103) dX12_turnMany_96 (by decide) (fun h96 => ?_) (fun h96 => ?_)
      · refine j_iload_n (pc := 103) dX12_turnMany_103 rfl ?_
        refine j_iret (pc := 104) dX12_turnMany_104 rfl ?_
        have e : zlo n [x1, x2, x3, x4] 0 0 0 = nI l := hq
        exact ⟨rfl, by rw [e, if_neg h96]⟩
      · refine j_iconst (pc := 99) (v := (-1)) dX12_turnMany_99 (by decide) ?_
        refine j_goto (pc := 100) (tgt := 104) dX12_turnMany_100 (by decide) ?_
        refine j_iret (pc := 104) dX12_turnMany_104 rfl ?_
        have e : zlo n [x1, x2, x3, x4] 0 0 0 = nI l := hq
        exact ⟨rfl, by rw [e, if_pos h96]⟩
    | succ m ih =>
      intro k l U o y hk hq hU hl hbs hno1
      obtain ⟨x, hx⟩ : ∃ x, [x1, x2, x3, x4][k]? = some x := ⟨_, List.getElem?_eq_getElem (by show k < 4; omega)⟩
      have hdr : [x1, x2, x3, x4].drop k = x :: [x1, x2, x3, x4].drop (k + 1) := by rw [List.drop_eq_getElem_cons (by show k < 4; omega), (List.getElem?_eq_some_iff.mp hx).2]
      refine j_iload_n (pc := 4) dX12_turnMany_4 rfl ?_
      refine j_iconst (pc := 5) (v := 4) dX12_turnMany_5 (by decide) ?_
      refine j_icmp_ge (pc := 6) (tgt := 95) dX12_turnMany_6 (by decide) (fun h6 => absurd h6 (nI_ge (b := 4) (by omega) (by decide))) (fun h6 => ?_)
      refine j_aload_n (pc := 9) dX12_turnMany_9 rfl ?_
      refine j_getPv (pc := 10) dX12_turnMany_10 f_X12_123 (Or.inr ⟨_, rfl⟩) hM.1 (mp_turns hM) ?_
      refine j_iload_n (pc := 13) dX12_turnMany_13 rfl ?_
      refine j_ialdn (pc := 14) dX12_turnMany_14 (mk_turns hM) (by omega) (Nat.le_of_ble_eq_true rfl) (hce k x hx) ?_
      refine j_iconst (pc := 15) (v := (-1)) dX12_turnMany_15 (by decide) ?_
      refine j_icmp_ne (pc := 16) (tgt := 22) dX12_turnMany_16 (by decide) (fun h16 => ?_) (fun h16 => ?_)
      · refine j_iload_n (pc := 22) dX12_turnMany_22 rfl ?_
        refine j_iload_n (pc := 23) dX12_turnMany_23 rfl ?_
        refine j_icmp_ne (pc := 24) (tgt := 50) dX12_turnMany_24 (by decide) (fun h24 => ?_) (fun h24 => ?_)
        · refine j_iconst (pc := 50) (v := (-1)) dX12_turnMany_50 (by decide) ?_
          refine j_iret (pc := 51) dX12_turnMany_51 rfl ?_
          have hl : l ≠ k := fun g => h24 (by rw [g])
          have e : zlo n [x1, x2, x3, x4] 0 0 0 = 0 := by
            rw [hq, hdr]
            exact zlo_bad h16 (Or.inl (by rw [hno1 hl]; decide))
          exact ⟨rfl, by rw [e, if_pos rfl]⟩
        · have elk : l = k := (nI_eq (by omega) (by omega)).mp h24
          refine j_aload_n (pc := 27) dX12_turnMany_27 rfl ?_
          refine j_getPv (pc := 28) dX12_turnMany_28 f_X12_123 (Or.inr ⟨_, rfl⟩) hM.1 (mp_turns hM) ?_
          refine j_iload_n (pc := 31) dX12_turnMany_31 rfl ?_
          refine j_ialdn (pc := 32) dX12_turnMany_32 (mk_turns hM) (by omega) (Nat.le_of_ble_eq_true rfl) (hce k x hx) ?_
          refine j_i2l (pc := 33) dX12_turnMany_33 ?_
          refine j_lconst (pc := 34) (v := 0) dX12_turnMany_34 (by decide) ?_
          refine j_iconst (pc := 35) (v := 4) dX12_turnMany_35 (by decide) ?_
          refine j_aload_n (pc := 36) dX12_turnMany_36 rfl ?_
          refine j_getIv (pc := 37) dX12_turnMany_37 f_X12_271 (Or.inl rfl) hM.1 (hn6) ?_
          refine j_imul (pc := 40) dX12_turnMany_40 ?_
          rw [show (4 : Int32) * nI n = nI (4 * n) from pk_mul 4 _]
          refine j_iconst (pc := 41) (v := 1) dX12_turnMany_41 (by decide) ?_
          refine j_isub (pc := 42) dX12_turnMany_42 ?_
          refine j_i2l (pc := 43) dX12_turnMany_43 ?_
          refine j_callS (pc := 44) (n_in _ _ _) dX12_turnMany_44 l_X12_159 mk_X12_in ms_X12_in (by decide) rfl rfl (Nat.le_of_ble_eq_true rfl) (Nat.le_refl _) (Nat.le_refl _) (fun r T h_1 => ?_)
          obtain ⟨rfl, rfl⟩ := h_1
          rw [zin_col (by omega)]
          refine j_if_ne (pc := 47) (tgt := 52) dX12_turnMany_47 (by decide) (fun h47 => ?_) (fun h47 => ?_)
          · refine j_iconst (pc := 52) (v := 0) dX12_turnMany_52 (by decide) ?_
            refine j_istore_n (pc := 53) (ls' := [_, _, _, _]) dX12_turnMany_53 (by decide) rfl rfl ?_
            have hb0 := zbi_ne0 h47
            obtain ⟨b, hb, rfl⟩ := zcl2_t (by omega) hb0
            subst elk
            have hne1 : nI b ≠ -1 := h16
            obtain ⟨ho0, bs, hpre⟩ := hbs rfl
            have lp2 : ∀ (m2 o' : Nat), o' + m2 = l → (∀ q, q < o' → ¬ bs.getD q 0 / 4 = b / 4) → zJ E 1 0 0 mX12_turnMany cX12_turnMany 54 [some (zR 123), some (zI (nI l)), some (zI (nI l)), some (zI (nI o'))] [] S (fun r T => S = T ∧ r = some (zI (if zlo n [x1, x2, x3, x4] 0 0 0 = 0 then -1 else zlo n [x1, x2, x3, x4] 0 0 0))) := by
              intro m2
              induction m2 with
              | zero =>
                intro o' ho' hno
                have eo : l = o' := by omega
                subst eo
                refine j_iload_n (pc := 54) dX12_turnMany_54 rfl ?_
                refine j_iload_n (pc := 55) dX12_turnMany_55 rfl ?_
                refine j_icmp_ge (pc := 56) (tgt := 86) dX12_turnMany_56 (by decide) (fun h56 => ?_) (fun h56 => absurd (nI_le (Nat.le_refl _) (by omega)) h56)
                refine j_iinc (pc := 86) (v := _ + 1) (ls' := [_, _, _, _]) dX12_turnMany_86 rfl rfl (by decide) rfl rfl ?_
                refine j_iinc (pc := 89) (v := _ + 1) (ls' := [_, _, _, _]) dX12_turnMany_89 rfl rfl (by decide) rfl rfl ?_
                refine j_goto (pc := 92) (tgt := 4) dX12_turnMany_92 (by decide) ?_
                rw [nI_1]
                have hf : U.testBit (b / 4) = false := by
                  rw [hpre.2.2.2]
                  refine List.any_eq_false.mpr (fun b' hb' => ?_)
                  obtain ⟨o, ho⟩ := List.getElem?_of_mem hb'
                  have ho2 := (List.getElem?_eq_some_iff.mp ho).1
                  have := hno o (by have := hpre.1; omega)
                  rw [List.getD_eq_getElem?_getD, ho] at this
                  simpa using this
                refine ih (l + 1) (l + 1) (U ||| 2 ^ (b / 4)) o _ (by omega) ?_ (zbit_l U hU _ (by omega)) (Nat.le_refl _) (fun _ => ⟨ho0, bs ++ [b], ?_⟩) (fun g => absurd rfl g)
                · rw [hq, hdr, zlo_ok ho0 hn hb hU hf]
                · obtain ⟨p1, p2, p3, p4⟩ := hpre
                  refine ⟨by rw [List.length_append, p1]; rfl, ?_, fun b' hb' => ?_, fun M => ?_⟩
                  · rw [List.take_add_one, hx, p2, List.map_append]
                    rfl
                  · rcases List.mem_append.mp hb' with g | g
                    · exact p3 b' g
                    · rw [List.mem_singleton.mp g]
                      exact hb
                  · rw [fb_bit_set, p4 M, List.any_append]
                    simp [eq_comm]
              | succ m2 ih2 =>
                intro o' ho' hno
                refine j_iload_n (pc := 54) dX12_turnMany_54 rfl ?_
                refine j_iload_n (pc := 55) dX12_turnMany_55 rfl ?_
                refine j_icmp_ge (pc := 56) (tgt := 86) dX12_turnMany_56 (by decide) (fun h56 => absurd h56 (nI_ge (by omega) (by omega))) (fun h56 => ?_)
                refine j_aload_n (pc := 59) dX12_turnMany_59 rfl ?_
                refine j_getPv (pc := 60) dX12_turnMany_60 f_X12_123 (Or.inr ⟨_, rfl⟩) hM.1 (mp_turns hM) ?_
                refine j_iload_n (pc := 63) dX12_turnMany_63 rfl ?_
                refine j_ialdn (pc := 64) dX12_turnMany_64 (mk_turns hM) (by omega) (Nat.le_of_ble_eq_true rfl) (hce o' _ (hpre.at (by omega)).1) ?_
                refine j_iconst (pc := 65) (v := 4) dX12_turnMany_65 (by decide) ?_
                refine j_idiv (pc := 66) dX12_turnMany_66 (by decide) ?_
                rw [show nI (bs.getD o' 0) / 4 = nI (bs.getD o' 0 / 4) from pk_div (d := 4) (by have := (hpre.at (show o' < l by omega)).2; omega) (by decide) (by decide)]
                refine j_aload_n (pc := 67) dX12_turnMany_67 rfl ?_
                refine j_getPv (pc := 68) dX12_turnMany_68 f_X12_123 (Or.inr ⟨_, rfl⟩) hM.1 (mp_turns hM) ?_
                refine j_iload_n (pc := 71) dX12_turnMany_71 rfl ?_
                refine j_ialdn (pc := 72) dX12_turnMany_72 (mk_turns hM) (by omega) (Nat.le_of_ble_eq_true rfl) (hce l _ hx) ?_
                refine j_iconst (pc := 73) (v := 4) dX12_turnMany_73 (by decide) ?_
                refine j_idiv (pc := 74) dX12_turnMany_74 (by decide) ?_
                rw [show nI b / 4 = nI (b / 4) from pk_div (d := 4) (by omega) (by decide) (by decide)]
                refine j_icmp_ne (pc := 75) (tgt := 80) dX12_turnMany_75 (by decide) (fun h75 => ?_) (fun h75 => ?_)
                · refine j_iinc (pc := 80) (v := _ + 1) (ls' := [_, _, _, _]) dX12_turnMany_80 rfl rfl (by decide) rfl rfl ?_
                  refine j_goto (pc := 83) (tgt := 54) dX12_turnMany_83 (by decide) ?_
                  rw [nI_1]
                  refine ih2 (o' + 1) (by omega) (fun q hq' => ?_)
                  by_cases e : q = o'
                  · subst e
                    intro g
                    exact h75 (by rw [g])
                  · exact hno q (by omega)
                · refine j_iconst (pc := 78) (v := (-1)) dX12_turnMany_78 (by decide) ?_
                  refine j_iret (pc := 79) dX12_turnMany_79 rfl ?_
                  have hlt := (hpre.at (show o' < l by omega)).2
                  have e4 : bs.getD o' 0 / 4 = b / 4 := (nI_eq (by omega) (by omega)).mp h75
                  have hf : U.testBit (b / 4) = true := by
                    rw [hpre.2.2.2]
                    exact List.any_eq_true.mpr ⟨_, gD_mem (by have := hpre.1; omega), decide_eq_true e4⟩
                  have e : zlo n [x1, x2, x3, x4] 0 0 0 = 0 := by
                    rw [hq, hdr]
                    refine zlo_bad hne1 (Or.inr (Or.inr (Or.inr (fun g => ?_))))
                    rw [zc2_nI (by omega)] at g
                    have := (zbit_t U hU _ (by omega)).mp g
                    rw [hf] at this
                    cases this
                  exact ⟨rfl, by rw [e, if_pos rfl]⟩
            exact lp2 l 0 (by omega) (fun q hq' => absurd hq' (Nat.not_lt_zero q))
          · refine j_iconst (pc := 50) (v := (-1)) dX12_turnMany_50 (by decide) ?_
            refine j_iret (pc := 51) dX12_turnMany_51 rfl ?_
            have e : zlo n [x1, x2, x3, x4] 0 0 0 = 0 := by
              rw [hq, hdr]
              exact zlo_bad h16 (Or.inr ((zc2_bad hn (zbi_eq0.mp h47)).elim Or.inl (fun g => Or.inr (Or.inl g))))
            exact ⟨rfl, by rw [e, if_pos rfl]⟩
      · refine j_goto (pc := 19) (tgt := 89) dX12_turnMany_19 (by decide) ?_
        refine j_iinc (pc := 89) (v := _ + 1) (ls' := [_, _, _, _]) dX12_turnMany_89 rfl rfl (by decide) rfl rfl ?_
        refine j_goto (pc := 92) (tgt := 4) dX12_turnMany_92 (by decide) ?_
        rw [nI_1]
        refine ih (k + 1) l U 1 _ (by omega) ?_ hU (by omega) (fun g => by omega) (fun _ => rfl)
        rw [hq, hdr, h16, zlo_m1]
  refine j_iconst (pc := 0) (v := 0) dX12_turnMany_0 (by decide) ?_
  refine j_istore_n (pc := 1) (ls' := [_, _, _, _]) dX12_turnMany_1 (by decide) rfl rfl ?_
  refine j_iconst (pc := 2) (v := 0) dX12_turnMany_2 (by decide) ?_
  refine j_istore_n (pc := 3) (ls' := [_, _, _, _]) dX12_turnMany_3 (by decide) rfl rfl ?_
  exact lp 4 0 0 0 0 none (by omega) rfl (by decide) (Nat.le_refl _) (fun _ => ⟨rfl, [], rfl, rfl, fun b hb => absurd hb List.not_mem_nil, fun M => by simp⟩) (fun g => absurd rfl g)
set_option maxRecDepth 20000 in
set_option maxHeartbeats 4000000 in
theorem m_turn {E : zE} {S : zM} {s : zST} {n : Nat} (h : zMO S s) (hw : zWF n s) (x1 x2 x3 x4 : Int32) : zSp E 2 0 0 mX12_turn cX12_turn [zR 123, zI x1, zI x2, zI x3, zI x4] S (fun r T => r = some (zI (q_turn s x1 x2 x3 x4).1) ∧ zMO T (q_turn s x1 x2 x3 x4).2 ∧ zF zMX S T) := by
  refine zSp.of (by decide) rfl (Nat.le_of_ble_eq_true rfl) rfl ?_
  have hM := h.1
  cases ht : sT s with
  | none =>
    have hto : zgI S 123 12 = 0 := by have := h.2.2.2.1.1; rw [ht] at this; exact this
    have e : q_turn s x1 x2 x3 x4 = zrf s 1 := by rw [q_turn, ht]
    refine j_aload_n (pc := 0) dX12_turn_0 rfl ?_
    refine j_aload_n (pc := 1) dX12_turn_1 rfl ?_
    refine j_getIv (pc := 2) dX12_turn_2 f_X12_296 (Or.inr rfl) hM.1 (hto) ?_
    refine j_callS (pc := 5) (n_unlF) dX12_turn_5 l_X12_312 mk_X12_unless ms_X12_unless (by decide) rfl rfl (Nat.le_of_ble_eq_true rfl) (Nat.le_refl _) (Nat.le_refl _) (fun r T h_1 => ?_)
    obtain ⟨rfl, rfl⟩ := h_1
    refine j_callV (pc := 8) (t := 12) (n_rf1 hM) dX12_turn_8 l_X12_256 mk_X12_isRefused mv_X12_isRefused (by decide) rfl hM.1 (by decide) rfl rfl (Nat.le_of_ble_eq_true rfl) (Nat.le_refl _) (Nat.le_refl _) (fun r T h_1 => ?_)
    obtain ⟨rfl, rfl⟩ := h_1
    refine j_if_eq (pc := 11) (tgt := 16) dX12_turn_11 (by decide) (fun h11 => absurd h11 (by decide)) (fun h11 => ?_)
    refine j_iconst (pc := 14) (v := (-1)) dX12_turn_14 (by decide) ?_
    refine j_iret (pc := 15) dX12_turn_15 rfl ?_
    exact m_ref h (n := 1) (by decide) e
  | some t =>
    have hto : zgI S 123 12 = 1 := by have := h.2.2.2.1.1; rw [ht] at this; exact this
    have hv := hw.v ht
    refine j_aload_n (pc := 0) dX12_turn_0 rfl ?_
    refine j_aload_n (pc := 1) dX12_turn_1 rfl ?_
    refine j_getIv (pc := 2) dX12_turn_2 f_X12_296 (Or.inr rfl) hM.1 (hto) ?_
    refine j_callS (pc := 5) (n_unlT) dX12_turn_5 l_X12_312 mk_X12_unless ms_X12_unless (by decide) rfl rfl (Nat.le_of_ble_eq_true rfl) (Nat.le_refl _) (Nat.le_refl _) (fun r T h_1 => ?_)
    obtain ⟨rfl, rfl⟩ := h_1
    refine j_callV (pc := 8) (t := 12) (n_ok hM) dX12_turn_8 l_X12_256 mk_X12_isRefused mv_X12_isRefused (by decide) rfl hM.1 (by decide) rfl rfl (Nat.le_of_ble_eq_true rfl) (Nat.le_refl _) (Nat.le_refl _) (fun r T h_1 => ?_)
    obtain ⟨rfl, rfl⟩ := h_1
    refine j_if_eq (pc := 11) (tgt := 16) dX12_turn_11 (by decide) (fun h11 => ?_) (fun h11 => absurd rfl h11)
    refine j_aload_n (pc := 16) dX12_turn_16 rfl ?_
    refine j_getPv (pc := 17) dX12_turn_17 f_X12_123 (Or.inr ⟨_, rfl⟩) hM.1 (mp_turns hM) ?_
    refine j_iconst (pc := 20) (v := 0) dX12_turn_20 (by decide) ?_
    refine j_iload_n (pc := 21) dX12_turn_21 rfl ?_
    refine j_iastn (i := 0) (pc := 22) dX12_turn_22 (mk_turns hM) (by decide) (Nat.le_of_ble_eq_true rfl) ?_
    refine j_aload_n (pc := 23) dX12_turn_23 rfl ?_
    refine j_getPv (pc := 24) dX12_turn_24 f_X12_123 (Or.inr ⟨_, rfl⟩) hM.1 (mp_turns hM) ?_
    refine j_iconst (pc := 27) (v := 1) dX12_turn_27 (by decide) ?_
    refine j_iload_n (pc := 28) dX12_turn_28 rfl ?_
    refine j_iastn (i := 1) (pc := 29) dX12_turn_29 (mk_turns hM) (by decide) (Nat.le_of_ble_eq_true rfl) ?_
    refine j_aload_n (pc := 30) dX12_turn_30 rfl ?_
    refine j_getPv (pc := 31) dX12_turn_31 f_X12_123 (Or.inr ⟨_, rfl⟩) hM.1 (mp_turns hM) ?_
    refine j_iconst (pc := 34) (v := 2) dX12_turn_34 (by decide) ?_
    refine j_iload_n (pc := 35) dX12_turn_35 rfl ?_
    refine j_iastn (i := 2) (pc := 36) dX12_turn_36 (mk_turns hM) (by decide) (Nat.le_of_ble_eq_true rfl) ?_
    refine j_aload_n (pc := 37) dX12_turn_37 rfl ?_
    refine j_getPv (pc := 38) dX12_turn_38 f_X12_123 (Or.inr ⟨_, rfl⟩) hM.1 (mp_turns hM) ?_
    refine j_iconst (pc := 41) (v := 3) dX12_turn_41 (by decide) ?_
    refine j_iload (pc := 42) dX12_turn_42 rfl ?_
    refine j_iastn (i := 3) (pc := 44) dX12_turn_44 (mk_turns hM) (by decide) (Nat.le_of_ble_eq_true rfl) ?_
    refine j_aload_n (pc := 45) dX12_turn_45 rfl ?_
    refine j_callV (pc := 46) (t := 12) (n_turnMany (n := (tK t).length) (x1 := x1) (x2 := x2) (x3 := x3) (x4 := x4) (by exact hM) (by exact (h.2.2.2.2.1 t ht).1.1.1) hv.2.2.1 (fun i x hx => by match i, hx with | 0, hx => cases hx; rfl | 1, hx => cases hx; rfl | 2, hx => cases hx; rfl | 3, hx => cases hx; rfl | i + 4, hx => cases hx)) dX12_turn_46 l_X12_458 mk_X12_turnMany mv_X12_turnMany (by decide) rfl hM.1 (by decide) rfl rfl (Nat.le_of_ble_eq_true rfl) (Nat.le_refl _) (Nat.le_refl _) (fun r T h_1 => ?_)
    obtain ⟨rfl, rfl⟩ := h_1
    refine j_istore (pc := 49) (ls' := [_, _, _, _, _, _, _]) dX12_turn_49 (by decide) rfl rfl ?_
    refine j_iload (pc := 51) dX12_turn_51 rfl ?_
    refine j_iconst (pc := 53) (v := (-1)) dX12_turn_53 (by decide) ?_
    refine j_icmp_ne (pc := 54) (tgt := 63) dX12_turn_54 (by decide) (fun h54 => ?_) (fun h54 => ?_)
    · have hne : ¬ zlo (tK t).length [x1, x2, x3, x4] 0 0 0 = 0 := fun q => h54 (by rw [if_pos q])
      rw [if_neg hne]
      obtain ⟨k, ms, z1, ek, -, z4, z5, z6, z7, z8⟩ := (zlo_sp hv.2.2.1 [x1, x2, x3, x4] 0 0 0 (by decide)).resolve_left hne
      rw [Nat.zero_add] at ek
      have ek : zlo (tK t).length [x1, x2, x3, x4] 0 0 0 = nI k := ek
      have hk4 : k ≤ 4 := z1
      have hk0 : k ≠ 0 := fun q => hne (by rw [ek, q]; rfl)
      rw [ek]
      refine j_aload_n (pc := 63) dX12_turn_63 rfl ?_
      refine j_iload (pc := 64) dX12_turn_64 rfl ?_
      refine j_putI (pc := 66) dX12_turn_66 f_X12_274 rfl hM.1 rfl ?_
      refine j_iconst (pc := 69) (v := 0) dX12_turn_69 (by decide) ?_
      refine j_istore (pc := 70) (ls' := [_, _, _, _, _, _, _]) dX12_turn_70 (by decide) rfl rfl ?_
      have lp : ∀ (m i : Nat) (T : zM), i + m = k → zK (fun c k => (126 ≤ c ∧ c ≤ 128) ∨ (c = 123 ∧ k = 8)) (zwI (zwI (zwI (zwI (zNw S 0) 159 0 x1) 159 1 x2) 159 2 x3) 159 3 x4) T → zgI T 123 8 = nI k → (∀ q e, (ztO (tK t) ([x1, x2, x3, x4].take i))[q]? = some e → zgI T 126 q = nI e.1 ∧ zgI T 127 q = zbi e.2.2.1 ∧ zgI T 128 q = zbi e.2.2.2) → zJ E 2 0 0 mX12_turn cX12_turn 72 [some (zR 123), some (zI x1), some (zI x2), some (zI x3), some (zI x4), some (zI (nI k)), some (zI (nI i))] [] T (fun r T => r = some (zI (q_turn s x1 x2 x3 x4).1) ∧ zMO T (q_turn s x1 x2 x3 x4).2 ∧ zF zMX S T) := by
        intro m
        induction m with
        | zero =>
          intro i T hi hk h8 hO
          have ei : i = k := by omega
          subst ei
          have hMT := hk.ms (by exact hM)
          have e30 : zgI T 123 30 = nI (tn t) := (hk.2.2.2.1 123 30 (by omega)).trans (h.2.2.2.2.1 t ht).1.2.2.2.1.2.1
          refine j_iload (pc := 72) dX12_turn_72 rfl ?_
          refine j_iload (pc := 74) dX12_turn_74 rfl ?_
          refine j_icmp_ge (pc := 76) (tgt := 153) dX12_turn_76 (by decide) (fun h76 => ?_) (fun h76 => absurd (nI_le (Nat.le_refl _) (by omega)) h76)
          refine j_aload_n (pc := 153) dX12_turn_153 rfl ?_
          refine j_callV (pc := 154) (t := 12) (n_turned (u := tn t) hMT e30) dX12_turn_154 l_X12_382 mk_X12_turned mv_X12_turned (by decide) rfl hMT.1 (by decide) rfl rfl (Nat.le_of_ble_eq_true rfl) (Nat.le_refl _) (Nat.le_refl _) (fun r Tz h_1 => ?_)
          obtain ⟨rfl, f1, g1, z1⟩ := h_1
          refine j_iload (pc := 157) dX12_turn_157 rfl ?_
          refine j_iret (pc := 159) dX12_turn_159 rfl ?_
          have f4 : zK (fun c k => c = 159 ∨ (126 ≤ c ∧ c ≤ 128) ∨ (c = 123 ∧ (k = 0 ∨ k = 1 ∨ k = 3 ∨ k = 8))) S T := ((((((((zK.wI (by omega)).tr (zK.wI (by omega))).tr (zK.wI (by omega))).tr (zK.wI (by omega))).tr (zK.wI (by omega))).tr (zK.wI (by omega))).tr (zK.wI (by omega))).tr (hk.mo (fun c k z => by omega)))
          have f2 : zK (fun c k => c = 159 ∨ (126 ≤ c ∧ c ≤ 128) ∨ c = 151 ∨ (c = 123 ∧ (k = 0 ∨ k = 1 ∨ k = 3 ∨ k = 8 ∨ k = 30))) S Tz := (f4.mo (fun c k z => by omega)).tr (f1.mo (fun c k z => by omega))
          have ez : q_turn s x1 x2 x3 x4 = (nI i, zturn s t (ztO (tK t) ([x1, x2, x3, x4].take i)) (tV t)) := by
            simp only [q_turn, ht]
            rw [ek, if_neg (fun (q : nI i = 0) => hk0 ((nI_eq (b := 0) (by omega) (by decide)).mp q))]
            simp only [zn, nI_clamp (show i < 2 ^ 31 by omega)]
          rw [ez]
          have hOT : mO T (ztO (tK t) ([x1, x2, x3, x4].take i)) := ⟨h8.trans (by rw [ztO, List.length_map, List.length_take, Nat.min_eq_left (by show i ≤ 4; omega)]), hO⟩
          exact ⟨rfl, h.turn ht f2 (fun c k z => by unfold zXs; omega) ((f1.2.2.2.1 123 1 (by omega)).trans (hk.2.2.2.1 123 1 (by omega))) (hOT.k f1 (by omega) (fun c k _ _ => by omega)) ((h.2.2.2.2.1 t ht).1.2.2.1.k f2 (by omega) (fun c k _ _ => by omega)) g1 z1, f2.f (fun c k z => by unfold zMX; omega)⟩
        | succ m ih =>
          intro i T hi hk h8 hO
          have hMT := hk.ms (by exact hM)
          obtain ⟨x, hx⟩ : ∃ x, [x1, x2, x3, x4][i]? = some x := ⟨_, List.getElem?_eq_getElem (by show i < 4; omega)⟩
          obtain ⟨m, hm, em⟩ : ∃ m, m < (tK t).length ∧ zc2 x = nI m := by
            have hxm : zc2 x ∈ ([x1, x2, x3, x4].take k).map zc2 := List.mem_map_of_mem (List.mem_of_getElem? (i := i) (by rw [List.getElem?_take_of_lt (by omega)]; exact hx))
            rw [z6] at hxm
            obtain ⟨m, hm, e⟩ := List.mem_map.mp hxm
            exact ⟨m, (z5 m hm).1, e.symm⟩
          obtain ⟨b, hb, rfl, eb4⟩ := zc2_of (by omega) em
          have hxT : zgI T 159 i = nI b := (hk.2.2.2.1 159 i (by omega)).trans (by match i, hx with | 0, hx => cases hx; rfl | 1, hx => cases hx; rfl | 2, hx => cases hx; rfl | 3, hx => cases hx; rfl | i + 4, hx => cases hx)
          refine j_iload (pc := 72) dX12_turn_72 rfl ?_
          refine j_iload (pc := 74) dX12_turn_74 rfl ?_
          refine j_icmp_ge (pc := 76) (tgt := 153) dX12_turn_76 (by decide) (fun h76 => absurd h76 (nI_ge (by omega) (by omega))) (fun h76 => ?_)
          refine j_aload_n (pc := 79) dX12_turn_79 rfl ?_
          refine j_getPv (pc := 80) dX12_turn_80 f_X12_23 (Or.inr ⟨_, rfl⟩) hMT.1 (mp_order hMT) ?_
          refine j_iload (pc := 83) dX12_turn_83 rfl ?_
          refine j_aload_n (pc := 85) dX12_turn_85 rfl ?_
          refine j_getPv (pc := 86) dX12_turn_86 f_X12_123 (Or.inr ⟨_, rfl⟩) hMT.1 (mp_turns hMT) ?_
          refine j_iload (pc := 89) dX12_turn_89 rfl ?_
          refine j_ialdn (pc := 91) dX12_turn_91 (mk_turns hMT) (by omega) (Nat.le_of_ble_eq_true rfl) (hxT) ?_
          refine j_iconst (pc := 92) (v := 4) dX12_turn_92 (by decide) ?_
          refine j_idiv (pc := 93) dX12_turn_93 (by decide) ?_
          rw [show nI b / 4 = nI (b / 4) from pk_div (d := 4) (by omega) (by decide) (by decide), eb4]
          refine j_iastn (pc := 94) dX12_turn_94 (mk_order hMT) (by omega) (Nat.le_of_ble_eq_true rfl) ?_
          refine j_aload_n (pc := 95) dX12_turn_95 rfl ?_
          refine j_getPv (pc := 96) dX12_turn_96 f_X12_26 (Or.inr ⟨_, rfl⟩) hMT.1 (mp_isDown hMT) ?_
          refine j_iload (pc := 99) dX12_turn_99 rfl ?_
          refine j_aload_n (pc := 101) dX12_turn_101 rfl ?_
          refine j_getPv (pc := 102) dX12_turn_102 f_X12_123 (Or.inr ⟨_, rfl⟩) hMT.1 (mp_turns hMT) ?_
          refine j_iload (pc := 105) dX12_turn_105 rfl ?_
          refine j_ialdn (pc := 107) dX12_turn_107 (mk_turns hMT) (by omega) (Nat.le_of_ble_eq_true rfl) ((zgI_ne (by decide)).trans hxT) ?_
          refine j_iconst (pc := 108) (v := 2) dX12_turn_108 (by decide) ?_
          refine j_idiv (pc := 109) dX12_turn_109 (by decide) ?_
          refine j_iconst (pc := 110) (v := 2) dX12_turn_110 (by decide) ?_
          refine j_irem (pc := 111) dX12_turn_111 (by decide) ?_
          refine j_iconst (pc := 112) (v := 1) dX12_turn_112 (by decide) ?_
          refine j_icmp_ne (pc := 113) (tgt := 120) dX12_turn_113 (by decide) (fun h113 => ?_) (fun h113 => ?_)
          · refine j_iconst (pc := 120) (v := 0) dX12_turn_120 (by decide) ?_
            refine j_zastn (pc := 121) dX12_turn_121 (mk_isDown hMT) (by omega) (Nat.le_of_ble_eq_true rfl) (by first | assumption | decide) ?_
            refine j_aload_n (pc := 122) dX12_turn_122 rfl ?_
            refine j_getPv (pc := 123) dX12_turn_123 f_X12_29 (Or.inr ⟨_, rfl⟩) hMT.1 (mp_isFirst hMT) ?_
            refine j_iload (pc := 126) dX12_turn_126 rfl ?_
            refine j_aload_n (pc := 128) dX12_turn_128 rfl ?_
            refine j_getPv (pc := 129) dX12_turn_129 f_X12_123 (Or.inr ⟨_, rfl⟩) hMT.1 (mp_turns hMT) ?_
            refine j_iload (pc := 132) dX12_turn_132 rfl ?_
            refine j_ialdn (pc := 134) dX12_turn_134 (mk_turns hMT) (by omega) (Nat.le_of_ble_eq_true rfl) ((zgI_ne (by decide)).trans ((zgI_ne (by decide)).trans hxT)) ?_
            refine j_iconst (pc := 135) (v := 2) dX12_turn_135 (by decide) ?_
            refine j_irem (pc := 136) dX12_turn_136 (by decide) ?_
            refine j_iconst (pc := 137) (v := 1) dX12_turn_137 (by decide) ?_
            refine j_icmp_ne (pc := 138) (tgt := 145) dX12_turn_138 (by decide) (fun h138 => ?_) (fun h138 => ?_)
            · refine j_iconst (pc := 145) (v := 0) dX12_turn_145 (by decide) ?_
              refine j_zastn (pc := 146) dX12_turn_146 (mk_isFirst hMT) (by omega) (Nat.le_of_ble_eq_true rfl) (by first | assumption | decide) ?_
              refine j_iinc (pc := 147) (v := _ + 1) (ls' := [_, _, _, _, _, _, _]) dX12_turn_147 rfl rfl (by decide) rfl rfl ?_
              refine j_goto (pc := 150) (tgt := 72) dX12_turn_150 (by decide) ?_
              rw [nI_1]
              refine ih (i + 1) _ (by omega) (hk.tr (((zK.wI (by omega)).tr (zK.wI (by omega))).tr (zK.wI (by omega)))) ((zgI_ne (by decide)).trans ((zgI_ne (by decide)).trans ((zgI_ne (by decide)).trans h8))) (fun q e he => ?_)
              rw [ztO_1 hx, em, zn, nI_clamp (by omega)] at he
              by_cases g : q = i
              · subst g
                have hl : (ztO (tK t) ([x1, x2, x3, x4].take q)).length = q := by rw [ztO, List.length_map, List.length_take]; exact Nat.min_eq_left (by show q ≤ 4; omega)
                rw [List.getElem?_append_right (by omega), hl, Nat.sub_self] at he
                cases he
                refine ⟨(zgI_ne (by decide)).trans ((zgI_ne (by decide)).trans zgI_self), (zgI_ne (by decide)).trans (zgI_self.trans ?_), zgI_self.trans ?_⟩
                · show (0 : Int32) = zbi (decide (¬ nI b &&& 2 = 0)); rw [decide_eq_false (fun z => h113 ((zdn b hb).mpr z))]; rfl
                · show (0 : Int32) = zbi (decide (¬ nI b &&& 1 = 0)); rw [decide_eq_false (fun z => h138 ((zfs b hb).mpr z))]; rfl
              · have hl : (ztO (tK t) ([x1, x2, x3, x4].take i)).length = i := by rw [ztO, List.length_map, List.length_take]; exact Nat.min_eq_left (by show i ≤ 4; omega)
                have hq2 := (List.getElem?_eq_some_iff.mp he).1
                simp only [List.length_append, List.length_cons, List.length_nil, hl] at hq2
                rw [List.getElem?_append_left (by omega)] at he
                obtain ⟨b1, b2, b3⟩ := hO q e he
                exact ⟨(zgI_ne (by decide)).trans ((zgI_ne (by decide)).trans ((zgI_nk g).trans b1)), (zgI_ne (by decide)).trans ((zgI_nk g).trans ((zgI_ne (by decide)).trans b2)), (zgI_nk g).trans ((zgI_ne (by decide)).trans ((zgI_ne (by decide)).trans b3))⟩
            · refine j_iconst (pc := 141) (v := 1) dX12_turn_141 (by decide) ?_
              refine j_goto (pc := 142) (tgt := 146) dX12_turn_142 (by decide) ?_
              refine j_zastn (pc := 146) dX12_turn_146 (mk_isFirst hMT) (by omega) (Nat.le_of_ble_eq_true rfl) (by first | assumption | decide) ?_
              refine j_iinc (pc := 147) (v := _ + 1) (ls' := [_, _, _, _, _, _, _]) dX12_turn_147 rfl rfl (by decide) rfl rfl ?_
              refine j_goto (pc := 150) (tgt := 72) dX12_turn_150 (by decide) ?_
              rw [nI_1]
              refine ih (i + 1) _ (by omega) (hk.tr (((zK.wI (by omega)).tr (zK.wI (by omega))).tr (zK.wI (by omega)))) ((zgI_ne (by decide)).trans ((zgI_ne (by decide)).trans ((zgI_ne (by decide)).trans h8))) (fun q e he => ?_)
              rw [ztO_1 hx, em, zn, nI_clamp (by omega)] at he
              by_cases g : q = i
              · subst g
                have hl : (ztO (tK t) ([x1, x2, x3, x4].take q)).length = q := by rw [ztO, List.length_map, List.length_take]; exact Nat.min_eq_left (by show q ≤ 4; omega)
                rw [List.getElem?_append_right (by omega), hl, Nat.sub_self] at he
                cases he
                refine ⟨(zgI_ne (by decide)).trans ((zgI_ne (by decide)).trans zgI_self), (zgI_ne (by decide)).trans (zgI_self.trans ?_), zgI_self.trans ?_⟩
                · show (0 : Int32) = zbi (decide (¬ nI b &&& 2 = 0)); rw [decide_eq_false (fun z => h113 ((zdn b hb).mpr z))]; rfl
                · show (1 : Int32) = zbi (decide (¬ nI b &&& 1 = 0)); rw [decide_eq_true ((zfs b hb).mp h138)]; rfl
              · have hl : (ztO (tK t) ([x1, x2, x3, x4].take i)).length = i := by rw [ztO, List.length_map, List.length_take]; exact Nat.min_eq_left (by show i ≤ 4; omega)
                have hq2 := (List.getElem?_eq_some_iff.mp he).1
                simp only [List.length_append, List.length_cons, List.length_nil, hl] at hq2
                rw [List.getElem?_append_left (by omega)] at he
                obtain ⟨b1, b2, b3⟩ := hO q e he
                exact ⟨(zgI_ne (by decide)).trans ((zgI_ne (by decide)).trans ((zgI_nk g).trans b1)), (zgI_ne (by decide)).trans ((zgI_nk g).trans ((zgI_ne (by decide)).trans b2)), (zgI_nk g).trans ((zgI_ne (by decide)).trans ((zgI_ne (by decide)).trans b3))⟩
          · refine j_iconst (pc := 116) (v := 1) dX12_turn_116 (by decide) ?_
            refine j_goto (pc := 117) (tgt := 121) dX12_turn_117 (by decide) ?_
            refine j_zastn (pc := 121) dX12_turn_121 (mk_isDown hMT) (by omega) (Nat.le_of_ble_eq_true rfl) (by first | assumption | decide) ?_
            refine j_aload_n (pc := 122) dX12_turn_122 rfl ?_
            refine j_getPv (pc := 123) dX12_turn_123 f_X12_29 (Or.inr ⟨_, rfl⟩) hMT.1 (mp_isFirst hMT) ?_
            refine j_iload (pc := 126) dX12_turn_126 rfl ?_
            refine j_aload_n (pc := 128) dX12_turn_128 rfl ?_
            refine j_getPv (pc := 129) dX12_turn_129 f_X12_123 (Or.inr ⟨_, rfl⟩) hMT.1 (mp_turns hMT) ?_
            refine j_iload (pc := 132) dX12_turn_132 rfl ?_
            refine j_ialdn (pc := 134) dX12_turn_134 (mk_turns hMT) (by omega) (Nat.le_of_ble_eq_true rfl) ((zgI_ne (by decide)).trans ((zgI_ne (by decide)).trans hxT)) ?_
            refine j_iconst (pc := 135) (v := 2) dX12_turn_135 (by decide) ?_
            refine j_irem (pc := 136) dX12_turn_136 (by decide) ?_
            refine j_iconst (pc := 137) (v := 1) dX12_turn_137 (by decide) ?_
            refine j_icmp_ne (pc := 138) (tgt := 145) dX12_turn_138 (by decide) (fun h138 => ?_) (fun h138 => ?_)
            · refine j_iconst (pc := 145) (v := 0) dX12_turn_145 (by decide) ?_
              refine j_zastn (pc := 146) dX12_turn_146 (mk_isFirst hMT) (by omega) (Nat.le_of_ble_eq_true rfl) (by first | assumption | decide) ?_
              refine j_iinc (pc := 147) (v := _ + 1) (ls' := [_, _, _, _, _, _, _]) dX12_turn_147 rfl rfl (by decide) rfl rfl ?_
              refine j_goto (pc := 150) (tgt := 72) dX12_turn_150 (by decide) ?_
              rw [nI_1]
              refine ih (i + 1) _ (by omega) (hk.tr (((zK.wI (by omega)).tr (zK.wI (by omega))).tr (zK.wI (by omega)))) ((zgI_ne (by decide)).trans ((zgI_ne (by decide)).trans ((zgI_ne (by decide)).trans h8))) (fun q e he => ?_)
              rw [ztO_1 hx, em, zn, nI_clamp (by omega)] at he
              by_cases g : q = i
              · subst g
                have hl : (ztO (tK t) ([x1, x2, x3, x4].take q)).length = q := by rw [ztO, List.length_map, List.length_take]; exact Nat.min_eq_left (by show q ≤ 4; omega)
                rw [List.getElem?_append_right (by omega), hl, Nat.sub_self] at he
                cases he
                refine ⟨(zgI_ne (by decide)).trans ((zgI_ne (by decide)).trans zgI_self), (zgI_ne (by decide)).trans (zgI_self.trans ?_), zgI_self.trans ?_⟩
                · show (1 : Int32) = zbi (decide (¬ nI b &&& 2 = 0)); rw [decide_eq_true ((zdn b hb).mp h113)]; rfl
                · show (0 : Int32) = zbi (decide (¬ nI b &&& 1 = 0)); rw [decide_eq_false (fun z => h138 ((zfs b hb).mpr z))]; rfl
              · have hl : (ztO (tK t) ([x1, x2, x3, x4].take i)).length = i := by rw [ztO, List.length_map, List.length_take]; exact Nat.min_eq_left (by show i ≤ 4; omega)
                have hq2 := (List.getElem?_eq_some_iff.mp he).1
                simp only [List.length_append, List.length_cons, List.length_nil, hl] at hq2
                rw [List.getElem?_append_left (by omega)] at he
                obtain ⟨b1, b2, b3⟩ := hO q e he
                exact ⟨(zgI_ne (by decide)).trans ((zgI_ne (by decide)).trans ((zgI_nk g).trans b1)), (zgI_ne (by decide)).trans ((zgI_nk g).trans ((zgI_ne (by decide)).trans b2)), (zgI_nk g).trans ((zgI_ne (by decide)).trans ((zgI_ne (by decide)).trans b3))⟩
            · refine j_iconst (pc := 141) (v := 1) dX12_turn_141 (by decide) ?_
              refine j_goto (pc := 142) (tgt := 146) dX12_turn_142 (by decide) ?_
              refine j_zastn (pc := 146) dX12_turn_146 (mk_isFirst hMT) (by omega) (Nat.le_of_ble_eq_true rfl) (by first | assumption | decide) ?_
              refine j_iinc (pc := 147) (v := _ + 1) (ls' := [_, _, _, _, _, _, _]) dX12_turn_147 rfl rfl (by decide) rfl rfl ?_
              refine j_goto (pc := 150) (tgt := 72) dX12_turn_150 (by decide) ?_
              rw [nI_1]
              refine ih (i + 1) _ (by omega) (hk.tr (((zK.wI (by omega)).tr (zK.wI (by omega))).tr (zK.wI (by omega)))) ((zgI_ne (by decide)).trans ((zgI_ne (by decide)).trans ((zgI_ne (by decide)).trans h8))) (fun q e he => ?_)
              rw [ztO_1 hx, em, zn, nI_clamp (by omega)] at he
              by_cases g : q = i
              · subst g
                have hl : (ztO (tK t) ([x1, x2, x3, x4].take q)).length = q := by rw [ztO, List.length_map, List.length_take]; exact Nat.min_eq_left (by show q ≤ 4; omega)
                rw [List.getElem?_append_right (by omega), hl, Nat.sub_self] at he
                cases he
                refine ⟨(zgI_ne (by decide)).trans ((zgI_ne (by decide)).trans zgI_self), (zgI_ne (by decide)).trans (zgI_self.trans ?_), zgI_self.trans ?_⟩
                · show (1 : Int32) = zbi (decide (¬ nI b &&& 2 = 0)); rw [decide_eq_true ((zdn b hb).mp h113)]; rfl
                · show (1 : Int32) = zbi (decide (¬ nI b &&& 1 = 0)); rw [decide_eq_true ((zfs b hb).mp h138)]; rfl
              · have hl : (ztO (tK t) ([x1, x2, x3, x4].take i)).length = i := by rw [ztO, List.length_map, List.length_take]; exact Nat.min_eq_left (by show i ≤ 4; omega)
                have hq2 := (List.getElem?_eq_some_iff.mp he).1
                simp only [List.length_append, List.length_cons, List.length_nil, hl] at hq2
                rw [List.getElem?_append_left (by omega)] at he
                obtain ⟨b1, b2, b3⟩ := hO q e he
                exact ⟨(zgI_ne (by decide)).trans ((zgI_ne (by decide)).trans ((zgI_nk g).trans b1)), (zgI_ne (by decide)).trans ((zgI_nk g).trans ((zgI_ne (by decide)).trans b2)), (zgI_nk g).trans ((zgI_ne (by decide)).trans ((zgI_ne (by decide)).trans b3))⟩
      exact lp k 0 _ (by omega) (zK.wI (by omega)) zgI_self (fun q e he => by cases he)
    · refine j_aload_n (pc := 57) dX12_turn_57 rfl ?_
      refine j_iconst (pc := 58) (v := 2) dX12_turn_58 (by decide) ?_
      refine j_callV (pc := 59) (t := 12) (n_no (by exact hM) _) dX12_turn_59 l_X12_265 mk_X12_no mv_X12_no (by decide) rfl hM.1 (by decide) rfl rfl (Nat.le_of_ble_eq_true rfl) (Nat.le_refl _) (Nat.le_refl _) (fun r T h_1 => ?_)
      obtain ⟨rfl, rfl⟩ := h_1
      refine j_iret (pc := 62) dX12_turn_62 rfl ?_
      have e0 : zlo (tK t).length [x1, x2, x3, x4] 0 0 0 = 0 := Classical.byContradiction (fun q => by
        rw [if_neg q] at h54
        obtain ⟨k, ms, z1, ek, -⟩ := (zlo_sp hv.2.2.1 [x1, x2, x3, x4] 0 0 0 (by decide)).resolve_left q
        rw [Nat.zero_add] at ek
        have ek : zlo (tK t).length [x1, x2, x3, x4] 0 0 0 = nI k := ek
        have hk4 : k ≤ 4 := z1
        rw [ek] at h54
        exact nI_byte (by omega) h54)
      have e : q_turn s x1 x2 x3 x4 = zrf s 2 := by simp only [q_turn, ht]; rw [if_pos e0]
      rw [e]
      have f4 : zK (fun c k => c = 159) (zNw S 0) (zwI (zwI (zwI (zwI (zNw S 0) 159 0 x1) 159 1 x2) 159 2 x3) 159 3 x4) := (((zK.wI (by omega)).tr (zK.wI (by omega))).tr (zK.wI (by omega))).tr (zK.wI (by omega))
      exact ⟨rfl, ((h.no (n := 0) (by decide)).scr f4 (fun c k z => by unfold zXs; omega)).no1 (n := 2) (by decide), (zNw.f.tr (f4.f (fun c k z => by unfold zMX; omega))).tr (zF.wI (by decide))⟩
