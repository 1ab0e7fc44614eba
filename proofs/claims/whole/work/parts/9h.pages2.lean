set_option maxRecDepth 20000 in
set_option maxHeartbeats 4000000 in
theorem j_pages0 {E : zE} {S : zM} {s : zST} {t : zTB} {n u z : Nat} {L A : List Nat} (h : zMO S s) (hw : zWF n s) (ht : sT s = some t) (hu1 : u ≤ tv t) (hu2 : tv t ≤ u + 40) (hL : mFd S L) (hLi : ∀ x ∈ L, x < 64 ∧ (tH t u).1 x = true) (hL20 : L.length ≤ 20) (hA : mAs S A) (hA9 : zTkn A) (hz : z ≤ 20) (st : Bool) (hpos : L.length = 0) {A0 B0 : List Nat} (T : zM) (y : Option zV) (hb : zPb S L (fun i j => (tH t u).2 (L.getD i 0) j) (tK t).length T A0 B0) : zJ E 4 0 0 mX12_pages cX12_pages 89 [some (zR 123), some (zI (nI u)), some (zI (nI z)), some (zI (zbi st)), some (zI (nI L.length)), y] [] T (fun r T => r = some (zI (nI L.length)) ∧ zK zXq S T ∧ mP T (some (zpg t u L z (if st then u + 1 else 0) A)) (tK t).length) := by
  have hv := hw.v ht
  have mT := hb.1.ms h.1
  have hA99 := hA9.1
  have hFd := hL.k hb.1 (by unfold zXq zXkm zXk zXm; omega) (fun i => by unfold zXq zXkm zXk zXm; omega)
  have blk : ∀ (w : Nat) (T : zM) (y : Option zV) (A1 B1 : List Nat), w < 2 → zPb S L (fun i j => (tH t u).2 (L.getD i 0) j) (tK t).length T A1 B1 → (∀ (U : zM) (y2 : Option zV), zPb S L (fun i j => (tH t u).2 (L.getD i 0) j) (tK t).length U (if w = 0 then A else A1) (if w = 0 then B1 else A) → zgI U 149 w = 0 → (∀ k, k ≠ w → zgI U 149 k = zgI T 149 k) → zJ E 4 0 0 mX12_pages cX12_pages 169 [some (zR 123), some (zI (nI u)), some (zI (nI z)), some (zI (zbi st)), some (zI (nI (w + 1))), y2] [] U (fun r T => r = some (zI (nI L.length)) ∧ zK zXq S T ∧ mP T (some (zpg t u L z (if st then u + 1 else 0) A)) (tK t).length)) → zJ E 4 0 0 mX12_pages cX12_pages 169 [some (zR 123), some (zI (nI u)), some (zI (nI z)), some (zI (zbi st)), some (zI (nI w)), y] [] T (fun r T => r = some (zI (nI L.length)) ∧ zK zXq S T ∧ mP T (some (zpg t u L z (if st then u + 1 else 0) A)) (tK t).length) := by
    intro w T y A1 B1 hw2 hb cont
    have mT := hb.1.ms h.1
    have hAT := hA.k hb.1 (by unfold zXq zXkm zXk zXm; omega) (fun i => by unfold zXq zXkm zXk zXm; omega)
    have cp : ∀ (m j : Nat) (U : zM), j + m = A.length → zK (zXt w) T U → zgI U 148 w = nI A.length → (∀ i, i < j → zgI U 147 (900 * w + i) = nI (A.getD i 0)) → zJ E 4 0 0 mX12_pages cX12_pages 189 [some (zR 123), some (zI (nI u)), some (zI (nI z)), some (zI (zbi st)), some (zI (nI w)), some (zI (nI j))] [] U (fun r T => r = some (zI (nI L.length)) ∧ zK zXq S T ∧ mP T (some (zpg t u L z (if st then u + 1 else 0) A)) (tK t).length) := by
      intro m
      induction m with
      | zero =>
        intro j U hj kU h8 hq
        have mU := kU.ms mT
        have hAU := hAT.k kU (by unfold zXt zXk; omega) (fun i => by unfold zXt zXk; omega)
        refine j_iload (pc := 189) dX12_pages_189 rfl ?_
        refine j_aload_n (pc := 191) dX12_pages_191 rfl ?_
        refine j_getIv (pc := 192) dX12_pages_192 f_X12_409 (Or.inl rfl) mU.1 (hAU.1) ?_
        refine j_icmp_ge (pc := 195) (tgt := 225) dX12_pages_195 (by decide) (fun h195 => ?_) (fun h195 => absurd (nI_le (show A.length ≤ j by omega) (by omega)) h195)
        refine j_aload_n (pc := 225) dX12_pages_225 rfl ?_
        refine j_getPv (pc := 226) dX12_pages_226 f_X12_93 (Or.inr ⟨_, rfl⟩) mU.1 (mp_beyonds mU) ?_
        refine j_iload (pc := 229) dX12_pages_229 rfl ?_
        refine j_iconst (pc := 231) (v := 0) dX12_pages_231 (by decide) ?_
        refine j_iastn (pc := 232) dX12_pages_232 (mk_beyonds mU) (by omega) (Nat.le_of_ble_eq_true rfl) ?_
        refine j_iinc (pc := 233) (v := _ + 1) (ls' := [_, _, _, _, _, _]) dX12_pages_233 rfl rfl (by decide) rfl rfl ?_
        refine j_goto (pc := 236) (tgt := 169) dX12_pages_236 (by decide) ?_
        rw [nI_1]
        have ej : j = A.length := by omega
        refine cont _ _ ((hb.t kU hw2 ⟨h8, fun i hi => hq i (by omega)⟩ hA9).k (zK.wI (X := fun c k => c = 149) rfl) (fun c k z => Or.inr z)) (by rw [zgI_wI, if_pos ⟨rfl, rfl⟩]) (fun k hk => ?_)
        rw [zgI_wI, if_neg (fun q => hk q.2)]
        exact kU.2.2.2.1 _ _ (by unfold zXt zXk; omega)
      | succ m ih =>
        intro j U hj kU h8 hq
        have mU := kU.ms mT
        have hAU := hAT.k kU (by unfold zXt zXk; omega) (fun i => by unfold zXt zXk; omega)
        refine j_iload (pc := 189) dX12_pages_189 rfl ?_
        refine j_aload_n (pc := 191) dX12_pages_191 rfl ?_
        refine j_getIv (pc := 192) dX12_pages_192 f_X12_409 (Or.inl rfl) mU.1 (hAU.1) ?_
        refine j_icmp_ge (pc := 195) (tgt := 225) dX12_pages_195 (by decide) (fun h195 => absurd h195 (nI_ge (by omega) (by omega))) (fun h195 => ?_)
        refine j_aload_n (pc := 198) dX12_pages_198 rfl ?_
        refine j_getPv (pc := 199) dX12_pages_199 f_X12_87 (Or.inr ⟨_, rfl⟩) mU.1 (mp_tokens mU) ?_
        refine j_sipush (pc := 202) (v := 900) dX12_pages_202 (by decide) ?_
        refine j_iload (pc := 205) dX12_pages_205 rfl ?_
        refine j_imul (pc := 207) dX12_pages_207 ?_
        rw [show (900 : Int32) * nI w = nI (900 * w) from pk_mul 900 _]
        refine j_iload (pc := 208) dX12_pages_208 rfl ?_
        refine j_iadd (pc := 210) dX12_pages_210 ?_
        rw [nI_add]
        refine j_aload_n (pc := 211) dX12_pages_211 rfl ?_
        refine j_getPv (pc := 212) dX12_pages_212 f_X12_96 (Or.inr ⟨_, rfl⟩) mU.1 (mp_asked mU) ?_
        refine j_iload (pc := 215) dX12_pages_215 rfl ?_
        refine j_ialdn (pc := 217) dX12_pages_217 (mk_asked mU) (by omega) (Nat.le_of_ble_eq_true rfl) (hAU.2 j (by omega)) ?_
        refine j_iastn (pc := 218) dX12_pages_218 (mk_tokens mU) (by omega) (Nat.le_of_ble_eq_true rfl) ?_
        refine j_iinc (pc := 219) (v := _ + 1) (ls' := [_, _, _, _, _, _]) dX12_pages_219 rfl rfl (by decide) rfl rfl ?_
        refine j_goto (pc := 222) (tgt := 189) dX12_pages_222 (by decide) ?_
        rw [nI_1]
        refine ih (j + 1) _ (by omega) (kU.tr (zK.wI (Or.inr (Or.inl (by omega))))) h8 (fun i hi => ?_)
        rw [zgI_wI]
        by_cases e : i = j
        · rw [if_pos ⟨rfl, by omega⟩, e]
        · rw [if_neg (by omega)]
          exact hq i (by omega)
    refine j_iload (pc := 169) dX12_pages_169 rfl ?_
    refine j_iconst (pc := 171) (v := 2) dX12_pages_171 (by decide) ?_
    refine j_icmp_ge (pc := 172) (tgt := 239) dX12_pages_172 (by decide) (fun h172 => absurd h172 (nI_ge (b := 2) hw2 (by decide))) (fun h172 => ?_)
    refine j_aload_n (pc := 175) dX12_pages_175 rfl ?_
    refine j_getPv (pc := 176) dX12_pages_176 f_X12_90 (Or.inr ⟨_, rfl⟩) mT.1 (mp_tokenLong mT) ?_
    refine j_iload (pc := 179) dX12_pages_179 rfl ?_
    refine j_aload_n (pc := 181) dX12_pages_181 rfl ?_
    refine j_getIv (pc := 182) dX12_pages_182 f_X12_409 (Or.inl rfl) mT.1 (hAT.1) ?_
    refine j_iastn (pc := 185) dX12_pages_185 (mk_tokenLong mT) (by omega) (Nat.le_of_ble_eq_true rfl) ?_
    refine j_iconst (pc := 186) (v := 0) dX12_pages_186 (by decide) ?_
    refine j_istore (pc := 187) (ls' := [_, _, _, _, _, _]) dX12_pages_187 (by decide) rfl rfl ?_
    exact cp A.length 0 _ (by omega) (zK.wI (Or.inr (Or.inr ⟨rfl, rfl⟩))) (by rw [zgI_wI, if_pos ⟨rfl, rfl⟩]) (fun i hi => absurd hi (Nat.not_lt_zero i))
  refine j_aload_n (pc := 89) dX12_pages_89 rfl ?_
  refine j_getIv (pc := 90) dX12_pages_90 f_X12_392 (Or.inl rfl) mT.1 (hFd.1) ?_
  refine j_if_le (pc := 93) (tgt := 166) dX12_pages_93 (by decide) (fun h93 => ?_) (fun h93 => absurd (show nI L.length ≤ 0 by rw [hpos]; decide) h93)
  refine j_iconst (pc := 166) (v := 0) dX12_pages_166 (by decide) ?_
  refine j_istore (pc := 167) (ls' := [_, _, _, _, _, _]) dX12_pages_167 (by decide) rfl rfl ?_
  refine blk 0 T y A0 B0 (by decide) hb (fun U y2 hb1 g0 gk => blk 1 U y2 _ _ (by decide) hb1 (fun U2 y3 hb2 g1 gk2 => ?_))
  have mU := hb2.1.ms h.1
  refine j_iload (pc := 169) dX12_pages_169 rfl ?_
  refine j_iconst (pc := 171) (v := 2) dX12_pages_171 (by decide) ?_
  refine j_icmp_ge (pc := 172) (tgt := 239) dX12_pages_172 (by decide) (fun h172 => ?_) (fun h172 => absurd (nI_le (a := 2) (Nat.le_refl 2) (by decide)) h172)
  refine j_iconst (pc := 239) (v := 0) dX12_pages_239 (by decide) ?_
  refine j_iret (pc := 240) dX12_pages_240 rfl ?_
  have ez : zpg t u L z (if st then u + 1 else 0) A = (L, (fun i j => (tH t u).2 (L.getD i 0) j), A, A, 0, 0) := by
    unfold zpg
    simp only [if_pos hpos]
  rw [ez]
  exact ⟨by rw [hpos]; rfl, hb2.1, hb2.mp ((gk2 0 (by decide)).trans g0) g1⟩
abbrev zXl (c k : Nat) : Prop := c = 145 ∨ c = 146 ∨ (c = 123 ∧ (k = 46 ∨ k = 47))
set_option maxRecDepth 20000 in
set_option maxHeartbeats 4000000 in
theorem n_pages {E : zE} {S : zM} {s : zST} {t : zTB} {n u z : Nat} {L A : List Nat} (h : zMO S s) (hw : zWF n s) (ht : sT s = some t) (hu1 : u ≤ tv t) (hu2 : tv t ≤ u + 40) (hL : mFd S L) (hLi : ∀ x ∈ L, x < 64 ∧ (tH t u).1 x = true) (hL20 : L.length ≤ 20) (hA : mAs S A) (hA9 : zTkn A) (hz : z ≤ 20) (st : Bool) : zSp E 4 0 0 mX12_pages cX12_pages [zR 123, zI (nI u), zI (nI z), zI (zbi st)] S (fun r T => r = some (zI (nI L.length)) ∧ zK zXq S T ∧ mP T (some (zpg t u L z (if st then u + 1 else 0) A)) (tK t).length) := by
  refine zSp.of (by decide) rfl (Nat.le_of_ble_eq_true rfl) rfl ?_
  have hM := h.1
  have hv := hw.v ht
  obtain ⟨A0, B0, tA, tB, wA, wB⟩ := h.tk hw
  have fin : ∀ (T : zM) (y : Option zV), zPb S L (fun i j => (tH t u).2 (L.getD i 0) j) (tK t).length T A0 B0 → zJ E 4 0 0 mX12_pages cX12_pages 89 [some (zR 123), some (zI (nI u)), some (zI (nI z)), some (zI (zbi st)), some (zI (nI L.length)), y] [] T (fun r T => r = some (zI (nI L.length)) ∧ zK zXq S T ∧ mP T (some (zpg t u L z (if st then u + 1 else 0) A)) (tK t).length) := by
    intro T y hb
    by_cases e : L.length = 0
    · exact j_pages0 h hw ht hu1 hu2 hL hLi hL20 hA hA9 hz st e T y hb
    · exact j_pages1 h hw ht hu1 hu2 hL hLi hL20 hA hA9 hz st (Nat.pos_of_ne_zero e) T y hb
  have lp : ∀ (m i : Nat) (T : zM) (y : Option zV), i + m = L.length → zK zXl S T → zgI T 123 46 = 1 → zgI T 123 47 = nI L.length → (∀ i' x, L[i']? = some x → i' < i → zgI T 145 i' = nI x) → (∀ i' c, i' < i → c < (tK t).length → zgL T 146 (4 * i' + c) = (tH t u).2 (L.getD i' 0) c) → zJ E 4 0 0 mX12_pages cX12_pages 16 [some (zR 123), some (zI (nI u)), some (zI (nI z)), some (zI (zbi st)), some (zI (nI i)), y] [] T (fun r T => r = some (zI (nI L.length)) ∧ zK zXq S T ∧ mP T (some (zpg t u L z (if st then u + 1 else 0) A)) (tK t).length) := by
    intro m
    induction m with
    | zero =>
      intro i T y hi hk e46 e47 hid hvl
      have ei : i = L.length := by omega
      have mT := hk.ms hM
      have hFd := hL.k hk (by unfold zXl; omega) (fun i => by unfold zXl; omega)
      refine j_iload (pc := 16) dX12_pages_16 rfl ?_
      refine j_aload_n (pc := 18) dX12_pages_18 rfl ?_
      refine j_getIv (pc := 19) dX12_pages_19 f_X12_392 (Or.inl rfl) mT.1 (hFd.1) ?_
      refine j_icmp_ge (pc := 22) (tgt := 89) dX12_pages_22 (by decide) (fun h22 => ?_) (fun h22 => absurd (nI_le (show L.length ≤ i by omega) (by omega)) h22)
      rw [ei]
      exact fin T y ⟨hk.mo (fun c k z => by unfold zXl at z; unfold zXq; omega), ⟨e46, e47⟩, ⟨tA.k hk wA.1 (by unfold zXl; omega) (fun i _ => by unfold zXl; omega), tB.k hk wB.1 (by unfold zXl; omega) (fun i _ => by unfold zXl; omega), wA, wB⟩, fun i' x hx => hid i' x hx (by have := (List.getElem?_eq_some_iff.mp hx).1; omega), fun i' c hi' hc => hvl i' c (by omega) hc⟩
    | succ m ih =>
      intro i T y hi hk e46 e47 hid hvl
      have hil : i < L.length := by omega
      have mT := hk.ms hM
      have hFd := hL.k hk (by unfold zXl; omega) (fun i => by unfold zXl; omega)
      have inner : ∀ (m2 c : Nat) (U : zM), c + m2 = (tK t).length → zK zXl S U → zgI U 123 46 = 1 → zgI U 123 47 = nI L.length → (∀ i' x, L[i']? = some x → i' < i + 1 → zgI U 145 i' = nI x) → (∀ i' c, i' < i → c < (tK t).length → zgL U 146 (4 * i' + c) = (tH t u).2 (L.getD i' 0) c) → (∀ c', c' < c → zgL U 146 (4 * i + c') = (tH t u).2 (L.getD i 0) c') → zJ E 4 0 0 mX12_pages cX12_pages 42 [some (zR 123), some (zI (nI u)), some (zI (nI z)), some (zI (zbi st)), some (zI (nI i)), some (zI (nI c))] [] U (fun r T => r = some (zI (nI L.length)) ∧ zK zXq S T ∧ mP T (some (zpg t u L z (if st then u + 1 else 0) A)) (tK t).length) := by
        intro m2
        induction m2 with
        | zero =>
          intro c U hc hkU f46 f47 hid2 hvl2 hvi
          have mU := hkU.ms hM
          have hcm : zgI U 123 6 = nI (tK t).length := (hkU.2.2.2.1 _ _ (by unfold zXl; omega)).trans (h.2.2.2.2.1 t ht).1.1.1
          refine j_iload (pc := 42) dX12_pages_42 rfl ?_
          refine j_aload_n (pc := 44) dX12_pages_44 rfl ?_
          refine j_getIv (pc := 45) dX12_pages_45 f_X12_271 (Or.inl rfl) mU.1 (hcm) ?_
          refine j_icmp_ge (pc := 48) (tgt := 83) dX12_pages_48 (by decide) (fun h48 => ?_) (fun h48 => absurd (nI_le (show (tK t).length ≤ c by omega) (by omega)) h48)
          refine j_iinc (pc := 83) (v := _ + 1) (ls' := [_, _, _, _, _, _]) dX12_pages_83 rfl rfl (by decide) rfl rfl ?_
          refine j_goto (pc := 86) (tgt := 16) dX12_pages_86 (by decide) ?_
          rw [nI_1]
          refine ih (i + 1) U _ (by omega) hkU f46 f47 hid2 (fun i' c' hi' hc' => ?_)
          by_cases e : i' = i
          · rw [e]
            exact hvi c' (by omega)
          · exact hvl2 i' c' (by omega) hc'
        | succ m2 ih2 =>
          intro c U hc hkU f46 f47 hid2 hvl2 hvi
          have mU := hkU.ms hM
          have hcm : zgI U 123 6 = nI (tK t).length := (hkU.2.2.2.1 _ _ (by unfold zXl; omega)).trans (h.2.2.2.2.1 t ht).1.1.1
          have hFU := hL.k hkU (by unfold zXl; omega) (fun i => by unfold zXl; omega)
          refine j_iload (pc := 42) dX12_pages_42 rfl ?_
          refine j_aload_n (pc := 44) dX12_pages_44 rfl ?_
          refine j_getIv (pc := 45) dX12_pages_45 f_X12_271 (Or.inl rfl) mU.1 (hcm) ?_
          refine j_icmp_ge (pc := 48) (tgt := 83) dX12_pages_48 (by decide) (fun h48 => absurd h48 (nI_ge (by omega) (by omega))) (fun h48 => ?_)
          obtain ⟨q1, m1, w1⟩ := h.mid hw ht (hkU.mo (fun c k z => by unfold zXl at z; unfold zXg; omega)) f46 f47 hL20 (tA.k hkU wA.1 (by unfold zXl; omega) (fun i _ => by unfold zXl; omega)) (tB.k hkU wB.1 (by unfold zXl; omega) (fun i _ => by unfold zXl; omega)) wA wB
          refine j_aload_n (pc := 51) dX12_pages_51 rfl ?_
          refine j_getPv (pc := 52) dX12_pages_52 f_X12_84 (Or.inr ⟨_, rfl⟩) mU.1 (mp_pageValues mU) ?_
          refine j_iconst (pc := 55) (v := 4) dX12_pages_55 (by decide) ?_
          refine j_iload (pc := 56) dX12_pages_56 rfl ?_
          refine j_imul (pc := 58) dX12_pages_58 ?_
          rw [show (4 : Int32) * nI i = nI (4 * i) from pk_mul 4 _]
          refine j_iload (pc := 59) dX12_pages_59 rfl ?_
          refine j_iadd (pc := 61) dX12_pages_61 ?_
          rw [nI_add]
          refine j_aload_n (pc := 62) dX12_pages_62 rfl ?_
          refine j_iload_n (pc := 63) dX12_pages_63 rfl ?_
          refine j_aload_n (pc := 64) dX12_pages_64 rfl ?_
          refine j_getPv (pc := 65) dX12_pages_65 f_X12_75 (Or.inr ⟨_, rfl⟩) mU.1 (mp_found mU) ?_
          refine j_iload (pc := 68) dX12_pages_68 rfl ?_
          refine j_ialdn (pc := 70) dX12_pages_70 (mk_found mU) (by omega) (Nat.le_of_ble_eq_true rfl) (hFU.2 i _ (gD 0 hil)) ?_
          refine j_iload (pc := 71) dX12_pages_71 rfl ?_
          refine j_callV (pc := 73) (t := 12) (n_valueThen m1 ht hu1 hu2 (by omega) (hLi _ (gD_mem hil)).1 (show c < (tK t).length by omega) hv.2.2.1 (hLi _ (gD_mem hil)).2) dX12_pages_73 l_X12_327 mk_X12_valueThen mv_X12_valueThen (by decide) rfl mU.1 (by decide) rfl rfl (Nat.le_of_ble_eq_true rfl) (Nat.le_refl _) (Nat.le_refl _) (fun r T9 h_1 => ?_)
          obtain ⟨rfl, rfl⟩ := h_1
          refine j_lastn (pc := 76) dX12_pages_76 (mk_pageValues mU) (by omega) (Nat.le_of_ble_eq_true rfl) ?_
          refine j_iinc (pc := 77) (v := _ + 1) (ls' := [_, _, _, _, _, _]) dX12_pages_77 rfl rfl (by decide) rfl rfl ?_
          refine j_goto (pc := 80) (tgt := 42) dX12_pages_80 (by decide) ?_
          rw [nI_1]
          refine ih2 (c + 1) _ (by omega) (hkU.tr (zK.wL (Or.inr (Or.inl rfl)))) f46 f47 hid2 (fun i' c' hi' hc' => ?_) (fun c' hc' => ?_)
          · rw [zgL_wL, if_neg (by omega)]
            exact hvl2 i' c' hi' hc'
          · rw [zgL_wL]
            by_cases e : c' = c
            · rw [if_pos ⟨rfl, by omega⟩, e]
            · rw [if_neg (by omega)]
              exact hvi c' (by omega)
      refine j_iload (pc := 16) dX12_pages_16 rfl ?_
      refine j_aload_n (pc := 18) dX12_pages_18 rfl ?_
      refine j_getIv (pc := 19) dX12_pages_19 f_X12_392 (Or.inl rfl) mT.1 (hFd.1) ?_
      refine j_icmp_ge (pc := 22) (tgt := 89) dX12_pages_22 (by decide) (fun h22 => absurd h22 (nI_ge (by omega) (by omega))) (fun h22 => ?_)
      refine j_aload_n (pc := 25) dX12_pages_25 rfl ?_
      refine j_getPv (pc := 26) dX12_pages_26 f_X12_81 (Or.inr ⟨_, rfl⟩) mT.1 (mp_pageIds mT) ?_
      refine j_iload (pc := 29) dX12_pages_29 rfl ?_
      refine j_aload_n (pc := 31) dX12_pages_31 rfl ?_
      refine j_getPv (pc := 32) dX12_pages_32 f_X12_75 (Or.inr ⟨_, rfl⟩) mT.1 (mp_found mT) ?_
      refine j_iload (pc := 35) dX12_pages_35 rfl ?_
      refine j_ialdn (pc := 37) dX12_pages_37 (mk_found mT) (by omega) (Nat.le_of_ble_eq_true rfl) (hFd.2 i _ (gD 0 hil)) ?_
      refine j_iastn (pc := 38) dX12_pages_38 (mk_pageIds mT) (by omega) (Nat.le_of_ble_eq_true rfl) ?_
      refine j_iconst (pc := 39) (v := 0) dX12_pages_39 (by decide) ?_
      refine j_istore (pc := 40) (ls' := [_, _, _, _, _, _]) dX12_pages_40 (by decide) rfl rfl ?_
      refine inner (tK t).length 0 _ (by omega) (hk.tr (zK.wI (Or.inl rfl))) e46 e47 (fun i' x hx hi' => ?_) hvl (fun c' hc' => absurd hc' (Nat.not_lt_zero c'))
      rw [zgI_wI]
      by_cases e : i' = i
      · rw [if_pos ⟨rfl, e⟩]
        rw [e, gD 0 hil] at hx
        cases hx
        rfl
      · rw [if_neg (fun q => e q.2)]
        exact hid i' x hx (by omega)
  refine j_aload_n (pc := 0) dX12_pages_0 rfl ?_
  refine j_iconst (pc := 1) (v := 1) dX12_pages_1 (by decide) ?_
  refine j_putZ (pc := 2) dX12_pages_2 f_X12_289 rfl (by first | assumption | decide) hM.1 rfl ?_
  refine j_aload_n (pc := 5) dX12_pages_5 rfl ?_
  refine j_aload_n (pc := 6) dX12_pages_6 rfl ?_
  refine j_getIv (pc := 7) dX12_pages_7 f_X12_392 (Or.inl rfl) hM.1 (hL.1) ?_
  refine j_putI (pc := 10) dX12_pages_10 f_X12_399 rfl hM.1 rfl ?_
  refine j_iconst (pc := 13) (v := 0) dX12_pages_13 (by decide) ?_
  refine j_istore (pc := 14) (ls' := [_, _, _, _, _, _]) dX12_pages_14 (by decide) rfl rfl ?_
  exact lp L.length 0 _ none (by omega) ((zK.wI (Or.inr (Or.inr ⟨rfl, Or.inl rfl⟩))).tr (zK.wI (Or.inr (Or.inr ⟨rfl, Or.inr rfl⟩)))) rfl rfl (fun i x _ hi => absurd hi (Nat.not_lt_zero i)) (fun i c hi => absurd hi (Nat.not_lt_zero i))
