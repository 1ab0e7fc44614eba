/-! a token laid by the model -/
abbrev zXt (w c k : Nat) : Prop := zXk c k ∨ (c = 147 ∧ 900 * w ≤ k ∧ k < 900 * w + 900) ∨ (c = 148 ∧ k = w)
def mTk (S : zM) (w : Nat) (L : List Nat) : Prop := zgI S 148 w = nI L.length ∧ ∀ i, i < L.length → zgI S 147 (900 * w + i) = nI (L.getD i 0)
theorem zt5 (S : zM) (a : Nat) (x0 x1 x2 x3 x4 : Int32) : zgI (zwI (zwI (zwI (zwI (zwI S 147 a x0) 147 (a + 1) x1) 147 (a + 2) x2) 147 (a + 3) x3) 147 (a + 4) x4) 147 (a + 0) = x0 ∧ zgI (zwI (zwI (zwI (zwI (zwI S 147 a x0) 147 (a + 1) x1) 147 (a + 2) x2) 147 (a + 3) x3) 147 (a + 4) x4) 147 (a + 1) = x1 ∧ zgI (zwI (zwI (zwI (zwI (zwI S 147 a x0) 147 (a + 1) x1) 147 (a + 2) x2) 147 (a + 3) x3) 147 (a + 4) x4) 147 (a + 2) = x2 ∧ zgI (zwI (zwI (zwI (zwI (zwI S 147 a x0) 147 (a + 1) x1) 147 (a + 2) x2) 147 (a + 3) x3) 147 (a + 4) x4) 147 (a + 3) = x3 ∧ zgI (zwI (zwI (zwI (zwI (zwI S 147 a x0) 147 (a + 1) x1) 147 (a + 2) x2) 147 (a + 3) x3) 147 (a + 4) x4) 147 (a + 4) = x4 := by
  simp only [zgI_wI]
  refine ⟨?_, ?_, ?_, ?_, ?_⟩
  · rw [if_neg (by omega), if_neg (by omega), if_neg (by omega), if_neg (by omega), if_pos (by simp)]
  · rw [if_neg (by omega), if_neg (by omega), if_neg (by omega), if_pos (by simp)]
  · rw [if_neg (by omega), if_neg (by omega), if_pos (by simp)]
  · rw [if_neg (by omega), if_pos (by simp)]
  · rw [if_pos (by simp)]
theorem zth5_k (a b c : Nat) (L : List Nat) (i : Nat) : (zth5 a b c L).getD (5 + i) 0 = L.getD i 0 := by
  rw [Nat.add_comm]
  rfl
theorem zth5_len (a b c : Nat) (L : List Nat) : (zth5 a b c L).length = 5 + L.length := by
  unfold zth5
  rw [List.length_append]
  rfl
theorem zsn_lt {A : List Nat} {b j : Nat} (h : j < A.length) : (A ++ [b]).getD j 0 = A.getD j 0 := by rw [List.getD_eq_getElem?_getD, List.getD_eq_getElem?_getD, List.getElem?_append_left h]
theorem zsn_at {A : List Nat} {b : Nat} : (A ++ [b]).getD A.length 0 = b := by rw [List.getD_eq_getElem?_getD, List.getElem?_append_right (Nat.le_refl _), Nat.sub_self]; rfl
theorem zchk_up {A : List Nat} {j : Nat} (h : j < A.length) : zchk (A.take (j + 1)) = (31 * zchk (A.take j) + A.getD j 0) % 251 := by
  rw [← zchk_snoc]
  have := ztake_succ (F := A) (Nat.zero_le j) h
  rw [List.drop_zero, Nat.sub_zero, Nat.sub_zero] at this
  rw [this]
set_option maxRecDepth 20000 in
set_option maxHeartbeats 4000000 in
theorem n_laysToken {E : zE} {S : zM} {s : zST} {t : zTB} {n u w z id : Nat} (h : zMO S s) (hw : zWF n s) (ht : sT s = some t) (hu1 : u ≤ tv t) (hu2 : tv t ≤ u + 40) (hid : id < 64) (hth : (tH t u).1 id = true) (hw2 : w < 2) (hz : z ≤ 20) (st : Bool) : zSp E 3 0 0 mX12_laysToken cX12_laysToken [zR 123, zI (nI w), zI (nI u), zI (nI z), zI (zbi st), zI (nI id)] S (fun r T => r = none ∧ zK (zXt w) S T ∧ mL T (zkf (tO t) (tH t u) id) ∧ mTk T w (ztok (tn t) z (if st then u + 1 else 0) (zkf (tO t) (tH t u) id))) := by
  refine zSp.of (by decide) rfl (Nat.le_of_ble_eq_true rfl) rfl ?_
  have hM := h.1
  have hv := hw.v ht
  have hn20 : tn t < 2 ^ 20 := by have := hw.1; have := hw.2.2.2; rw [ht] at this; have := this.1.2.2.2.2.2.1; omega
  have hlen : (zkf (tO t) (tH t u) id).length ≤ 34 := zkf_len hv.2.2.2.1
  have tail : ∀ σ : Nat, σ < 65536 → zJ E 3 0 0 mX12_laysToken cX12_laysToken 21 [some (zR 123), some (zI (nI w)), some (zI (nI u)), some (zI (nI z)), some (zI (zbi st)), some (zI (nI id)), some (zI (nI (900 * w))), some (zI (nI σ)), none, none] [] S (fun r T => r = none ∧ zK (zXt w) S T ∧ mL T (zkf (tO t) (tH t u) id) ∧ mTk T w (ztok (tn t) z σ (zkf (tO t) (tH t u) id))) := by
    intro σ hσ
    have hZ : ∀ b ∈ (zth5 (tn t) z σ (zkf (tO t) (tH t u) id)), b < 256 := by
      intro b hb
      rcases List.mem_append.mp hb with q | q
      · simp only [List.mem_cons, List.not_mem_nil, or_false] at q
        omega
      · exact zkf_b b q
    have lp2 : ∀ (m j : Nat) (T : zM), j + m = 5 + (zkf (tO t) (tH t u) id).length → zK (zXt w) S T → mL T (zkf (tO t) (tH t u) id) → (∀ j, j < 5 + (zkf (tO t) (tH t u) id).length → zgI T 147 (900 * w + j) = nI ((zth5 (tn t) z σ (zkf (tO t) (tH t u) id)).getD j 0)) → zJ E 3 0 0 mX12_laysToken cX12_laysToken 138 [some (zR 123), some (zI (nI w)), some (zI (nI u)), some (zI (nI z)), some (zI (zbi st)), some (zI (nI id)), some (zI (nI (900 * w))), some (zI (nI σ)), some (zI (nI (zchk ((zth5 (tn t) z σ (zkf (tO t) (tH t u) id)).take j)))), some (zI (nI j))] [] T (fun r T => r = none ∧ zK (zXt w) S T ∧ mL T (zkf (tO t) (tH t u) id) ∧ mTk T w (ztok (tn t) z σ (zkf (tO t) (tH t u) id))) := by
      intro m
      induction m with
      | zero =>
        intro j T hj hk hl hq
        have mT := hk.ms hM
        refine j_iload (pc := 138) dX12_laysToken_138 rfl ?_
        refine j_iconst (pc := 140) (v := 5) dX12_laysToken_140 (by decide) ?_
        refine j_aload_n (pc := 141) dX12_laysToken_141 rfl ?_
        refine j_getIv (pc := 142) dX12_laysToken_142 f_X12_334 (Or.inl rfl) mT.1 (hl.1) ?_
        refine j_iadd (pc := 145) dX12_laysToken_145 ?_
        rw [show (5 : Int32) + nI (zkf (tO t) (tH t u) id).length = nI (5 + (zkf (tO t) (tH t u) id).length) from nI_add 5 _]
        refine j_icmp_ge (pc := 146) (tgt := 177) dX12_laysToken_146 (by decide) (fun h146 => ?_) (fun h146 => absurd (nI_le (show 5 + (zkf (tO t) (tH t u) id).length ≤ j by omega) (by omega)) h146)
        refine j_aload_n (pc := 177) dX12_laysToken_177 rfl ?_
        refine j_getPv (pc := 178) dX12_laysToken_178 f_X12_87 (Or.inr ⟨_, rfl⟩) mT.1 (mp_tokens mT) ?_
        refine j_iload (pc := 181) dX12_laysToken_181 rfl ?_
        refine j_iconst (pc := 183) (v := 5) dX12_laysToken_183 (by decide) ?_
        refine j_iadd (pc := 184) dX12_laysToken_184 ?_
        rw [show nI (900 * w) + 5 = nI (900 * w + 5) from nI_add _ 5]
        refine j_aload_n (pc := 185) dX12_laysToken_185 rfl ?_
        refine j_getIv (pc := 186) dX12_laysToken_186 f_X12_334 (Or.inl rfl) mT.1 (hl.1) ?_
        refine j_iadd (pc := 189) dX12_laysToken_189 ?_
        rw [nI_add]
        refine j_iload (pc := 190) dX12_laysToken_190 rfl ?_
        refine j_iastn (pc := 192) dX12_laysToken_192 (mk_tokens mT) (by omega) (Nat.le_of_ble_eq_true rfl) ?_
        refine j_aload_n (pc := 193) dX12_laysToken_193 rfl ?_
        refine j_getPv (pc := 194) dX12_laysToken_194 f_X12_90 (Or.inr ⟨_, rfl⟩) mT.1 (mp_tokenLong mT) ?_
        refine j_iload_n (pc := 197) dX12_laysToken_197 rfl ?_
        refine j_bipush (pc := 198) (v := 6) dX12_laysToken_198 (by decide) ?_
        refine j_aload_n (pc := 200) dX12_laysToken_200 rfl ?_
        refine j_getIv (pc := 201) dX12_laysToken_201 f_X12_334 (Or.inl rfl) mT.1 (hl.1) ?_
        refine j_iadd (pc := 204) dX12_laysToken_204 ?_
        rw [show (6 : Int32) + nI (zkf (tO t) (tH t u) id).length = nI (6 + (zkf (tO t) (tH t u) id).length) from nI_add 6 _]
        refine j_iastn (pc := 205) dX12_laysToken_205 (mk_tokenLong mT) (by omega) (Nat.le_of_ble_eq_true rfl) ?_
        refine j_vret (pc := 206) dX12_laysToken_206 rfl ?_
        refine ⟨rfl, (hk.tr (zK.wI (by right; left; omega))).tr (zK.wI (by right; right; exact ⟨rfl, rfl⟩)), hl, ?_, fun i hi => ?_⟩
        · rw [zgI_wI, if_pos ⟨rfl, rfl⟩]
          unfold ztok
          rw [List.length_append, zth5_len]
          exact congrArg nI (by simp only [List.length_cons, List.length_nil]; omega)
        · unfold ztok at hi ⊢
          rw [List.length_append, zth5_len] at hi
          simp only [List.length_cons, List.length_nil] at hi
          rw [zgI_wI, if_neg (by omega), zgI_wI]
          by_cases e : i = 5 + (zkf (tO t) (tH t u) id).length
          · rw [if_pos ⟨rfl, by omega⟩]
            have e2 : i = (zth5 (tn t) z σ (zkf (tO t) (tH t u) id)).length := by rw [zth5_len]; exact e
            rw [e2, zsn_at, List.take_of_length_le (by rw [zth5_len]; omega)]
          · rw [if_neg (by omega), zsn_lt (by rw [zth5_len]; omega)]
            exact hq i (by omega)
      | succ m ih =>
        intro j T hj hk hl hq
        have mT := hk.ms hM
        have hjl : j < (zth5 (tn t) z σ (zkf (tO t) (tH t u) id)).length := by rw [zth5_len]; omega
        have hjb := hZ _ (gD_mem hjl)
        refine j_iload (pc := 138) dX12_laysToken_138 rfl ?_
        refine j_iconst (pc := 140) (v := 5) dX12_laysToken_140 (by decide) ?_
        refine j_aload_n (pc := 141) dX12_laysToken_141 rfl ?_
        refine j_getIv (pc := 142) dX12_laysToken_142 f_X12_334 (Or.inl rfl) mT.1 (hl.1) ?_
        refine j_iadd (pc := 145) dX12_laysToken_145 ?_
        rw [show (5 : Int32) + nI (zkf (tO t) (tH t u) id).length = nI (5 + (zkf (tO t) (tH t u) id).length) from nI_add 5 _]
        refine j_icmp_ge (pc := 146) (tgt := 177) dX12_laysToken_146 (by decide) (fun h146 => absurd h146 (nI_ge (by omega) (by omega))) (fun h146 => ?_)
        refine j_bipush (pc := 149) (v := 31) dX12_laysToken_149 (by decide) ?_
        refine j_iload (pc := 151) dX12_laysToken_151 rfl ?_
        refine j_imul (pc := 153) dX12_laysToken_153 ?_
        refine j_aload_n (pc := 154) dX12_laysToken_154 rfl ?_
        refine j_getPv (pc := 155) dX12_laysToken_155 f_X12_87 (Or.inr ⟨_, rfl⟩) mT.1 (mp_tokens mT) ?_
        refine j_iload (pc := 158) dX12_laysToken_158 rfl ?_
        refine j_iload (pc := 160) dX12_laysToken_160 rfl ?_
        refine j_iadd (pc := 162) dX12_laysToken_162 ?_
        rw [nI_add]
        refine j_ialdn (pc := 163) dX12_laysToken_163 (mk_tokens mT) (by omega) (Nat.le_of_ble_eq_true rfl) (hq j (by omega)) ?_
        rw [show (31 : Int32) * nI (zchk ((zth5 (tn t) z σ (zkf (tO t) (tH t u) id)).take j)) = nI (31 * zchk ((zth5 (tn t) z σ (zkf (tO t) (tH t u) id)).take j)) from pk_mul 31 _]
        refine j_iadd (pc := 164) dX12_laysToken_164 ?_
        rw [nI_add]
        refine j_sipush (pc := 165) (v := 251) dX12_laysToken_165 (by decide) ?_
        refine j_irem (pc := 168) dX12_laysToken_168 (by decide) ?_
        rw [show nI (31 * zchk ((zth5 (tn t) z σ (zkf (tO t) (tH t u) id)).take j) + (zth5 (tn t) z σ (zkf (tO t) (tH t u) id)).getD j 0) - nI (31 * zchk ((zth5 (tn t) z σ (zkf (tO t) (tH t u) id)).take j) + (zth5 (tn t) z σ (zkf (tO t) (tH t u) id)).getD j 0) / 251 * 251 = nI ((31 * zchk ((zth5 (tn t) z σ (zkf (tO t) (tH t u) id)).take j) + (zth5 (tn t) z σ (zkf (tO t) (tH t u) id)).getD j 0) % 251) from pk_rem (d := 251) (by have := zchk_lt ((zth5 (tn t) z σ (zkf (tO t) (tH t u) id)).take j); omega) (by decide) (by decide), ← zchk_up hjl]
        refine j_istore (pc := 169) (ls' := [_, _, _, _, _, _, _, _, _, _]) dX12_laysToken_169 (by decide) rfl rfl ?_
        refine j_iinc (pc := 171) (v := _ + 1) (ls' := [_, _, _, _, _, _, _, _, _, _]) dX12_laysToken_171 rfl rfl (by decide) rfl rfl ?_
        refine j_goto (pc := 174) (tgt := 138) dX12_laysToken_174 (by decide) ?_
        rw [nI_1]
        exact ih (j + 1) _ (by omega) hk hl hq
    have lp1 : ∀ (m i : Nat) (T : zM), i + m = (zkf (tO t) (tH t u) id).length → zK (zXt w) S T → mL T (zkf (tO t) (tH t u) id) → (∀ j, j < 5 + i → zgI T 147 (900 * w + j) = nI ((zth5 (tn t) z σ (zkf (tO t) (tH t u) id)).getD j 0)) → zJ E 3 0 0 mX12_laysToken cX12_laysToken 97 [some (zR 123), some (zI (nI w)), some (zI (nI u)), some (zI (nI z)), some (zI (zbi st)), some (zI (nI id)), some (zI (nI (900 * w))), some (zI (nI σ)), some (zI (nI i)), none] [] T (fun r T => r = none ∧ zK (zXt w) S T ∧ mL T (zkf (tO t) (tH t u) id) ∧ mTk T w (ztok (tn t) z σ (zkf (tO t) (tH t u) id))) := by
      intro m
      induction m with
      | zero =>
        intro i T hi hk hl hq
        have mT := hk.ms hM
        refine j_iload (pc := 97) dX12_laysToken_97 rfl ?_
        refine j_aload_n (pc := 99) dX12_laysToken_99 rfl ?_
        refine j_getIv (pc := 100) dX12_laysToken_100 f_X12_334 (Or.inl rfl) mT.1 (hl.1) ?_
        refine j_icmp_ge (pc := 103) (tgt := 131) dX12_laysToken_103 (by decide) (fun h103 => ?_) (fun h103 => absurd (nI_le (show (zkf (tO t) (tH t u) id).length ≤ i by omega) (by omega)) h103)
        refine j_bipush (pc := 131) (v := 7) dX12_laysToken_131 (by decide) ?_
        refine j_istore (pc := 133) (ls' := [_, _, _, _, _, _, _, _, _, _]) dX12_laysToken_133 (by decide) rfl rfl ?_
        refine j_iconst (pc := 135) (v := 0) dX12_laysToken_135 (by decide) ?_
        refine j_istore (pc := 136) (ls' := [_, _, _, _, _, _, _, _, _, _]) dX12_laysToken_136 (by decide) rfl rfl ?_
        exact lp2 (5 + (zkf (tO t) (tH t u) id).length) 0 T (by omega) hk hl (fun j hj => hq j (by omega))
      | succ m ih =>
        intro i T hi hk hl hq
        have mT := hk.ms hM
        refine j_iload (pc := 97) dX12_laysToken_97 rfl ?_
        refine j_aload_n (pc := 99) dX12_laysToken_99 rfl ?_
        refine j_getIv (pc := 100) dX12_laysToken_100 f_X12_334 (Or.inl rfl) mT.1 (hl.1) ?_
        refine j_icmp_ge (pc := 103) (tgt := 131) dX12_laysToken_103 (by decide) (fun h103 => absurd h103 (nI_ge (by omega) (by omega))) (fun h103 => ?_)
        refine j_aload_n (pc := 106) dX12_laysToken_106 rfl ?_
        refine j_getPv (pc := 107) dX12_laysToken_107 f_X12_87 (Or.inr ⟨_, rfl⟩) mT.1 (mp_tokens mT) ?_
        refine j_iload (pc := 110) dX12_laysToken_110 rfl ?_
        refine j_iconst (pc := 112) (v := 5) dX12_laysToken_112 (by decide) ?_
        refine j_iadd (pc := 113) dX12_laysToken_113 ?_
        rw [show nI (900 * w) + 5 = nI (900 * w + 5) from nI_add _ 5]
        refine j_iload (pc := 114) dX12_laysToken_114 rfl ?_
        refine j_iadd (pc := 116) dX12_laysToken_116 ?_
        rw [nI_add]
        refine j_aload_n (pc := 117) dX12_laysToken_117 rfl ?_
        refine j_getPv (pc := 118) dX12_laysToken_118 f_X12_60 (Or.inr ⟨_, rfl⟩) mT.1 (mp_key mT) ?_
        refine j_iload (pc := 121) dX12_laysToken_121 rfl ?_
        refine j_ialdn (pc := 123) dX12_laysToken_123 (mk_key mT) (by omega) (Nat.le_of_ble_eq_true rfl) (hl.2 i (by omega)) ?_
        refine j_iastn (pc := 124) dX12_laysToken_124 (mk_tokens mT) (by omega) (Nat.le_of_ble_eq_true rfl) ?_
        refine j_iinc (pc := 125) (v := _ + 1) (ls' := [_, _, _, _, _, _, _, _, _, _]) dX12_laysToken_125 rfl rfl (by decide) rfl rfl ?_
        refine j_goto (pc := 128) (tgt := 97) dX12_laysToken_128 (by decide) ?_
        rw [nI_1]
        refine ih (i + 1) _ (by omega) (hk.tr (zK.wI (by right; left; omega))) hl (fun j hj => ?_)
        rw [zgI_wI]
        by_cases e : j = 5 + i
        · rw [if_pos ⟨rfl, by omega⟩, e, zth5_k]
        · rw [if_neg (by omega)]
          exact hq j (by omega)
    refine j_aload_n (pc := 21) dX12_laysToken_21 rfl ?_
    refine j_iload_n (pc := 22) dX12_laysToken_22 rfl ?_
    refine j_iload (pc := 23) dX12_laysToken_23 rfl ?_
    refine j_callV (pc := 25) (t := 12) (n_laysKey h hw ht hu1 hu2 hid hth) dX12_laysToken_25 l_X12_351 mk_X12_laysKey mv_X12_laysKey (by decide) rfl hM.1 (by decide) rfl rfl (Nat.le_of_ble_eq_true rfl) (Nat.le_refl _) (Nat.le_refl _) (fun r T1 h_1 => ?_)
    obtain ⟨rfl, k1, l1⟩ := h_1
    have m1 := k1.ms hM
    refine j_aload_n (pc := 28) dX12_laysToken_28 rfl ?_
    refine j_getPv (pc := 29) dX12_laysToken_29 f_X12_87 (Or.inr ⟨_, rfl⟩) m1.1 (mp_tokens m1) ?_
    refine j_iload (pc := 32) dX12_laysToken_32 rfl ?_
    refine j_bipush (pc := 34) (v := 84) dX12_laysToken_34 (by decide) ?_
    refine j_iastn (pc := 36) dX12_laysToken_36 (mk_tokens m1) (by omega) (Nat.le_of_ble_eq_true rfl) ?_
    refine j_aload_n (pc := 37) dX12_laysToken_37 rfl ?_
    refine j_getPv (pc := 38) dX12_laysToken_38 f_X12_87 (Or.inr ⟨_, rfl⟩) m1.1 (mp_tokens m1) ?_
    refine j_iload (pc := 41) dX12_laysToken_41 rfl ?_
    refine j_iconst (pc := 43) (v := 1) dX12_laysToken_43 (by decide) ?_
    refine j_iadd (pc := 44) dX12_laysToken_44 ?_
    rw [show nI (900 * w) + 1 = nI (900 * w + 1) from nI_add _ 1]
    refine j_aload_n (pc := 45) dX12_laysToken_45 rfl ?_
    refine j_getIv (pc := 46) dX12_laysToken_46 f_X12_280 (Or.inl rfl) m1.1 ((k1.2.2.2.1 _ _ (by unfold zXk; omega)).trans (h.2.2.2.2.1 t ht).1.2.2.2.1.2.1) ?_
    refine j_sipush (pc := 49) (v := 256) dX12_laysToken_49 (by decide) ?_
    refine j_irem (pc := 52) dX12_laysToken_52 (by decide) ?_
    rw [show nI (tn t) - nI (tn t) / 256 * 256 = nI (tn t % 256) from pk_rem (d := 256) (by omega) (by decide) (by decide)]
    refine j_iastn (pc := 53) dX12_laysToken_53 (mk_tokens m1) (by omega) (Nat.le_of_ble_eq_true rfl) ?_
    refine j_aload_n (pc := 54) dX12_laysToken_54 rfl ?_
    refine j_getPv (pc := 55) dX12_laysToken_55 f_X12_87 (Or.inr ⟨_, rfl⟩) m1.1 (mp_tokens m1) ?_
    refine j_iload (pc := 58) dX12_laysToken_58 rfl ?_
    refine j_iconst (pc := 60) (v := 2) dX12_laysToken_60 (by decide) ?_
    refine j_iadd (pc := 61) dX12_laysToken_61 ?_
    rw [show nI (900 * w) + 2 = nI (900 * w + 2) from nI_add _ 2]
    refine j_iload_n (pc := 62) dX12_laysToken_62 rfl ?_
    refine j_iastn (pc := 63) dX12_laysToken_63 (mk_tokens m1) (by omega) (Nat.le_of_ble_eq_true rfl) ?_
    refine j_aload_n (pc := 64) dX12_laysToken_64 rfl ?_
    refine j_getPv (pc := 65) dX12_laysToken_65 f_X12_87 (Or.inr ⟨_, rfl⟩) m1.1 (mp_tokens m1) ?_
    refine j_iload (pc := 68) dX12_laysToken_68 rfl ?_
    refine j_iconst (pc := 70) (v := 3) dX12_laysToken_70 (by decide) ?_
    refine j_iadd (pc := 71) dX12_laysToken_71 ?_
    rw [show nI (900 * w) + 3 = nI (900 * w + 3) from nI_add _ 3]
    refine j_iload (pc := 72) dX12_laysToken_72 rfl ?_
    refine j_sipush (pc := 74) (v := 256) dX12_laysToken_74 (by decide) ?_
    refine j_idiv (pc := 77) dX12_laysToken_77 (by decide) ?_
    rw [show nI σ / 256 = nI (σ / 256) from pk_div (d := 256) (by omega) (by decide) (by decide)]
    refine j_iastn (pc := 78) dX12_laysToken_78 (mk_tokens m1) (by omega) (Nat.le_of_ble_eq_true rfl) ?_
    refine j_aload_n (pc := 79) dX12_laysToken_79 rfl ?_
    refine j_getPv (pc := 80) dX12_laysToken_80 f_X12_87 (Or.inr ⟨_, rfl⟩) m1.1 (mp_tokens m1) ?_
    refine j_iload (pc := 83) dX12_laysToken_83 rfl ?_
    refine j_iconst (pc := 85) (v := 4) dX12_laysToken_85 (by decide) ?_
    refine j_iadd (pc := 86) dX12_laysToken_86 ?_
    rw [show nI (900 * w) + 4 = nI (900 * w + 4) from nI_add _ 4]
    refine j_iload (pc := 87) dX12_laysToken_87 rfl ?_
    refine j_sipush (pc := 89) (v := 256) dX12_laysToken_89 (by decide) ?_
    refine j_irem (pc := 92) dX12_laysToken_92 (by decide) ?_
    rw [show nI σ - nI σ / 256 * 256 = nI (σ % 256) from pk_rem (d := 256) (by omega) (by decide) (by decide)]
    refine j_iastn (pc := 93) dX12_laysToken_93 (mk_tokens m1) (by omega) (Nat.le_of_ble_eq_true rfl) ?_
    refine j_iconst (pc := 94) (v := 0) dX12_laysToken_94 (by decide) ?_
    refine j_istore (pc := 95) (ls' := [_, _, _, _, _, _, _, _, _, _]) dX12_laysToken_95 (by decide) rfl rfl ?_
    refine lp1 (zkf (tO t) (tH t u) id).length 0 _ (by omega) ((((((k1.mo (fun c k z => Or.inl z)).tr (zK.wI (by right; left; omega))).tr (zK.wI (by right; left; omega))).tr (zK.wI (by right; left; omega))).tr (zK.wI (by right; left; omega))).tr (zK.wI (by right; left; omega))) l1 (fun j hj => ?_)
    obtain ⟨e0, e1, e2, e3, e4⟩ := zt5 T1 (900 * w) 84 (nI (tn t % 256)) (nI z) (nI (σ / 256)) (nI (σ % 256))
    rcases (show j = 0 ∨ j = 1 ∨ j = 2 ∨ j = 3 ∨ j = 4 by omega) with e | e | e | e | e <;> subst e
    · exact e0
    · exact e1
    · exact e2.trans (congrArg nI (Nat.mod_eq_of_lt (show z < 256 by omega)).symm)
    · exact e3.trans (congrArg nI (Nat.mod_eq_of_lt (show σ / 256 < 256 by omega)).symm)
    · exact e4
  cases st with
  | false =>
    refine j_sipush (pc := 0) (v := 900) dX12_laysToken_0 (by decide) ?_
    refine j_iload_n (pc := 3) dX12_laysToken_3 rfl ?_
    refine j_imul (pc := 4) dX12_laysToken_4 ?_
    rw [show (900 : Int32) * nI w = nI (900 * w) from pk_mul 900 _]
    refine j_istore (pc := 5) (ls' := [_, _, _, _, _, _, _, _, _, _]) dX12_laysToken_5 (by decide) rfl rfl ?_
    refine j_iload (pc := 7) dX12_laysToken_7 rfl ?_
    refine j_if_eq (pc := 9) (tgt := 18) dX12_laysToken_9 (by decide) (fun h9 => ?_) (fun h9 => absurd rfl h9)
    refine j_iconst (pc := 18) (v := 0) dX12_laysToken_18 (by decide) ?_
    refine j_istore (pc := 19) (ls' := [_, _, _, _, _, _, _, _, _, _]) dX12_laysToken_19 (by decide) rfl rfl ?_
    exact tail 0 (by decide)
  | true =>
    refine j_sipush (pc := 0) (v := 900) dX12_laysToken_0 (by decide) ?_
    refine j_iload_n (pc := 3) dX12_laysToken_3 rfl ?_
    refine j_imul (pc := 4) dX12_laysToken_4 ?_
    rw [show (900 : Int32) * nI w = nI (900 * w) from pk_mul 900 _]
    refine j_istore (pc := 5) (ls' := [_, _, _, _, _, _, _, _, _, _]) dX12_laysToken_5 (by decide) rfl rfl ?_
    refine j_iload (pc := 7) dX12_laysToken_7 rfl ?_
    refine j_if_eq (pc := 9) (tgt := 18) dX12_laysToken_9 (by decide) (fun h9 => absurd h9 (by decide)) (fun h9 => ?_)
    refine j_iload_n (pc := 12) dX12_laysToken_12 rfl ?_
    refine j_iconst (pc := 13) (v := 1) dX12_laysToken_13 (by decide) ?_
    refine j_iadd (pc := 14) dX12_laysToken_14 ?_
    refine j_goto (pc := 15) (tgt := 19) dX12_laysToken_15 (by decide) ?_
    refine j_istore (pc := 19) (ls' := [_, _, _, _, _, _, _, _, _, _]) dX12_laysToken_19 (by decide) rfl rfl ?_
    rw [nI_1]
    exact tail (u + 1) (by omega)
