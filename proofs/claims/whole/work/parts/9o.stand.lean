/-! where a reader stands, written anew -/
abbrev zXd (r c k : Nat) : Prop := zXk c k ∨ (c = 155 ∧ k = r) ∨ (c = 156 ∧ 36 * r ≤ k ∧ k < 36 * r + 36)
set_option maxRecDepth 20000 in
set_option maxHeartbeats 4000000 in
theorem j_stand {E : zE} {S : zM} {Q : Option zV → zM → Prop} {s : zST} {t : zTB} {n r u : Nat} {bk : Bool} {L : List Nat} (h : zMO S s) (hw : zWF n s) (ht : sT s = some t) (hu1 : u ≤ tv t) (hu2 : tv t ≤ u + 40) (hr : r < 4) (hL : mFd S L) (hLi : ∀ x ∈ L, x < 64 ∧ (tH t u).1 x = true) (hL20 : L.length ≤ 20) (hpos : 0 < L.length) (cont : ∀ T, zK (zXd r) S T → zgI T 155 r = nI (zkf (tO t) (tH t u) (if bk then L.getD 0 0 else L.getD (L.length - 1) 0)).length → (∀ k, k < (zkf (tO t) (tH t u) (if bk then L.getD 0 0 else L.getD (L.length - 1) 0)).length → zgI T 156 (36 * r + k) = nI ((zkf (tO t) (tH t u) (if bk then L.getD 0 0 else L.getD (L.length - 1) 0)).getD k 0)) → Q (some (zI (nI L.length))) T) : zJ E 5 0 0 mX12_goesReader cX12_goesReader 225 [some (zR 123), some (zI (nI r)), some (zI (zbi bk)), some (zI (nI u)), some (zI (nI L.length))] [] S Q := by
  have hM := h.1
  have hv := hw.v ht
  have hlen : (zkf (tO t) (tH t u) (if bk then L.getD 0 0 else L.getD (L.length - 1) 0)).length ≤ 34 := zkf_len hv.2.2.2.1
  have lp : ∀ (m i : Nat) (T : zM), i + m = (zkf (tO t) (tH t u) (if bk then L.getD 0 0 else L.getD (L.length - 1) 0)).length → zK (zXd r) S T → mL T (zkf (tO t) (tH t u) (if bk then L.getD 0 0 else L.getD (L.length - 1) 0)) → zgI T 155 r = nI (zkf (tO t) (tH t u) (if bk then L.getD 0 0 else L.getD (L.length - 1) 0)).length → (∀ j, j < i → zgI T 156 (36 * r + j) = nI ((zkf (tO t) (tH t u) (if bk then L.getD 0 0 else L.getD (L.length - 1) 0)).getD j 0)) → zJ E 5 0 0 mX12_goesReader cX12_goesReader 262 [some (zR 123), some (zI (nI r)), some (zI (zbi bk)), some (zI (nI u)), some (zI (nI i))] [] T Q := by
    intro m
    induction m with
    | zero =>
      intro i T hi hk hl h155 hq
      have mT := hk.ms hM
      have hFd := hL.k hk (by unfold zXd zXk; omega) (fun i => by unfold zXd zXk; omega)
      refine j_iload (pc := 262) dX12_goesReader_262 rfl ?_
      refine j_aload_n (pc := 264) dX12_goesReader_264 rfl ?_
      refine j_getIv (pc := 265) dX12_goesReader_265 f_X12_334 (Or.inl rfl) mT.1 (hl.1) ?_
      refine j_icmp_ge (pc := 268) (tgt := 296) dX12_goesReader_268 (by decide) (fun h268 => ?_) (fun h268 => absurd (nI_le (show (zkf (tO t) (tH t u) (if bk then L.getD 0 0 else L.getD (L.length - 1) 0)).length ≤ i by omega) (by omega)) h268)
      refine j_aload_n (pc := 296) dX12_goesReader_296 rfl ?_
      refine j_getIv (pc := 297) dX12_goesReader_297 f_X12_392 (Or.inl rfl) mT.1 (hFd.1) ?_
      refine j_iret (pc := 300) dX12_goesReader_300 rfl ?_
      exact cont T hk h155 (fun j hj => hq j (by omega))
    | succ m ih =>
      intro i T hi hk hl h155 hq
      have mT := hk.ms hM
      refine j_iload (pc := 262) dX12_goesReader_262 rfl ?_
      refine j_aload_n (pc := 264) dX12_goesReader_264 rfl ?_
      refine j_getIv (pc := 265) dX12_goesReader_265 f_X12_334 (Or.inl rfl) mT.1 (hl.1) ?_
      refine j_icmp_ge (pc := 268) (tgt := 296) dX12_goesReader_268 (by decide) (fun h268 => absurd h268 (nI_ge (by omega) (by omega))) (fun h268 => ?_)
      refine j_aload_n (pc := 271) dX12_goesReader_271 rfl ?_
      refine j_getPv (pc := 272) dX12_goesReader_272 f_X12_114 (Or.inr ⟨_, rfl⟩) mT.1 (mp_stands mT) ?_
      refine j_bipush (pc := 275) (v := 36) dX12_goesReader_275 (by decide) ?_
      refine j_iload_n (pc := 277) dX12_goesReader_277 rfl ?_
      refine j_imul (pc := 278) dX12_goesReader_278 ?_
      rw [show (36 : Int32) * nI r = nI (36 * r) from pk_mul 36 _]
      refine j_iload (pc := 279) dX12_goesReader_279 rfl ?_
      refine j_iadd (pc := 281) dX12_goesReader_281 ?_
      rw [nI_add]
      refine j_aload_n (pc := 282) dX12_goesReader_282 rfl ?_
      refine j_getPv (pc := 283) dX12_goesReader_283 f_X12_60 (Or.inr ⟨_, rfl⟩) mT.1 (mp_key mT) ?_
      refine j_iload (pc := 286) dX12_goesReader_286 rfl ?_
      refine j_ialdn (pc := 288) dX12_goesReader_288 (mk_key mT) (by omega) (Nat.le_of_ble_eq_true rfl) (hl.2 i (by omega)) ?_
      refine j_iastn (pc := 289) dX12_goesReader_289 (mk_stands mT) (by omega) (Nat.le_of_ble_eq_true rfl) ?_
      refine j_iinc (pc := 290) (v := _ + 1) (ls' := [_, _, _, _, _]) dX12_goesReader_290 rfl rfl (by decide) rfl rfl ?_
      refine j_goto (pc := 293) (tgt := 262) dX12_goesReader_293 (by decide) ?_
      rw [nI_1]
      refine ih (i + 1) _ (by omega) (hk.tr (zK.wI (Or.inr (Or.inr ⟨rfl, by omega, by omega⟩)))) hl h155 (fun j hj => ?_)
      rw [zgI_wI]
      by_cases e : j = i
      · rw [if_pos ⟨rfl, by omega⟩, e]
      · rw [if_neg (by omega)]
        exact hq j (by omega)
  cases hbk : bk with
  | false =>
    subst hbk
    refine j_aload_n (pc := 225) dX12_goesReader_225 rfl ?_
    refine j_iload_n (pc := 226) dX12_goesReader_226 rfl ?_
    refine j_aload_n (pc := 227) dX12_goesReader_227 rfl ?_
    refine j_getPv (pc := 228) dX12_goesReader_228 f_X12_75 (Or.inr ⟨_, rfl⟩) hM.1 (mp_found hM) ?_
    refine j_iload_n (pc := 231) dX12_goesReader_231 rfl ?_
    refine j_if_eq (pc := 232) (tgt := 239) dX12_goesReader_232 (by decide) (fun h232 => ?_) (fun h232 => absurd rfl h232)
    refine j_aload_n (pc := 239) dX12_goesReader_239 rfl ?_
    refine j_getIv (pc := 240) dX12_goesReader_240 f_X12_392 (Or.inl rfl) hM.1 (hL.1) ?_
    refine j_iconst (pc := 243) (v := 1) dX12_goesReader_243 (by decide) ?_
    refine j_isub (pc := 244) dX12_goesReader_244 ?_
    rw [show nI L.length - 1 = nI (L.length - 1) from pk_sub (b := 1) hpos]
    refine j_ialdn (pc := 245) dX12_goesReader_245 (mk_found hM) (by omega) (Nat.le_of_ble_eq_true rfl) (hL.2 (L.length - 1) _ (gD 0 (show L.length - 1 < L.length by omega))) ?_
    refine j_callV (pc := 246) (t := 12) (n_laysKey h hw ht hu1 hu2 (hLi _ (gD_mem (show L.length - 1 < L.length by omega))).1 (hLi _ (gD_mem (show L.length - 1 < L.length by omega))).2) dX12_goesReader_246 l_X12_351 mk_X12_laysKey mv_X12_laysKey (by decide) rfl hM.1 (by decide) rfl rfl (Nat.le_of_ble_eq_true rfl) (Nat.le_refl _) (Nat.le_refl _) (fun r T1 h_1 => ?_)
    obtain ⟨rfl, k1, l1⟩ := h_1
    have n1 := k1.ms hM
    have l1 : mL T1 (zkf (tO t) (tH t u) (if (false : Bool) = true then L.getD 0 0 else L.getD (L.length - 1) 0)) := by
      have e : (if (false : Bool) = true then L.getD 0 0 else L.getD (L.length - 1) 0) = L.getD (L.length - 1) 0 := by rfl
      rw [e]
      exact l1
    refine j_aload_n (pc := 249) dX12_goesReader_249 rfl ?_
    refine j_getPv (pc := 250) dX12_goesReader_250 f_X12_111 (Or.inr ⟨_, rfl⟩) n1.1 (mp_standLong n1) ?_
    refine j_iload_n (pc := 253) dX12_goesReader_253 rfl ?_
    refine j_aload_n (pc := 254) dX12_goesReader_254 rfl ?_
    refine j_getIv (pc := 255) dX12_goesReader_255 f_X12_334 (Or.inl rfl) n1.1 (l1.1) ?_
    refine j_iastn (pc := 258) dX12_goesReader_258 (mk_standLong n1) (by omega) (Nat.le_of_ble_eq_true rfl) ?_
    refine j_iconst (pc := 259) (v := 0) dX12_goesReader_259 (by decide) ?_
    refine j_istore (pc := 260) (ls' := [_, _, _, _, _]) dX12_goesReader_260 (by decide) rfl rfl ?_
    exact lp (zkf (tO t) (tH t u) (if (false : Bool) = true then L.getD 0 0 else L.getD (L.length - 1) 0)).length 0 _ (by omega) ((k1.mo (fun c k z => Or.inl z)).tr (zK.wI (Or.inr (Or.inl ⟨rfl, rfl⟩)))) l1 (by rw [zgI_wI, if_pos ⟨rfl, rfl⟩]) (fun j hj => absurd hj (Nat.not_lt_zero j))
  | true =>
    subst hbk
    refine j_aload_n (pc := 225) dX12_goesReader_225 rfl ?_
    refine j_iload_n (pc := 226) dX12_goesReader_226 rfl ?_
    refine j_aload_n (pc := 227) dX12_goesReader_227 rfl ?_
    refine j_getPv (pc := 228) dX12_goesReader_228 f_X12_75 (Or.inr ⟨_, rfl⟩) hM.1 (mp_found hM) ?_
    refine j_iload_n (pc := 231) dX12_goesReader_231 rfl ?_
    refine j_if_eq (pc := 232) (tgt := 239) dX12_goesReader_232 (by decide) (fun h232 => absurd h232 (by decide)) (fun h232 => ?_)
    refine j_iconst (pc := 235) (v := 0) dX12_goesReader_235 (by decide) ?_
    refine j_goto (pc := 236) (tgt := 245) dX12_goesReader_236 (by decide) ?_
    refine j_ialdn (pc := 245) dX12_goesReader_245 (mk_found hM) (show 0 < 20 by decide) (Nat.le_of_ble_eq_true rfl) (hL.2 0 _ (gD 0 hpos)) ?_
    refine j_callV (pc := 246) (t := 12) (n_laysKey h hw ht hu1 hu2 (hLi _ (gD_mem hpos)).1 (hLi _ (gD_mem hpos)).2) dX12_goesReader_246 l_X12_351 mk_X12_laysKey mv_X12_laysKey (by decide) rfl hM.1 (by decide) rfl rfl (Nat.le_of_ble_eq_true rfl) (Nat.le_refl _) (Nat.le_refl _) (fun r T1 h_1 => ?_)
    obtain ⟨rfl, k1, l1⟩ := h_1
    have n1 := k1.ms hM
    have l1 : mL T1 (zkf (tO t) (tH t u) (if (true : Bool) = true then L.getD 0 0 else L.getD (L.length - 1) 0)) := by
      have e : (if (true : Bool) = true then L.getD 0 0 else L.getD (L.length - 1) 0) = L.getD 0 0 := by rfl
      rw [e]
      exact l1
    refine j_aload_n (pc := 249) dX12_goesReader_249 rfl ?_
    refine j_getPv (pc := 250) dX12_goesReader_250 f_X12_111 (Or.inr ⟨_, rfl⟩) n1.1 (mp_standLong n1) ?_
    refine j_iload_n (pc := 253) dX12_goesReader_253 rfl ?_
    refine j_aload_n (pc := 254) dX12_goesReader_254 rfl ?_
    refine j_getIv (pc := 255) dX12_goesReader_255 f_X12_334 (Or.inl rfl) n1.1 (l1.1) ?_
    refine j_iastn (pc := 258) dX12_goesReader_258 (mk_standLong n1) (by omega) (Nat.le_of_ble_eq_true rfl) ?_
    refine j_iconst (pc := 259) (v := 0) dX12_goesReader_259 (by decide) ?_
    refine j_istore (pc := 260) (ls' := [_, _, _, _, _]) dX12_goesReader_260 (by decide) rfl rfl ?_
    exact lp (zkf (tO t) (tH t u) (if (true : Bool) = true then L.getD 0 0 else L.getD (L.length - 1) 0)).length 0 _ (by omega) ((k1.mo (fun c k z => Or.inl z)).tr (zK.wI (Or.inr (Or.inl ⟨rfl, rfl⟩)))) l1 (by rw [zgI_wI, if_pos ⟨rfl, rfl⟩]) (fun j hj => absurd hj (Nat.not_lt_zero j))
