set_option maxRecDepth 20000 in
set_option maxHeartbeats 4000000 in
theorem lw_c0 {nm : String} {E : zE} {L : Nat} {xs : Nat → Int32} {Q : zQx} {k i n : Nat} {S : zM} {s : zST} (hE : zOKE E) (hX : zOKX E) (hl0 : ∀ l s c, Q.1 l s c → l.stackTraces = false) (hs : zScr E L xs) (h4 : L ≤ 4608) (hi : i + 9 ≤ L) (hn : n + 1 < 600) (hI : zLI n S s) (fin : ∀ (T : zM) (s' : zST), zLI (n + 1) T s' → zJx E 10 (24 * k) (614 * k) (mL_law nm) cL_law 1812 (zll i) [] T Q) : zJx E 10 (24 * (k + 1)) (614 * (k + 1)) (mL_law nm) cL_law 216 (zll i) [] S Q := by
  obtain ⟨hC, hM, hW, hO⟩ := id hI
  have k1 := hC.1.1
  refine x_aload_n (pc := 216) dL_law_216 rfl ?_
  refine x_aload_nq (pc := 217) dL_law_217 rfl ?_
  refine x_iload (pc := 218) dL_law_218 rfl ?_
  refine x_iconst (pc := 220) (v := 1) dL_law_220 (by decide) ?_
  refine x_iadd (pc := 221) dL_law_221 ?_
  refine x_sld (pc := 222) (j := i + 1) hs h4 dL_law_222 (nI_p1 i) (by omega) ?_
  refine x_aload_nq (pc := 223) dL_law_223 rfl ?_
  refine x_iload (pc := 224) dL_law_224 rfl ?_
  refine x_iconst (pc := 226) (v := 2) dL_law_226 (by decide) ?_
  refine x_iadd (pc := 227) dL_law_227 ?_
  refine x_sld (pc := 228) (j := i + 2) hs h4 dL_law_228 (nI_p2 i) (by omega) ?_
  refine x_aload_nq (pc := 229) dL_law_229 rfl ?_
  refine x_iload (pc := 230) dL_law_230 rfl ?_
  refine x_iconst (pc := 232) (v := 3) dL_law_232 (by decide) ?_
  refine x_iadd (pc := 233) dL_law_233 ?_
  refine x_sld (pc := 234) (j := i + 3) hs h4 dL_law_234 (nI_p3 i) (by omega) ?_
  refine x_aload_nq (pc := 235) dL_law_235 rfl ?_
  refine x_iload (pc := 236) dL_law_236 rfl ?_
  refine x_iconst (pc := 238) (v := 4) dL_law_238 (by decide) ?_
  refine x_iadd (pc := 239) dL_law_239 ?_
  refine x_sld (pc := 240) (j := i + 4) hs h4 dL_law_240 (nI_p4 i) (by omega) ?_
  refine x_aload_nq (pc := 241) dL_law_241 rfl ?_
  refine x_iload (pc := 242) dL_law_242 rfl ?_
  refine x_iconst (pc := 244) (v := 5) dL_law_244 (by decide) ?_
  refine x_iadd (pc := 245) dL_law_245 ?_
  refine x_sld (pc := 246) (j := i + 5) hs h4 dL_law_246 (nI_p5 i) (by omega) ?_
  refine x_callV (pc := 247) (t := 11) (mc2 := 24 * k) (ms2 := 614 * k) (p_feed hC hW (xs (i + 1)) (xs (i + 2)) (xs (i + 3)) (xs (i + 4)) (xs (i + 5))) dL_law_247 l_L_19 mk_X11_feed mv_X11_feed (by decide) rfl k1 (by decide) rfl rfl (Nat.le_of_ble_eq_true rfl) (by omega) (by omega) (fun r T g1 => ?_)
  obtain ⟨rfl, hC1, hQ1⟩ := g1
  have hM1 := hI.m hQ1
  refine x_aload_n (pc := 250) dL_law_250 rfl ?_
  refine x_aload_nq (pc := 251) dL_law_251 rfl ?_
  refine x_iload (pc := 252) dL_law_252 rfl ?_
  refine x_iconst (pc := 254) (v := 1) dL_law_254 (by decide) ?_
  refine x_iadd (pc := 255) dL_law_255 ?_
  refine x_sld (pc := 256) (j := i + 1) hs h4 dL_law_256 (nI_p1 i) (by omega) ?_
  refine x_aload_nq (pc := 257) dL_law_257 rfl ?_
  refine x_iload (pc := 258) dL_law_258 rfl ?_
  refine x_iconst (pc := 260) (v := 2) dL_law_260 (by decide) ?_
  refine x_iadd (pc := 261) dL_law_261 ?_
  refine x_sld (pc := 262) (j := i + 2) hs h4 dL_law_262 (nI_p2 i) (by omega) ?_
  refine x_aload_nq (pc := 263) dL_law_263 rfl ?_
  refine x_iload (pc := 264) dL_law_264 rfl ?_
  refine x_iconst (pc := 266) (v := 3) dL_law_266 (by decide) ?_
  refine x_iadd (pc := 267) dL_law_267 ?_
  refine x_sld (pc := 268) (j := i + 3) hs h4 dL_law_268 (nI_p3 i) (by omega) ?_
  refine x_aload_nq (pc := 269) dL_law_269 rfl ?_
  refine x_iload (pc := 270) dL_law_270 rfl ?_
  refine x_iconst (pc := 272) (v := 4) dL_law_272 (by decide) ?_
  refine x_iadd (pc := 273) dL_law_273 ?_
  refine x_sld (pc := 274) (j := i + 4) hs h4 dL_law_274 (nI_p4 i) (by omega) ?_
  refine x_aload_nq (pc := 275) dL_law_275 rfl ?_
  refine x_iload (pc := 276) dL_law_276 rfl ?_
  refine x_iconst (pc := 278) (v := 5) dL_law_278 (by decide) ?_
  refine x_iadd (pc := 279) dL_law_279 ?_
  refine x_sld (pc := 280) (j := i + 5) hs h4 dL_law_280 (nI_p5 i) (by omega) ?_
  refine x_callV (pc := 281) (t := 12) (m_feed hM1 hW (xs (i + 1)) (xs (i + 2)) (xs (i + 3)) (xs (i + 4)) (xs (i + 5))) dL_law_281 l_L_23 mk_X12_feed mv_X12_feed (by decide) rfl hM1.1.1 (by decide) rfl rfl (Nat.le_of_ble_eq_true rfl) (Nat.le_refl _) (Nat.le_refl _) (fun r T2 g2 => ?_)
  obtain ⟨rfl, hM2, hF2⟩ := g2
  refine x_icmp_eq (pc := 284) (tgt := 1812) dL_law_284 (by decide) (fun _ => ?_) (fun g => absurd rfl g)
  exact fin _ _ (hI.next hQ1 hC1 hF2 hM2 (w_feed hW hn (xs (i + 1)) (xs (i + 2)) (xs (i + 3)) (xs (i + 4)) (xs (i + 5))))
set_option maxRecDepth 20000 in
set_option maxHeartbeats 4000000 in
theorem lw_c1 {nm : String} {E : zE} {L : Nat} {xs : Nat → Int32} {Q : zQx} {k i n : Nat} {S : zM} {s : zST} (hE : zOKE E) (hX : zOKX E) (hl0 : ∀ l s c, Q.1 l s c → l.stackTraces = false) (hs : zScr E L xs) (h4 : L ≤ 4608) (hi : i + 9 ≤ L) (hn : n + 1 < 600) (hI : zLI n S s) (fin : ∀ (T : zM) (s' : zST), zLI (n + 1) T s' → zJx E 10 (24 * k) (614 * k) (mL_law nm) cL_law 1812 (zll i) [] T Q) : zJx E 10 (24 * (k + 1)) (614 * (k + 1)) (mL_law nm) cL_law 289 (zll i) [] S Q := by
  obtain ⟨hC, hM, hW, hO⟩ := id hI
  have k1 := hC.1.1
  refine x_aload_n (pc := 289) dL_law_289 rfl ?_
  refine x_aload_nq (pc := 290) dL_law_290 rfl ?_
  refine x_iload (pc := 291) dL_law_291 rfl ?_
  refine x_iconst (pc := 293) (v := 1) dL_law_293 (by decide) ?_
  refine x_iadd (pc := 294) dL_law_294 ?_
  refine x_sld (pc := 295) (j := i + 1) hs h4 dL_law_295 (nI_p1 i) (by omega) ?_
  refine x_callV (pc := 296) (t := 11) (mc2 := 24 * k) (ms2 := 614 * k) (p_table hC hW (xs (i + 1))) dL_law_296 l_L_24 mk_X11_table mv_X11_table (by decide) rfl k1 (by decide) rfl rfl (Nat.le_of_ble_eq_true rfl) (by omega) (by omega) (fun r T g1 => ?_)
  obtain ⟨rfl, hC1, hQ1⟩ := g1
  have hM1 := hI.m hQ1
  refine x_aload_n (pc := 299) dL_law_299 rfl ?_
  refine x_aload_nq (pc := 300) dL_law_300 rfl ?_
  refine x_iload (pc := 301) dL_law_301 rfl ?_
  refine x_iconst (pc := 303) (v := 1) dL_law_303 (by decide) ?_
  refine x_iadd (pc := 304) dL_law_304 ?_
  refine x_sld (pc := 305) (j := i + 1) hs h4 dL_law_305 (nI_p1 i) (by omega) ?_
  refine x_callV (pc := 306) (t := 12) (m_table hE hM1 hW (xs (i + 1))) dL_law_306 l_L_27 mk_X12_table mv_X12_table (by decide) rfl hM1.1.1 (by decide) rfl rfl (Nat.le_of_ble_eq_true rfl) (Nat.le_refl _) (Nat.le_refl _) (fun r T2 g2 => ?_)
  obtain ⟨rfl, hM2, hF2⟩ := g2
  refine x_icmp_eq (pc := 309) (tgt := 1812) dL_law_309 (by decide) (fun _ => ?_) (fun g => absurd rfl g)
  exact fin _ _ (hI.next hQ1 hC1 hF2 hM2 (w_table hW hn (xs (i + 1))))
set_option maxRecDepth 20000 in
set_option maxHeartbeats 4000000 in
theorem lw_c2 {nm : String} {E : zE} {L : Nat} {xs : Nat → Int32} {Q : zQx} {k i n : Nat} {S : zM} {s : zST} (hE : zOKE E) (hX : zOKX E) (hl0 : ∀ l s c, Q.1 l s c → l.stackTraces = false) (hs : zScr E L xs) (h4 : L ≤ 4608) (hi : i + 9 ≤ L) (hn : n + 1 < 600) (hI : zLI n S s) (fin : ∀ (T : zM) (s' : zST), zLI (n + 1) T s' → zJx E 10 (24 * k) (614 * k) (mL_law nm) cL_law 1812 (zll i) [] T Q) : zJx E 10 (24 * (k + 1)) (614 * (k + 1)) (mL_law nm) cL_law 314 (zll i) [] S Q := by
  obtain ⟨hC, hM, hW, hO⟩ := id hI
  have k1 := hC.1.1
  refine x_aload_n (pc := 314) dL_law_314 rfl ?_
  refine x_callV (pc := 315) (t := 11) (mc2 := 24 * k) (ms2 := 614 * k) (p_fault hC hW) dL_law_315 l_L_28 mk_X11_fault mv_X11_fault (by decide) rfl k1 (by decide) rfl rfl (Nat.le_of_ble_eq_true rfl) (by omega) (by omega) (fun r T g1 => ?_)
  obtain ⟨rfl, hC1, hQ1⟩ := g1
  have hM1 := hI.m hQ1
  refine x_aload_n (pc := 318) dL_law_318 rfl ?_
  refine x_callV (pc := 319) (t := 12) (m_fault hM1 hW) dL_law_319 l_L_32 mk_X12_fault mv_X12_fault (by decide) rfl hM1.1.1 (by decide) rfl rfl (Nat.le_of_ble_eq_true rfl) (Nat.le_refl _) (Nat.le_refl _) (fun r T2 g2 => ?_)
  obtain ⟨rfl, hM2, hF2⟩ := g2
  refine x_icmp_eq (pc := 322) (tgt := 1812) dL_law_322 (by decide) (fun _ => ?_) (fun g => absurd rfl g)
  exact fin _ _ (hI.next hQ1 hC1 hF2 hM2 (w_fault hW hn))
set_option maxRecDepth 20000 in
set_option maxHeartbeats 4000000 in
theorem lw_c3 {nm : String} {E : zE} {L : Nat} {xs : Nat → Int32} {Q : zQx} {k i n : Nat} {S : zM} {s : zST} (hE : zOKE E) (hX : zOKX E) (hl0 : ∀ l s c, Q.1 l s c → l.stackTraces = false) (hs : zScr E L xs) (h4 : L ≤ 4608) (hi : i + 9 ≤ L) (hn : n + 1 < 600) (hI : zLI n S s) (fin : ∀ (T : zM) (s' : zST), zLI (n + 1) T s' → zJx E 10 (24 * k) (614 * k) (mL_law nm) cL_law 1812 (zll i) [] T Q) : zJx E 10 (24 * (k + 1)) (614 * (k + 1)) (mL_law nm) cL_law 327 (zll i) [] S Q := by
  obtain ⟨hC, hM, hW, hO⟩ := id hI
  have k1 := hC.1.1
  refine x_aload_n (pc := 327) dL_law_327 rfl ?_
  refine x_callV (pc := 328) (t := 11) (mc2 := 24 * k) (ms2 := 614 * k) (p_where hC hW) dL_law_328 l_L_33 mk_X11_where mv_X11_where (by decide) rfl k1 (by decide) rfl rfl (Nat.le_of_ble_eq_true rfl) (by omega) (by omega) (fun r T g1 => ?_)
  obtain ⟨rfl, hC1, hQ1⟩ := g1
  have hM1 := hI.m hQ1
  refine x_aload_n (pc := 331) dL_law_331 rfl ?_
  refine x_callV (pc := 332) (t := 12) (m_where hM1 hW) dL_law_332 l_L_36 mk_X12_where mv_X12_where (by decide) rfl hM1.1.1 (by decide) rfl rfl (Nat.le_of_ble_eq_true rfl) (Nat.le_refl _) (Nat.le_refl _) (fun r T2 g2 => ?_)
  obtain ⟨rfl, hM2, hF2⟩ := g2
  refine x_icmp_eq (pc := 335) (tgt := 1812) dL_law_335 (by decide) (fun _ => ?_) (fun g => absurd rfl g)
  exact fin _ _ (hI.next hQ1 hC1 hF2 hM2 (w_where hW hn))
set_option maxRecDepth 20000 in
set_option maxHeartbeats 4000000 in
theorem lw_c4 {nm : String} {E : zE} {L : Nat} {xs : Nat → Int32} {Q : zQx} {k i n : Nat} {S : zM} {s : zST} (hE : zOKE E) (hX : zOKX E) (hl0 : ∀ l s c, Q.1 l s c → l.stackTraces = false) (hs : zScr E L xs) (h4 : L ≤ 4608) (hi : i + 9 ≤ L) (hn : n + 1 < 600) (hI : zLI n S s) (fin : ∀ (T : zM) (s' : zST), zLI (n + 1) T s' → zJx E 10 (24 * k) (614 * k) (mL_law nm) cL_law 1812 (zll i) [] T Q) : zJx E 10 (24 * (k + 1)) (614 * (k + 1)) (mL_law nm) cL_law 340 (zll i) [] S Q := by
  obtain ⟨hC, hM, hW, hO⟩ := id hI
  have k1 := hC.1.1
  refine x_aload_n (pc := 340) dL_law_340 rfl ?_
  refine x_aload_nq (pc := 341) dL_law_341 rfl ?_
  refine x_iload (pc := 342) dL_law_342 rfl ?_
  refine x_iconst (pc := 344) (v := 1) dL_law_344 (by decide) ?_
  refine x_iadd (pc := 345) dL_law_345 ?_
  refine x_sld (pc := 346) (j := i + 1) hs h4 dL_law_346 (nI_p1 i) (by omega) ?_
  refine x_callV (pc := 347) (t := 11) (mc2 := 24 * k) (ms2 := 614 * k) (p_about hC hW (xs (i + 1))) dL_law_347 l_L_37 mk_X11_about mv_X11_about (by decide) rfl k1 (by decide) rfl rfl (Nat.le_of_ble_eq_true rfl) (by omega) (by omega) (fun r T g1 => ?_)
  obtain ⟨rfl, hC1, hQ1⟩ := g1
  have hM1 := hI.m hQ1
  refine x_aload_n (pc := 350) dL_law_350 rfl ?_
  refine x_aload_nq (pc := 351) dL_law_351 rfl ?_
  refine x_iload (pc := 352) dL_law_352 rfl ?_
  refine x_iconst (pc := 354) (v := 1) dL_law_354 (by decide) ?_
  refine x_iadd (pc := 355) dL_law_355 ?_
  refine x_sld (pc := 356) (j := i + 1) hs h4 dL_law_356 (nI_p1 i) (by omega) ?_
  refine x_callV (pc := 357) (t := 12) (m_about hM1 hW (xs (i + 1))) dL_law_357 l_L_40 mk_X12_about mv_X12_about (by decide) rfl hM1.1.1 (by decide) rfl rfl (Nat.le_of_ble_eq_true rfl) (Nat.le_refl _) (Nat.le_refl _) (fun r T2 g2 => ?_)
  obtain ⟨rfl, hM2, hF2⟩ := g2
  refine x_icmp_eq (pc := 360) (tgt := 1812) dL_law_360 (by decide) (fun _ => ?_) (fun g => absurd rfl g)
  exact fin _ _ (hI.next hQ1 hC1 hF2 hM2 (w_about hW hn (xs (i + 1))))
set_option maxRecDepth 20000 in
set_option maxHeartbeats 4000000 in
theorem lw_c5 {nm : String} {E : zE} {L : Nat} {xs : Nat → Int32} {Q : zQx} {k i n : Nat} {S : zM} {s : zST} (hE : zOKE E) (hX : zOKX E) (hl0 : ∀ l s c, Q.1 l s c → l.stackTraces = false) (hs : zScr E L xs) (h4 : L ≤ 4608) (hi : i + 9 ≤ L) (hn : n + 1 < 600) (hI : zLI n S s) (fin : ∀ (T : zM) (s' : zST), zLI (n + 1) T s' → zJx E 10 (24 * k) (614 * k) (mL_law nm) cL_law 1812 (zll i) [] T Q) : zJx E 10 (24 * (k + 1)) (614 * (k + 1)) (mL_law nm) cL_law 365 (zll i) [] S Q := by
  obtain ⟨hC, hM, hW, hO⟩ := id hI
  have k1 := hC.1.1
  refine x_aload_n (pc := 365) dL_law_365 rfl ?_
  refine x_aload_nq (pc := 366) dL_law_366 rfl ?_
  refine x_iload (pc := 367) dL_law_367 rfl ?_
  refine x_iconst (pc := 369) (v := 1) dL_law_369 (by decide) ?_
  refine x_iadd (pc := 370) dL_law_370 ?_
  refine x_sld (pc := 371) (j := i + 1) hs h4 dL_law_371 (nI_p1 i) (by omega) ?_
  refine x_callV (pc := 372) (t := 11) (mc2 := 24 * k) (ms2 := 614 * k) (p_kind hC hW (xs (i + 1))) dL_law_372 l_L_41 mk_X11_kind mv_X11_kind (by decide) rfl k1 (by decide) rfl rfl (Nat.le_of_ble_eq_true rfl) (by omega) (by omega) (fun r T g1 => ?_)
  obtain ⟨rfl, hC1, hQ1⟩ := g1
  have hM1 := hI.m hQ1
  refine x_aload_n (pc := 375) dL_law_375 rfl ?_
  refine x_aload_nq (pc := 376) dL_law_376 rfl ?_
  refine x_iload (pc := 377) dL_law_377 rfl ?_
  refine x_iconst (pc := 379) (v := 1) dL_law_379 (by decide) ?_
  refine x_iadd (pc := 380) dL_law_380 ?_
  refine x_sld (pc := 381) (j := i + 1) hs h4 dL_law_381 (nI_p1 i) (by omega) ?_
  refine x_callV (pc := 382) (t := 12) (m_kind hM1 hW (xs (i + 1))) dL_law_382 l_L_44 mk_X12_kind mv_X12_kind (by decide) rfl hM1.1.1 (by decide) rfl rfl (Nat.le_of_ble_eq_true rfl) (Nat.le_refl _) (Nat.le_refl _) (fun r T2 g2 => ?_)
  obtain ⟨rfl, hM2, hF2⟩ := g2
  refine x_icmp_eq (pc := 385) (tgt := 1812) dL_law_385 (by decide) (fun _ => ?_) (fun g => absurd rfl g)
  exact fin _ _ (hI.next hQ1 hC1 hF2 hM2 (w_kind hW hn (xs (i + 1))))
set_option maxRecDepth 20000 in
set_option maxHeartbeats 4000000 in
theorem lw_c6 {nm : String} {E : zE} {L : Nat} {xs : Nat → Int32} {Q : zQx} {k i n : Nat} {S : zM} {s : zST} (hE : zOKE E) (hX : zOKX E) (hl0 : ∀ l s c, Q.1 l s c → l.stackTraces = false) (hs : zScr E L xs) (h4 : L ≤ 4608) (hi : i + 9 ≤ L) (hn : n + 1 < 600) (hI : zLI n S s) (fin : ∀ (T : zM) (s' : zST), zLI (n + 1) T s' → zJx E 10 (24 * k) (614 * k) (mL_law nm) cL_law 1812 (zll i) [] T Q) : zJx E 10 (24 * (k + 1)) (614 * (k + 1)) (mL_law nm) cL_law 390 (zll i) [] S Q := by
  obtain ⟨hC, hM, hW, hO⟩ := id hI
  have k1 := hC.1.1
  refine x_aload_n (pc := 390) dL_law_390 rfl ?_
  refine x_aload_nq (pc := 391) dL_law_391 rfl ?_
  refine x_iload (pc := 392) dL_law_392 rfl ?_
  refine x_iconst (pc := 394) (v := 1) dL_law_394 (by decide) ?_
  refine x_iadd (pc := 395) dL_law_395 ?_
  refine x_sld (pc := 396) (j := i + 1) hs h4 dL_law_396 (nI_p1 i) (by omega) ?_
  refine x_aload_nq (pc := 397) dL_law_397 rfl ?_
  refine x_iload (pc := 398) dL_law_398 rfl ?_
  refine x_iconst (pc := 400) (v := 2) dL_law_400 (by decide) ?_
  refine x_iadd (pc := 401) dL_law_401 ?_
  refine x_sld (pc := 402) (j := i + 2) hs h4 dL_law_402 (nI_p2 i) (by omega) ?_
  refine x_callV (pc := 403) (t := 11) (mc2 := 24 * k) (ms2 := 614 * k) (p_orderAt hC hW (xs (i + 1)) (xs (i + 2))) dL_law_403 l_L_45 mk_X11_orderAt mv_X11_orderAt (by decide) rfl k1 (by decide) rfl rfl (Nat.le_of_ble_eq_true rfl) (by omega) (by omega) (fun r T g1 => ?_)
  obtain ⟨rfl, hC1, hQ1⟩ := g1
  have hM1 := hI.m hQ1
  refine x_aload_n (pc := 406) dL_law_406 rfl ?_
  refine x_aload_nq (pc := 407) dL_law_407 rfl ?_
  refine x_iload (pc := 408) dL_law_408 rfl ?_
  refine x_iconst (pc := 410) (v := 1) dL_law_410 (by decide) ?_
  refine x_iadd (pc := 411) dL_law_411 ?_
  refine x_sld (pc := 412) (j := i + 1) hs h4 dL_law_412 (nI_p1 i) (by omega) ?_
  refine x_aload_nq (pc := 413) dL_law_413 rfl ?_
  refine x_iload (pc := 414) dL_law_414 rfl ?_
  refine x_iconst (pc := 416) (v := 2) dL_law_416 (by decide) ?_
  refine x_iadd (pc := 417) dL_law_417 ?_
  refine x_sld (pc := 418) (j := i + 2) hs h4 dL_law_418 (nI_p2 i) (by omega) ?_
  refine x_callV (pc := 419) (t := 12) (m_orderAt hM1 hW (xs (i + 1)) (xs (i + 2))) dL_law_419 l_L_49 mk_X12_orderAt mv_X12_orderAt (by decide) rfl hM1.1.1 (by decide) rfl rfl (Nat.le_of_ble_eq_true rfl) (Nat.le_refl _) (Nat.le_refl _) (fun r T2 g2 => ?_)
  obtain ⟨rfl, hM2, hF2⟩ := g2
  refine x_icmp_eq (pc := 422) (tgt := 1812) dL_law_422 (by decide) (fun _ => ?_) (fun g => absurd rfl g)
  exact fin _ _ (hI.next hQ1 hC1 hF2 hM2 (w_orderAt hW hn (xs (i + 1)) (xs (i + 2))))
set_option maxRecDepth 20000 in
set_option maxHeartbeats 4000000 in
theorem lw_c7 {nm : String} {E : zE} {L : Nat} {xs : Nat → Int32} {Q : zQx} {k i n : Nat} {S : zM} {s : zST} (hE : zOKE E) (hX : zOKX E) (hl0 : ∀ l s c, Q.1 l s c → l.stackTraces = false) (hs : zScr E L xs) (h4 : L ≤ 4608) (hi : i + 9 ≤ L) (hn : n + 1 < 600) (hI : zLI n S s) (fin : ∀ (T : zM) (s' : zST), zLI (n + 1) T s' → zJx E 10 (24 * k) (614 * k) (mL_law nm) cL_law 1812 (zll i) [] T Q) : zJx E 10 (24 * (k + 1)) (614 * (k + 1)) (mL_law nm) cL_law 427 (zll i) [] S Q := by
  obtain ⟨hC, hM, hW, hO⟩ := id hI
  have k1 := hC.1.1
  refine x_aload_n (pc := 427) dL_law_427 rfl ?_
  refine x_aload_nq (pc := 428) dL_law_428 rfl ?_
  refine x_iload (pc := 429) dL_law_429 rfl ?_
  refine x_iconst (pc := 431) (v := 1) dL_law_431 (by decide) ?_
  refine x_iadd (pc := 432) dL_law_432 ?_
  refine x_sld (pc := 433) (j := i + 1) hs h4 dL_law_433 (nI_p1 i) (by omega) ?_
  refine x_aload_nq (pc := 434) dL_law_434 rfl ?_
  refine x_iload (pc := 435) dL_law_435 rfl ?_
  refine x_iconst (pc := 437) (v := 2) dL_law_437 (by decide) ?_
  refine x_iadd (pc := 438) dL_law_438 ?_
  refine x_sld (pc := 439) (j := i + 2) hs h4 dL_law_439 (nI_p2 i) (by omega) ?_
  refine x_callV (pc := 440) (t := 11) (mc2 := 24 * k) (ms2 := 614 * k) (p_value hC hW (xs (i + 1)) (xs (i + 2))) dL_law_440 l_L_50 mk_X11_value mv_X11_value (by decide) rfl k1 (by decide) rfl rfl (Nat.le_of_ble_eq_true rfl) (by omega) (by omega) (fun r T g1 => ?_)
  obtain ⟨rfl, hC1, hQ1⟩ := g1
  have hM1 := hI.m hQ1
  refine x_aload_n (pc := 443) dL_law_443 rfl ?_
  refine x_aload_nq (pc := 444) dL_law_444 rfl ?_
  refine x_iload (pc := 445) dL_law_445 rfl ?_
  refine x_iconst (pc := 447) (v := 1) dL_law_447 (by decide) ?_
  refine x_iadd (pc := 448) dL_law_448 ?_
  refine x_sld (pc := 449) (j := i + 1) hs h4 dL_law_449 (nI_p1 i) (by omega) ?_
  refine x_aload_nq (pc := 450) dL_law_450 rfl ?_
  refine x_iload (pc := 451) dL_law_451 rfl ?_
  refine x_iconst (pc := 453) (v := 2) dL_law_453 (by decide) ?_
  refine x_iadd (pc := 454) dL_law_454 ?_
  refine x_sld (pc := 455) (j := i + 2) hs h4 dL_law_455 (nI_p2 i) (by omega) ?_
  refine x_callV (pc := 456) (t := 12) (m_value hM1 hW (xs (i + 1)) (xs (i + 2))) dL_law_456 l_L_54 mk_X12_value mv_X12_value (by decide) rfl hM1.1.1 (by decide) rfl rfl (Nat.le_of_ble_eq_true rfl) (Nat.le_refl _) (Nat.le_refl _) (fun r T2 g2 => ?_)
  obtain ⟨rfl, hM2, hF2⟩ := g2
  refine x_lcmp (pc := 459) dL_law_459 ?_
  refine x_if_eq (pc := 460) (tgt := 1812) dL_law_460 (by decide) (fun _ => ?_) (fun g => absurd ((lg_cmp_eq _ _).mpr rfl) g)
  exact fin _ _ (hI.next hQ1 hC1 hF2 hM2 (w_value hW hn (xs (i + 1)) (xs (i + 2))))
