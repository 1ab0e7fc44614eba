/-! the law's beginning: the class, the model, the row for lacking are made -/
def z00 : zM := (fun _ => (0, 0), fun _ _ => 0, fun _ _ => 0, fun _ _ => 0, 0)
theorem zRp.start {E : zE} (h : (zH E).size = zb E) : zRp E z00 (zH E) := by
  refine ⟨h, fun q _ => rfl, fun a t n hk _ => ?_, fun a j n hk _ => ?_⟩
  · have := (Prod.mk.inj (show ((0, 0) : Nat × Nat) = (t + 1, n) from hk)).1
    omega
  · have := (Prod.mk.inj (show ((0, 0) : Nat × Nat) = (14 + j, n) from hk)).1
    omega
theorem zD0.ag {S T : zM} (h : zD0 S) (f : ∀ c, 1 ≤ c → c < 123 → zAg S T c) : zD0 T := by
  obtain ⟨k1, ⟨q0, b0⟩, ⟨q1, b1⟩, ⟨q2, b2, z2⟩, ⟨q3, b3⟩, ⟨q4, k102⟩, hl, q5, i6, i7, i8⟩ := h
  have f1 := f 1 (by decide) (by decide)
  have f102 := f 102 (by decide) (by decide)
  exact ⟨f1.1.trans k1, ⟨(f1.2.2.2 0).trans q0, b0.ag (f _ (by decide) (by decide)) (f _ (by decide) (by decide))⟩, ⟨(f1.2.2.2 1).trans q1, b1.ag (f _ (by decide) (by decide)) (f _ (by decide) (by decide))⟩, ⟨(f1.2.2.2 2).trans q2, b2.ag (fun c h1 h2 => f c (by omega) (by omega)), ((f 6 (by decide) (by decide)).2.2.2 8).trans z2⟩, ⟨(f1.2.2.2 3).trans q3, b3.ag (fun c h1 h2 => f c (by omega) (by omega))⟩, ⟨(f1.2.2.2 4).trans q4, f102.1.trans k102⟩, fun o ho => ⟨(f102.2.2.2 o).trans (hl o ho).1, (hl o ho).2.ag (fun k hk => f _ (by omega) (by omega))⟩, (f1.2.2.2 5).trans q5, (f1.2.1 6).trans i6, (f1.2.1 7).trans i7, (f1.2.1 8).trans i8⟩
theorem zD0.ci {S : zM} (h : zD0 S) (hg : 160 ≤ zgn S) : zCI S s0 := by
  obtain ⟨k1, ⟨q0, b0⟩, ⟨q1, b1⟩, ⟨q2, b2, z2⟩, ⟨q3, b3⟩, ⟨q4, k102⟩, hl, q5, i6, i7, i8⟩ := h
  exact ⟨⟨k1, ⟨q0, q1, q2, q3, q4⟩, k102, fun r hr => (hl r hr).1, hg⟩, b0, ⟨[], b1⟩, ⟨i6, i7, i8⟩, ⟨b2, by rw [z2]; exact Nat.zero_le _⟩, ⟨[], fun _ _ => 0, [], [], [], 0, 0, b3⟩, fun r hr => ⟨false, false, 0, 0, 0, fun _ => 0, fun _ => 0, [], (hl r hr).2⟩, q5⟩
theorem zWF_s0 : zWF 0 s0 := ⟨by decide, ⟨Nat.zero_le _, fun b hb => absurd hb List.not_mem_nil⟩, ⟨Nat.zero_le _, Nat.zero_le _⟩, rfl, fun _ => rfl⟩
set_option maxRecDepth 20000 in
set_option maxHeartbeats 4000000 in
theorem lw_begin {nm : String} {E : zE} {L : Nat} {xs : Nat → Int32} {Q : zQx} (hE : zOKE E) (hX : zOKX E) (hl0 : ∀ l s c, Q.1 l s c → l.stackTraces = false) (hs : zScr E L xs) (h4 : L ≤ 4608) (hend : ∀ (i : Nat) (S : zM), zJx E 10 0 0 (mL_law nm) cL_law 1818 (zll i) [] S Q) : zJx E 10 12448 337796 (mL_law nm) cL_law 0 [some (zQ 42), none, none, none, none, none, none] [] z00 Q := by
  refine x_new (pc := 0) (mc2 := 12447) (ms2 := 337787) dL_law_0 nlL_8 (Nat.le_of_ble_eq_true rfl) (Nat.le_of_ble_eq_true rfl) ?_
  rw [show zgn z00 + 1 = 1 from rfl]
  refine x_dup (pc := 3) dL_law_3 rfl ?_
  refine x_callI (pc := 4) (mc2 := 12326) (ms2 := 332297) (c_dinit (S := znw z00 12 0) rfl rfl) dL_law_4 l_L_15 mk_X11_init rfl rfl mi_X11_init (by decide) (by decide) rfl rfl (Nat.le_of_ble_eq_true rfl) (Nat.le_of_ble_eq_true rfl) (Nat.le_of_ble_eq_true rfl) (fun r T1 g1 => ?_)
  obtain ⟨rfl, hD1, hg1, hN1⟩ := g1
  refine x_astore_n (pc := 7) (ls' := [_, _, _, _, _, _, _]) dL_law_7 (show 1 < 7 by decide) rfl rfl ?_
  refine x_new (pc := 8) (mc2 := 12325) (ms2 := 332233) dL_law_8 nlL_16 (Nat.le_of_ble_eq_true rfl) (Nat.le_of_ble_eq_true rfl) ?_
  rw [show zgn T1 + 1 = 123 by omega]
  refine x_dup (pc := 11) dL_law_11 rfl ?_
  have hk : zkd (znw T1 13 0) 123 = (13, 0) := by rw [show 123 = zgn T1 + 1 by omega]; exact znw_kd
  have hz : zgn (znw T1 13 0) = 123 := by show zgn T1 + 1 = 123; omega
  have h0 : ∀ k, zgI (znw T1 13 0) 123 k = 0 := fun k => by rw [zgI_nw, if_pos (by omega)]
  refine x_callI (pc := 12) (mc2 := 12289) (ms2 := 314369) (c_minit (S := znw T1 13 0) hk hz h0) dL_law_12 l_L_18 mk_X12_init rfl rfl mi_X12_init (by decide) (by decide) rfl rfl (Nat.le_of_ble_eq_true rfl) (Nat.le_of_ble_eq_true rfl) (Nat.le_of_ble_eq_true rfl) (fun r T2 g2 => ?_)
  obtain ⟨rfl, hM2, hg2, hN2⟩ := g2
  refine x_astore_n (pc := 15) (ls' := [_, _, _, _, _, _, _]) dL_law_15 (show 2 < 7 by decide) rfl rfl ?_
  refine x_iconst (pc := 16) (v := 1) dL_law_16 (by decide) ?_
  refine x_newa (pc := 17) (n := 1) (mc2 := 12288) (ms2 := 314368) dL_law_17 (Or.inr (Or.inl ⟨rfl, rfl⟩)) ac_long (by decide) (by decide) (Nat.le_of_ble_eq_true rfl) (Nat.le_of_ble_eq_true rfl) (Nat.le_of_ble_eq_true rfl) ?_
  rw [show zgn T2 + 1 = 160 by omega]
  refine x_astore_n (pc := 19) (ls' := [_, _, _, _, _, _, _]) dL_law_19 (show 3 < 7 by decide) rfl rfl ?_
  refine x_iconst (pc := 20) (v := 0) dL_law_20 (by decide) ?_
  refine x_istore (pc := 21) (ls' := [_, _, _, _, _, _, _]) dL_law_21 (show 4 < 7 by decide) rfl rfl ?_
  have ag1 : ∀ c, c ≤ 122 → zAg T1 T2 c := fun c hc => (show zNF (fun c => c = zgn T1 + 1) (znw T1 13 0) T2 by rw [hg1]; exact hN2).mk0 (by omega)
  have ag2 : ∀ c, c ≤ 159 → zAg T2 (znw T2 15 1) c := fun c hc => (zNF.nw (X := fun _ => False)).2 c (by omega) (fun z => z)
  have hI : zLI 0 (znw T2 15 1) s0 := by
    refine ⟨zD0.ci (hD1.ag (fun c _ hc => (ag1 c (by omega)).tr (ag2 c (by omega)))) (by show 160 ≤ zgn T2 + 1; omega), hM2.q2 (fun c _ hc => ag2 c hc), zWF_s0, ?_⟩
    rw [show 160 = zgn T2 + 1 by omega]
    exact znw_kd
  exact lw_loop hE hX hl0 hs h4 hend 512 0 0 _ s0 rfl (by decide) hI
