/-! the law's own lacking: it catches what the class throws -/
abbrev zhL : List (Nat × Nat × Nat × Nat) := [(0, 9, 12, 13)]
abbrev mL_lacking : zMI := (RL, yL_lacking, 4, some .int)
abbrev zwL_ws : List Cond := [Cond.codeWith yL_lacking cL_lacking 4 (some .int) zhL]
theorem zkL_w : Cond.codeWith yL_lacking cL_lacking 4 (some .int) zhL ∈ lw_tbl := List.mem_of_getElem? (i := 1070) (by decide +kernel)
theorem zsL_w : Cond.static yL_lacking ∈ lw_tbl := List.mem_of_getElem? (i := 1069) (by decide +kernel)
theorem ziL_w : Cond.initialized yL_lacking.cls ∈ lw_tbl := List.mem_of_getElem? (i := 84) (by decide +kernel)
theorem zcL_13 : Cond.classLink RL 13 zNE ∈ lw_tbl := List.mem_of_getElem? (i := 1071) (by decide +kernel)
theorem l_L_180 : Cond.methodLink RL 180 yL_lacking ∈ lw_tbl := List.mem_of_getElem? (i := 1068) (by decide +kernel)
theorem zcast_NE : Cond.castable zNE zNE ∈ zxD := by simp [zxD]
section ZLACK
variable {E : zE} {lv mc ms : Nat} {M : zMI} {cc : ByteArray} {pc : Nat} {ls : List (Option zV)} {st rest : List zV} {S : zM} {Q : zQx}
theorem zJx.drop {ls' : List (Option zV)} (h : ∀ (i : Nat) (v : zV), ls'[i]? = some (some v) → ls[i]? = some (some v)) (k : zJx E lv mc ms M cc pc ls' st S Q) : zJx E lv mc ms M cc pc ls st S Q := by
  intro p l e R s m args below meth c H locs cells slots mcT msT lsA hz C hP hL
  exact k p l e R s m args below meth c H locs cells slots mcT msT lsA hz C hP ⟨hL.1, hL.2.1, fun i v q => hL.2.2 i v (h i v q)⟩
theorem zJx.less {mc2 ms2 : Nat} (h1 : mc2 ≤ mc) (h2 : ms2 ≤ ms) (k : zJx E lv mc2 ms2 M cc pc ls st S Q) : zJx E lv mc ms M cc pc ls st S Q := by
  intro p l e R s m args below meth c H locs cells slots mcT msT lsA hz C hP hL
  exact k p l e R s m args below meth c H locs cells slots mcT msT lsA hz (C.less h1 h2) hP hL
theorem zbackX {p : Program} {l : Launch} {e : Env} {R : Room} {s : State} {m : MethodId} {args a : Array Value} {below : List Frame} {meth : Method} {c : Code} {H : Heap} {locs : List Loc} {cells slots mcT msT mc' ms' mc2 ms2 : Nat} {lsA : Array Slot} {stk : List Value} {Post : Option zV → zM → Prop} {X : zM → Prop}
    (hr : vx_Run p l e R s m args below meth c H locs cells slots mc' ms' (F0 m pc lsA stk) (rest.map (ztv E)) (zQc E Post a) (zXC E X) (zfr E)) (hz : Q.1 l s c) (C : zCx E M cc lv mc ms p R s m meth c locs cells slots mcT msT) (hL : zLs E lsA M.2.2.1 ls) (h1 : mc2 + mc' ≤ mc) (h2 : ms2 + ms' ≤ ms)
    (kx : ∀ (H1 : Heap) (locs1 : List Loc) (q : Addr) (ce : Cell) (T : zM), zCx E M cc lv mc2 ms2 p R s m meth c locs1 (cells + mc') (slots + ms') mcT msT → zRp E T H1 → X T → H1[q]? = some ce → ce.vm = .none → s.vm.findClass zNE = some ce.cls → vx_W p l e R s m args below meth c H1 locs1 (cells + mc') (slots + ms') (Q.2 below args s mcT msT) (F0 m pc lsA (rest.map (ztv E))) q)
    (kk : ∀ r T, Post r T → zJx E lv mc2 ms2 M cc (pc + 3) ls (r.toList ++ rest) T Q) : W p l e R s m args below meth c H locs cells slots (Q.2 below args s mcT msT) (F0 m pc lsA stk) := by
  intro T hT X0
  have C1 := zC_made C h1 h2
  rcases hr T hT X0 with ⟨v, st₀, t, T', L, h0, X', hLf, e1, e2, ⟨r, S', hv, hrp, hq⟩, stp⟩ | ⟨q, st₀, t, T', L, En, ce, h0, X', hLf, e1, e2, ⟨hEn, S', hrp, hq⟩, hce, hcv, hcl, stp⟩
  · cases hv
    have C2 : zCx E M cc lv mc2 ms2 p R s m meth c (locs ++ L) (cells + mc') (slots + ms') mcT msT := by
      obtain ⟨c1, c2, c3, c4, c5, c6, c7, c8, c9, c10, c11, c12, c13⟩ := C1
      exact ⟨c1, c2, c3, c4, c5, c6, c7, c8, c9, c10, c11, c12, fun q hq => by
        rcases List.mem_append.mp hq with h | h
        · exact c13 q h
        · exact hLf q h⟩
    obtain ⟨t2, a1, b1⟩ := kk r S' hq p l e R s m args below meth c T'.heap (locs ++ L) (cells + mc') (slots + ms') mcT msT lsA hz C2 (by rw [e1]; exact hrp) hL T' rfl X'
    refine ⟨t2, stp t2 ?_, b1⟩
    have e3 : (r.map (ztv E)).toList ++ rest.map (ztv E) = (r.toList ++ rest).map (ztv E) := by cases r <;> rfl
    rw [e3]
    exact a1
  · have C2 : zCx E M cc lv mc2 ms2 p R s m meth c (locs ++ L) (cells + mc') (slots + ms') mcT msT := by
      obtain ⟨c1, c2, c3, c4, c5, c6, c7, c8, c9, c10, c11, c12, c13⟩ := C1
      exact ⟨c1, c2, c3, c4, c5, c6, c7, c8, c9, c10, c11, c12, fun q hq => by
        rcases List.mem_append.mp hq with h | h
        · exact c13 q h
        · exact hLf q h⟩
    rw [hEn] at hcl
    obtain ⟨t2, a1, b1⟩ := kx T'.heap (locs ++ L) q ce S' C2 (by rw [e1]; exact hrp) hq (by rw [e1]; exact hce) hcv hcl T' rfl X'
    exact ⟨t2, stp.trans a1, b1⟩
theorem x_callVX {M' : zMI} {cc' : ByteArray} {i n lv' mc' ms' mc2 ms2 : Nat} {As : List zV} {Post : Option zV → zM → Prop} {X : zM → Prop} {b t : Nat} (hl0 : ∀ l s c, Q.1 l s c → l.stackTraces = false) (hs : zSx E lv' mc' ms' M' cc' (zR b :: As) S Post X) (hd : decode cc pc = .ok (.invokevirtual i, 3)) (hl : Cond.methodLink M.1 i M'.2.1 ∈ lw_tbl) (hm : zMK M' cc' n) (hv : zMV M'.2.1) (ht : t < 13) (htc : M'.2.1.cls = zC t) (hb : zkd S b = (t + 1, 0)) (hlv : lv' + 1 ≤ lv) (hn : As.length = n) (hst : (As.reverse ++ zR b :: rest) = st) (hw : (rest.map zcat).sum ≤ 8) (h1 : mc2 + mc' ≤ mc) (h2 : ms2 + ms' ≤ ms)
    (kx : ∀ (p : Program) (l : Launch) (e : Env) (R : Room) (s : State) (m : MethodId) (args : Array Value) (below : List Frame) (meth : Method) (c : Code) (cells slots mcT msT : Nat) (lsA : Array Slot) (H1 : Heap) (locs1 : List Loc) (q : Addr) (ce : Cell) (T : zM), Q.1 l s c → zLs E lsA M.2.2.1 ls → zCx E M cc lv mc2 ms2 p R s m meth c locs1 cells slots mcT msT → zRp E T H1 → X T → H1[q]? = some ce → ce.vm = .none → s.vm.findClass zNE = some ce.cls → vx_W p l e R s m args below meth c H1 locs1 cells slots (Q.2 below args s mcT msT) (F0 m pc lsA (rest.map (ztv E))) q)
    (kk : ∀ r T, Post r T → zJx E lv mc2 ms2 M cc (pc + 3) ls (r.toList ++ rest) T Q) : zJx E lv mc ms M cc pc ls st S Q := by
  intro p l e R s m args below meth c H locs cells slots mcT msT lsA hz C hP hL
  subst hst
  have hT := C.2.2.2.2.2.2.2.1
  obtain ⟨k1, k2, k3, k4, k5, k6, k7, k8, k9, k10⟩ := zCB (args := args) (mc' := mc') (ms' := ms') (i := i) C hm hlv
  refine zbackX (a := ((zR b :: As).map (ztv E)).toArray) ?_ hz C hL h1 h2 (fun H1 locs1 q ce T => kx p l e R s m args below meth c _ _ mcT msT lsA H1 locs1 q ce T hz hL) kk
  obtain ⟨b0, cell, q1, q2, q3, -⟩ := hP.2.2.1 b t 0 hb ht
  have hfc := (hT.2.1.1 t _ (zcl t ht)).2.1
  have est : ((As.reverse ++ zR b :: rest).map (ztv E)) = (As.map (ztv E)).reverse ++ .ref (zad E b) :: rest.map (ztv E) := by
    rw [List.map_append, List.map_cons, List.map_reverse]
    show _ ++ zrv (zb E) b :: _ = _
    rw [zrv_ad b0]
  have eav : ((zR b :: As).map (ztv E)).toArray = (Value.ref (zad E b) :: As.map (ztv E)).toArray := by
    rw [List.map_cons]
    show (zrv (zb E) b :: _).toArray = _
    rw [zrv_ad b0]
  rw [est, eav]
  exact vx_runV (C := zC t) (n := n) (bytes := cc') (maxL := M'.2.2.1) (ret := M'.2.2.2) (Ts := []) ⟨C.1, C.2.1, C.2.2.1, C.2.2.2.2.2.2.1, fun w h => by simp at h⟩ (hs l (hl0 _ _ _ hz)) ⟨⟨k1, k2, k3, k4, k5, k6, k7, k8, k9, k10, hT.w hl rfl _⟩, hT.w hv.1 rfl _, by rw [← htc]; exact hT.w hv.2 rfl _⟩ ⟨zblind, ⟨cell, q1, by rw [q3]; rfl, by rw [q2]; exact hfc⟩, fun U hU hW => ⟨by rw [← eav], hT.moved hW, by rw [hU]; exact hP⟩⟩ rfl (by rw [List.length_map]; exact hn) (by rw [hL.1]) rfl (lv_room (zroom rest hw)) hd (zcells C h1 h2)
theorem x_callSL {i lv' mc' ms' mc2 ms2 : Nat} {As : List zV} {Post : Option zV → zM → Prop} (hl0 : ∀ l s c, Q.1 l s c → l.stackTraces = false) (hs : ∀ l : Launch, l.stackTraces = false → Met l yL_lacking zwL_ws (zrm lv' mc' ms') (zPc E As S) (zQc E Post) mc' ms' (zfr E)) (hd : decode cc pc = .ok (.invokestatic i, 3)) (hl : Cond.methodLink M.1 i yL_lacking ∈ lw_tbl) (hlv : lv' + 1 ≤ lv) (hn : As.length = 3) (hst : (As.reverse ++ rest) = st) (hw : (rest.map zcat).sum ≤ 8) (h1 : mc2 + mc' ≤ mc) (h2 : ms2 + ms' ≤ ms)
    (kk : ∀ r T, Post r T → zJx E lv mc2 ms2 M cc (pc + 3) ls (r.toList ++ rest) T Q) : zJx E lv mc ms M cc pc ls st S Q := by
  intro p l e R s m args below meth c H locs cells slots mcT msT lsA hz C hP hL
  subst hst
  have hT := C.2.2.2.2.2.2.2.1
  have c9 := C.2.2.2.2.2.2.2.2.1
  have c10 := C.2.2.2.2.2.2.2.2.2.1
  refine zbackx hz (a := (As.map (ztv E)).toArray) ?_ C hL h1 h2 kk
  rw [List.map_append, List.map_reverse]
  exact vx_runSW (hh := zhL) (n := 3) (bytes := cL_lacking) (maxL := 4) (ret := some .int) (Ts := []) ⟨C.1, C.2.1, C.2.2.1, C.2.2.2.2.2.2.1, fun w h => by simp at h⟩ (hs l (hl0 _ _ _ hz))
    ⟨⟨rfl, rfl, show lv' + 1 ≤ _ by omega, show 8 + (4 + 11) + 48 * lv' ≤ _ by omega, fun w hw' a' U hW => by rw [List.mem_singleton.mp hw']; exact (hT.moved hW).w zkL_w rfl _, List.mem_singleton.mpr rfl⟩, hT.w zkL_w rfl _, hT.w ziL_w rfl _, ⟨by decide +kernel, by decide +kernel⟩, fun sig h => (by
      have h2 : (parseMethodDescriptor yL_lacking.desc).map (fun d => d.parameters.length) = some 3 := by decide +kernel
      rw [h] at h2
      exact (Option.some.inj h2).symm), hT.w hl rfl _, hT.w zsL_w rfl _⟩ ⟨zblind, fun U hU hW => ⟨rfl, hT.moved hW, by rw [hU]; exact hP⟩⟩ rfl (by rw [List.length_map]; exact hn) (by rw [hL.1]) rfl (lv_room (zroom rest hw)) hd (zcells C h1 h2)
end ZLACK
def zHl : Launch → State → Code → Prop := fun l _ c => l.stackTraces = false ∧ c.exceptionTable.toList = tableOf zhL
abbrev zZl (E : zE) (Q : Option zV → zM → Prop) : zQx := (zHl, fun below args s mcT msT => MQ below (zQc E Q) args s mcT msT (zfr E))
def zLP (S : zM) (s : zST) (x : Int32) (r : Option zV) (T : zM) : Prop := match q_lacking s x with
  | none => r = some (zI 1) ∧ zNF (fun _ => False) S T
  | some z => r = some (zI 0) ∧ T = zwL S 160 0 z.toInt64
set_option maxRecDepth 20000 in
set_option maxHeartbeats 4000000 in
theorem c_llack {E : zE} {S : zM} {s : zST} {n : Nat} (hE : zOKX E) (h : zCI S s) (hw : zWF n s) (k160 : zkd S 160 = (15, 1)) (x : Int32) : ∀ l : Launch, l.stackTraces = false → Met l yL_lacking zwL_ws (zrm 9 1 6) (zPc E [zR 1, zI x, zR 160] S) (zQc E (zLP S s x)) 1 6 (zfr E) := by
  intro l hst
  have k1 := h.1.1
  have kb : zJx E 9 1 6 mL_lacking cL_lacking 0 [some (zR 1), some (zI x), some (zR 160), none] [] S (zZl E (zLP S s x)) := by
    refine x_aload_n (pc := 0) dL_lacking_0 rfl ?_
    refine x_iconst (pc := 1) (v := 0) dL_lacking_1 (by decide) ?_
    refine x_aload_n (pc := 2) dL_lacking_2 rfl ?_
    refine x_iload_n (pc := 3) dL_lacking_3 rfl ?_
    refine x_callVX (pc := 4) (t := 11) (mc2 := 0) (ms2 := 0) (fun l s c hz => hz.1) (p_lacking hE h hw x) dL_lacking_4 l_L_7 mk_X11_lacking mv_X11_lacking (by decide) rfl k1 (by decide) rfl rfl (Nat.le_of_ble_eq_true rfl) (Nat.le_refl _) (Nat.le_refl _) ?_ (fun r T h_1 => ?_)
    · intro p l e R s0 m args below meth c cells slots mcT msT lsA H1 locs1 q ce T hz hL C hP hX hce hcv hcl
      obtain ⟨eno, hn⟩ := hX
      obtain ⟨c1, c2, c3, c4, c5, c6, c7, c8, -⟩ := id C
      refine vx_catch (own := RL) (name := zNE) c7 [] ⟨0, 9, 12, 13⟩ [] hz.2 (fun z hz' => nomatch hz') (by decide) (by decide) (c8.w zcL_13 rfl _) ((hE s0 c8.2.2.2.2.2).use zcast_NE _) hce hcv hcl ?_
      obtain ⟨l', e1, g⟩ := lv_store1 (l := []) (i := 3) (v := .ref q) ⟨hL.1, hL.2.1, fun q hq => by simp at hq⟩ (show 3 < 4 by decide) rfl
      have kr : zJ E 9 0 0 mL_lacking cL_lacking 13 [] [] T (zLP S s x) := by
        refine j_iconst (pc := 13) (v := 1) dL_lacking_13 (by decide) ?_
        refine j_iret (pc := 14) dL_lacking_14 rfl ?_
        unfold zLP
        rw [eno]
        exact ⟨rfl, hn⟩
      intro T0 hT X0
      obtain ⟨t, a, b⟩ := kr p l e R s0 m args below meth c H1 locs1 cells slots mcT msT l' C hP ⟨g.1, g.2.1, fun i v h => by simp at h⟩ T0 hT X0
      refine ⟨t, ?_, b⟩
      show Steps p.tables e below (T0.setTop (F0 m 12 lsA [.ref q])) t
      jvm_step X0.here [X0.here.top, ↓top_set X0.here.top, c1, c2, dL_lacking_12, e1, Value.isRef]
      exact a
    · obtain ⟨rfl, z, ez, rfl⟩ := h_1
      refine x_i2l (pc := 7) dL_lacking_7 ?_
      refine x_lastn (pc := 8) (i := 0) dL_lacking_8 k160 (by decide) (by decide) ?_
      refine x_goto (pc := 9) (tgt := 15) dL_lacking_9 (by decide) ?_
      refine zJ.gx (Q' := zLP S s x) ?_ (fun _ _ _ _ _ _ b => b)
      refine j_iconst (pc := 15) (v := 0) dL_lacking_15 (by decide) ?_
      refine j_iret (pc := 16) dL_lacking_16 rfl ?_
      unfold zLP
      rw [ez]
      exact ⟨rfl, rfl⟩
  refine va_MetW (cc := cL_lacking) (maxL := 4) (ret := some .int) (hh := zhL) (by decide) rfl ?_
  intro p e s' m args below meth c s₁ B hml hv
  obtain ⟨rfl, hT, hP⟩ := hv
  have htb : c.exceptionTable.toList = tableOf zhL := vx_table (x := yL_lacking) B (atoms_spec (ws := zwL_ws) B.pre _ (List.mem_singleton.mpr rfl))
  have hown : s'.vm.findClass RL = some m.cls := findClass_of_methodNamed B.named
  obtain ⟨hlen, hget⟩ := zlay_sl E [zR 1, zI x, zR 160] [] [] rfl (fun i v h => by simp at h)
  simp only [List.nil_append] at hlen hget
  have hle := lv_entry ([zR 1, zI x, zR 160].map (ztv E)) (n := 4) (by rw [hlen]; exact Nat.le_of_ble_eq_true rfl)
  rw [lg_entry_eq]
  refine kb p l e _ s' m _ below meth c s'.heap [] 0 0 1 6 _ ⟨hst, htb⟩ ⟨B.exec, B.bytes, hml, B.returns, B.notSynchronized, (name_of_methodNamed B.named B.method).1, hown, hT, Nat.le_refl _, Nat.le_refl _, ⟨Nat.le_of_eq (Nat.zero_add _), Nat.le_of_eq (Nat.zero_add _)⟩, ⟨Nat.le_of_eq (Nat.zero_add _), Nat.le_of_eq (Nat.zero_add _)⟩, fun q h => by simp at h⟩ hP ⟨hle.1, hle.2.1, fun i v h => ?_⟩
  have els : ([some (zR 1), some (zI x), some (zR 160), none] : List (Option zV)) = zlay [zR 1, zI x, zR 160] ++ List.replicate 1 none := rfl
  rw [els] at h
  rw [List.getElem?_toArray]
  by_cases hi : i < (zlay [zR 1, zI x, zR 160]).length
  · rw [List.getElem?_append_left hi] at h
    rw [List.getElem?_append_left (by omega)]
    exact hget i v h
  · rw [List.getElem?_append_right (by omega)] at h
    cases hk : i - (zlay [zR 1, zI x, zR 160]).length with
    | zero =>
      rw [hk] at h
      cases h
    | succ d =>
      rw [hk] at h
      cases h
