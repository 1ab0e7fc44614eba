section ZCALLS
variable {E : zE} {lv mc ms : Nat} {M : zMI} {cc : ByteArray} {pc : Nat} {ls : List (Option zV)} {st rest : List zV} {S : zM} {Q : Option zV → zM → Prop}
/-- a method that can be called: its code's word, its class, how many parameters -/
def zMK (M : zMI) (cc : ByteArray) (n : Nat) : Prop := Cond.code M.2.1 cc M.2.2.1 M.2.2.2 ∈ lw_tbl ∧ Cond.initialized M.2.1.cls ∈ lw_tbl ∧ (M.2.1.cls ≠ "java/lang/invoke/MethodHandle" ∧ M.2.1.cls ≠ "java/lang/invoke/VarHandle" ∧ (parseMethodDescriptor M.2.1.desc).map (fun d => d.parameters.length) = some n) ∧ M.2.2.1 ≤ 29
def zMV (y : MethodName) : Prop := Cond.instanceMethod y ∈ lw_tbl ∧ Cond.selects y.cls y y ∈ lw_tbl
theorem zCB {M' : zMI} {cc' : ByteArray} {n lv' mc' ms' i : Nat} {p : Program} {R : Room} {s : State} {m : MethodId} {args : Array Value} {meth : Method} {c : Code} {locs : List Loc} {cells slots mcT msT : Nat} (C : zCx E M cc lv mc ms p R s m meth c locs cells slots mcT msT) (hm : zMK M' cc' n) (hlv : lv' + 1 ≤ lv) :
    (zrm lv' mc' ms').cells = mc' ∧ (zrm lv' mc' ms').slots = ms' ∧ (zrm lv' mc' ms').frames + 1 ≤ R.frames ∧ 8 + (M'.2.2.1 + 11) + (zrm lv' mc' ms').locals ≤ R.locals ∧ (∀ w ∈ zws M' cc', ∀ (a' : Array Value) (U : State), s.WarmedH U.vm → w.before a' U = true) ∧ Cond.code M'.2.1 cc' M'.2.2.1 M'.2.2.2 ∈ zws M' cc' ∧
    (Cond.code M'.2.1 cc' M'.2.2.1 M'.2.2.2).before args s = true ∧ (Cond.initialized M'.2.1.cls).before args s = true ∧ (M'.2.1.cls ≠ "java/lang/invoke/MethodHandle" ∧ M'.2.1.cls ≠ "java/lang/invoke/VarHandle") ∧ (∀ sig, parseMethodDescriptor M'.2.1.desc = some sig → n = sig.parameters.length) := by
  obtain ⟨c1, c2, c3, c4, c5, c6, c7, c8, c9, c10, -⟩ := C
  obtain ⟨m1, m2, ⟨m3, m4, m5⟩, m6⟩ := hm
  refine ⟨rfl, rfl, ?_, ?_, fun w hw a' U hW => ?_, List.mem_singleton.mpr rfl, c8.w m1 rfl _, c8.w m2 rfl _, ⟨m3, m4⟩, fun sig h => ?_⟩
  · show lv' + 1 ≤ _
    omega
  · show 8 + (M'.2.2.1 + 11) + 48 * lv' ≤ _
    omega
  · rw [List.mem_singleton.mp hw]
    exact (c8.moved hW).w m1 rfl _
  · rw [h] at m5
    exact (Option.some.inj m5).symm
theorem zblind {av : List zV} : FrameBlind (zPc E av S) := fun a U g mk h => ⟨h.1, h.2.1.moved (U := U.calling g mk a) (State.WarmedH.refl U), h.2.2⟩
theorem zroom (rest : List zV) (h : (rest.map zcat).sum ≤ 8) : ((rest.map (ztv E)).map fun v => v.category).sum ≤ 8 := by
  rw [List.map_map]
  have e : ((fun v : Value => v.category) ∘ ztv E) = zcat := funext fun v => ztv_cat E v
  rw [e]
  exact h
theorem zback {p : Program} {l : Launch} {e : Env} {R : Room} {s : State} {m : MethodId} {args a : Array Value} {below : List Frame} {meth : Method} {c : Code} {H : Heap} {locs : List Loc} {cells slots mcT msT mc' ms' mc2 ms2 : Nat} {lsA : Array Slot} {stk : List Value} {Post : Option zV → zM → Prop}
    (hr : va_Run p l e R s m args below meth c H locs cells slots mc' ms' (F0 m pc lsA stk) (rest.map (ztv E)) (zQc E Post a) (zfr E)) (C : zCx E M cc lv mc ms p R s m meth c locs cells slots mcT msT) (hL : zLs E lsA M.2.2.1 ls) (h1 : mc2 + mc' ≤ mc) (h2 : ms2 + ms' ≤ ms)
    (kk : ∀ r T, Post r T → zJ E lv mc2 ms2 M cc (pc + 3) ls (r.toList ++ rest) T Q) : W p l e R s m args below meth c H locs cells slots (MQ below (zQc E Q) args s mcT msT (zfr E)) (F0 m pc lsA stk) := by
  intro T hT X
  obtain ⟨v, st₀, t, T', L, h0, X', hLf, e1, e2, ⟨r, S', hv, hrp, hq⟩, stp⟩ := hr T hT X
  cases hv
  have C2 : zCx E M cc lv mc2 ms2 p R s m meth c (locs ++ L) (cells + mc') (slots + ms') mcT msT := by
    obtain ⟨c1, c2, c3, c4, c5, c6, c7, c8, c9, c10, c11, c12, c13⟩ := zC_made C h1 h2
    exact ⟨c1, c2, c3, c4, c5, c6, c7, c8, c9, c10, c11, c12, fun q hq => by
      rcases List.mem_append.mp hq with h | h
      · exact c13 q h
      · exact hLf q h⟩
  obtain ⟨t2, a1, b1⟩ := kk r S' hq p l e R s m args below meth c T'.heap (locs ++ L) (cells + mc') (slots + ms') mcT msT lsA C2 (by rw [e1]; exact hrp) hL T' rfl X'
  refine ⟨t2, stp t2 ?_, b1⟩
  have e3 : (r.map (ztv E)).toList ++ rest.map (ztv E) = (r.toList ++ rest).map (ztv E) := by cases r <;> rfl
  rw [e3]
  exact a1
theorem zcells {p : Program} {R : Room} {s : State} {m : MethodId} {meth : Method} {c : Code} {locs : List Loc} {cells slots mcT msT mc' ms' mc2 ms2 : Nat} (C : zCx E M cc lv mc ms p R s m meth c locs cells slots mcT msT) (h1 : mc2 + mc' ≤ mc) (h2 : ms2 + ms' ≤ ms) : cells + mc' ≤ R.cells ∧ slots + ms' ≤ R.slots := by
  obtain ⟨-, -, -, -, -, -, -, -, -, -, ⟨c11, c12⟩, -, -⟩ := C
  omega
theorem j_callV {M' : zMI} {cc' : ByteArray} {i n lv' mc' ms' mc2 ms2 : Nat} {As : List zV} {Post : Option zV → zM → Prop} {b t : Nat} (hs : zSp E lv' mc' ms' M' cc' (zR b :: As) S Post) (hd : decode cc pc = .ok (.invokevirtual i, 3)) (hl : Cond.methodLink M.1 i M'.2.1 ∈ lw_tbl) (hm : zMK M' cc' n) (hv : zMV M'.2.1) (ht : t < 13) (htc : M'.2.1.cls = zC t) (hb : zkd S b = (t + 1, 0)) (hlv : lv' + 1 ≤ lv) (hn : As.length = n) (hst : (As.reverse ++ zR b :: rest) = st) (hw : (rest.map zcat).sum ≤ 8) (h1 : mc2 + mc' ≤ mc) (h2 : ms2 + ms' ≤ ms)
    (kk : ∀ r T, Post r T → zJ E lv mc2 ms2 M cc (pc + 3) ls (r.toList ++ rest) T Q) : zJ E lv mc ms M cc pc ls st S Q := by
  intro p l e R s m args below meth c H locs cells slots mcT msT lsA C hP hL
  subst hst
  have hT := C.2.2.2.2.2.2.2.1
  obtain ⟨k1, k2, k3, k4, k5, k6, k7, k8, k9, k10⟩ := zCB (args := args) (mc' := mc') (ms' := ms') (i := i) C hm hlv
  refine zback (a := ((zR b :: As).map (ztv E)).toArray) ?_ C hL h1 h2 kk
  obtain ⟨b0, cell, q1, q2, q3, -⟩ := hP.2.2.1 b t 0 hb ht
  have hfc := (hT.2.1.1 t _ (zcl t ht)).2.1
  have est : ((As.reverse ++ zR b :: rest).map (ztv E)) = (As.map (ztv E)).reverse ++ .ref (zad E b) :: rest.map (ztv E) := by
    rw [List.map_append, List.map_cons, List.map_reverse]
    show _ ++ zrv (zb E) b :: _ = _
    rw [zrv_ad b0]
  have eav : ((zR b :: As).map (ztv E)).toArray = (Value.ref (zad E b) :: As.map (ztv E)).toArray := by
    rw [List.map_cons]
    show (zrv (zb E) b :: _).toArray = _
    rw [zrv_ad b0]
  rw [est, eav]
  exact va_runV (C := zC t) (n := n) (bytes := cc') (maxL := M'.2.2.1) (ret := M'.2.2.2) (Ts := []) ⟨C.1, C.2.1, C.2.2.1, C.2.2.2.2.2.2.1, fun w h => by simp at h⟩ (hs l) ⟨⟨k1, k2, k3, k4, k5, k6, k7, k8, k9, k10, hT.w hl rfl _⟩, hT.w hv.1 rfl _, by rw [← htc]; exact hT.w hv.2 rfl _⟩ ⟨zblind, ⟨cell, q1, by rw [q3]; rfl, by rw [q2]; exact hfc⟩, fun U hU hW => ⟨by rw [← eav], hT.moved hW, by rw [hU]; exact hP⟩⟩ rfl (by rw [List.length_map]; exact hn) (by rw [hL.1]) rfl (lv_room (zroom rest hw)) hd (zcells C h1 h2)
theorem j_callI {M' : zMI} {cc' : ByteArray} {i n lv' mc' ms' mc2 ms2 : Nat} {As : List zV} {Post : Option zV → zM → Prop} {b : Nat} (hs : zSp E lv' mc' ms' M' cc' (zR b :: As) S Post) (hd : decode cc pc = .ok (.invokespecial i, 3)) (hl : Cond.methodLink M.1 i M'.2.1 ∈ lw_tbl) (hm : zMK M' cc' n) (hr : M'.2.2.2 = none) (hi : M'.2.1.name = "<init>") (hv : Cond.instanceMethod M'.2.1 ∈ lw_tbl) (hb : 0 < b) (hlv : lv' + 1 ≤ lv) (hn : As.length = n) (hst : (As.reverse ++ zR b :: rest) = st) (hw : (rest.map zcat).sum ≤ 8) (h1 : mc2 + mc' ≤ mc) (h2 : ms2 + ms' ≤ ms)
    (kk : ∀ r T, Post r T → zJ E lv mc2 ms2 M cc (pc + 3) ls (r.toList ++ rest) T Q) : zJ E lv mc ms M cc pc ls st S Q := by
  intro p l e R s m args below meth c H locs cells slots mcT msT lsA C hP hL
  subst hst
  have hT := C.2.2.2.2.2.2.2.1
  obtain ⟨k1, k2, k3, k4, k5, k6, k7, k8, k9, k10⟩ := zCB (args := args) (mc' := mc') (ms' := ms') (i := i) C hm hlv
  refine zback (a := ((zR b :: As).map (ztv E)).toArray) ?_ C hL h1 h2 kk
  have est : ((As.reverse ++ zR b :: rest).map (ztv E)) = (As.map (ztv E)).reverse ++ .ref (zad E b) :: rest.map (ztv E) := by
    rw [List.map_append, List.map_cons, List.map_reverse]
    show _ ++ zrv (zb E) b :: _ = _
    rw [zrv_ad hb]
  have eav : ((zR b :: As).map (ztv E)).toArray = (Value.ref (zad E b) :: As.map (ztv E)).toArray := by
    rw [List.map_cons]
    show (zrv (zb E) b :: _).toArray = _
    rw [zrv_ad hb]
  rw [est, eav]
  rw [hr] at k6 k7
  exact va_runI (n := n) (bytes := cc') (maxL := M'.2.2.1) (Ts := []) ⟨C.1, C.2.1, C.2.2.1, C.2.2.2.2.2.2.1, fun w h => by simp at h⟩ (hs l) ⟨⟨k1, k2, k3, k4, k5, k6, k7, k8, k9, k10, hT.w hl rfl _⟩, hi, hT.w hv rfl _⟩ ⟨zblind, fun U hU hW => ⟨by rw [← eav], hT.moved hW, by rw [hU]; exact hP⟩⟩ rfl (by rw [List.length_map]; exact hn) (by rw [hL.1]) rfl (lv_room (zroom rest hw)) hd (zcells C h1 h2)
theorem j_callS {M' : zMI} {cc' : ByteArray} {i n lv' mc' ms' mc2 ms2 : Nat} {As : List zV} {Post : Option zV → zM → Prop}  (hs : zSp E lv' mc' ms' M' cc' As S Post) (hd : decode cc pc = .ok (.invokestatic i, 3)) (hl : Cond.methodLink M.1 i M'.2.1 ∈ lw_tbl) (hm : zMK M' cc' n) (hv : Cond.static M'.2.1 ∈ lw_tbl) (hlv : lv' + 1 ≤ lv) (hn : As.length = n) (hst : (As.reverse ++ rest) = st) (hw : (rest.map zcat).sum ≤ 8) (h1 : mc2 + mc' ≤ mc) (h2 : ms2 + ms' ≤ ms)
    (kk : ∀ r T, Post r T → zJ E lv mc2 ms2 M cc (pc + 3) ls (r.toList ++ rest) T Q) : zJ E lv mc ms M cc pc ls st S Q := by
  intro p l e R s m args below meth c H locs cells slots mcT msT lsA C hP hL
  subst hst
  have hT := C.2.2.2.2.2.2.2.1
  obtain ⟨k1, k2, k3, k4, k5, k6, k7, k8, k9, k10⟩ := zCB (args := args) (mc' := mc') (ms' := ms') (i := i) C hm hlv
  refine zback (a := (As.map (ztv E)).toArray) ?_ C hL h1 h2 kk
  rw [List.map_append, List.map_reverse]
  exact va_runS (n := n) (bytes := cc') (maxL := M'.2.2.1) (ret := M'.2.2.2) (Ts := []) ⟨C.1, C.2.1, C.2.2.1, C.2.2.2.2.2.2.1, fun w h => by simp at h⟩ (hs l) ⟨⟨k1, k2, k3, k4, k5, k6, k7, k8, k9, k10, hT.w hl rfl _⟩, hT.w hv rfl _⟩ ⟨zblind, fun U hU hW => ⟨rfl, hT.moved hW, by rw [hU]; exact hP⟩⟩ rfl (by rw [List.length_map]; exact hn) (by rw [hL.1]) rfl (lv_room (zroom rest hw)) hd (zcells C h1 h2)
theorem j_callSN {M' : zMI} {cc' : ByteArray} {i n lv' mc' ms' mc2 ms2 : Nat} {As : List zV} {Post : Option zV → zM → Prop} {host : String} (hs : zSp E lv' mc' ms' M' cc' As S Post) (hd : decode cc pc = .ok (.invokestatic i, 3)) (hl : Cond.methodLinkNest M.1 i M'.2.1 host ∈ lw_tbl) (hm : zMK M' cc' n) (hv : Cond.static M'.2.1 ∈ lw_tbl) (hlv : lv' + 1 ≤ lv) (hn : As.length = n) (hst : (As.reverse ++ rest) = st) (hw : (rest.map zcat).sum ≤ 8) (h1 : mc2 + mc' ≤ mc) (h2 : ms2 + ms' ≤ ms)
    (kk : ∀ r T, Post r T → zJ E lv mc2 ms2 M cc (pc + 3) ls (r.toList ++ rest) T Q) : zJ E lv mc ms M cc pc ls st S Q := by
  intro p l e R s m args below meth c H locs cells slots mcT msT lsA C hP hL
  subst hst
  have hT := C.2.2.2.2.2.2.2.1
  obtain ⟨k1, k2, k3, k4, k5, k6, k7, k8, k9, k10⟩ := zCB (args := args) (mc' := mc') (ms' := ms') (i := i) C hm hlv
  refine zback (a := (As.map (ztv E)).toArray) ?_ C hL h1 h2 kk
  rw [List.map_append, List.map_reverse]
  exact va_runSN (n := n) (bytes := cc') (maxL := M'.2.2.1) (ret := M'.2.2.2) (host := host) (Ts := []) ⟨C.1, C.2.1, C.2.2.1, C.2.2.2.2.2.2.1, fun w h => by simp at h⟩ (hs l) ⟨⟨⟨k1, k2, k3, k4, k5, k6⟩, k7, k8, k9, k10, hT.w hl rfl _⟩, hT.w hv rfl _, trivial⟩ ⟨zblind, fun U hU hW => ⟨rfl, hT.moved hW, by rw [hU]; exact hP⟩⟩ rfl (by rw [List.length_map]; exact hn) (by rw [hL.1]) rfl (lv_room (zroom rest hw)) hd (zcells C h1 h2)
def zOI (own : String) (i : Nat) : Prop := Cond.methodLink own i Lib.objectInit ∈ lw_tbl ∧ Cond.instanceMethod Lib.objectInit ∈ lw_tbl ∧ Cond.code Lib.objectInit ⟨#[0xb1]⟩ 1 none ∈ lw_tbl
theorem j_objInit {i a : Nat} (hd : decode cc pc = .ok (.invokespecial i, 3)) (hf : zOI M.1 i) (ha : 0 < a) (hlv : 1 ≤ lv) (hw : (st.map zcat).sum ≤ 8) (kk : zJ E lv mc ms M cc (pc + 3) ls st S Q) : zJ E lv mc ms M cc pc ls (zR a :: st) S Q := by
  intro p l e R s m args below meth c H locs cells slots mcT msT lsA C hP hL
  have hT := C.2.2.2.2.2.2.2.1
  obtain ⟨o1, o2, o3⟩ := hf
  have hr := lv_room (m := m) (pc := pc) (ls := lsA) (rest := []) (zroom (E := E) st hw)
  obtain ⟨-, -, -, -, -, -, -, -, c9, c10, -⟩ := id C
  show W _ _ _ _ _ _ _ _ _ _ _ _ _ _ _ (F0 m pc lsA (zrv (zb E) a :: st.map (ztv E)))
  rw [zrv_ad ha]
  exact W.objInit C.1 C.2.1 C.2.2.2.2.2.2.1 (hT.w o1 rfl _) (hT.w o2 rfl _) (hT.w o3 rfl _) rfl (by rw [C.2.2.1]; exact hL.1) rfl hd (by omega) (by
    have h : 2 * (F0 m pc lsA (Value.ref (zb E + (a - 1)) :: st.map (ztv E))).monitorRoom + ((st.map (ztv E)).map fun v => v.category).sum ≤ 8 := lv_room (zroom st hw)
    omega) (kk p l e R s m args below meth c H locs cells slots mcT msT lsA C hP hL)
end ZCALLS
