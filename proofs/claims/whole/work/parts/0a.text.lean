/-! TEXT CONSTANTS: nine words of the model; the JDK's length and charAt over them -/
def zTi : List Nat := [205, 211, 239, 244, 248, 220, 222, 224, 231]
def zTs : List String := ["number", "word", "table", "order", "row", "up", "down", "first", "none"]
def zTl : List Nat := [6, 4, 5, 5, 3, 2, 4, 5, 4]
def zTy : List (List Int32) := [[110, 117, 109, 98, 101, 114], [119, 111, 114, 100], [116, 97, 98, 108, 101], [111, 114, 100, 101, 114], [114, 111, 119], [117, 112], [100, 111, 119, 110], [102, 105, 114, 115, 116], [110, 111, 110, 101]]
abbrev zSF : String := "jdk/internal/util/Preconditions"
abbrev zSD : String := "Ljava/util/function/BiFunction;"
def zTx (E : zE) (U : State) : Prop :=
  (∀ j, j < 9 → vk_R RX12 (zTi.getD j 0) (zTs.getD j "") (zS E j) U) ∧ vk_S 9 zTl zTy (zS E) (fun j => zS E (16 + j)) (zfr E) U (zH E) ∧
  va_Z "java/lang/String" "COMPACT_STRINGS" "Z" (.int 1) (zfr E) U (zH E) ∧ (va_Z zSF "SIOOBE_FORMATTER" zSD .null (zfr E) U (zH E) ∨ va_Z zSF "SIOOBE_FORMATTER" zSD (.ref (zS E 40)) (zfr E) U (zH E))
theorem zTx.moved {E : zE} {s V : State} (hW : s.WarmedH V.vm) (h : zTx E s) : zTx E V := ⟨fun j hj => (h.1 j hj).warm hW, h.2.1.moved hW.alike, h.2.2.1.moved hW.alike, h.2.2.2.elim (fun q => Or.inl (q.moved hW.alike)) (fun q => Or.inr (q.moved hW.alike))⟩
/-- what a walk of texts stands on -/
def zOKE (E : zE) : Prop := ∀ U, zX E U → zTx E U
section ZTEXT
variable {E : zE} {lv mc ms : Nat} {M : zMI} {cc : ByteArray} {pc : Nat} {ls : List (Option zV)} {st rest : List zV} {S : zM} {Q : Option zV → zM → Prop}
theorem j_ldcQ {i j : Nat} (hE : zOKE E) (hd : decode cc pc = .ok (.ldc i, 2)) (hM : M.1 = RX12) (hj : j < 9) (hi : zTi.getD j 0 = i) (kk : zJ E lv mc ms M cc (pc + 2) ls (zQ j :: st) S Q) : zJ E lv mc ms M cc pc ls st S Q := by
  intro p l e R s m args below meth c H locs cells slots mcT msT lsA C hP hL
  have hT := C.2.2.2.2.2.2.2.1
  have hR := (hE s hT.2.2.2.2.2).1 j hj
  subst hi
  exact va_ldcS C.1 C.2.1 (own := RX12) (by rw [← hM]; exact C.2.2.2.2.2.2.1) hR hd (kk p l e R s m args below meth c H locs cells slots mcT msT lsA C hP hL)
theorem j_getQ {i j : Nat} {n d : String} {v : zV} (hE : zOKE E) (hd : decode cc pc = .ok (.getfield i, 3)) (hl : Cond.fieldLink M.1 i "java/lang/String" n d ∈ lw_tbl) (hv : ∀ U, zTx E U → va_OF "java/lang/String" n d (ztv E v) (zS E j) (zfr E) U (zH E)) (kk : zJ E lv mc ms M cc (pc + 3) ls (v :: st) S Q) : zJ E lv mc ms M cc pc ls (zQ j :: st) S Q := by
  intro p l e R s m args below meth c H locs cells slots mcT msT lsA C hP hL
  have hT := C.2.2.2.2.2.2.2.1
  obtain ⟨cf, k, fi, f, cell, h1, h2, h3, h4, h5, h6⟩ := hv s (hE s hT.2.2.2.2.2)
  exact W.getf C.1 C.2.1 C.2.2.2.2.2.2.1 (hT.w hl rfl _) h1 h2 (by rw [hP.2.1 _ (Nat.lt_of_not_le h6)]; exact h3) h4 h5 rfl rfl hd (kk p l e R s m args below meth c H locs cells slots mcT msT lsA C hP hL)
theorem j_getsQ {i : Nat} {ref n d : String} {v : zV} (hE : zOKE E) (hd : decode cc pc = .ok (.getstatic i, 3)) (hl : Cond.fieldLink M.1 i ref n d ∈ lw_tbl) (hv : ∀ U, zTx E U → va_Z ref n d (ztv E v) (zfr E) U (zH E)) (kk : zJ E lv mc ms M cc (pc + 3) ls (v :: st) S Q) : zJ E lv mc ms M cc pc ls st S Q := by
  intro p l e R s m args below meth c H locs cells slots mcT msT lsA C hP hL
  have hT := C.2.2.2.2.2.2.2.1
  obtain ⟨cf, kf, fi, f, a, cell, h1, h2, h3, h4, h5, h6, h7, h8⟩ := hv s (hE s hT.2.2.2.2.2)
  exact W.gets C.1 C.2.1 C.2.2.2.2.2.2.1 (hT.w hl rfl _) h1 h2 h3 h4 (by rw [hP.2.1 _ (Nat.lt_of_not_le h8)]; exact h5) (fun e => by rw [e] at h6; cases h6) h7 rfl hd (kk p l e R s m args below meth c H locs cells slots mcT msT lsA C hP hL)
theorem j_getsF {i : Nat} (hE : zOKE E) (hd : decode cc pc = .ok (.getstatic i, 3)) (hl : Cond.fieldLink M.1 i zSF "SIOOBE_FORMATTER" zSD ∈ lw_tbl) (kk : ∀ v, v = zR 0 ∨ v = zQ 40 → zJ E lv mc ms M cc (pc + 3) ls (v :: st) S Q) : zJ E lv mc ms M cc pc ls st S Q := by
  intro p l e R s m args below meth c H locs cells slots mcT msT lsA C hP hL
  have hT := C.2.2.2.2.2.2.2.1
  rcases (hE s hT.2.2.2.2.2).2.2.2 with ⟨cf, kf, fi, f, a, cell, h1, h2, h3, h4, h5, h6, h7, h8⟩ | ⟨cf, kf, fi, f, a, cell, h1, h2, h3, h4, h5, h6, h7, h8⟩
  · exact W.gets C.1 C.2.1 C.2.2.2.2.2.2.1 (hT.w hl rfl _) h1 h2 h3 h4 (by rw [hP.2.1 _ (Nat.lt_of_not_le h8)]; exact h5) (fun e => by rw [e] at h6; cases h6) h7 rfl hd (kk (zR 0) (Or.inl rfl) p l e R s m args below meth c H locs cells slots mcT msT lsA C hP hL)
  · exact W.gets C.1 C.2.1 C.2.2.2.2.2.2.1 (hT.w hl rfl _) h1 h2 h3 h4 (by rw [hP.2.1 _ (Nat.lt_of_not_le h8)]; exact h5) (fun e => by rw [e] at h6; cases h6) h7 rfl hd (kk (zQ 40) (Or.inr rfl) p l e R s m args below meth c H locs cells slots mcT msT lsA C hP hL)
theorem j_alenQ {j : Nat} (hE : zOKE E) (hd : decode cc pc = .ok (.arraylength, 1)) (hj : j < 9) (kk : zJ E lv mc ms M cc (pc + 1) ls (zI (Int32.ofNat (zTl.getD j 0)) :: st) S Q) : zJ E lv mc ms M cc pc ls (zQ (16 + j) :: st) S Q := by
  intro p l e R s m args below meth c H locs cells slots mcT msT lsA C hP hL
  have hT := C.2.2.2.2.2.2.2.1
  obtain ⟨cell, h1, h2, h3, h4, h5, h6, h7⟩ := ((hE s hT.2.2.2.2.2).2.1.1 j hj).2.2.2
  exact W.alen C.1 C.2.1 (by rw [hP.2.1 _ (Nat.lt_of_not_le h7)]; exact h1) h2 h5 rfl rfl hd (kk p l e R s m args below meth c H locs cells slots mcT msT lsA C hP hL)
theorem j_baldQ {j : Nat} {x : Int32} (hE : zOKE E) (hd : decode cc pc = .ok (.baload, 1)) (hj : j < 9) (h0 : ¬ x < 0) (hx : x.toNatClampNeg < zTl.getD j 0) (kk : zJ E lv mc ms M cc (pc + 1) ls (zI ((zTy.getD j []).getD x.toNatClampNeg 0) :: st) S Q) : zJ E lv mc ms M cc pc ls (zI x :: zQ (16 + j) :: st) S Q := by
  intro p l e R s m args below meth c H locs cells slots mcT msT lsA C hP hL
  have hT := C.2.2.2.2.2.2.2.1
  obtain ⟨cell, h1, h2, h3, h4, h5, h6, h7⟩ := ((hE s hT.2.2.2.2.2).2.1.1 j hj).2.2.2
  exact W.bald C.1 C.2.1 (by rw [hP.2.1 _ (Nat.lt_of_not_le h7)]; exact h1) h2 h3 (fun q => q.elim h0 (fun q => absurd (Nat.lt_of_lt_of_le hx (Nat.le_trans h4 q)) (Nat.lt_irrefl _))) (h6 _ hx) rfl rfl hd (kk p l e R s m args below meth c H locs cells slots mcT msT lsA C hP hL)
theorem j_nret {v : Int32} {ty : FieldType} (hd : decode cc pc = .ok (.ireturn, 1)) (hr : M.2.2.2 = some ty) (hv : narrow ty (.int v) = .int v) (hq : Q (some (zI v)) S) : zJ E lv mc ms M cc pc ls [zI v] S Q := by
  intro p l e R s m args below meth c H locs cells slots mcT msT lsA C hP hL
  refine W.widen (Nat.le_trans (Nat.le_add_right _ _) C.2.2.2.2.2.2.2.2.2.2.2.1.1) (Nat.le_trans (Nat.le_add_right _ _) C.2.2.2.2.2.2.2.2.2.2.2.1.2) ?_
  exact W.zret C.1 C.2.1 (C.2.2.2.1.trans hr) hv (fun t ht _ => ⟨some (zI v), S, rfl, by rw [ht]; exact hP, hq⟩) (fun q h => C.2.2.2.2.2.2.2.2.2.2.2.2 q h) hd C.2.2.2.2.1
theorem j_callVQ {M' : zMI} {cc' : ByteArray} {i n lv' mc' ms' mc2 ms2 : Nat} {As : List zV} {Post : Option zV → zM → Prop} {j : Nat} (hE : zOKE E) (hs : zSp E lv' mc' ms' M' cc' (zQ j :: As) S Post) (hd : decode cc pc = .ok (.invokevirtual i, 3)) (hl : Cond.methodLink M.1 i M'.2.1 ∈ lw_tbl) (hm : zMK M' cc' n) (hv : zMV M'.2.1) (htc : M'.2.1.cls = "java/lang/String") (hj : j < 9) (hlv : lv' + 1 ≤ lv) (hn : As.length = n) (hst : (As.reverse ++ zQ j :: rest) = st) (hw : (rest.map zcat).sum ≤ 8) (h1 : mc2 + mc' ≤ mc) (h2 : ms2 + ms' ≤ ms)
    (kk : ∀ r T, Post r T → zJ E lv mc2 ms2 M cc (pc + 3) ls (r.toList ++ rest) T Q) : zJ E lv mc ms M cc pc ls st S Q := by
  intro p l e R s m args below meth c H locs cells slots mcT msT lsA C hP hL
  subst hst
  have hT := C.2.2.2.2.2.2.2.1
  obtain ⟨k1, k2, k3, k4, k5, k6, k7, k8, k9, k10⟩ := zCB (args := args) (mc' := mc') (ms' := ms') (i := i) C hm hlv
  refine zback (a := ((zQ j :: As).map (ztv E)).toArray) ?_ C hL h1 h2 kk
  obtain ⟨cell, q1, q2, q3, q4⟩ := ((hE s hT.2.2.2.2.2).2.1.1 j hj).1
  have est : ((As.reverse ++ zQ j :: rest).map (ztv E)) = (As.map (ztv E)).reverse ++ .ref (zS E j) :: rest.map (ztv E) := by
    rw [List.map_append, List.map_cons, List.map_reverse]
    rfl
  have eav : ((zQ j :: As).map (ztv E)).toArray = (Value.ref (zS E j) :: As.map (ztv E)).toArray := rfl
  rw [est, eav]
  exact va_runV (C := "java/lang/String") (n := n) (bytes := cc') (maxL := M'.2.2.1) (ret := M'.2.2.2) (Ts := []) ⟨C.1, C.2.1, C.2.2.1, C.2.2.2.2.2.2.1, fun w h => by simp at h⟩ (hs l) ⟨⟨k1, k2, k3, k4, k5, k6, k7, k8, k9, k10, hT.w hl rfl _⟩, hT.w hv.1 rfl _, by rw [← htc]; exact hT.w hv.2 rfl _⟩ ⟨zblind, ⟨cell, by rw [hP.2.1 _ (Nat.lt_of_not_le q4)]; exact q1, q2, q3⟩, fun U hU hW => ⟨by rw [← eav], hT.moved hW, by rw [hU]; exact hP⟩⟩ rfl (by rw [List.length_map]; exact hn) (by rw [hL.1]) rfl (lv_room (zroom rest hw)) hd (zcells C h1 h2)
end ZTEXT
theorem zSp.ofG {E : zE} {lv mc ms : Nat} {M : zMI} {cc : ByteArray} {av : List zV} {S : zM} {Q : Option zV → zM → Prop} (hy : plainFor M.2.1 = true) (ho : M.2.1.cls = M.1) (hl : (zlay av).length ≤ M.2.2.1) {ls : List (Option zV)} (hls : zlay av ++ List.replicate (M.2.2.1 - (zlay av).length) none = ls)
    (k : zJ E lv mc ms M cc 0 ls [] S Q) : zSp E lv mc ms M cc av S Q := by
  intro l
  refine va_MetF (cc := cc) (maxL := M.2.2.1) (ret := M.2.2.2) hy rfl ?_
  intro p e s m args below meth c s₁ B hml hv
  obtain ⟨rfl, hT, hP⟩ := hv
  have hown : s.vm.findClass M.1 = some m.cls := by rw [← ho]; exact findClass_of_methodNamed B.named
  obtain ⟨hlen, hget⟩ := zlay_sl E av [] [] rfl (fun i v h => by simp at h)
  simp only [List.nil_append] at hlen hget
  have hle := lv_entry (av.map (ztv E)) (n := M.2.2.1) (by omega)
  rw [lg_entry_eq]
  refine k p l e _ s m _ below meth c s.heap [] 0 0 mc ms _ ⟨B.exec, B.bytes, hml, B.returns, B.notSynchronized, (name_of_methodNamed B.named B.method).1, hown, hT, Nat.le_refl _, Nat.le_refl _, ⟨Nat.le_of_eq (Nat.zero_add _), Nat.le_of_eq (Nat.zero_add _)⟩, ⟨Nat.le_of_eq (Nat.zero_add _), Nat.le_of_eq (Nat.zero_add _)⟩, fun q h => by simp at h⟩ hP ⟨hle.1, hle.2.1, fun i v h => ?_⟩
  subst hls
  rw [List.getElem?_toArray]
  by_cases hi : i < (zlay av).length
  · rw [List.getElem?_append_left hi] at h
    rw [List.getElem?_append_left (by omega)]
    exact hget i v h
  · rw [List.getElem?_append_right (by omega)] at h
    simp [List.getElem?_replicate] at h
abbrev mqL : zMI := (RJ0, yJ0_length_8abf5, 1, (some .int))
theorem mk_qL : zMK mqL cJ0_length_8abf5 0 := ⟨List.mem_of_getElem? (i := 1397) (by decide +kernel), List.mem_of_getElem? (i := 98) (by decide +kernel), ⟨by decide +kernel, by decide +kernel, by decide +kernel⟩, by decide⟩
theorem mv_qL : zMV yJ0_length_8abf5 := ⟨List.mem_of_getElem? (i := 1395) (by decide +kernel), List.mem_of_getElem? (i := 1396) (by decide +kernel)⟩
abbrev mqA : zMI := (RJ0, yJ0_charAt_5068e, 2, (some .char))
theorem mk_qA : zMK mqA cJ0_charAt_5068e 1 := ⟨List.mem_of_getElem? (i := 1407) (by decide +kernel), List.mem_of_getElem? (i := 98) (by decide +kernel), ⟨by decide +kernel, by decide +kernel, by decide +kernel⟩, by decide⟩
theorem mv_qA : zMV yJ0_charAt_5068e := ⟨List.mem_of_getElem? (i := 1405) (by decide +kernel), List.mem_of_getElem? (i := 1406) (by decide +kernel)⟩
abbrev mqC : zMI := (RJ0, yJ0_coder_7d493, 1, (some .byte))
theorem mk_qC : zMK mqC cJ0_coder_7d493 0 := ⟨List.mem_of_getElem? (i := 1401) (by decide +kernel), List.mem_of_getElem? (i := 98) (by decide +kernel), ⟨by decide +kernel, by decide +kernel, by decide +kernel⟩, by decide⟩
theorem mv_qC : zMV yJ0_coder_7d493 := ⟨List.mem_of_getElem? (i := 1399) (by decide +kernel), List.mem_of_getElem? (i := 1400) (by decide +kernel)⟩
abbrev mqI : zMI := (RJ0, yJ0_isLatin1_aae02, 1, (some .boolean))
theorem mk_qI : zMK mqI cJ0_isLatin1_aae02 0 := ⟨List.mem_of_getElem? (i := 1411) (by decide +kernel), List.mem_of_getElem? (i := 98) (by decide +kernel), ⟨by decide +kernel, by decide +kernel, by decide +kernel⟩, by decide⟩
theorem mv_qI : zMV yJ0_isLatin1_aae02 := ⟨List.mem_of_getElem? (i := 1409) (by decide +kernel), List.mem_of_getElem? (i := 1410) (by decide +kernel)⟩
abbrev mqX : zMI := (RJ0, yJ0_checkIndex_df160, 2, none)
theorem mk_qX : zMK mqX cJ0_checkIndex_df160 2 := ⟨List.mem_of_getElem? (i := 1417) (by decide +kernel), List.mem_of_getElem? (i := 98) (by decide +kernel), ⟨by decide +kernel, by decide +kernel, by decide +kernel⟩, by decide⟩
theorem ms_qX : Cond.static yJ0_checkIndex_df160 ∈ lw_tbl := List.mem_of_getElem? (i := 1416) (by decide +kernel)
abbrev mqB : zMI := (RJ1, yJ1_charAt_3b067, 2, (some .char))
theorem mk_qB : zMK mqB cJ1_charAt_3b067 2 := ⟨List.mem_of_getElem? (i := 1414) (by decide +kernel), List.mem_of_getElem? (i := 99) (by decide +kernel), ⟨by decide +kernel, by decide +kernel, by decide +kernel⟩, by decide⟩
theorem ms_qB : Cond.static yJ1_charAt_3b067 ∈ lw_tbl := List.mem_of_getElem? (i := 1413) (by decide +kernel)
abbrev mqP : zMI := (RJ3, yJ3_checkIndex_8e157, 3, (some .int))
theorem mk_qP : zMK mqP cJ3_checkIndex_8e157 3 := ⟨List.mem_of_getElem? (i := 1422) (by decide +kernel), List.mem_of_getElem? (i := 100) (by decide +kernel), ⟨by decide +kernel, by decide +kernel, by decide +kernel⟩, by decide⟩
theorem ms_qP : Cond.static yJ3_checkIndex_8e157 ∈ lw_tbl := List.mem_of_getElem? (i := 1421) (by decide +kernel)
theorem lq_335 : Cond.methodLink RJ0 335 yJ0_coder_7d493 ∈ lw_tbl := List.mem_of_getElem? (i := 1398) (by decide +kernel)
theorem lq_492 : Cond.methodLink RJ0 492 yJ0_isLatin1_aae02 ∈ lw_tbl := List.mem_of_getElem? (i := 1408) (by decide +kernel)
theorem lq_495 : Cond.methodLink RJ0 495 yJ1_charAt_3b067 ∈ lw_tbl := List.mem_of_getElem? (i := 1412) (by decide +kernel)
theorem lq_9 : Cond.methodLink RJ1 9 yJ0_checkIndex_df160 ∈ lw_tbl := List.mem_of_getElem? (i := 1415) (by decide +kernel)
theorem lq_1059 : Cond.methodLink RJ0 1059 yJ3_checkIndex_8e157 ∈ lw_tbl := List.mem_of_getElem? (i := 1420) (by decide +kernel)
theorem lq_170 : Cond.methodLink RX12 170 yJ0_length_8abf5 ∈ lw_tbl := List.mem_of_getElem? (i := 1394) (by decide +kernel)
theorem lq_176 : Cond.methodLink RX12 176 yJ0_charAt_5068e ∈ lw_tbl := List.mem_of_getElem? (i := 1404) (by decide +kernel)
theorem fq_38 : Cond.fieldLink RJ0 38 "java/lang/String" "COMPACT_STRINGS" "Z" ∈ lw_tbl := List.mem_of_getElem? (i := 1402) (by decide +kernel)
theorem fq_1053 : Cond.fieldLink RJ0 1053 "jdk/internal/util/Preconditions" "SIOOBE_FORMATTER" "Ljava/util/function/BiFunction;" ∈ lw_tbl := List.mem_of_getElem? (i := 1418) (by decide +kernel)
theorem fq_9 : Cond.fieldLink RJ0 9 "java/lang/String" "value" "[B" ∈ lw_tbl := List.mem_of_getElem? (i := 1833) (by decide +kernel)
theorem fq_15 : Cond.fieldLink RJ0 15 "java/lang/String" "coder" "B" ∈ lw_tbl := List.mem_of_getElem? (i := 1834) (by decide +kernel)
theorem eqL_0 : decode cJ0_length_8abf5 0 = .ok (.aload_n 0, 1) := by decide +kernel
theorem eqL_1 : decode cJ0_length_8abf5 1 = .ok (.getfield 9, 3) := by decide +kernel
theorem eqL_4 : decode cJ0_length_8abf5 4 = .ok (.arraylength, 1) := by decide +kernel
theorem eqL_5 : decode cJ0_length_8abf5 5 = .ok (.aload_n 0, 1) := by decide +kernel
theorem eqL_6 : decode cJ0_length_8abf5 6 = .ok (.invokevirtual 335, 3) := by decide +kernel
theorem eqL_9 : decode cJ0_length_8abf5 9 = .ok (.ishr, 1) := by decide +kernel
theorem eqL_10 : decode cJ0_length_8abf5 10 = .ok (.ireturn, 1) := by decide +kernel
theorem eqA_0 : decode cJ0_charAt_5068e 0 = .ok (.aload_n 0, 1) := by decide +kernel
theorem eqA_1 : decode cJ0_charAt_5068e 1 = .ok (.invokevirtual 492, 3) := by decide +kernel
theorem eqA_4 : decode cJ0_charAt_5068e 4 = .ok (.ifCond .eq 12, 3) := by decide +kernel
theorem eqA_7 : decode cJ0_charAt_5068e 7 = .ok (.aload_n 0, 1) := by decide +kernel
theorem eqA_8 : decode cJ0_charAt_5068e 8 = .ok (.getfield 9, 3) := by decide +kernel
theorem eqA_11 : decode cJ0_charAt_5068e 11 = .ok (.iload_n 1, 1) := by decide +kernel
theorem eqA_12 : decode cJ0_charAt_5068e 12 = .ok (.invokestatic 495, 3) := by decide +kernel
theorem eqA_15 : decode cJ0_charAt_5068e 15 = .ok (.ireturn, 1) := by decide +kernel
theorem eqA_16 : decode cJ0_charAt_5068e 16 = .ok (.aload_n 0, 1) := by decide +kernel
theorem eqA_17 : decode cJ0_charAt_5068e 17 = .ok (.getfield 9, 3) := by decide +kernel
theorem eqA_20 : decode cJ0_charAt_5068e 20 = .ok (.iload_n 1, 1) := by decide +kernel
theorem eqA_21 : decode cJ0_charAt_5068e 21 = .ok (.invokestatic 498, 3) := by decide +kernel
theorem eqA_24 : decode cJ0_charAt_5068e 24 = .ok (.ireturn, 1) := by decide +kernel
theorem eqC_0 : decode cJ0_coder_7d493 0 = .ok (.getstatic 38, 3) := by decide +kernel
theorem eqC_3 : decode cJ0_coder_7d493 3 = .ok (.ifCond .eq 10, 3) := by decide +kernel
theorem eqC_6 : decode cJ0_coder_7d493 6 = .ok (.aload_n 0, 1) := by decide +kernel
theorem eqC_7 : decode cJ0_coder_7d493 7 = .ok (.getfield 15, 3) := by decide +kernel
theorem eqC_10 : decode cJ0_coder_7d493 10 = .ok (.goto 4, 3) := by decide +kernel
theorem eqC_13 : decode cJ0_coder_7d493 13 = .ok (.iconst 1, 1) := by decide +kernel
theorem eqC_14 : decode cJ0_coder_7d493 14 = .ok (.ireturn, 1) := by decide +kernel
theorem eqI_0 : decode cJ0_isLatin1_aae02 0 = .ok (.getstatic 38, 3) := by decide +kernel
theorem eqI_3 : decode cJ0_isLatin1_aae02 3 = .ok (.ifCond .eq 14, 3) := by decide +kernel
theorem eqI_6 : decode cJ0_isLatin1_aae02 6 = .ok (.aload_n 0, 1) := by decide +kernel
theorem eqI_7 : decode cJ0_isLatin1_aae02 7 = .ok (.getfield 15, 3) := by decide +kernel
theorem eqI_10 : decode cJ0_isLatin1_aae02 10 = .ok (.ifCond .ne 7, 3) := by decide +kernel
theorem eqI_13 : decode cJ0_isLatin1_aae02 13 = .ok (.iconst 1, 1) := by decide +kernel
theorem eqI_14 : decode cJ0_isLatin1_aae02 14 = .ok (.goto 4, 3) := by decide +kernel
theorem eqI_17 : decode cJ0_isLatin1_aae02 17 = .ok (.iconst 0, 1) := by decide +kernel
theorem eqI_18 : decode cJ0_isLatin1_aae02 18 = .ok (.ireturn, 1) := by decide +kernel
theorem eqX_0 : decode cJ0_checkIndex_df160 0 = .ok (.iload_n 0, 1) := by decide +kernel
theorem eqX_1 : decode cJ0_checkIndex_df160 1 = .ok (.iload_n 1, 1) := by decide +kernel
theorem eqX_2 : decode cJ0_checkIndex_df160 2 = .ok (.getstatic 1053, 3) := by decide +kernel
theorem eqX_5 : decode cJ0_checkIndex_df160 5 = .ok (.invokestatic 1059, 3) := by decide +kernel
theorem eqX_8 : decode cJ0_checkIndex_df160 8 = .ok (.pop, 1) := by decide +kernel
theorem eqX_9 : decode cJ0_checkIndex_df160 9 = .ok (.return_, 1) := by decide +kernel
theorem eqB_0 : decode cJ1_charAt_3b067 0 = .ok (.iload_n 1, 1) := by decide +kernel
theorem eqB_1 : decode cJ1_charAt_3b067 1 = .ok (.aload_n 0, 1) := by decide +kernel
theorem eqB_2 : decode cJ1_charAt_3b067 2 = .ok (.arraylength, 1) := by decide +kernel
theorem eqB_3 : decode cJ1_charAt_3b067 3 = .ok (.invokestatic 9, 3) := by decide +kernel
theorem eqB_6 : decode cJ1_charAt_3b067 6 = .ok (.aload_n 0, 1) := by decide +kernel
theorem eqB_7 : decode cJ1_charAt_3b067 7 = .ok (.iload_n 1, 1) := by decide +kernel
theorem eqB_8 : decode cJ1_charAt_3b067 8 = .ok (.baload, 1) := by decide +kernel
theorem eqB_9 : decode cJ1_charAt_3b067 9 = .ok (.sipush 255, 3) := by decide +kernel
theorem eqB_12 : decode cJ1_charAt_3b067 12 = .ok (.iand, 1) := by decide +kernel
theorem eqB_13 : decode cJ1_charAt_3b067 13 = .ok (.i2c, 1) := by decide +kernel
theorem eqB_14 : decode cJ1_charAt_3b067 14 = .ok (.ireturn, 1) := by decide +kernel
theorem eqP_0 : decode cJ3_checkIndex_8e157 0 = .ok (.iload_n 0, 1) := by decide +kernel
theorem eqP_1 : decode cJ3_checkIndex_8e157 1 = .ok (.ifCond .lt 8, 3) := by decide +kernel
theorem eqP_4 : decode cJ3_checkIndex_8e157 4 = .ok (.iload_n 0, 1) := by decide +kernel
theorem eqP_5 : decode cJ3_checkIndex_8e157 5 = .ok (.iload_n 1, 1) := by decide +kernel
theorem eqP_6 : decode cJ3_checkIndex_8e157 6 = .ok (.if_icmp .lt 10, 3) := by decide +kernel
theorem eqP_9 : decode cJ3_checkIndex_8e157 9 = .ok (.aload_n 2, 1) := by decide +kernel
theorem eqP_10 : decode cJ3_checkIndex_8e157 10 = .ok (.iload_n 0, 1) := by decide +kernel
theorem eqP_11 : decode cJ3_checkIndex_8e157 11 = .ok (.iload_n 1, 1) := by decide +kernel
theorem eqP_12 : decode cJ3_checkIndex_8e157 12 = .ok (.invokestatic 95, 3) := by decide +kernel
theorem eqP_15 : decode cJ3_checkIndex_8e157 15 = .ok (.athrow, 1) := by decide +kernel
theorem eqP_16 : decode cJ3_checkIndex_8e157 16 = .ok (.iload_n 0, 1) := by decide +kernel
theorem eqP_17 : decode cJ3_checkIndex_8e157 17 = .ok (.ireturn, 1) := by decide +kernel
theorem zTl_lt : ∀ j, j < 9 → zTl.getD j 0 < 7 := by decide
section ZTEXT2
variable {E : zE} {S : zM}
theorem vq_value {j : Nat} (hj : j < 9) (U : State) (h : zTx E U) : va_OF "java/lang/String" "value" "[B" (ztv E (zQ (16 + j))) (zS E j) (zfr E) U (zH E) := (h.2.1.1 j hj).2.2.1
theorem vq_coder {j : Nat} (hj : j < 9) (U : State) (h : zTx E U) : va_OF "java/lang/String" "coder" "B" (ztv E (zI 0)) (zS E j) (zfr E) U (zH E) := (h.2.1.1 j hj).2.1
theorem vq_compact (U : State) (h : zTx E U) : va_Z "java/lang/String" "COMPACT_STRINGS" "Z" (ztv E (zI 1)) (zfr E) U (zH E) := h.2.2.1
theorem q_coder (hE : zOKE E) {j : Nat} (hj : j < 9) : zSp E 0 0 0 mqC cJ0_coder_7d493 [zQ j] S (fun r T => S = T ∧ r = some (zI 0)) := by
  refine zSp.ofG (by decide +kernel) rfl (Nat.le_of_ble_eq_true rfl) rfl ?_
  refine j_getsQ (v := zI 1) hE eqC_0 fq_38 vq_compact ?_
  refine j_if_eq (tgt := 13) eqC_3 (by decide) (fun h => absurd h (by decide)) (fun _ => ?_)
  refine j_aload_nq eqC_6 rfl ?_
  refine j_getQ (v := zI 0) hE eqC_7 fq_15 (vq_coder hj) ?_
  refine j_goto (tgt := 14) eqC_10 (by decide) ?_
  exact j_nret eqC_14 rfl (by decide) ⟨rfl, rfl⟩
theorem q_latin (hE : zOKE E) {j : Nat} (hj : j < 9) : zSp E 0 0 0 mqI cJ0_isLatin1_aae02 [zQ j] S (fun r T => S = T ∧ r = some (zI 1)) := by
  refine zSp.ofG (by decide +kernel) rfl (Nat.le_of_ble_eq_true rfl) rfl ?_
  refine j_getsQ (v := zI 1) hE eqI_0 fq_38 vq_compact ?_
  refine j_if_eq (tgt := 17) eqI_3 (by decide) (fun h => absurd h (by decide)) (fun _ => ?_)
  refine j_aload_nq eqI_6 rfl ?_
  refine j_getQ (v := zI 0) hE eqI_7 fq_15 (vq_coder hj) ?_
  refine j_if_ne (tgt := 17) eqI_10 (by decide) (fun h => absurd rfl h) (fun _ => ?_)
  refine j_iconst (v := 1) eqI_13 (by decide) ?_
  refine j_goto (tgt := 18) eqI_14 (by decide) ?_
  exact j_nret eqI_18 rfl (by decide) ⟨rfl, rfl⟩
theorem q_length (hE : zOKE E) {j : Nat} (hj : j < 9) : zSp E 1 0 0 mqL cJ0_length_8abf5 [zQ j] S (fun r T => S = T ∧ r = some (zI (nI (zTl.getD j 0)))) := by
  refine zSp.ofG (by decide +kernel) rfl (Nat.le_of_ble_eq_true rfl) rfl ?_
  refine j_aload_nq eqL_0 rfl ?_
  refine j_getQ (v := zQ (16 + j)) hE eqL_1 fq_9 (vq_value hj) ?_
  refine j_alenQ hE eqL_4 hj ?_
  refine j_aload_nq eqL_5 rfl ?_
  refine j_callVQ hE (q_coder hE hj) eqL_6 lq_335 mk_qC mv_qC rfl hj (by decide) rfl rfl (Nat.le_of_ble_eq_true rfl) (Nat.le_refl _) (Nat.le_refl _) (fun r T h => ?_)
  obtain ⟨rfl, rfl⟩ := h
  refine j_ishr eqL_9 ?_
  refine j_iret eqL_10 rfl ⟨rfl, ?_⟩
  have := sc_shr0 (n := zTl.getD j 0) (Nat.lt_trans (zTl_lt j hj) (by decide))
  exact congrArg (fun v => some (zI v)) this
theorem q_pre {x y : Int32} {v : zV} (h0 : ¬ x < 0) (h1 : x < y) (hv : v = zR 0 ∨ v = zQ 40) : zSp E 0 0 0 mqP cJ3_checkIndex_8e157 [zI x, zI y, v] S (fun r T => S = T ∧ r = some (zI x)) := by
  have key : zlay [zI x, zI y, v] = [some (zI x), some (zI y), some v] := by rcases hv with rfl | rfl <;> rfl
  refine zSp.ofG (ls := [some (zI x), some (zI y), some v]) (by decide +kernel) rfl (by rw [key]; exact Nat.le_of_ble_eq_true rfl) (by rw [key]; rfl) ?_
  refine j_iload_n eqP_0 rfl ?_
  refine j_if_lt (tgt := 9) eqP_1 (by decide) (fun h => absurd h h0) (fun _ => ?_)
  refine j_iload_n eqP_4 rfl ?_
  refine j_iload_n eqP_5 rfl ?_
  refine j_icmp_lt (tgt := 16) eqP_6 (by decide) (fun _ => ?_) (fun h => absurd h1 h)
  refine j_iload_n eqP_16 rfl ?_
  exact j_iret eqP_17 rfl ⟨rfl, rfl⟩
theorem q_check (hE : zOKE E) {x y : Int32} (h0 : ¬ x < 0) (h1 : x < y) : zSp E 1 0 0 mqX cJ0_checkIndex_df160 [zI x, zI y] S (fun r T => S = T ∧ r = none) := by
  refine zSp.ofG (by decide +kernel) rfl (Nat.le_of_ble_eq_true rfl) rfl ?_
  refine j_iload_n eqX_0 rfl ?_
  refine j_iload_n eqX_1 rfl ?_
  refine j_getsF hE eqX_2 fq_1053 (fun v hv => ?_)
  refine j_callS (q_pre h0 h1 hv) eqX_5 lq_1059 mk_qP ms_qP (by decide) rfl rfl (Nat.le_of_ble_eq_true rfl) (Nat.le_refl _) (Nat.le_refl _) (fun r T h => ?_)
  obtain ⟨rfl, rfl⟩ := h
  refine j_pop eqX_8 rfl ?_
  exact j_vret eqX_9 rfl ⟨rfl, rfl⟩
theorem q_latinAt (hE : zOKE E) {j : Nat} {x : Int32} (hj : j < 9) (h0 : ¬ x < 0) (h1 : x < Int32.ofNat (zTl.getD j 0)) (h2 : x.toNatClampNeg < zTl.getD j 0) : zSp E 2 0 0 mqB cJ1_charAt_3b067 [zQ (16 + j), zI x] S (fun r T => S = T ∧ r = some (zI ((zTy.getD j []).getD x.toNatClampNeg 0 &&& 255))) := by
  refine zSp.ofG (by decide +kernel) rfl (Nat.le_of_ble_eq_true rfl) rfl ?_
  refine j_iload_n eqB_0 rfl ?_
  refine j_aload_nq eqB_1 rfl ?_
  refine j_alenQ hE eqB_2 hj ?_
  refine j_callS (q_check hE h0 h1) eqB_3 lq_9 mk_qX ms_qX (by decide) rfl rfl (Nat.le_of_ble_eq_true rfl) (Nat.le_refl _) (Nat.le_refl _) (fun r T h => ?_)
  obtain ⟨rfl, rfl⟩ := h
  refine j_aload_nq eqB_6 rfl ?_
  refine j_iload_n eqB_7 rfl ?_
  refine j_baldQ hE eqB_8 hj h0 h2 ?_
  refine j_sipush (v := 255) eqB_9 (by decide) ?_
  refine j_iand eqB_12 ?_
  refine j_i2c eqB_13 ?_
  rw [sc_c2]
  exact j_nret eqB_14 rfl (sc_nar _) ⟨rfl, rfl⟩
theorem q_charAt (hE : zOKE E) {j : Nat} {x : Int32} (hj : j < 9) (h0 : ¬ x < 0) (h1 : x < Int32.ofNat (zTl.getD j 0)) (h2 : x.toNatClampNeg < zTl.getD j 0) : zSp E 3 0 0 mqA cJ0_charAt_5068e [zQ j, zI x] S (fun r T => S = T ∧ r = some (zI ((zTy.getD j []).getD x.toNatClampNeg 0 &&& 255))) := by
  refine zSp.ofG (by decide +kernel) rfl (Nat.le_of_ble_eq_true rfl) rfl ?_
  refine j_aload_nq eqA_0 rfl ?_
  refine j_callVQ hE (q_latin hE hj) eqA_1 lq_492 mk_qI mv_qI rfl hj (by decide) rfl rfl (Nat.le_of_ble_eq_true rfl) (Nat.le_refl _) (Nat.le_refl _) (fun r T h => ?_)
  obtain ⟨rfl, rfl⟩ := h
  refine j_if_eq (tgt := 16) eqA_4 (by decide) (fun h => absurd h (by decide)) (fun _ => ?_)
  refine j_aload_nq eqA_7 rfl ?_
  refine j_getQ (v := zQ (16 + j)) hE eqA_8 fq_9 (vq_value hj) ?_
  refine j_iload_n eqA_11 rfl ?_
  refine j_callS (q_latinAt hE hj h0 h1 h2) eqA_12 lq_495 mk_qB ms_qB (by decide) rfl rfl (Nat.le_of_ble_eq_true rfl) (Nat.le_refl _) (Nat.le_refl _) (fun r T h => ?_)
  obtain ⟨rfl, rfl⟩ := h
  exact j_nret eqA_15 rfl (sc_nar _) ⟨rfl, rfl⟩
end ZTEXT2
