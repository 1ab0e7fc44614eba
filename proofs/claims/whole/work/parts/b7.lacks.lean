/-! lacking of the class: it returns or throws -/
abbrev zNE : String := "java/util/NoSuchElementException"
abbrev zRE : String := "java/lang/RuntimeException"
abbrev zXE : String := "java/lang/Exception"
abbrev zLT : String := "no such row lacks a value"
abbrev zB0 : ByteArray := ⟨#[0x2a, 0x2b, 0xb7, 0x00, 0x0d, 0xb1]⟩
theorem zB0_0 : decode zB0 0 = .ok (.aload_n 0, 1) := by decide +kernel
theorem zB0_1 : decode zB0 1 = .ok (.aload_n 1, 1) := by decide +kernel
theorem zB0_2 : decode zB0 2 = .ok (.invokespecial 13, 3) := by decide +kernel
theorem zB0_5 : decode zB0 5 = .ok (.return_, 1) := by decide +kernel
theorem zxat_eq : zx_at RX11 316 zNE zRE 13 zB0 [zXE] = ([105, 1103, 1112, 1114, 1117, 1119, 1104, 1105, 115, 116, 1106, 1111, 1115, 1135, 1093, 1136, 1095, 1137, 1097, 1107, 1109, 1099, 1131, 1132, 1134, 1099, 1122, 1123, 1124, 1125, 1085, 1125, 1126, 1127, 1128, 1087, 1128, 1129, 1130, 1131, 1089, 1121, 1082, 1083, 1090, 1091, 1092, 1094, 1096, 1098, 1102, 1101, 1100] : List Nat).filterMap (fun i => lw_tbl[i]?) := by decide +kernel
theorem zxat_in : ∀ w ∈ zx_at RX11 316 zNE zRE 13 zB0 [zXE], w ∈ lw_tbl := by
  intro w hw
  rw [zxat_eq] at hw
  obtain ⟨i, -, hi⟩ := List.mem_filterMap.mp hw
  exact List.mem_of_getElem? hi
def zxD : List Cond := [.declares (Bundle.initS zRE), .declares (Bundle.initS zXE), .declares (Bundle.initS Bundle.tN), .castable zNE zNE]
theorem zxat_tw : ∀ w ∈ zx_at RX11 316 zNE zRE 13 zB0 [zXE], ztw w = true ∨ w ∈ zxD := by decide +kernel
theorem zxD_ot : ∀ w ∈ zxD, w.onTables = true := by decide +kernel
theorem zxat_ot : ∀ w ∈ Cond.classLink RX11 312 zNE :: Cond.initialized zNE :: zx_at RX11 316 zNE zRE 13 zB0 [zXE], vx_ot w = true := by decide +kernel
theorem zxk_312 : Cond.classLink RX11 312 zNE ∈ lw_tbl := List.mem_of_getElem? (i := 1081) (by decide +kernel)
theorem zxi_NE : Cond.initialized zNE ∈ lw_tbl := List.mem_of_getElem? (i := 108) (by decide +kernel)
/-- what a throw stands on -/
def zXx (E : zE) (U : State) : Prop := vk_R RX11 314 zLT (zS E 41) U ∧ vx_Zq Bundle.tN "UNASSIGNED_STACK" Bundle.steD (zfr E) U (zH E) ∧ vx_Zq Bundle.tN "SUPPRESSED_SENTINEL" Bundle.listD (zfr E) U (zH E) ∧ ∀ w ∈ zxD, va_Nw w U
theorem zXx.moved {E : zE} {s V : State} (hW : s.WarmedH V.vm) (h : zXx E s) : zXx E V := by
  obtain ⟨h1, h2, h3, h4⟩ := h
  refine ⟨h1.warm hW, h2.moved hW.alike, h3.moved hW.alike, fun w hw => ?_⟩
  have hw' := h4 w hw
  simp only [zxD, List.mem_cons, List.not_mem_nil, or_false] at hw
  rcases hw with rfl | rfl | rfl | rfl
  · exact va_Nw.warmD hW hw'
  · exact va_Nw.warmD hW hw'
  · exact va_Nw.warmD hW hw'
  · exact va_Nw.warmC hW hw'
theorem zXx.use {E : zE} {s : State} (h : zXx E s) {w : Cond} (hw : w ∈ zxD) (A : Array Value) : w.before A s = true := va_Nw.use (zxD_ot w hw) (h.2.2.2 w hw)
def zOKX (E : zE) : Prop := ∀ U, zX E U → zXx E U
def zXC (E : zE) (X : zM → Prop) : String → State → State → Prop := fun c _ t => c = zNE ∧ ∃ T, zRp E T t.heap ∧ X T
def zHx (E : zE) : Launch → State → Code → Prop := fun l s c => l.stackTraces = false ∧ (∀ x ∈ c.exceptionTable.toList, False) ∧ ∀ q : Nat, q < zb E → s.heap[q]? = (zH E)[q]?
abbrev zZx (E : zE) (Q : Option zV → zM → Prop) (X : zM → Prop) : zQx := (zHx E, fun below args s mcT msT => vx_MQ below (zQc E Q) (zXC E X) args s mcT msT (zfr E))
def zSx (E : zE) (lv mc ms : Nat) (M : zMI) (cc : ByteArray) (av : List zV) (S : zM) (Q : Option zV → zM → Prop) (X : zM → Prop) : Prop :=
  ∀ l : Launch, l.stackTraces = false → vx_Met l M.2.1 (zws M cc) (zrm lv mc ms) (zPc E av S) (zQc E Q) (zXC E X) mc ms (zfr E)
theorem zSx.of {E : zE} {lv mc ms : Nat} {M : zMI} {cc : ByteArray} {av : List zV} {S : zM} {Q : Option zV → zM → Prop} {X : zM → Prop} (hy : plainName M.2.1.cls = true) (ho : M.2.1.cls = M.1) (hl : (zlay av).length ≤ M.2.2.1) {ls : List (Option zV)} (hls : zlay av ++ List.replicate (M.2.2.1 - (zlay av).length) none = ls)
    (k : zJx E lv mc ms M cc 0 ls [] S (zZx E Q X)) : zSx E lv mc ms M cc av S Q X := by
  intro l hst
  refine vx_ofW (cc := cc) (maxL := M.2.2.1) (ret := M.2.2.2) hy rfl ?_
  intro p e s m args below meth c s₁ B hml htb hv
  obtain ⟨rfl, hT, hP⟩ := hv
  have hown : s.vm.findClass M.1 = some m.cls := by rw [← ho]; exact findClass_of_methodNamed B.named
  obtain ⟨hlen, hget⟩ := zlay_sl E av [] [] rfl (fun i v h => by simp at h)
  simp only [List.nil_append] at hlen hget
  have hle := lv_entry (av.map (ztv E)) (n := M.2.2.1) (by omega)
  rw [lg_entry_eq]
  refine k p l e _ s m _ below meth c s.heap [] 0 0 mc ms _ ⟨hst, htb, hP.2.1⟩ ⟨B.exec, B.bytes, hml, B.returns, B.notSynchronized, (name_of_methodNamed B.named B.method).1, hown, hT, Nat.le_refl _, Nat.le_refl _, ⟨Nat.le_of_eq (Nat.zero_add _), Nat.le_of_eq (Nat.zero_add _)⟩, ⟨Nat.le_of_eq (Nat.zero_add _), Nat.le_of_eq (Nat.zero_add _)⟩, fun q h => by simp at h⟩ hP ⟨hle.1, hle.2.1, fun i v h => ?_⟩
  subst hls
  rw [List.getElem?_toArray]
  by_cases hi : i < (zlay av).length
  · rw [List.getElem?_append_left hi] at h
    rw [List.getElem?_append_left (by omega)]
    exact hget i v h
  · rw [List.getElem?_append_right (by omega)] at h
    simp [List.getElem?_replicate] at h
theorem x_iret {E : zE} {lv mc ms : Nat} {M : zMI} {cc : ByteArray} {pc : Nat} {ls : List (Option zV)} {S : zM} {Q : Option zV → zM → Prop} {X : zM → Prop} {v : Int32} (hd : decode cc pc = .ok (.ireturn, 1)) (hr : M.2.2.2 = some .int) (hq : Q (some (zI v)) S) : zJx E lv mc ms M cc pc ls [zI v] S (zZx E Q X) :=
  (j_iret hd hr hq).gx (fun _ _ _ _ _ _ b => by
    obtain ⟨o, b1, b2, b3, b4⟩ := b
    exact ⟨o, b1, b2, Or.inl ⟨b3, b4⟩⟩)
/-- the heap has grown by cells of which nothing is told -/
abbrev zmo (S : zM) (n : Nat) : zM := (S.1, S.2.1, S.2.2.1, S.2.2.2.1, n)
theorem zRp.more {E : zE} {S : zM} {H H' : Heap} (h : zRp E S H) (hz : H.size ≤ H'.size) (ho : ∀ q : Nat, q < H.size → H'[q]? = H[q]?) : zRp E (zmo S (H'.size - zb E)) H' := by
  obtain ⟨g1, g2, g3, g4⟩ := h
  refine ⟨?_, fun q hq => ?_, fun b t n hb ht => ?_, fun b j n hb hj => ?_⟩
  · show H'.size = zb E + (H'.size - zb E)
    omega
  · rw [ho q (by omega)]
    exact g2 q hq
  · obtain ⟨b0, ob⟩ := g3 b t n hb ht
    refine ⟨b0, (ob.kept (ho _ ?_)).to (fun k _ => rfl)⟩
    obtain ⟨cell, hc, -⟩ := ob
    exact (Array.getElem?_eq_some_iff.mp hc).1
  · obtain ⟨b0, bn, ob⟩ := g4 b j n hb hj
    refine ⟨b0, bn, ?_⟩
    rw [ho _ (Array.getElem?_eq_some_iff.mp ob).1, ob]
    rfl
theorem zNF.mor {S : zM} {n : Nat} (h : zgn S ≤ n) : zNF (fun _ => False) S (zmo S n) := ⟨h, fun c _ _ => ⟨rfl, fun _ => rfl, fun _ => rfl, fun _ => rfl⟩⟩
set_option maxHeartbeats 1000000 in
theorem x_throwL {E : zE} {lv mc ms : Nat} {ls : List (Option zV)} {S : zM} {Q : Option zV → zM → Prop} {X : zM → Prop} (hE : zOKX E) (hlv : 6 ≤ lv) (hmc : 1 ≤ mc) (hms : 6 ≤ ms) (hx : ∀ T, zNF (fun _ => False) S T → X T) : zJx E lv mc ms mX11_lacking cX11_lacking 71 ls [] S (zZx E Q X) := by
  intro p l e R s m args below meth c H locs cells slots mcT msT lsA hz C hP hL T hT X0
  obtain ⟨hl, ht, hb⟩ := hz
  obtain ⟨c1, c2, c3, c4, c5, c6, c7, c8, c9, c10, ⟨c11, c12⟩, ⟨c13, c14⟩, c15⟩ := C
  have hXx := hE s c8.2.2.2.2.2
  obtain ⟨hstr, hU, hN, -⟩ := id hXx
  have hsz : s.heap.size ≤ H.size := by rw [← hT]; exact (vx_frame X0.same).1
  have hS : va_S (zfr E) s.heap H locs := ⟨hsz, fun q _ hA => (hP.2.1 q (Nat.lt_of_not_le hA)).trans (hb q (Nat.lt_of_not_le hA)).symm, c15⟩
  have kU := hU.kept (H1 := s.heap) (fun a _ hA => hb a (Nat.lt_of_not_le hA))
  have kN := hN.kept (H1 := s.heap) (fun a _ hA => hb a (Nat.lt_of_not_le hA))
  refine zx_make (cc := cX11_lacking) (pc := 71) (rest := []) c1 c2 hl (own := RX11) (cls := zNE) (Y0 := zRE) (text := zLT) (names := [zXE]) (ik := 312) (is := 314) (ic := 316) (sa := zS E 41) (i0 := 13) (b0 := zB0) (A := zfr E) c7 (by decide +kernel) (by decide +kernel) (by decide +kernel) zB0_0 zB0_1 zB0_2 zB0_5 (c8.w zxk_312 rfl _) (c8.w zxi_NE rfl _) hstr (fun w hw => (zxat_tw w hw).elim (fun h => c8.w (zxat_in w hw) h _) (fun h => hXx.use h _)) zxat_ot kU kN hS (hL.1.trans c3.symm) dX11_lacking_71 dX11_lacking_74 dX11_lacking_75 dX11_lacking_78 (show 1 + 4 < R.frames by omega) (show 0 + (13 * (1 + 2) + 43) ≤ R.locals by omega) (by omega) (by omega) (fun q ce H1 k1 k2 k3 k4 k5 => ?_) T hT X0
  refine vx_athrow c1 c2 dX11_lacking_81 ?_
  refine vx_out (fun x hx' => (ht x hx').elim) c5 k1 k2 k3 (fun t he _ => ⟨rfl, zmo S (H1.size - zb E), by rw [he]; exact hP.more k4 k5, hx _ (zNF.mor ?_)⟩) c15 (by omega) (by omega)
  have := hP.1
  omega
set_option maxRecDepth 20000 in
set_option maxHeartbeats 4000000 in
theorem p_lacking {E : zE} {S : zM} {s : zST} {n : Nat} (hE : zOKX E) (h : zCI S s) (hw : zWF n s) (x : Int32) : zSx E 8 1 6 mX11_lacking cX11_lacking [zR 1, zI x] S (fun r T => S = T ∧ ∃ z, q_lacking s x = some z ∧ r = some (zI z)) (fun T => q_lacking s x = none ∧ zNF (fun _ => False) S T) := by
  refine zSx.of (by decide) rfl (Nat.le_of_ble_eq_true rfl) rfl ?_
  obtain ⟨h0, hF, hG4, hi, hV, hP, hR, hT⟩ := _root_.id h
  have k1 := h0.1
  cases ht : sT s with
  | none =>
    rw [ht] at hT
    have p5 : zgP S 1 5 = 0 := hT
    refine x_iconst (pc := 0) (v := 0) dX11_lacking_0 (by decide) ?_
    refine x_istore_n (pc := 1) (ls' := [_, _, _, _, _]) dX11_lacking_1 (by decide) rfl rfl ?_
    refine x_aload_n (pc := 2) dX11_lacking_2 rfl ?_
    refine x_getPv (pc := 3) dX11_lacking_3 f_X11_44 (Or.inl ⟨_, rfl⟩) (by assumption) (p5) ?_
    refine x_ifnonnull (pc := 6) (tgt := 13) dX11_lacking_6 (by decide) (fun h6 => absurd rfl h6) (fun h6 => ?_)
    refine x_iconst (pc := 9) (v := 0) dX11_lacking_9 (by decide) ?_
    refine x_goto (pc := 10) (tgt := 23) dX11_lacking_10 (by decide) ?_
    refine x_istore_n (pc := 23) (ls' := [_, _, _, _, _]) dX11_lacking_23 (by decide) rfl rfl ?_
    refine x_iconst (pc := 24) (v := 0) dX11_lacking_24 (by decide) ?_
    refine x_istore (pc := 25) (ls' := [_, _, _, _, _]) dX11_lacking_25 (by decide) rfl rfl ?_
    refine x_iload (pc := 27) dX11_lacking_27 rfl ?_
    refine x_iload_n (pc := 29) dX11_lacking_29 rfl ?_
    refine x_icmp_ge (pc := 30) (tgt := 71) dX11_lacking_30 (by decide) (fun h30 => ?_) (fun h30 => absurd (Int32.le_refl _) h30)
    have eno : q_lacking s x = none := by rw [q_lacking, ht]
    exact x_throwL hE (by decide) (Nat.le_refl _) (Nat.le_refl _) (fun T hn => ⟨eno, hn⟩)
  | some t =>
    rw [ht] at hT
    obtain ⟨a, p5, a161, ag, hTt, hVI⟩ := hT
    obtain ⟨ka, q2, q3, q4, q5, q6, q1, i7, i8⟩ := hTt.d
    have k6 : zkd S 6 = (11, 0) := by obtain ⟨q, t0, g, h1, h2⟩ := hV.1; exact h1.1.1
    obtain ⟨so, si, sc, ol, hTA, hHi⟩ := hTt
    have hOr := hTA.2.2.1
    have hSv := hTA.2.2.2.1
    have hRo := hTA.2.2.2.2.1
    have hAc := hTA.2.2.2.2.2.1
    have kor := hOr.1.1
    have ksv := hSv.1.1
    have kro := hRo.1
    have kac := hAc.1.1
    have iv := hAc.2.2.1
    have hn : n ≤ 600 := Nat.le_of_lt hw.1
    have hwT := hw.2.2.2
    rw [ht] at hwT
    obtain ⟨hWt, hWp, hWr⟩ := hwT
    have g64 := hRo.2.2.2.2.2.2.2.2.2
    have hTk := hTA.1
    have hno : zlks t 64 = zlks t (tG t) := by
      have hz : ∀ d, tG t + d ≤ 64 → zlks t (tG t + d) = zlks t (tG t) := by
        intro d
        induction d with
        | zero => intro _; rfl
        | succ d ih =>
          intro hd
          have h1 : (tW t).1 (tG t + d) = false := (hWt.2.2.2.2.1.2 (tv t) (Nat.le_refl _)).1 _ (Nat.le_add_right _ _)
          rw [show tG t + (d + 1) = (tG t + d) + 1 by omega, zlks_succ, h1, Bool.false_and, if_neg (by decide), List.append_nil]
          exact ih (by omega)
      have := hz (64 - tG t) (by omega)
      rwa [show tG t + (64 - tG t) = 64 by omega] at this
    have lp : ∀ (m i : Nat), i + m = tG t → (∀ o, o < (zlks t i).length → nI o ≠ x) → zJx E 8 1 6 mX11_lacking cX11_lacking 27 [some (zR 1), some (zI x), some (zI (nI (zlks t i).length)), some (zI (nI (tG t))), some (zI (nI i))] [] S (zZx E (fun r T => S = T ∧ ∃ z, q_lacking s x = some z ∧ r = some (zI z)) (fun T => q_lacking s x = none ∧ zNF (fun _ => False) S T)) := by
      intro m
      induction m with
      | zero =>
        intro i hi hq
        have ei : i = tG t := by omega
        subst ei
        have eno : q_lacking s x = none := by
          simp only [q_lacking, ht]
          by_cases hx : x < 0
          · rw [if_pos hx]
          · rw [if_neg hx]
            obtain ⟨k, hk, rfl⟩ := nI_of hx
            rw [zn, nI_clamp hk, List.getElem?_eq_none]
            · rfl
            · rw [hno]
              exact Nat.le_of_not_lt (fun z => hq k z rfl)
        refine x_iload (pc := 27) dX11_lacking_27 rfl ?_
        refine x_iload_n (pc := 29) dX11_lacking_29 rfl ?_
        refine x_icmp_ge (pc := 30) (tgt := 71) dX11_lacking_30 (by decide) (fun h30 => ?_) (fun h30 => absurd (nI_le (Nat.le_refl _) (by omega)) h30)
        exact x_throwL hE (by decide) (Nat.le_refl _) (Nat.le_refl _) (fun T hn => ⟨eno, hn⟩)
      | succ m ih =>
        intro i hi hq
        refine x_iload (pc := 27) dX11_lacking_27 rfl ?_
        refine x_iload_n (pc := 29) dX11_lacking_29 rfl ?_
        refine x_icmp_ge (pc := 30) (tgt := 71) dX11_lacking_30 (by decide) (fun h30 => absurd h30 (nI_ge (by omega) (by omega))) (fun h30 => ?_)
        refine x_aload_n (pc := 33) dX11_lacking_33 rfl ?_
        refine x_iload (pc := 34) dX11_lacking_34 rfl ?_
        refine x_callV (pc := 36) (t := 11) (c_isRow h _) dX11_lacking_36 l_X11_151 mk_X11_isRow mv_X11_isRow (by decide) rfl (by assumption) (by decide) rfl rfl (Nat.le_of_ble_eq_true rfl) (Nat.le_refl _) (Nat.le_refl _) (fun r T h_1 => ?_)
        obtain ⟨rfl, rfl⟩ := h_1
        rw [zrow_s ht, zth_nI _ (show i < 64 by omega)]
        refine x_if_eq (pc := 39) (tgt := 65) dX11_lacking_39 (by decide) (fun h39 => ?_) (fun h39 => ?_)
        · refine x_iinc (pc := 65) (v := _ + 1) (ls' := [_, _, _, _, _]) dX11_lacking_65 rfl rfl (by decide) rfl rfl ?_
          refine x_goto (pc := 68) (tgt := 27) dX11_lacking_68 (by decide) ?_
          rw [nI_1]
          have es : zlks t (i + 1) = zlks t i := by rw [zlks_succ, if_neg (by rw [zbi_eq0.mp h39, Bool.false_and]; decide), List.append_nil]
          have := ih (i + 1) (by omega) (by rw [es]; exact hq)
          rwa [es] at this
        · refine x_aload_n (pc := 42) dX11_lacking_42 rfl ?_
          refine x_getPv (pc := 43) dX11_lacking_43 f_X11_44 (Or.inl ⟨_, rfl⟩) (by assumption) (p5) ?_
          refine x_iload (pc := 46) dX11_lacking_46 rfl ?_
          refine x_callV (pc := 48) (t := 9) (c_lacks hTk q4 hRo (show i < 64 by omega)) dX11_lacking_48 l_X11_309 mk_X9_lacksValue mv_X9_lacksValue (by decide) rfl (by assumption) (by decide) rfl rfl (Nat.le_of_ble_eq_true rfl) (Nat.le_refl _) (Nat.le_refl _) (fun r T h_1 => ?_)
          obtain ⟨rfl, rfl⟩ := h_1
          refine x_if_eq (pc := 51) (tgt := 65) dX11_lacking_51 (by decide) (fun h51 => ?_) (fun h51 => ?_)
          · refine x_iinc (pc := 65) (v := _ + 1) (ls' := [_, _, _, _, _]) dX11_lacking_65 rfl rfl (by decide) rfl rfl ?_
            refine x_goto (pc := 68) (tgt := 27) dX11_lacking_68 (by decide) ?_
            rw [nI_1]
            have es : zlks t (i + 1) = zlks t i := by rw [zlks_succ, if_neg (by rw [zbi_eq0.mp h51, Bool.and_false]; decide), List.append_nil]
            have := ih (i + 1) (by omega) (by rw [es]; exact hq)
            rwa [es] at this
          · refine x_iload_n (pc := 54) dX11_lacking_54 rfl ?_
            refine x_iload_n (pc := 55) dX11_lacking_55 rfl ?_
            refine x_icmp_ne (pc := 56) (tgt := 62) dX11_lacking_56 (by decide) (fun h56 => ?_) (fun h56 => ?_)
            · refine x_iinc (pc := 62) (v := _ + 1) (ls' := [_, _, _, _, _]) dX11_lacking_62 rfl rfl (by decide) rfl rfl ?_
              refine x_iinc (pc := 65) (v := _ + 1) (ls' := [_, _, _, _, _]) dX11_lacking_65 rfl rfl (by decide) rfl rfl ?_
              refine x_goto (pc := 68) (tgt := 27) dX11_lacking_68 (by decide) ?_
              rw [nI_1, nI_1]
              have hl : ((tW t).1 i && zlk (tK t).length ((tW t).2 i)) = true := by rw [zbi_ne0 h39, zbi_ne0 h51]; rfl
              have es : zlks t (i + 1) = zlks t i ++ [i] := by rw [zlks_succ, if_pos hl]
              have el : (zlks t (i + 1)).length = (zlks t i).length + 1 := by rw [es, List.length_append]; rfl
              have := ih (i + 1) (by omega) (by
                intro o ho
                rw [el] at ho
                by_cases e : o = (zlks t i).length
                · rw [e]
                  exact h56
                · exact hq o (by omega))
              rwa [el] at this
            · refine x_iload (pc := 59) dX11_lacking_59 rfl ?_
              refine x_iret (pc := 61) dX11_lacking_61 rfl ?_
              have hl : ((tW t).1 i && zlk (tK t).length ((tW t).2 i)) = true := by rw [zbi_ne0 h39, zbi_ne0 h51]; rfl
              have ey : q_lacking s x = some (nI i) := by
                simp only [q_lacking, ht]
                have hle := zlks_le t i
                rw [← h56, if_neg (nI_pos (by omega)), zn, nI_clamp (by omega), zlks_at (by omega) hl]
                rfl
              exact ⟨rfl, nI i, ey, rfl⟩
    refine x_iconst (pc := 0) (v := 0) dX11_lacking_0 (by decide) ?_
    refine x_istore_n (pc := 1) (ls' := [_, _, _, _, _]) dX11_lacking_1 (by decide) rfl rfl ?_
    refine x_aload_n (pc := 2) dX11_lacking_2 rfl ?_
    refine x_getPv (pc := 3) dX11_lacking_3 f_X11_44 (Or.inl ⟨_, rfl⟩) (by assumption) (p5) ?_
    refine x_ifnonnull (pc := 6) (tgt := 13) dX11_lacking_6 (by decide) (fun h6 => ?_) (fun h6 => absurd h6 (by omega))
    refine x_aload_n (pc := 13) dX11_lacking_13 rfl ?_
    refine x_getPv (pc := 14) dX11_lacking_14 f_X11_44 (Or.inl ⟨_, rfl⟩) (by assumption) (p5) ?_
    refine x_getPv (pc := 17) dX11_lacking_17 f_X11_96 (Or.inl ⟨_, rfl⟩) (by assumption) (q4) ?_
    refine x_getIv (pc := 20) dX11_lacking_20 f_X11_116 (Or.inl rfl) (by assumption) (hRo.2.2.2.2.2.1) ?_
    refine x_istore_n (pc := 23) (ls' := [_, _, _, _, _]) dX11_lacking_23 (by decide) rfl rfl ?_
    refine x_iconst (pc := 24) (v := 0) dX11_lacking_24 (by decide) ?_
    refine x_istore (pc := 25) (ls' := [_, _, _, _, _]) dX11_lacking_25 (by decide) rfl rfl ?_
    exact lp (tG t) 0 (by omega) (fun o ho => absurd ho (Nat.not_lt_zero o))
