/-! a turn's codes -/
theorem zbit_t : ∀ U, U < 16 → ∀ M, M < 4 → ((nI U >>> (nI M &&& 31)) &&& 1 = 0 ↔ U.testBit M = false) := by decide +kernel
theorem zbit_s : ∀ U, U < 16 → ∀ M, M < 4 → nI U ||| ((1 : Int32) <<< (nI M &&& 31)) = nI (U ||| 2 ^ M) := by decide +kernel
theorem zbit_l : ∀ U, U < 16 → ∀ M, M < 4 → U ||| 2 ^ M < 16 := by decide +kernel
abbrev zc2 (c : Int32) : Int32 := c >>> ((2 : Int32) &&& 31)
theorem zlo_sp {n : Nat} (hn : n ≤ 4) : ∀ (cs : List Int32) (l U : Nat) (o : Int32), U < 16 → zlo n cs (nI l) (nI U) o = 0 ∨ ∃ (k : Nat) (ms : List Nat), k ≤ cs.length ∧ zlo n cs (nI l) (nI U) o = nI (l + k) ∧ (o ≠ 0 → k = 0) ∧ ms.Nodup ∧ (∀ m ∈ ms, m < n ∧ U.testBit m = false) ∧ (cs.take k).map zc2 = ms.map nI ∧ (∀ c ∈ cs.take k, c ≠ -1) ∧ ∀ c ∈ cs.drop k, c = -1
  | [], l, U, o, _ => Or.inr ⟨0, [], Nat.zero_le _, rfl, fun _ => rfl, List.nodup_nil, fun m hm => absurd hm List.not_mem_nil, rfl, fun c hc => absurd hc List.not_mem_nil, fun c hc => absurd hc List.not_mem_nil⟩
  | c :: cs, l, U, o, hU => by
    rw [zlo]
    by_cases h1 : c = -1
    · rw [if_pos h1]
      rcases zlo_sp hn cs l U 1 hU with h | ⟨k, ms, a1, a2, a3, a4, a5, a6, a7, a8⟩
      · exact Or.inl h
      · have hk := a3 (by decide)
        subst hk
        refine Or.inr ⟨0, [], Nat.zero_le _, a2, fun _ => rfl, List.nodup_nil, fun m hm => absurd hm List.not_mem_nil, rfl, fun c hc => absurd hc List.not_mem_nil, fun d hd => ?_⟩
        rcases List.mem_cons.mp hd with e | e
        · rw [e, h1]
        · exact a8 d e
    · rw [if_neg h1]
      by_cases h2 : ¬ o = 0 ∨ c >>> (2 &&& 31) < 0 ∨ nI n ≤ c >>> (2 &&& 31) ∨ ¬ (nI U >>> ((c >>> (2 &&& 31)) &&& 31)) &&& 1 = 0
      · rw [if_pos h2]
        exact Or.inl rfl
      · rw [if_neg h2]
        have g1 : o = 0 := Classical.byContradiction (fun q => h2 (Or.inl q))
        have g2 : ¬ c >>> (2 &&& 31) < 0 := fun q => h2 (Or.inr (Or.inl q))
        have g3 : ¬ nI n ≤ c >>> (2 &&& 31) := fun q => h2 (Or.inr (Or.inr (Or.inl q)))
        have g4 : (nI U >>> ((c >>> (2 &&& 31)) &&& 31)) &&& 1 = 0 := Classical.byContradiction (fun q => h2 (Or.inr (Or.inr (Or.inr q))))
        obtain ⟨M, hM, eM⟩ : ∃ M, M < n ∧ zc2 c = nI M := by
          rcases pk_ix (zc2 c) (n := n) (by omega) with q | q | q
          · exact absurd q g2
          · exact absurd q g3
          · exact q
        have eM' : c >>> (2 &&& 31) = nI M := eM
        rw [eM'] at g4 ⊢
        have hb := (zbit_t U hU M (by omega)).mp g4
        rw [zbit_s U hU M (by omega), nI_1]
        rcases zlo_sp hn cs (l + 1) (U ||| 2 ^ M) o (zbit_l U hU M (by omega)) with h | ⟨k, ms, a1, a2, a3, a4, a5, a6, a7, a8⟩
        · exact Or.inl h
        · refine Or.inr ⟨k + 1, M :: ms, Nat.succ_le_succ a1, by rw [a2]; congr 1; omega, fun q => absurd g1 q, List.nodup_cons.mpr ⟨fun q => ?_, a4⟩, fun m hm => ?_, ?_, fun d hd => ?_, fun d hd => a8 d hd⟩
          · have := (a5 M q).2
            rw [fb_bit_set] at this
            simp at this
          · rcases List.mem_cons.mp hm with e | e
            · subst e
              exact ⟨hM, hb⟩
            · have := a5 m e
              rw [fb_bit_set] at this
              exact ⟨this.1, (Bool.or_eq_false_iff.mp this.2).1⟩
          · rw [List.take_succ_cons, List.map_cons, List.map_cons, eM, a6]
          · rw [List.take_succ_cons] at hd
            rcases List.mem_cons.mp hd with e | e
            · rw [e]
              exact h1
            · exact a7 d e
theorem zOr.clear {S : zM} {a : Nat} {O : List zOe} (h : zOr S a O) : zOr (zwI S a 4 0) a [] := by
  obtain ⟨hk, hp, i1, i2, e1⟩ := h
  exact ⟨hk, hp, zgI_self, Nat.zero_le _, fun i c hc => absurd hc (by simp)⟩
theorem ztO_1 {K : List Bool} {cs : List Int32} {i : Nat} {c : Int32} (h : cs[i]? = some c) : ztO K (cs.take (i + 1)) = ztO K (cs.take i) ++ [(zn (zc2 c), K.getD (zn (zc2 c)) false, decide (¬ c &&& 2 = 0), decide (¬ c &&& 1 = 0))] := by
  rw [List.take_add_one, h, ztO, List.map_append]
  rfl
set_option maxRecDepth 20000 in
set_option maxHeartbeats 4000000 in
theorem l_turn {E : zE} {S : zM} {s : zST} {n b : Nat} {t : zTB} {x1 x2 x3 x4 : Int32} (h : zCI S s) (hw : zWF n s) (ht : sT s = some t) (hkb : zkd S b = (14, 4)) (hb : ∀ a, zgP S 1 5 = a → a + 21 < b) (hce : ∀ i x, [x1, x2, x3, x4][i]? = some x → zgI S b i = x) : zJ E 3 0 0 mX11_turn cX11_turn 35 [some (zR 1), some (zI x1), some (zI x2), some (zI x3), some (zI x4), some (zR b), none, none, none] [] S (fun r T => r = some (zI (q_turn s x1 x2 x3 x4).1) ∧ zCI T (q_turn s x1 x2 x3 x4).2 ∧ zQF S T) := by
  obtain ⟨h0, hF, hG4, hi, hV, hP, hR, hT⟩ := _root_.id h
  have k1 := h0.1
  rw [ht] at hT
  obtain ⟨a, p5, a161, ag, hTt, hVI⟩ := hT
  obtain ⟨ka, q2, q3, q4, q5, q6, q1, i7, i8⟩ := hTt.d
  have k6 : zkd S 6 = (11, 0) := by obtain ⟨q, t0, g, h1, h2⟩ := hV.1; exact h1.1.1
  obtain ⟨so, si, sc, ol, hTA, hHi⟩ := hTt
  have hOr := hTA.2.2.1
  have hSv := hTA.2.2.2.1
  have hRo := hTA.2.2.2.2.1
  have hAc := hTA.2.2.2.2.2.1
  have kor := hOr.1.1
  have ksv := hSv.1.1
  have kro := hRo.1
  have kac := hAc.1.1
  have iv := hAc.2.2.1
  have hn : n ≤ 600 := Nat.le_of_lt hw.1
  have hwT := hw.2.2.2
  rw [ht] at hwT
  obtain ⟨hWt, hWp, hWr⟩ := hwT
  have ht600 := hWt.2.2.2.2.2.1.2
  have hK4 := hWt.1.2.2
  have kk := hTA.1.1.2.1
  have hb := hb a p5
  refine j_aload (pc := 35) dX11_turn_35 rfl ?_
  refine j_aload_n (pc := 37) dX11_turn_37 rfl ?_
  refine j_getPv (pc := 38) dX11_turn_38 f_X11_44 (Or.inl ⟨_, rfl⟩) (by assumption) (p5) ?_
  refine j_getIv (pc := 41) dX11_turn_41 f_X11_106 (Or.inl rfl) (by assumption) (i7) ?_
  refine j_callS (pc := 44) (c_lengthOf hkb rfl hce) dX11_turn_44 l_X11_280 mk_X3_lengthOf ms_X3_lengthOf (by decide) rfl rfl (Nat.le_of_ble_eq_true rfl) (Nat.le_refl _) (Nat.le_refl _) (fun r T h_1 => ?_)
  obtain ⟨rfl, rfl⟩ := h_1
  refine j_istore (pc := 47) (ls' := [_, _, _, _, _, _, _, _, _]) dX11_turn_47 (by decide) rfl rfl ?_
  refine j_iload (pc := 49) dX11_turn_49 rfl ?_
  refine j_if_ne (pc := 51) (tgt := 60) dX11_turn_51 (by decide) (fun h51 => ?_) (fun h51 => ?_)
  · obtain ⟨k, ms, z1, ek, -, z4, z5, z6, z7, z8⟩ := (zlo_sp hK4 [x1, x2, x3, x4] 0 0 0 (by decide)).resolve_left h51
    rw [Nat.zero_add] at ek
    have ek : zlo (tK t).length [x1, x2, x3, x4] 0 0 0 = nI k := ek
    have hk4 : k ≤ 4 := z1
    have hk0 : k ≠ 0 := fun q => h51 (by rw [ek, q]; rfl)
    rw [ek]
    refine j_aload_n (pc := 60) dX11_turn_60 rfl ?_
    refine j_getPv (pc := 61) dX11_turn_61 f_X11_44 (Or.inl ⟨_, rfl⟩) (by assumption) (p5) ?_
    refine j_getPv (pc := 64) dX11_turn_64 f_X11_109 (Or.inl ⟨_, rfl⟩) (by assumption) (q2) ?_
    refine j_iconst (pc := 67) (v := 0) dX11_turn_67 (by decide) ?_
    refine j_putI (pc := 68) dX11_turn_68 f_X11_113 rfl (by assumption) rfl ?_
    refine j_iconst (pc := 71) (v := 0) dX11_turn_71 (by decide) ?_
    refine j_istore (pc := 72) (ls' := [_, _, _, _, _, _, _, _, _]) dX11_turn_72 (by decide) rfl rfl ?_
    have lp : ∀ (m i : Nat) (y : Option zV) (T : zM), i + m = k → zF (fun c => a + 3 ≤ c ∧ c < a + 8) S T → zOr T (a + 3) (ztO (tK t) ([x1, x2, x3, x4].take i)) → zJ E 3 0 0 mX11_turn cX11_turn 74 [some (zR 1), some (zI x1), some (zI x2), some (zI x3), some (zI x4), some (zR b), some (zI (nI k)), some (zI (nI i)), y] [] T (fun r T => r = some (zI (q_turn s x1 x2 x3 x4).1) ∧ zCI T (q_turn s x1 x2 x3 x4).2 ∧ zQF S T) := by
      intro m
      induction m with
      | zero =>
        intro i y T hi hF0 hOT
        have ei : i = k := by omega
        subst ei
        refine j_iload (pc := 74) dX11_turn_74 rfl ?_
        refine j_iload (pc := 76) dX11_turn_76 rfl ?_
        refine j_icmp_ge (pc := 78) (tgt := 154) dX11_turn_78 (by decide) (fun h78 => ?_) (fun h78 => absurd (nI_le (Nat.le_refl _) (by omega)) h78)
        have ft : zF (fun c => a + 3 ≤ c ∧ c < a + 13) S T := hF0.mo (fun c z => by omega)
        have hTA0 := hTA.sv ft hOT (hSv.ag (fun k hk => hF0.ag (by omega)))
        have h00 : zC0 T := h0.ag (ft.ag (by omega)) (ft.ag (by omega)) (Nat.le_of_eq ft.2.1.symm)
        have hR0 : ∀ r, r < 4 → zCr T (103 + 5 * r) (sR s r) := fun r hr => (hR r hr).ag (fun k hk => ft.ag (by omega))
        have p50 : zgP T 1 5 = a := by rw [ft.2.2.1]; exact p5
        have k10 := h00.1
        refine j_aload_n (pc := 154) dX11_turn_154 rfl ?_
        refine j_callV (pc := 155) (t := 11) (c_turned h00 hR0 p50 a161 hTA0 (by omega)) dX11_turn_155 l_X11_287 mk_X11_turned mv_X11_turned (by decide) rfl (by assumption) (by decide) rfl rfl (Nat.le_of_ble_eq_true rfl) (Nat.le_refl _) (Nat.le_refl _) (fun r Tz h_1 => ?_)
        obtain ⟨rfl, hTA1, hR1, f1⟩ := h_1
        have fz : zF (fun c => (a ≤ c ∧ c ≤ a + 21) ∨ zXR c) S Tz := (ft.mo (fun c z => Or.inl (by omega))).tr (f1.mo (fun c z => z.elim (fun e => Or.inl (by omega)) Or.inr))
        have hTt' : zTt Tz a (tK t, ztO (tK t) ([x1, x2, x3, x4].take i), tV t, tH t, tG t, tv t, tn t + 1, tc t) := ⟨so, si, sc, ol, hTA1, hHi⟩
        have h2 := h.tab (R' := fun _ => none) ht p5 fz hTt' (fun g => g.turned (fun c z1 z2 => fz.ag (by unfold zXR; omega)) rfl rfl) hR1
        have k12 := h2.1.1
        have p52 : zgP Tz 1 5 = a := by rw [fz.2.2.1]; exact p5
        have ka2 := hTA1.1.1.1
        have ksv2 := hTA1.2.2.2.1.1.1
        have q32 := hTA1.2.1.2.1
        refine j_aload_n (pc := 158) dX11_turn_158 rfl ?_
        refine j_iload (pc := 159) dX11_turn_159 rfl ?_
        refine j_callV (pc := 161) (t := 11) (c_answered k12 _) dX11_turn_161 l_X11_103 mk_X11_answered mv_X11_answered (by decide) rfl (by assumption) (by decide) rfl rfl (Nat.le_of_ble_eq_true rfl) (Nat.le_refl _) (Nat.le_refl _) (fun r T h_1 => ?_)
        obtain ⟨rfl, rfl⟩ := h_1
        refine j_iret (pc := 164) dX11_turn_164 rfl ?_
        have ez : q_turn s x1 x2 x3 x4 = (nI i, zturn s t (ztO (tK t) ([x1, x2, x3, x4].take i)) (tV t)) := by
          simp only [q_turn, ht]
          rw [ek, if_neg (fun (q : nI i = 0) => hk0 ((nI_eq (b := 0) (by omega) (by decide)).mp q))]
          simp only [zn, nI_clamp (show i < 2 ^ 31 by omega)]
        rw [ez]
        exact ⟨rfl, h2.no 0, (fz.tabq a161).tr zQF.w1⟩
      | succ m ih =>
        intro i y T hi hF0 hOT
        obtain ⟨x, hx⟩ : ∃ x, [x1, x2, x3, x4][i]? = some x := ⟨_, List.getElem?_eq_getElem (by show i < 4; omega)⟩
        have hxT : zgI T b i = x := (hF0.2.2.2.1 b (by omega) i).trans (hce i x hx)
        have kbT : zkd T b = (14, 4) := by rw [hF0.1]; exact hkb
        have k1T : zkd T 1 = (12, 0) := by rw [hF0.1]; exact k1
        have kaT : zkd T a = (10, 0) := by rw [hF0.1]; exact ka
        have kkT : zkd T (a + 2) = (14, 4) := by rw [hF0.1]; exact kk
        have korT : zkd T (a + 3) = (4, 0) := hOT.1.1
        have p5T : zgP T 1 5 = a := by rw [hF0.2.2.1]; exact p5
        have q2T : zgP T a 2 = a + 3 := by rw [hF0.2.2.1]; exact q2
        have q1T : zgP T a 1 = a + 2 := by rw [hF0.2.2.1]; exact q1
        obtain ⟨m, hm, em⟩ : ∃ m, m < (tK t).length ∧ x >>> (2 &&& 31) = nI m := by
          have hxm : zc2 x ∈ ([x1, x2, x3, x4].take k).map zc2 := List.mem_map_of_mem (List.mem_of_getElem? (i := i) (by rw [List.getElem?_take_of_lt (by omega)]; exact hx))
          rw [z6] at hxm
          obtain ⟨m, hm, e⟩ := List.mem_map.mp hxm
          exact ⟨m, (z5 m hm).1, e.symm⟩
        have em2 : zc2 x = nI m := em
        have hkm := (hF0.2.2.2.1 (a + 2) (by omega) m).trans (hTA.1.2.2.2 m _ (gD false hm))
        refine j_iload (pc := 74) dX11_turn_74 rfl ?_
        refine j_iload (pc := 76) dX11_turn_76 rfl ?_
        refine j_icmp_ge (pc := 78) (tgt := 154) dX11_turn_78 (by decide) (fun h78 => absurd h78 (nI_ge (by omega) (by omega))) (fun h78 => ?_)
        refine j_iload (pc := 81) dX11_turn_81 rfl ?_
        refine j_iconst (pc := 83) (v := 4) dX11_turn_83 (by decide) ?_
        refine j_icmp_ge (pc := 84) (tgt := 154) dX11_turn_84 (by decide) (fun h84 => absurd h84 (nI_ge (b := 4) (by omega) (by decide))) (fun h84 => ?_)
        refine j_aload (pc := 87) dX11_turn_87 rfl ?_
        refine j_iload (pc := 89) dX11_turn_89 rfl ?_
        refine j_ialdn (pc := 91) dX11_turn_91 kbT (by omega) (by decide) hxT ?_
        refine j_iconst (pc := 92) (v := 2) dX11_turn_92 (by decide) ?_
        refine j_ishr (pc := 93) dX11_turn_93 ?_
        rw [em]
        refine j_istore (pc := 94) (ls' := [_, _, _, _, _, _, _, _, _]) dX11_turn_94 (by decide) rfl rfl ?_
        refine j_aload_n (pc := 96) dX11_turn_96 rfl ?_
        refine j_getPv (pc := 97) dX11_turn_97 f_X11_44 (Or.inl ⟨_, rfl⟩) (by assumption) (p5T) ?_
        refine j_getPv (pc := 100) dX11_turn_100 f_X11_109 (Or.inl ⟨_, rfl⟩) (by assumption) (q2T) ?_
        refine j_iload (pc := 103) dX11_turn_103 rfl ?_
        refine j_aload_n (pc := 105) dX11_turn_105 rfl ?_
        refine j_getPv (pc := 106) dX11_turn_106 f_X11_44 (Or.inl ⟨_, rfl⟩) (by assumption) (p5T) ?_
        refine j_getPv (pc := 109) dX11_turn_109 f_X11_138 (Or.inr ⟨_, rfl⟩) (by assumption) (q1T) ?_
        refine j_iload (pc := 112) dX11_turn_112 rfl ?_
        refine j_ialdn (pc := 114) dX11_turn_114 kkT (by omega) (by decide) hkm ?_
        refine j_aload (pc := 115) dX11_turn_115 rfl ?_
        refine j_iload (pc := 117) dX11_turn_117 rfl ?_
        refine j_ialdn (pc := 119) dX11_turn_119 kbT (by omega) (by decide) hxT ?_
        refine j_iconst (pc := 120) (v := 2) dX11_turn_120 (by decide) ?_
        refine j_iand (pc := 121) dX11_turn_121 ?_
        refine j_if_eq (pc := 122) (tgt := 129) dX11_turn_122 (by decide) (fun h122 => ?_) (fun h122 => ?_)
        · refine j_iconst (pc := 129) (v := 0) dX11_turn_129 (by decide) ?_
          refine j_aload (pc := 130) dX11_turn_130 rfl ?_
          refine j_iload (pc := 132) dX11_turn_132 rfl ?_
          refine j_ialdn (pc := 134) dX11_turn_134 kbT (by omega) (by decide) hxT ?_
          refine j_iconst (pc := 135) (v := 1) dX11_turn_135 (by decide) ?_
          refine j_iand (pc := 136) dX11_turn_136 ?_
          refine j_if_eq (pc := 137) (tgt := 144) dX11_turn_137 (by decide) (fun h137 => ?_) (fun h137 => ?_)
          · refine j_iconst (pc := 144) (v := 0) dX11_turn_144 (by decide) ?_
            refine j_callV (pc := 145) (t := 3) (c_oadd (e := (m, (tK t).getD m false, false, false)) hOT (by omega) (by show (ztO (tK t) ([x1, x2, x3, x4].take i)).length < 4; rw [ztO, List.length_map, List.length_take]; omega)) dX11_turn_145 l_X11_284 mk_X3_add mv_X3_add (by decide) rfl (by assumption) (by decide) rfl rfl (Nat.le_of_ble_eq_true rfl) (Nat.le_refl _) (Nat.le_refl _) (fun r T2 h_1 => ?_)
            obtain ⟨rfl, hO2, f2⟩ := h_1
            refine j_iinc (pc := 148) (v := _ + 1) (ls' := [_, _, _, _, _, _, _, _, _]) dX11_turn_148 rfl rfl (by decide) rfl rfl ?_
            refine j_goto (pc := 151) (tgt := 74) dX11_turn_151 (by decide) ?_
            rw [nI_1]
            refine ih (i + 1) _ T2 (by omega) (hF0.tr (f2.mo (fun c z => by unfold zX5 at z; omega))) ?_
            rw [ztO_1 hx, em2, zn, nI_clamp (by omega), decide_eq_false (fun (q : ¬ x &&& 2 = 0) => q h122), decide_eq_false (fun (q : ¬ x &&& 1 = 0) => q h137)]
            exact hO2
          · refine j_iconst (pc := 140) (v := 1) dX11_turn_140 (by decide) ?_
            refine j_goto (pc := 141) (tgt := 145) dX11_turn_141 (by decide) ?_
            refine j_callV (pc := 145) (t := 3) (c_oadd (e := (m, (tK t).getD m false, false, true)) hOT (by omega) (by show (ztO (tK t) ([x1, x2, x3, x4].take i)).length < 4; rw [ztO, List.length_map, List.length_take]; omega)) dX11_turn_145 l_X11_284 mk_X3_add mv_X3_add (by decide) rfl (by assumption) (by decide) rfl rfl (Nat.le_of_ble_eq_true rfl) (Nat.le_refl _) (Nat.le_refl _) (fun r T2 h_1 => ?_)
            obtain ⟨rfl, hO2, f2⟩ := h_1
            refine j_iinc (pc := 148) (v := _ + 1) (ls' := [_, _, _, _, _, _, _, _, _]) dX11_turn_148 rfl rfl (by decide) rfl rfl ?_
            refine j_goto (pc := 151) (tgt := 74) dX11_turn_151 (by decide) ?_
            rw [nI_1]
            refine ih (i + 1) _ T2 (by omega) (hF0.tr (f2.mo (fun c z => by unfold zX5 at z; omega))) ?_
            rw [ztO_1 hx, em2, zn, nI_clamp (by omega), decide_eq_false (fun (q : ¬ x &&& 2 = 0) => q h122), decide_eq_true (p := ¬ x &&& 1 = 0) h137]
            exact hO2
        · refine j_iconst (pc := 125) (v := 1) dX11_turn_125 (by decide) ?_
          refine j_goto (pc := 126) (tgt := 130) dX11_turn_126 (by decide) ?_
          refine j_aload (pc := 130) dX11_turn_130 rfl ?_
          refine j_iload (pc := 132) dX11_turn_132 rfl ?_
          refine j_ialdn (pc := 134) dX11_turn_134 kbT (by omega) (by decide) hxT ?_
          refine j_iconst (pc := 135) (v := 1) dX11_turn_135 (by decide) ?_
          refine j_iand (pc := 136) dX11_turn_136 ?_
          refine j_if_eq (pc := 137) (tgt := 144) dX11_turn_137 (by decide) (fun h137 => ?_) (fun h137 => ?_)
          · refine j_iconst (pc := 144) (v := 0) dX11_turn_144 (by decide) ?_
            refine j_callV (pc := 145) (t := 3) (c_oadd (e := (m, (tK t).getD m false, true, false)) hOT (by omega) (by show (ztO (tK t) ([x1, x2, x3, x4].take i)).length < 4; rw [ztO, List.length_map, List.length_take]; omega)) dX11_turn_145 l_X11_284 mk_X3_add mv_X3_add (by decide) rfl (by assumption) (by decide) rfl rfl (Nat.le_of_ble_eq_true rfl) (Nat.le_refl _) (Nat.le_refl _) (fun r T2 h_1 => ?_)
            obtain ⟨rfl, hO2, f2⟩ := h_1
            refine j_iinc (pc := 148) (v := _ + 1) (ls' := [_, _, _, _, _, _, _, _, _]) dX11_turn_148 rfl rfl (by decide) rfl rfl ?_
            refine j_goto (pc := 151) (tgt := 74) dX11_turn_151 (by decide) ?_
            rw [nI_1]
            refine ih (i + 1) _ T2 (by omega) (hF0.tr (f2.mo (fun c z => by unfold zX5 at z; omega))) ?_
            rw [ztO_1 hx, em2, zn, nI_clamp (by omega), decide_eq_true (p := ¬ x &&& 2 = 0) h122, decide_eq_false (fun (q : ¬ x &&& 1 = 0) => q h137)]
            exact hO2
          · refine j_iconst (pc := 140) (v := 1) dX11_turn_140 (by decide) ?_
            refine j_goto (pc := 141) (tgt := 145) dX11_turn_141 (by decide) ?_
            refine j_callV (pc := 145) (t := 3) (c_oadd (e := (m, (tK t).getD m false, true, true)) hOT (by omega) (by show (ztO (tK t) ([x1, x2, x3, x4].take i)).length < 4; rw [ztO, List.length_map, List.length_take]; omega)) dX11_turn_145 l_X11_284 mk_X3_add mv_X3_add (by decide) rfl (by assumption) (by decide) rfl rfl (Nat.le_of_ble_eq_true rfl) (Nat.le_refl _) (Nat.le_refl _) (fun r T2 h_1 => ?_)
            obtain ⟨rfl, hO2, f2⟩ := h_1
            refine j_iinc (pc := 148) (v := _ + 1) (ls' := [_, _, _, _, _, _, _, _, _]) dX11_turn_148 rfl rfl (by decide) rfl rfl ?_
            refine j_goto (pc := 151) (tgt := 74) dX11_turn_151 (by decide) ?_
            rw [nI_1]
            refine ih (i + 1) _ T2 (by omega) (hF0.tr (f2.mo (fun c z => by unfold zX5 at z; omega))) ?_
            rw [ztO_1 hx, em2, zn, nI_clamp (by omega), decide_eq_true (p := ¬ x &&& 2 = 0) h122, decide_eq_true (p := ¬ x &&& 1 = 0) h137]
            exact hO2
    exact lp k 0 none _ (by omega) (zF.wI (by omega)) hOr.clear
  · refine j_aload_n (pc := 54) dX11_turn_54 rfl ?_
    refine j_iconst (pc := 55) (v := 2) dX11_turn_55 (by decide) ?_
    refine j_callV (pc := 56) (t := 11) (c_refused k1 _) dX11_turn_56 l_X11_68 mk_X11_refused mv_X11_refused (by decide) rfl (by assumption) (by decide) rfl rfl (Nat.le_of_ble_eq_true rfl) (Nat.le_refl _) (Nat.le_refl _) (fun r T h_1 => ?_)
    obtain ⟨rfl, rfl⟩ := h_1
    refine j_iret (pc := 59) dX11_turn_59 rfl ?_
    exact q_ref h zQF.rf (by simp only [q_turn, ht]; rw [if_pos h51])
set_option maxRecDepth 20000 in
set_option maxHeartbeats 4000000 in
theorem p_turn {E : zE} {S : zM} {s : zST} {n : Nat} (h : zCI S s) (hw : zWF n s) (x1 x2 x3 x4 : Int32) : zSp E 3 1 4 mX11_turn cX11_turn [zR 1, zI x1, zI x2, zI x3, zI x4] S (fun r T => r = some (zI (q_turn s x1 x2 x3 x4).1) ∧ zCI T (q_turn s x1 x2 x3 x4).2 ∧ zQF S T) := by
  refine zSp.of (by decide) rfl (Nat.le_of_ble_eq_true rfl) rfl ?_
  obtain ⟨h0, hF, hG4, hi, hV, hP, hR, hT⟩ := _root_.id h
  have k1 := h0.1
  cases ht : sT s with
  | none =>
    rw [ht] at hT
    have p5 : zgP S 1 5 = 0 := hT
    refine j_aload_n (pc := 0) dX11_turn_0 rfl ?_
    refine j_getPv (pc := 1) dX11_turn_1 f_X11_44 (Or.inl ⟨_, rfl⟩) (by assumption) (p5) ?_
    refine j_ifnonnull (pc := 4) (tgt := 13) dX11_turn_4 (by decide) (fun h4 => absurd rfl h4) (fun h4 => ?_)
    refine j_aload_n (pc := 7) dX11_turn_7 rfl ?_
    refine j_iconst (pc := 8) (v := 1) dX11_turn_8 (by decide) ?_
    refine j_callV (pc := 9) (t := 11) (c_refused k1 _) dX11_turn_9 l_X11_68 mk_X11_refused mv_X11_refused (by decide) rfl (by assumption) (by decide) rfl rfl (Nat.le_of_ble_eq_true rfl) (Nat.le_refl _) (Nat.le_refl _) (fun r T h_1 => ?_)
    obtain ⟨rfl, rfl⟩ := h_1
    refine j_iret (pc := 12) dX11_turn_12 rfl ?_
    exact q_ref h zQF.rf (by rw [q_turn, ht])
  | some t =>
    rw [ht] at hT
    obtain ⟨a, p5, a161, ag, hTt, hVI⟩ := hT
    obtain ⟨ka, q2, q3, q4, q5, q6, q1, i7, i8⟩ := hTt.d
    have k6 : zkd S 6 = (11, 0) := by obtain ⟨q, t0, g, h1, h2⟩ := hV.1; exact h1.1.1
    obtain ⟨so, si, sc, ol, hTA, hHi⟩ := hTt
    have hOr := hTA.2.2.1
    have hSv := hTA.2.2.2.1
    have hRo := hTA.2.2.2.2.1
    have hAc := hTA.2.2.2.2.2.1
    have kor := hOr.1.1
    have ksv := hSv.1.1
    have kro := hRo.1
    have kac := hAc.1.1
    have iv := hAc.2.2.1
    have hn : n ≤ 600 := Nat.le_of_lt hw.1
    have hwT := hw.2.2.2
    rw [ht] at hwT
    obtain ⟨hWt, hWp, hWr⟩ := hwT
    refine j_aload_n (pc := 0) dX11_turn_0 rfl ?_
    refine j_getPv (pc := 1) dX11_turn_1 f_X11_44 (Or.inl ⟨_, rfl⟩) (by assumption) (p5) ?_
    refine j_ifnonnull (pc := 4) (tgt := 13) dX11_turn_4 (by decide) (fun h4 => ?_) (fun h4 => absurd h4 (by omega))
    refine j_iconst (pc := 13) (v := 4) dX11_turn_13 (by decide) ?_
    refine j_newa (pc := 14) (n := 4) (mc2 := 0) (ms2 := 0) dX11_turn_14 (Or.inl ⟨rfl, rfl⟩) ac_int (by decide) (by decide) (by decide) (Nat.le_of_ble_eq_true rfl) (Nat.le_of_ble_eq_true rfl) ?_
    refine j_dup (pc := 16) dX11_turn_16 rfl ?_
    refine j_iconst (pc := 17) (v := 0) dX11_turn_17 (by decide) ?_
    refine j_iload_n (pc := 18) dX11_turn_18 rfl ?_
    refine j_iastn (i := 0) (pc := 19) dX11_turn_19 znw_kd (by decide) (by decide) ?_
    refine j_dup (pc := 20) dX11_turn_20 rfl ?_
    refine j_iconst (pc := 21) (v := 1) dX11_turn_21 (by decide) ?_
    refine j_iload_n (pc := 22) dX11_turn_22 rfl ?_
    refine j_iastn (i := 1) (pc := 23) dX11_turn_23 znw_kd (by decide) (by decide) ?_
    refine j_dup (pc := 24) dX11_turn_24 rfl ?_
    refine j_iconst (pc := 25) (v := 2) dX11_turn_25 (by decide) ?_
    refine j_iload_n (pc := 26) dX11_turn_26 rfl ?_
    refine j_iastn (i := 2) (pc := 27) dX11_turn_27 znw_kd (by decide) (by decide) ?_
    refine j_dup (pc := 28) dX11_turn_28 rfl ?_
    refine j_iconst (pc := 29) (v := 3) dX11_turn_29 (by decide) ?_
    refine j_iload (pc := 30) dX11_turn_30 rfl ?_
    refine j_iastn (i := 3) (pc := 32) dX11_turn_32 znw_kd (by decide) (by decide) ?_
    refine j_astore (pc := 33) (ls' := [_, _, _, _, _, _, _, _, _]) dX11_turn_33 (by decide) rfl rfl ?_
    have hN : zNF (fun _ => False) S (zwI (zwI (zwI (zwI (znw S 14 4) (zgn S + 1) 0 x1) (zgn S + 1) 1 x2) (zgn S + 1) 2 x3) (zgn S + 1) 3 x4) := ⟨Nat.le_succ _, fun c hc _ => ((zNF.nw (X := fun _ => False) (S := S) (t := 14) (n := 4)).2 c hc (fun z => z)).tr (((((zF.wI (X := fun c => c = zgn S + 1) rfl).tr (zF.wI rfl)).tr (zF.wI rfl)).tr (zF.wI rfl)).ag (show c ≠ zgn S + 1 by omega))⟩
    have h1 : zCI (zwI (zwI (zwI (zwI (znw S 14 4) (zgn S + 1) 0 x1) (zgn S + 1) 1 x2) (zgn S + 1) 2 x3) (zgn S + 1) 3 x4) s := h.ag (fun c _ _ hc => hN.2 c hc (fun z => z)) (Nat.le_succ _)
    refine (l_turn (E := E) h1 hw ht (b := zgn S + 1) znw_kd (fun a' e' => ?_) (fun i x hx => ?_)).post (fun r T hq => ⟨hq.1, hq.2.1, (hN.mo (fun c _ z => z.elim)).tr hq.2.2⟩)
    · have e2 : zgP (zwI (zwI (zwI (zwI (znw S 14 4) (zgn S + 1) 0 x1) (zgn S + 1) 1 x2) (zgn S + 1) 2 x3) (zgn S + 1) 3 x4) 1 5 = zgP S 1 5 := (hN.2 1 (by omega) (fun z => z)).2.2.2 5
      omega
    · match i, hx with
      | 0, hx => cases hx; exact (zgI_nk (by decide)).trans ((zgI_nk (by decide)).trans ((zgI_nk (by decide)).trans zgI_self))
      | 1, hx => cases hx; exact (zgI_nk (by decide)).trans ((zgI_nk (by decide)).trans zgI_self)
      | 2, hx => cases hx; exact (zgI_nk (by decide)).trans zgI_self
      | 3, hx => cases hx; exact zgI_self
      | i + 4, hx => cases hx
