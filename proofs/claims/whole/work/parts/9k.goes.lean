theorem mP.b0 {S : zM} {L A B : List Nat} {vs : Nat → Nat → Int64} {a b K : Nat} (h : mP S (some (L, vs, A, B, a, b)) K) (x : Nat) : mP (zwI S 149 0 (nI x)) (some (L, vs, A, B, x, b)) K := ⟨⟨h.1.1, fun q => by cases q⟩, fun q hq => by
  cases hq
  obtain ⟨⟨a1, a2, a3, a4, a5, a6, a7⟩, hv⟩ := h.2 _ rfl
  exact ⟨⟨a1, a2, a3, a4, a5, rfl, a7⟩, hv⟩⟩
theorem mP.b1 {S : zM} {L A B : List Nat} {vs : Nat → Nat → Int64} {a b K : Nat} (h : mP S (some (L, vs, A, B, a, b)) K) (x : Nat) : mP (zwI S 149 1 (nI x)) (some (L, vs, A, B, a, x)) K := ⟨⟨h.1.1, fun q => by cases q⟩, fun q hq => by
  cases hq
  obtain ⟨⟨a1, a2, a3, a4, a5, a6, a7⟩, hv⟩ := h.2 _ rfl
  exact ⟨⟨a1, a2, a3, a4, a5, a6, rfl⟩, hv⟩⟩
def zkq (t : zTB) (u : Nat) (F : List Nat) (k f e z sg : Nat) : zPGE := if f < e then zpage t u f e z sg else (zid (tO t) (tV t) (tH t u) f e, fun i j => (tH t u).2 ((zid (tO t) (tV t) (tH t u) f e).getD i 0) j, F.take k, F.take k, zlf (tO t) (tV t) (tH t u) (zgk F k), (zBB (tO t) (tV t) (tH t u)).length - zlg (tO t) (tV t) (tH t u) (zgk F k))
theorem zkq_keep {t : zTB} {F : List Nat} {k f e z : Nat} (he : e ≤ (zBB (tO t) (tV t) (tH t (zvr t F))).length) : zkeep t F k (zpage t (zvr t F) f e z (zst F)) = zkq t (zvr t F) F k f e z (zst F) := by
  have hl : (zpage t (zvr t F) f e z (zst F)).1.length = e - f := zid_len he
  unfold zkeep zkq
  rw [hl]
  by_cases h : f < e
  · rw [if_neg (by omega), if_pos h]
  · rw [if_pos (by omega), if_neg h]
    rfl
theorem zgk_b {F : List Nat} {k : Nat} (h : ∀ b ∈ F, b < 256) : ∀ b ∈ (zgk F k).take 42, b < 256 := fun b hb => h b (List.mem_of_mem_drop (List.mem_of_mem_take (List.mem_of_mem_take hb)))
theorem zMO.tape0 {S : zM} {s : zST} (h : zMO S s) : zMO (zwI S 123 5 0) ([], s.2) := by
  obtain ⟨h0, hA, hB, h12, hT, hP, hR⟩ := h
  exact ⟨h0, ⟨rfl, fun i hi => absurd hi (Nat.not_lt_zero i)⟩, hB, h12, hT, hP, hR⟩
set_option maxRecDepth 20000 in
set_option maxHeartbeats 4000000 in
theorem j_goes {E : zE} {S : zM} {s : zST} {t : zTB} {n u k sg : Nat} {F : List Nat} (h : zMO S s) (hw : zWF n s) (ht : sT s = some t) (hu1 : u ≤ tv t) (hu2 : tv t ≤ u + 40) (hA : mTp S F) (hF9 : F.length ≤ 900) (hFb : ∀ b ∈ F, b < 256) (hk8 : 8 ≤ k) (hk2 : k ≤ F.length) (hz1 : 1 ≤ (F.getD 2 0)) (hz2 : (F.getD 2 0) ≤ 20) (hsg : sg = 0 ∨ u + 1 = sg) (hsg2 : sg < 65536) (bk : Bool) (x3 : Int32) : zJ E 5 0 0 mX12_goesBy cX12_goesBy 97 [some (zR 123), some (zI (nI k)), some (zI (zbi bk)), some (zI x3), some (zI (nI sg)), some (zI (nI u)), none] [] S (fun r T => r = some (zI (nI (zkq t u F k (zbf (tO t) (tV t) (tH t u) (zgk F k) (F.getD 2 0) (!bk)) (zbe (tO t) (tV t) (tH t u) (zgk F k) (F.getD 2 0) (!bk)) (F.getD 2 0) sg).1.length)) ∧ zMO T (zsP s (zkq t u F k (zbf (tO t) (tV t) (tH t u) (zgk F k) (F.getD 2 0) (!bk)) (zbe (tO t) (tV t) (tH t u) (zgk F k) (F.getD 2 0) (!bk)) (F.getD 2 0) sg)) ∧ zF zMX S T) := by
  have hM := h.1
  have hv := hw.v ht
  have hAk : zTkn (F.take k) := ⟨by rw [List.length_take]; omega, fun b hb => hFb b (List.mem_of_mem_take hb)⟩
  refine j_aload_n (pc := 97) dX12_goesBy_97 rfl ?_
  refine j_iload_n (pc := 98) dX12_goesBy_98 rfl ?_
  refine j_callV (pc := 99) (t := 12) (n_laysAsked hM hA hF9 hk8 hk2) dX12_goesBy_99 l_X12_431 mk_X12_laysAsked mv_X12_laysAsked (by decide) rfl hM.1 (by decide) rfl rfl (Nat.le_of_ble_eq_true rfl) (Nat.le_refl _) (Nat.le_refl _) (fun r T1 h_1 => ?_)
  obtain ⟨rfl, k1, as1, mm1⟩ := h_1
  have z1 := h.scr k1 (fun c k z => zXask.s z)
  refine j_aload_n (pc := 102) dX12_goesBy_102 rfl ?_
  refine j_iload (pc := 103) dX12_goesBy_103 rfl ?_
  refine j_aload_n (pc := 105) dX12_goesBy_105 rfl ?_
  refine j_getPv (pc := 106) dX12_goesBy_106 f_X12_15 (Or.inr ⟨_, rfl⟩) z1.1.1 (mp_tape z1.1) ?_
  refine j_iconst (pc := 109) (v := 2) dX12_goesBy_109 (by decide) ?_
  refine j_ialdn (pc := 110) dX12_goesBy_110 (mk_tape z1.1) (show 2 < 900 by decide) (Nat.le_of_ble_eq_true rfl) ((k1.2.2.2.1 _ _ (by unfold zXask zXm; omega)).trans (hA 2 (by omega))) ?_
  refine j_iload_n (pc := 111) dX12_goesBy_111 rfl ?_
  refine j_callV (pc := 112) (t := 12) (n_finds (z := (F.getD 2 0)) z1 hw ht hu1 hu2 mm1 (by rw [zgk_len hk2]; omega) (zgk_b hFb) hz1 hz2 bk) dX12_goesBy_112 l_X12_417 mk_X12_finds mv_X12_finds (by decide) rfl z1.1.1 (by decide) rfl rfl (Nat.le_of_ble_eq_true rfl) (Nat.le_refl _) (Nat.le_refl _) (fun r T2 h_1 => ?_)
  obtain ⟨rfl, k2, fd2⟩ := h_1
  have z2 := z1.scr k2 (fun c k z => zXf.s z)
  refine j_aload_n (pc := 115) dX12_goesBy_115 rfl ?_
  refine j_iload (pc := 116) dX12_goesBy_116 rfl ?_
  refine j_aload_n (pc := 118) dX12_goesBy_118 rfl ?_
  refine j_getPv (pc := 119) dX12_goesBy_119 f_X12_15 (Or.inr ⟨_, rfl⟩) z2.1.1 (mp_tape z2.1) ?_
  refine j_iconst (pc := 122) (v := 2) dX12_goesBy_122 (by decide) ?_
  refine j_ialdn (pc := 123) dX12_goesBy_123 (mk_tape z2.1) (show 2 < 900 by decide) (Nat.le_of_ble_eq_true rfl) ((k2.2.2.2.1 _ _ (by unfold zXf zXkm zXk zXm; omega)).trans ((k1.2.2.2.1 _ _ (by unfold zXask zXm; omega)).trans (hA 2 (by omega)))) ?_
  refine j_iload (pc := 124) dX12_goesBy_124 rfl ?_
  refine j_if_le (pc := 126) (tgt := 133) dX12_goesBy_126 (by decide) (fun h126 => ?_) (fun h126 => ?_)
  · have e0 : sg = 0 := Nat.le_zero.mp (Nat.le_of_not_lt (fun g => absurd (nI_lt (a := 0) g (by omega)) (Int32.not_lt.mpr h126)))
    refine j_iconst (pc := 133) (v := 0) dX12_goesBy_133 (by decide) ?_
    refine j_callV (pc := 134) (t := 12) (n_pages (A := F.take k) (z := (F.getD 2 0)) z2 hw ht hu1 hu2 fd2 zid_in (zid_20 hz2) (as1.k k2 (by unfold zXf zXkm zXk zXm; omega) (fun i => by unfold zXf zXkm zXk zXm; omega)) hAk hz2 false) dX12_goesBy_134 l_X12_421 mk_X12_pages mv_X12_pages (by decide) rfl z2.1.1 (by decide) rfl rfl (Nat.le_of_ble_eq_true rfl) (Nat.le_refl _) (Nat.le_refl _) (fun r T3 h_1 => ?_)
    obtain ⟨rfl, k3, mp3⟩ := h_1
    rw [zbf_cut hv.2.2.2.1, zbe_cut hv.2.2.2.1] at mp3 ⊢
    rw [show (if false = true then u + 1 else 0) = sg from by rw [if_neg Bool.false_ne_true]; exact e0.symm, zpg_page zbe_le] at mp3
    have hli : (zid (tO t) (tV t) (tH t u) (zbf (tO t) (tV t) (tH t u) (zgk F k) (F.getD 2 0) (!bk)) (zbe (tO t) (tV t) (tH t u) (zgk F k) (F.getD 2 0) (!bk))).length = (zbe (tO t) (tV t) (tH t u) (zgk F k) (F.getD 2 0) (!bk)) - (zbf (tO t) (tV t) (tH t u) (zgk F k) (F.getD 2 0) (!bk)) := zid_len zbe_le
    have n3 := k3.ms z2.1
    refine j_istore (pc := 137) (ls' := [_, _, _, _, _, _, _]) dX12_goesBy_137 (by decide) rfl rfl ?_
    refine j_iload (pc := 139) dX12_goesBy_139 rfl ?_
    refine j_if_ne (pc := 141) (tgt := 175) dX12_goesBy_141 (by decide) (fun h141 => ?_) (fun h141 => ?_)
    · refine j_iload (pc := 175) dX12_goesBy_175 rfl ?_
      refine j_iret (pc := 177) dX12_goesBy_177 rfl ?_
      have hfe : (zbf (tO t) (tV t) (tH t u) (zgk F k) (F.getD 2 0) (!bk)) < (zbe (tO t) (tV t) (tH t u) (zgk F k) (F.getD 2 0) (!bk)) := Nat.lt_of_not_le (fun q => h141 (by rw [hli, show (zbe (tO t) (tV t) (tH t u) (zgk F k) (F.getD 2 0) (!bk)) - (zbf (tO t) (tV t) (tH t u) (zgk F k) (F.getD 2 0) (!bk)) = 0 by omega]; rfl))
      rw [if_pos hfe] at mp3
      have z3 := z2.pg (k3.mo (fun _ _ z => zXq.g z)) (by rw [sk_s ht]; exact mp3)
      have eQ : (zkq t u F k (zbf (tO t) (tV t) (tH t u) (zgk F k) (F.getD 2 0) (!bk)) (zbe (tO t) (tV t) (tH t u) (zgk F k) (F.getD 2 0) (!bk)) (F.getD 2 0) sg) = zpage t u (zbf (tO t) (tV t) (tH t u) (zgk F k) (F.getD 2 0) (!bk)) (zbe (tO t) (tV t) (tH t u) (zgk F k) (F.getD 2 0) (!bk)) (F.getD 2 0) sg := if_pos hfe
      rw [eQ]
      exact ⟨rfl, z3, (k1.af.tr k2.ff).tr k3.qf⟩
    · have hfe : ¬ (zbf (tO t) (tV t) (tH t u) (zgk F k) (F.getD 2 0) (!bk)) < (zbe (tO t) (tV t) (tH t u) (zgk F k) (F.getD 2 0) (!bk)) := fun q => by
        have := (nI_eq (b := 0) (by rw [hli]; have := zid_20 (O := tO t) (V := tV t) (t := tH t u) (F := zgk F k) (bk := bk) hz2; omega) (by decide)).mp h141
        omega
      rw [if_neg hfe] at mp3
      have z3 := z2.pg (k3.mo (fun _ _ z => zXq.g z)) (by rw [sk_s ht]; exact mp3)
      have w3 := hw.sp ht (q := (zid (tO t) (tV t) (tH t u) (zbf (tO t) (tV t) (tH t u) (zgk F k) (F.getD 2 0) (!bk)) (zbe (tO t) (tV t) (tH t u) (zgk F k) (F.getD 2 0) (!bk)), (fun i j => (tH t u).2 ((zid (tO t) (tV t) (tH t u) (zbf (tO t) (tV t) (tH t u) (zgk F k) (F.getD 2 0) (!bk)) (zbe (tO t) (tV t) (tH t u) (zgk F k) (F.getD 2 0) (!bk))).getD i 0) j), F.take k, F.take k, 0, 0)) ⟨zid_20 hz2, ⟨hAk.1, hAk.1⟩, hAk.2, hAk.2⟩
      have hA3 : mTp T3 F := fun i hi => (k3.2.2.2.1 _ _ (by unfold zXq zXkm zXk zXm; omega)).trans ((k2.2.2.2.1 _ _ (by unfold zXf zXkm zXk zXm; omega)).trans ((k1.2.2.2.1 _ _ (by unfold zXask zXm; omega)).trans (hA i hi)))
      refine j_aload_n (pc := 144) dX12_goesBy_144 rfl ?_
      refine j_iload_n (pc := 145) dX12_goesBy_145 rfl ?_
      refine j_callV (pc := 146) (t := 12) (n_laysAsked z3.1 hA3 hF9 hk8 hk2) dX12_goesBy_146 l_X12_431 mk_X12_laysAsked mv_X12_laysAsked (by decide) rfl n3.1 (by decide) rfl rfl (Nat.le_of_ble_eq_true rfl) (Nat.le_refl _) (Nat.le_refl _) (fun r T4 h_1 => ?_)
      obtain ⟨rfl, k4, as4, mm4⟩ := h_1
      have z4 := z3.scr k4 (fun c k z => zXask.s z)
      refine j_aload_n (pc := 149) dX12_goesBy_149 rfl ?_
      refine j_getPv (pc := 150) dX12_goesBy_150 f_X12_93 (Or.inr ⟨_, rfl⟩) z4.1.1 (mp_beyonds z4.1) ?_
      refine j_iconst (pc := 153) (v := 0) dX12_goesBy_153 (by decide) ?_
      refine j_aload_n (pc := 154) dX12_goesBy_154 rfl ?_
      refine j_iload (pc := 155) dX12_goesBy_155 rfl ?_
      refine j_iconst (pc := 157) (v := 0) dX12_goesBy_157 (by decide) ?_
      refine j_callV (pc := 158) (t := 12) (n_countAhead z4 w3 ht hu1 hu2 mm4 (by rw [zgk_len hk2]; omega) (zgk_b hFb) false) dX12_goesBy_158 l_X12_406 mk_X12_countAhead mv_X12_countAhead (by decide) rfl z4.1.1 (by decide) rfl rfl (Nat.le_of_ble_eq_true rfl) (Nat.le_refl _) (Nat.le_refl _) (fun r T5 h_1 => ?_)
      obtain ⟨k5, rfl⟩ := h_1
      have n5 := k5.ms z4.1
      refine j_iastn (pc := 161) dX12_goesBy_161 (mk_beyonds n5) (show 0 < 2 by decide) (Nat.le_of_ble_eq_true rfl) ?_
      have z5 := z4.scr k5 (fun c k z => zXk.s z)
      have mm5 : mM (zwI T5 149 0 (nI (zca (tO t) (tV t) (tH t u) ((zgk F k).take 42) false 64))) ((zgk F k).take 42) := (show mM T5 ((zgk F k).take 42) from mm4.k k5 (by unfold zXk; omega) (fun k => by unfold zXk; omega))
      have mp5 := z5.2.2.2.2.2.1.b0 (zca (tO t) (tV t) (tH t u) ((zgk F k).take 42) false 64)
      have z5b := z5.pg (zK.wI (X := zXg) (a := 149) (k := 0) (v := nI (zca (tO t) (tV t) (tH t u) ((zgk F k).take 42) false 64)) (Or.inr (Or.inl (by decide)))) mp5
      have w5 := hw.sp ht (q := (zid (tO t) (tV t) (tH t u) (zbf (tO t) (tV t) (tH t u) (zgk F k) (F.getD 2 0) (!bk)) (zbe (tO t) (tV t) (tH t u) (zgk F k) (F.getD 2 0) (!bk)), (fun i j => (tH t u).2 ((zid (tO t) (tV t) (tH t u) (zbf (tO t) (tV t) (tH t u) (zgk F k) (F.getD 2 0) (!bk)) (zbe (tO t) (tV t) (tH t u) (zgk F k) (F.getD 2 0) (!bk))).getD i 0) j), F.take k, F.take k, zca (tO t) (tV t) (tH t u) ((zgk F k).take 42) false 64, 0)) ⟨zid_20 hz2, ⟨hAk.1, hAk.1⟩, hAk.2, hAk.2⟩
      refine j_aload_n (pc := 162) dX12_goesBy_162 rfl ?_
      refine j_getPv (pc := 163) dX12_goesBy_163 f_X12_93 (Or.inr ⟨_, rfl⟩) n5.1 (mp_beyonds n5) ?_
      refine j_iconst (pc := 166) (v := 1) dX12_goesBy_166 (by decide) ?_
      refine j_aload_n (pc := 167) dX12_goesBy_167 rfl ?_
      refine j_iload (pc := 168) dX12_goesBy_168 rfl ?_
      refine j_iconst (pc := 170) (v := 1) dX12_goesBy_170 (by decide) ?_
      refine j_callV (pc := 171) (t := 12) (n_countAhead z5b w5 ht hu1 hu2 (F := ((zgk F k).take 42)) mm5 (by rw [zgk_len hk2]; omega) (zgk_b hFb) true) dX12_goesBy_171 l_X12_406 mk_X12_countAhead mv_X12_countAhead (by decide) rfl n5.1 (by decide) rfl rfl (Nat.le_of_ble_eq_true rfl) (Nat.le_refl _) (Nat.le_refl _) (fun r T6 h_1 => ?_)
      obtain ⟨k6, rfl⟩ := h_1
      have n6 := k6.ms (by exact n5)
      refine j_iastn (pc := 174) dX12_goesBy_174 (mk_beyonds n6) (show 1 < 2 by decide) (Nat.le_of_ble_eq_true rfl) ?_
      refine j_iload (pc := 175) dX12_goesBy_175 rfl ?_
      refine j_iret (pc := 177) dX12_goesBy_177 rfl ?_
      have z6 := z5b.scr k6 (fun c k z => zXk.s z)
      have mp6 := z6.2.2.2.2.2.1.b1 (zca (tO t) (tV t) (tH t u) ((zgk F k).take 42) true 64)
      have z6b := z6.pg (zK.wI (X := zXg) (a := 149) (k := 1) (v := nI (zca (tO t) (tV t) (tH t u) ((zgk F k).take 42) true 64)) (Or.inr (Or.inl (by decide)))) mp6
      have eQ : (zkq t u F k (zbf (tO t) (tV t) (tH t u) (zgk F k) (F.getD 2 0) (!bk)) (zbe (tO t) (tV t) (tH t u) (zgk F k) (F.getD 2 0) (!bk)) (F.getD 2 0) sg) = (zid (tO t) (tV t) (tH t u) (zbf (tO t) (tV t) (tH t u) (zgk F k) (F.getD 2 0) (!bk)) (zbe (tO t) (tV t) (tH t u) (zgk F k) (F.getD 2 0) (!bk)), (fun i j => (tH t u).2 ((zid (tO t) (tV t) (tH t u) (zbf (tO t) (tV t) (tH t u) (zgk F k) (F.getD 2 0) (!bk)) (zbe (tO t) (tV t) (tH t u) (zgk F k) (F.getD 2 0) (!bk))).getD i 0) j), F.take k, F.take k, zca (tO t) (tV t) (tH t u) ((zgk F k).take 42) false 64, zca (tO t) (tV t) (tH t u) ((zgk F k).take 42) true 64) := by
        unfold zkq
        rw [if_neg hfe, zca_lo, zca_hi, zlf_cut hv.2.2.2.1, zlg_cut hv.2.2.2.1]
      rw [eQ]
      exact ⟨rfl, z6b, ((((((k1.af.tr k2.ff).tr k3.qf).tr k4.af).tr k5.ks.kf).tr (zF.wI (by decide))).tr k6.ks.kf).tr (zF.wI (by decide))⟩
  · have e1 : 0 < sg := nI_pos2 (Int32.not_le.mp h126)
    refine j_iconst (pc := 129) (v := 1) dX12_goesBy_129 (by decide) ?_
    refine j_goto (pc := 130) (tgt := 134) dX12_goesBy_130 (by decide) ?_
    refine j_callV (pc := 134) (t := 12) (n_pages (A := F.take k) (z := (F.getD 2 0)) z2 hw ht hu1 hu2 fd2 zid_in (zid_20 hz2) (as1.k k2 (by unfold zXf zXkm zXk zXm; omega) (fun i => by unfold zXf zXkm zXk zXm; omega)) hAk hz2 true) dX12_goesBy_134 l_X12_421 mk_X12_pages mv_X12_pages (by decide) rfl z2.1.1 (by decide) rfl rfl (Nat.le_of_ble_eq_true rfl) (Nat.le_refl _) (Nat.le_refl _) (fun r T3 h_1 => ?_)
    obtain ⟨rfl, k3, mp3⟩ := h_1
    rw [zbf_cut hv.2.2.2.1, zbe_cut hv.2.2.2.1] at mp3 ⊢
    rw [show (if true = true then u + 1 else 0) = sg from by rw [if_pos rfl]; exact (hsg.resolve_left (by omega)), zpg_page zbe_le] at mp3
    have hli : (zid (tO t) (tV t) (tH t u) (zbf (tO t) (tV t) (tH t u) (zgk F k) (F.getD 2 0) (!bk)) (zbe (tO t) (tV t) (tH t u) (zgk F k) (F.getD 2 0) (!bk))).length = (zbe (tO t) (tV t) (tH t u) (zgk F k) (F.getD 2 0) (!bk)) - (zbf (tO t) (tV t) (tH t u) (zgk F k) (F.getD 2 0) (!bk)) := zid_len zbe_le
    have n3 := k3.ms z2.1
    refine j_istore (pc := 137) (ls' := [_, _, _, _, _, _, _]) dX12_goesBy_137 (by decide) rfl rfl ?_
    refine j_iload (pc := 139) dX12_goesBy_139 rfl ?_
    refine j_if_ne (pc := 141) (tgt := 175) dX12_goesBy_141 (by decide) (fun h141 => ?_) (fun h141 => ?_)
    · refine j_iload (pc := 175) dX12_goesBy_175 rfl ?_
      refine j_iret (pc := 177) dX12_goesBy_177 rfl ?_
      have hfe : (zbf (tO t) (tV t) (tH t u) (zgk F k) (F.getD 2 0) (!bk)) < (zbe (tO t) (tV t) (tH t u) (zgk F k) (F.getD 2 0) (!bk)) := Nat.lt_of_not_le (fun q => h141 (by rw [hli, show (zbe (tO t) (tV t) (tH t u) (zgk F k) (F.getD 2 0) (!bk)) - (zbf (tO t) (tV t) (tH t u) (zgk F k) (F.getD 2 0) (!bk)) = 0 by omega]; rfl))
      rw [if_pos hfe] at mp3
      have z3 := z2.pg (k3.mo (fun _ _ z => zXq.g z)) (by rw [sk_s ht]; exact mp3)
      have eQ : (zkq t u F k (zbf (tO t) (tV t) (tH t u) (zgk F k) (F.getD 2 0) (!bk)) (zbe (tO t) (tV t) (tH t u) (zgk F k) (F.getD 2 0) (!bk)) (F.getD 2 0) sg) = zpage t u (zbf (tO t) (tV t) (tH t u) (zgk F k) (F.getD 2 0) (!bk)) (zbe (tO t) (tV t) (tH t u) (zgk F k) (F.getD 2 0) (!bk)) (F.getD 2 0) sg := if_pos hfe
      rw [eQ]
      exact ⟨rfl, z3, (k1.af.tr k2.ff).tr k3.qf⟩
    · have hfe : ¬ (zbf (tO t) (tV t) (tH t u) (zgk F k) (F.getD 2 0) (!bk)) < (zbe (tO t) (tV t) (tH t u) (zgk F k) (F.getD 2 0) (!bk)) := fun q => by
        have := (nI_eq (b := 0) (by rw [hli]; have := zid_20 (O := tO t) (V := tV t) (t := tH t u) (F := zgk F k) (bk := bk) hz2; omega) (by decide)).mp h141
        omega
      rw [if_neg hfe] at mp3
      have z3 := z2.pg (k3.mo (fun _ _ z => zXq.g z)) (by rw [sk_s ht]; exact mp3)
      have w3 := hw.sp ht (q := (zid (tO t) (tV t) (tH t u) (zbf (tO t) (tV t) (tH t u) (zgk F k) (F.getD 2 0) (!bk)) (zbe (tO t) (tV t) (tH t u) (zgk F k) (F.getD 2 0) (!bk)), (fun i j => (tH t u).2 ((zid (tO t) (tV t) (tH t u) (zbf (tO t) (tV t) (tH t u) (zgk F k) (F.getD 2 0) (!bk)) (zbe (tO t) (tV t) (tH t u) (zgk F k) (F.getD 2 0) (!bk))).getD i 0) j), F.take k, F.take k, 0, 0)) ⟨zid_20 hz2, ⟨hAk.1, hAk.1⟩, hAk.2, hAk.2⟩
      have hA3 : mTp T3 F := fun i hi => (k3.2.2.2.1 _ _ (by unfold zXq zXkm zXk zXm; omega)).trans ((k2.2.2.2.1 _ _ (by unfold zXf zXkm zXk zXm; omega)).trans ((k1.2.2.2.1 _ _ (by unfold zXask zXm; omega)).trans (hA i hi)))
      refine j_aload_n (pc := 144) dX12_goesBy_144 rfl ?_
      refine j_iload_n (pc := 145) dX12_goesBy_145 rfl ?_
      refine j_callV (pc := 146) (t := 12) (n_laysAsked z3.1 hA3 hF9 hk8 hk2) dX12_goesBy_146 l_X12_431 mk_X12_laysAsked mv_X12_laysAsked (by decide) rfl n3.1 (by decide) rfl rfl (Nat.le_of_ble_eq_true rfl) (Nat.le_refl _) (Nat.le_refl _) (fun r T4 h_1 => ?_)
      obtain ⟨rfl, k4, as4, mm4⟩ := h_1
      have z4 := z3.scr k4 (fun c k z => zXask.s z)
      refine j_aload_n (pc := 149) dX12_goesBy_149 rfl ?_
      refine j_getPv (pc := 150) dX12_goesBy_150 f_X12_93 (Or.inr ⟨_, rfl⟩) z4.1.1 (mp_beyonds z4.1) ?_
      refine j_iconst (pc := 153) (v := 0) dX12_goesBy_153 (by decide) ?_
      refine j_aload_n (pc := 154) dX12_goesBy_154 rfl ?_
      refine j_iload (pc := 155) dX12_goesBy_155 rfl ?_
      refine j_iconst (pc := 157) (v := 0) dX12_goesBy_157 (by decide) ?_
      refine j_callV (pc := 158) (t := 12) (n_countAhead z4 w3 ht hu1 hu2 mm4 (by rw [zgk_len hk2]; omega) (zgk_b hFb) false) dX12_goesBy_158 l_X12_406 mk_X12_countAhead mv_X12_countAhead (by decide) rfl z4.1.1 (by decide) rfl rfl (Nat.le_of_ble_eq_true rfl) (Nat.le_refl _) (Nat.le_refl _) (fun r T5 h_1 => ?_)
      obtain ⟨k5, rfl⟩ := h_1
      have n5 := k5.ms z4.1
      refine j_iastn (pc := 161) dX12_goesBy_161 (mk_beyonds n5) (show 0 < 2 by decide) (Nat.le_of_ble_eq_true rfl) ?_
      have z5 := z4.scr k5 (fun c k z => zXk.s z)
      have mm5 : mM (zwI T5 149 0 (nI (zca (tO t) (tV t) (tH t u) ((zgk F k).take 42) false 64))) ((zgk F k).take 42) := (show mM T5 ((zgk F k).take 42) from mm4.k k5 (by unfold zXk; omega) (fun k => by unfold zXk; omega))
      have mp5 := z5.2.2.2.2.2.1.b0 (zca (tO t) (tV t) (tH t u) ((zgk F k).take 42) false 64)
      have z5b := z5.pg (zK.wI (X := zXg) (a := 149) (k := 0) (v := nI (zca (tO t) (tV t) (tH t u) ((zgk F k).take 42) false 64)) (Or.inr (Or.inl (by decide)))) mp5
      have w5 := hw.sp ht (q := (zid (tO t) (tV t) (tH t u) (zbf (tO t) (tV t) (tH t u) (zgk F k) (F.getD 2 0) (!bk)) (zbe (tO t) (tV t) (tH t u) (zgk F k) (F.getD 2 0) (!bk)), (fun i j => (tH t u).2 ((zid (tO t) (tV t) (tH t u) (zbf (tO t) (tV t) (tH t u) (zgk F k) (F.getD 2 0) (!bk)) (zbe (tO t) (tV t) (tH t u) (zgk F k) (F.getD 2 0) (!bk))).getD i 0) j), F.take k, F.take k, zca (tO t) (tV t) (tH t u) ((zgk F k).take 42) false 64, 0)) ⟨zid_20 hz2, ⟨hAk.1, hAk.1⟩, hAk.2, hAk.2⟩
      refine j_aload_n (pc := 162) dX12_goesBy_162 rfl ?_
      refine j_getPv (pc := 163) dX12_goesBy_163 f_X12_93 (Or.inr ⟨_, rfl⟩) n5.1 (mp_beyonds n5) ?_
      refine j_iconst (pc := 166) (v := 1) dX12_goesBy_166 (by decide) ?_
      refine j_aload_n (pc := 167) dX12_goesBy_167 rfl ?_
      refine j_iload (pc := 168) dX12_goesBy_168 rfl ?_
      refine j_iconst (pc := 170) (v := 1) dX12_goesBy_170 (by decide) ?_
      refine j_callV (pc := 171) (t := 12) (n_countAhead z5b w5 ht hu1 hu2 (F := ((zgk F k).take 42)) mm5 (by rw [zgk_len hk2]; omega) (zgk_b hFb) true) dX12_goesBy_171 l_X12_406 mk_X12_countAhead mv_X12_countAhead (by decide) rfl n5.1 (by decide) rfl rfl (Nat.le_of_ble_eq_true rfl) (Nat.le_refl _) (Nat.le_refl _) (fun r T6 h_1 => ?_)
      obtain ⟨k6, rfl⟩ := h_1
      have n6 := k6.ms (by exact n5)
      refine j_iastn (pc := 174) dX12_goesBy_174 (mk_beyonds n6) (show 1 < 2 by decide) (Nat.le_of_ble_eq_true rfl) ?_
      refine j_iload (pc := 175) dX12_goesBy_175 rfl ?_
      refine j_iret (pc := 177) dX12_goesBy_177 rfl ?_
      have z6 := z5b.scr k6 (fun c k z => zXk.s z)
      have mp6 := z6.2.2.2.2.2.1.b1 (zca (tO t) (tV t) (tH t u) ((zgk F k).take 42) true 64)
      have z6b := z6.pg (zK.wI (X := zXg) (a := 149) (k := 1) (v := nI (zca (tO t) (tV t) (tH t u) ((zgk F k).take 42) true 64)) (Or.inr (Or.inl (by decide)))) mp6
      have eQ : (zkq t u F k (zbf (tO t) (tV t) (tH t u) (zgk F k) (F.getD 2 0) (!bk)) (zbe (tO t) (tV t) (tH t u) (zgk F k) (F.getD 2 0) (!bk)) (F.getD 2 0) sg) = (zid (tO t) (tV t) (tH t u) (zbf (tO t) (tV t) (tH t u) (zgk F k) (F.getD 2 0) (!bk)) (zbe (tO t) (tV t) (tH t u) (zgk F k) (F.getD 2 0) (!bk)), (fun i j => (tH t u).2 ((zid (tO t) (tV t) (tH t u) (zbf (tO t) (tV t) (tH t u) (zgk F k) (F.getD 2 0) (!bk)) (zbe (tO t) (tV t) (tH t u) (zgk F k) (F.getD 2 0) (!bk))).getD i 0) j), F.take k, F.take k, zca (tO t) (tV t) (tH t u) ((zgk F k).take 42) false 64, zca (tO t) (tV t) (tH t u) ((zgk F k).take 42) true 64) := by
        unfold zkq
        rw [if_neg hfe, zca_lo, zca_hi, zlf_cut hv.2.2.2.1, zlg_cut hv.2.2.2.1]
      rw [eQ]
      exact ⟨rfl, z6b, ((((((k1.af.tr k2.ff).tr k3.qf).tr k4.af).tr k5.ks.kf).tr (zF.wI (by decide))).tr k6.ks.kf).tr (zF.wI (by decide))⟩
