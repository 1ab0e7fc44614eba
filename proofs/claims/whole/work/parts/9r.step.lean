/-! a reader goes on, or back -/
def zXj (j c k : Nat) : Prop := zXs c k ∨ (153 ≤ c ∧ c ≤ 155 ∧ k = j) ∨ (c = 156 ∧ 36 * j ≤ k ∧ k < 36 * j + 36) ∨ ((c = 157 ∨ c = 158) ∧ 64 * j ≤ k ∧ k < 64 * j + 64)
theorem mr.of {T : zM} {j : Nat} {b en : Bool} {z v pg : Nat} {g a : Nat → Nat} {K : List Nat} (h1 : zgI T 151 j = nI z) (h2 : zgI T 152 j = if b then nI v else -1) (h3 : zgI T 153 j = zbi en) (h4 : zgI T 154 j = nI pg) (h5 : zgI T 155 j = nI K.length) (h6 : ∀ k, k < K.length → zgI T 156 (36 * j + k) = nI (K.getD k 0)) (h7 : mSw T j g a) : mr T j (some (b, en, z, v, pg, g, a, K)) := ⟨h1, h2, h3, h4, h5, h6, h7⟩
theorem zMO.went {S T : zM} {s : zST} {t : zTB} {n j : Nat} {y y' : zRDR} {L : List Nat} (h : zMO S s) (hw : zWF n s) (ht : sT s = some t) (hj : j < 4) (hy : sR s j = some y) (f : zK (zXj j) S T) (h0 : zgI S 123 1 = 0) (hL : ∀ i ∈ L, i < tG t) (hs : y'.2.2.2.2.2.1 = zsg y.2.2.2.2.2.1 L) (ha : y'.2.2.2.2.2.2.1 = zsa y.2.2.2.2.2.2.1 L (tv t)) (m1 : mr T j (some y')) : zMO T (sF s, (0, s.2.1.2), sT s, sP s, va_up (sR s) j (some y')) := by
  refine h.rd f hj (fun c k z => z.elim Or.inl (fun z => Or.inr (Or.inl (by omega)))) ((f.2.2.2.1 _ _ (by unfold zXj zXs; omega)).trans h0) (fun r hr => ?_) (fun t' ht' => ?_)
  · by_cases e : r = j
    · rw [e, va_up, if_pos rfl]
      exact m1
    · rw [va_up, if_neg e]
      exact (h.2.2.2.2.2.2 r hr).k2 f (fun c h1 h2 => by unfold zXj zXs; omega) (fun k hk => by unfold zXj zXs; omega) (fun i hi => ⟨by unfold zXj zXs; omega, by unfold zXj zXs; omega⟩) (fun x hx => ((hw.t ht).2.2 r x hx).2.2.1.1)
  · rw [ht] at ht'
    cases ht'
    exact ((h.2.2.2.2.1 t ht).2.k f (fun k => by unfold zXj zXs; omega)).saw hj hy hL hs ha
theorem zWF.rd {n : Nat} {s : zST} {t : zTB} {j : Nat} {y' : zRDR} (hw : zWF n s) (ht : sT s = some t) (hy : zWr t y') : zWF n (sF s, (0, s.2.1.2), sT s, sP s, va_up (sR s) j (some y')) := by
  have g := hw.t ht
  refine ⟨hw.1, hw.2.1, ⟨Nat.zero_le _, hw.2.2.1.2⟩, ?_⟩
  show match sT s with | none => _ | some t => _
  rw [ht]
  refine ⟨g.1, g.2.1, fun r x hx => ?_⟩
  by_cases e : r = j
  · rw [show sR (sF s, (0, s.2.1.2), sT s, sP s, va_up (sR s) j (some y')) r = some y' from if_pos e] at hx
    cases hx
    exact hy
  · rw [show sR (sF s, (0, s.2.1.2), sT s, sP s, va_up (sR s) j (some y')) r = sR s r from if_neg e] at hx
    exact g.2.2 r x hx
theorem zsa_le {a : Nat → Nat} {L : List Nat} {v i : Nat} (h : a i ≤ v) : zsa a L v i ≤ v := by
  unfold zsa
  split
  · exact Nat.le_refl _
  · exact h

theorem zstep_eq {t : zTB} {y : zRDR} {u : Nat} {bk : Bool} (h : zrv2 t y = u) : zstep t y (!bk) = ((zbe (tO t) (tV t) (tH t u) y.2.2.2.2.2.2.2 y.2.2.1 (!bk)) - (zbf (tO t) (tV t) (tH t u) y.2.2.2.2.2.2.2 y.2.2.1 (!bk)), (y.1, zRe (zbf (tO t) (tV t) (tH t u) y.2.2.2.2.2.2.2 y.2.2.1 (!bk)) (zbe (tO t) (tV t) (tH t u) y.2.2.2.2.2.2.2 y.2.2.1 (!bk)) (!bk) y.2.1, y.2.2.1, y.2.2.2.1, y.2.2.2.2.1 + 1, zsg y.2.2.2.2.2.1 (zid (tO t) (tV t) (tH t u) (zbf (tO t) (tV t) (tH t u) y.2.2.2.2.2.2.2 y.2.2.1 (!bk)) (zbe (tO t) (tV t) (tH t u) y.2.2.2.2.2.2.2 y.2.2.1 (!bk))), zsa y.2.2.2.2.2.2.1 (zid (tO t) (tV t) (tH t u) (zbf (tO t) (tV t) (tH t u) y.2.2.2.2.2.2.2 y.2.2.1 (!bk)) (zbe (tO t) (tV t) (tH t u) y.2.2.2.2.2.2.2 y.2.2.1 (!bk))) (tv t), (zRk (tO t) (tH t u) (zBB (tO t) (tV t) (tH t u)) (zbf (tO t) (tV t) (tH t u) y.2.2.2.2.2.2.2 y.2.2.1 (!bk)) (zbe (tO t) (tV t) (tH t u) y.2.2.2.2.2.2.2 y.2.2.1 (!bk)) (!bk) y.2.2.2.2.2.2.2))) := by
  subst h
  rfl
theorem zRk_L {t : zTB} {y : zRDR} {u : Nat} {bk : Bool} (h : (zbf (tO t) (tV t) (tH t u) y.2.2.2.2.2.2.2 y.2.2.1 (!bk)) < (zbe (tO t) (tV t) (tH t u) y.2.2.2.2.2.2.2 y.2.2.1 (!bk))) : zkf (tO t) (tH t u) (if bk then (zid (tO t) (tV t) (tH t u) (zbf (tO t) (tV t) (tH t u) y.2.2.2.2.2.2.2 y.2.2.1 (!bk)) (zbe (tO t) (tV t) (tH t u) y.2.2.2.2.2.2.2 y.2.2.1 (!bk))).getD 0 0 else (zid (tO t) (tV t) (tH t u) (zbf (tO t) (tV t) (tH t u) y.2.2.2.2.2.2.2 y.2.2.1 (!bk)) (zbe (tO t) (tV t) (tH t u) y.2.2.2.2.2.2.2 y.2.2.1 (!bk))).getD ((zid (tO t) (tV t) (tH t u) (zbf (tO t) (tV t) (tH t u) y.2.2.2.2.2.2.2 y.2.2.1 (!bk)) (zbe (tO t) (tV t) (tH t u) y.2.2.2.2.2.2.2 y.2.2.1 (!bk))).length - 1) 0) = (zRk (tO t) (tH t u) (zBB (tO t) (tV t) (tH t u)) (zbf (tO t) (tV t) (tH t u) y.2.2.2.2.2.2.2 y.2.2.1 (!bk)) (zbe (tO t) (tV t) (tH t u) y.2.2.2.2.2.2.2 y.2.2.1 (!bk)) (!bk) y.2.2.2.2.2.2.2) := by
  have hl : (zid (tO t) (tV t) (tH t u) (zbf (tO t) (tV t) (tH t u) y.2.2.2.2.2.2.2 y.2.2.1 (!bk)) (zbe (tO t) (tV t) (tH t u) y.2.2.2.2.2.2.2 y.2.2.1 (!bk))).length = (zbe (tO t) (tV t) (tH t u) y.2.2.2.2.2.2.2 y.2.2.1 (!bk)) - (zbf (tO t) (tV t) (tH t u) y.2.2.2.2.2.2.2 y.2.2.1 (!bk)) := zid_len zbe_le
  unfold zRk
  rw [if_pos h]
  congr 1
  cases bk with
  | true =>
    rw [if_pos rfl, zid_at (by omega), if_neg (by decide), List.getD_eq_getElem?_getD]
    rfl
  | false =>
    rw [if_neg (by decide), zid_at (by omega), if_pos (by decide), hl, List.getD_eq_getElem?_getD]
    rw [show ∀ (f e : Nat), f < e → f + (e - f - 1) = e - 1 from fun f e h => by omega]
    exact h
set_option maxRecDepth 20000 in
set_option maxHeartbeats 4000000 in
theorem j_gr {E : zE} {S : zM} {s : zST} {t : zTB} {n j u : Nat} {y : zRDR} (h : zMO S s) (hw : zWF n s) (ht : sT s = some t) (hj : j < 4) (hy : sR s j = some y) (h0 : zgI S 123 1 = 0) (hue : zrv2 t y = u) (hu1 : u ≤ tv t) (hu2 : tv t ≤ u + 40) (bk : Bool) : zJ E 5 0 0 mX12_goesReader cX12_goesReader 56 [some (zR 123), some (zI (nI j)), some (zI (zbi bk)), some (zI (nI u)), none] [] S (fun r T => r = some (zI (nI (zstep t y (!bk)).1)) ∧ zMO T (sF s, (0, s.2.1.2), sT s, sP s, va_up (sR s) j (some (zstep t y (!bk)).2)) ∧ zF zMX S T) := by
  have hM := h.1
  have hm := h.2.2.2.2.2.2 j hj
  rw [hy] at hm
  obtain ⟨r1, r2, r3, r4, r5, r6, r7⟩ := hm
  have hWr := (hw.t ht).2.2 j y hy
  have hLg : ∀ i ∈ (zid (tO t) (tV t) (tH t u) (zbf (tO t) (tV t) (tH t u) y.2.2.2.2.2.2.2 y.2.2.1 (!bk)) (zbe (tO t) (tV t) (tH t u) y.2.2.2.2.2.2.2 y.2.2.1 (!bk))), i < tG t := fun i hi => Nat.lt_of_not_le (fun q => absurd (((hw.t ht).1.2.2.2.2.1.2 u hu1).1 i q) (by rw [(zid_in i hi).2]; decide))
  have hL20 : (zid (tO t) (tV t) (tH t u) (zbf (tO t) (tV t) (tH t u) y.2.2.2.2.2.2.2 y.2.2.1 (!bk)) (zbe (tO t) (tV t) (tH t u) y.2.2.2.2.2.2.2 y.2.2.1 (!bk))).length ≤ 20 := zid_20 hWr.1.2
  refine j_aload_n (pc := 56) dX12_goesReader_56 rfl ?_
  refine j_aload_n (pc := 57) dX12_goesReader_57 rfl ?_
  refine j_getPv (pc := 58) dX12_goesReader_58 f_X12_111 (Or.inr ⟨_, rfl⟩) hM.1 (mp_standLong hM) ?_
  refine j_iload_n (pc := 61) dX12_goesReader_61 rfl ?_
  refine j_ialdn (pc := 62) dX12_goesReader_62 (mk_standLong hM) (by omega) (Nat.le_of_ble_eq_true rfl) (r5) ?_
  refine j_putI (pc := 63) dX12_goesReader_63 f_X12_348 rfl hM.1 rfl ?_
  refine j_iconst (pc := 66) (v := 0) dX12_goesReader_66 (by decide) ?_
  refine j_istore (pc := 67) (ls' := [_, _, _, _, _]) dX12_goesReader_67 (by decide) rfl rfl ?_
  refine (j_stmark (K := y.2.2.2.2.2.2.2) (by exact hM) hj hWr.2.2.1.1 (by exact zgI_self) (by exact r6) (fun T1 k1 m1 => ?_))
  have kB : zK zXs S T1 := (zK.wI (by unfold zXs; omega)).tr (k1.mo (fun c k z => zXm.s z))
  have z1 : zMO T1 s := h.scr kB (fun c k z => z)
  refine j_aload_n (pc := 103) dX12_goesReader_103 rfl ?_
  refine j_iload_n (pc := 104) dX12_goesReader_104 rfl ?_
  refine j_aload_n (pc := 105) dX12_goesReader_105 rfl ?_
  refine j_getPv (pc := 106) dX12_goesReader_106 f_X12_99 (Or.inr ⟨_, rfl⟩) z1.1.1 (mp_readerSize z1.1) ?_
  refine j_iload_n (pc := 109) dX12_goesReader_109 rfl ?_
  refine j_ialdn (pc := 110) dX12_goesReader_110 (mk_readerSize z1.1) (by omega) (Nat.le_of_ble_eq_true rfl) ((kB.2.2.2.1 _ _ (by unfold zXs; omega)).trans r1) ?_
  refine j_iload_n (pc := 111) dX12_goesReader_111 rfl ?_
  refine j_callV (pc := 112) (t := 12) (n_finds z1 hw ht hu1 hu2 m1 (by have := hWr.2.2.1.1; omega) hWr.2.2.1.2 hWr.1.1 hWr.1.2 bk) dX12_goesReader_112 l_X12_417 mk_X12_finds mv_X12_finds (by decide) rfl z1.1.1 (by decide) rfl rfl (Nat.le_of_ble_eq_true rfl) (Nat.le_refl _) (Nat.le_refl _) (fun r T2 h_1 => ?_)
  obtain ⟨rfl, k2, fd2⟩ := h_1
  have kA : zK (zXj j) S T2 := (kB.tr (k2.mo (fun c k z => zXf.s z))).mo (fun c k z => Or.inl z)
  have n2 := kA.ms hM
  have kS := kB.tr (k2.mo (fun c k z => zXf.s z))
  have g4 : zgI T2 154 j = nI y.2.2.2.2.1 := (kS.2.2.2.1 _ _ (by unfold zXs; omega)).trans r4
  have g3 : zgI T2 153 j = zbi y.2.1 := (kS.2.2.2.1 _ _ (by unfold zXs; omega)).trans r3
  have g5 : zgI T2 155 j = nI y.2.2.2.2.2.2.2.length := (kS.2.2.2.1 _ _ (by unfold zXs; omega)).trans r5
  have g6 : ∀ k, k < y.2.2.2.2.2.2.2.length → zgI T2 156 (36 * j + k) = nI (y.2.2.2.2.2.2.2.getD k 0) := fun k hk => (kS.2.2.2.1 _ _ (by unfold zXs; omega)).trans (r6 k hk)
  have g7 : mSw T2 j y.2.2.2.2.2.1 y.2.2.2.2.2.2.1 := fun i hi => ⟨(kS.2.2.2.1 _ _ (by unfold zXs; omega)).trans (r7 i hi).1, fun hp => (kS.2.2.2.1 _ _ (by unfold zXs; omega)).trans ((r7 i hi).2 hp)⟩
  refine j_aload_n (pc := 115) dX12_goesReader_115 rfl ?_
  refine j_getPv (pc := 116) dX12_goesReader_116 f_X12_108 (Or.inr ⟨_, rfl⟩) n2.1 (mp_readerPages n2) ?_
  refine j_iload_n (pc := 119) dX12_goesReader_119 rfl ?_
  refine j_dup2 (pc := 120) dX12_goesReader_120 rfl rfl ?_
  refine j_ialdn (pc := 121) dX12_goesReader_121 (mk_readerPages n2) (by omega) (Nat.le_of_ble_eq_true rfl) (g4) ?_
  refine j_iconst (pc := 122) (v := 1) dX12_goesReader_122 (by decide) ?_
  refine j_iadd (pc := 123) dX12_goesReader_123 ?_
  rw [nI_1]
  refine j_iastn (pc := 124) dX12_goesReader_124 (mk_readerPages n2) (by omega) (Nat.le_of_ble_eq_true rfl) ?_
  refine j_aload_n (pc := 125) dX12_goesReader_125 rfl ?_
  refine j_getPv (pc := 126) dX12_goesReader_126 f_X12_105 (Or.inr ⟨_, rfl⟩) n2.1 (mp_isEnded n2) ?_
  refine j_iload_n (pc := 129) dX12_goesReader_129 rfl ?_
  refine j_aload_n (pc := 130) dX12_goesReader_130 rfl ?_
  refine j_getIv (pc := 131) dX12_goesReader_131 f_X12_392 (Or.inl rfl) n2.1 (fd2.1) ?_
  refine j_if_ne (pc := 134) (tgt := 154) dX12_goesReader_134 (by decide) (fun h134 => ?_) (fun h134 => ?_)
  · refine j_iconst (pc := 154) (v := 0) dX12_goesReader_154 (by decide) ?_
    refine j_zastn (pc := 155) dX12_goesReader_155 (mk_isEnded n2) (by omega) (Nat.le_of_ble_eq_true rfl) (by first | assumption | decide) ?_
    refine j_aload_n (pc := 156) dX12_goesReader_156 rfl ?_
    refine j_getIv (pc := 157) dX12_goesReader_157 f_X12_392 (Or.inl rfl) n2.1 (fd2.1) ?_
    refine j_if_ne (pc := 160) (tgt := 165) dX12_goesReader_160 (by decide) (fun h160 => ?_) (fun h160 => absurd h160 h134)
    refine j_iconst (pc := 165) (v := 0) dX12_goesReader_165 (by decide) ?_
    refine j_istore (pc := 166) (ls' := [_, _, _, _, _]) dX12_goesReader_166 (by decide) rfl rfl ?_
    have hli : (zid (tO t) (tV t) (tH t u) (zbf (tO t) (tV t) (tH t u) y.2.2.2.2.2.2.2 y.2.2.1 (!bk)) (zbe (tO t) (tV t) (tH t u) y.2.2.2.2.2.2.2 y.2.2.1 (!bk))).length = (zbe (tO t) (tV t) (tH t u) y.2.2.2.2.2.2.2 y.2.2.1 (!bk)) - (zbf (tO t) (tV t) (tH t u) y.2.2.2.2.2.2.2 y.2.2.1 (!bk)) := zid_len zbe_le
    have hpos : 0 < (zid (tO t) (tV t) (tH t u) (zbf (tO t) (tV t) (tH t u) y.2.2.2.2.2.2.2 y.2.2.1 (!bk)) (zbe (tO t) (tV t) (tH t u) y.2.2.2.2.2.2.2 y.2.2.1 (!bk))).length := Nat.pos_of_ne_zero (fun q => h134 (by rw [q]; rfl))
    have hfe : (zbf (tO t) (tV t) (tH t u) y.2.2.2.2.2.2.2 y.2.2.1 (!bk)) < (zbe (tO t) (tV t) (tH t u) y.2.2.2.2.2.2.2 y.2.2.1 (!bk)) := by omega
    have q4 := ((kA.tr (zK.wI (X := zXj j) (a := 154) (k := j) (v := nI (y.2.2.2.2.1 + 1)) (Or.inr (Or.inl (by omega))))).tr (zK.wI (X := zXj j) (a := 153) (k := j) (v := 0) (Or.inr (Or.inl (by omega)))))
    have v4 : zgI (zwI (zwI T2 154 j (nI (y.2.2.2.2.1 + 1))) 153 j 0) 123 29 = nI (tv t) := (q4.2.2.2.1 _ _ (by unfold zXj zXs; omega)).trans (h.2.2.2.2.1 t ht).1.2.2.2.1.1
    refine j_saws (v := tv t) (L := (zid (tO t) (tV t) (tH t u) (zbf (tO t) (tV t) (tH t u) y.2.2.2.2.2.2.2 y.2.2.1 (!bk)) (zbe (tO t) (tV t) (tH t u) y.2.2.2.2.2.2.2 y.2.2.1 (!bk)))) (g := y.2.2.2.2.2.1) (a := y.2.2.2.2.2.2.1) (by exact q4.ms hM) hj (by exact fd2) (fun x hx => (zid_in x hx).1) hL20 (by exact v4) (by exact g7) (fun T5 k5 sw5 => ?_)
    have k5' := k5.mo (Y := zXj j) (fun c k z => by unfold zXw at z; unfold zXj; omega)
    have q5 := q4.tr k5'
    have fd5 : mFd T5 (zid (tO t) (tV t) (tH t u) (zbf (tO t) (tV t) (tH t u) y.2.2.2.2.2.2.2 y.2.2.1 (!bk)) (zbe (tO t) (tV t) (tH t u) y.2.2.2.2.2.2.2 y.2.2.1 (!bk))) := mFd.k (by exact fd2) k5 (by unfold zXw; omega) (fun i => by unfold zXw; omega)
    have e151 : ∀ T, zK (zXj j) S T → zgI T 151 j = nI y.2.2.1 := fun T q => (q.2.2.2.1 _ _ (by unfold zXj zXs; omega)).trans r1
    have e152 : ∀ T, zK (zXj j) S T → zgI T 152 j = if y.1 then nI y.2.2.2.1 else -1 := fun T q => (q.2.2.2.1 _ _ (by unfold zXj zXs; omega)).trans r2
    have e153 : zgI T5 153 j = zbi (zRe (zbf (tO t) (tV t) (tH t u) y.2.2.2.2.2.2.2 y.2.2.1 (!bk)) (zbe (tO t) (tV t) (tH t u) y.2.2.2.2.2.2.2 y.2.2.1 (!bk)) (!bk) y.2.1) := (k5.2.2.2.1 _ _ (by unfold zXw; omega)).trans (by rw [zgI_self, zRe, if_pos hfe]; rfl)
    have e154 : zgI T5 154 j = nI (y.2.2.2.2.1 + 1) := (k5.2.2.2.1 _ _ (by unfold zXw; omega)).trans (by rw [zgI_ne (by decide), zgI_self])
    have e155 : zgI T5 155 j = nI y.2.2.2.2.2.2.2.length := (k5.2.2.2.1 _ _ (by unfold zXw; omega)).trans g5
    have e156 : ∀ k, k < y.2.2.2.2.2.2.2.length → zgI T5 156 (36 * j + k) = nI (y.2.2.2.2.2.2.2.getD k 0) := fun k hk => (k5.2.2.2.1 _ _ (by unfold zXw; omega)).trans (g6 k hk)
    have z5 := h.went (y' := (y.1, zRe (zbf (tO t) (tV t) (tH t u) y.2.2.2.2.2.2.2 y.2.2.1 (!bk)) (zbe (tO t) (tV t) (tH t u) y.2.2.2.2.2.2.2 y.2.2.1 (!bk)) (!bk) y.2.1, y.2.2.1, y.2.2.2.1, y.2.2.2.2.1 + 1, zsg y.2.2.2.2.2.1 (zid (tO t) (tV t) (tH t u) (zbf (tO t) (tV t) (tH t u) y.2.2.2.2.2.2.2 y.2.2.1 (!bk)) (zbe (tO t) (tV t) (tH t u) y.2.2.2.2.2.2.2 y.2.2.1 (!bk))), zsa y.2.2.2.2.2.2.1 (zid (tO t) (tV t) (tH t u) (zbf (tO t) (tV t) (tH t u) y.2.2.2.2.2.2.2 y.2.2.1 (!bk)) (zbe (tO t) (tV t) (tH t u) y.2.2.2.2.2.2.2 y.2.2.1 (!bk))) (tv t), y.2.2.2.2.2.2.2)) hw ht hj hy q5 h0 hLg rfl rfl (mr.of (e151 _ q5) (e152 _ q5) e153 e154 e155 e156 sw5)
    have w5 := hw.rd (j := j) (y' := (y.1, zRe (zbf (tO t) (tV t) (tH t u) y.2.2.2.2.2.2.2 y.2.2.1 (!bk)) (zbe (tO t) (tV t) (tH t u) y.2.2.2.2.2.2.2 y.2.2.1 (!bk)) (!bk) y.2.1, y.2.2.1, y.2.2.2.1, y.2.2.2.2.1 + 1, zsg y.2.2.2.2.2.1 (zid (tO t) (tV t) (tH t u) (zbf (tO t) (tV t) (tH t u) y.2.2.2.2.2.2.2 y.2.2.1 (!bk)) (zbe (tO t) (tV t) (tH t u) y.2.2.2.2.2.2.2 y.2.2.1 (!bk))), zsa y.2.2.2.2.2.2.1 (zid (tO t) (tV t) (tH t u) (zbf (tO t) (tV t) (tH t u) y.2.2.2.2.2.2.2 y.2.2.1 (!bk)) (zbe (tO t) (tV t) (tH t u) y.2.2.2.2.2.2.2 y.2.2.1 (!bk))) (tv t), y.2.2.2.2.2.2.2)) ht ⟨hWr.1, hWr.2.1, hWr.2.2.1, fun i => zsa_le (hWr.2.2.2 i)⟩
    refine j_stand z5 w5 ht hu1 hu2 hj fd5 zid_in hL20 hpos (fun T6 k6 a155 a156 => ?_)
    rw [zRk_L hfe] at a155 a156
    have k6' := k6.mo (Y := zXj j) (fun c k z => by unfold zXd zXk at z; unfold zXj zXs; omega)
    have q6 := q5.tr k6'
    rw [zstep_eq hue]
    refine ⟨by rw [hli], h.went hw ht hj hy q6 h0 hLg rfl rfl (mr.of (e151 _ q6) (e152 _ q6) ((k6.2.2.2.1 _ _ (by unfold zXd zXk; omega)).trans e153) ((k6.2.2.2.1 _ _ (by unfold zXd zXk; omega)).trans e154) a155 a156 (fun i hi => ⟨(k6.2.2.2.1 _ _ (by unfold zXd zXk; omega)).trans (sw5 i hi).1, fun hp => (k6.2.2.2.1 _ _ (by unfold zXd zXk; omega)).trans ((sw5 i hi).2 hp)⟩)), q6.f (fun c k z => by unfold zXj zXs at z; unfold zMX; omega)⟩
  · refine j_iload_n (pc := 137) dX12_goesReader_137 rfl ?_
    refine j_if_eq (pc := 138) (tgt := 150) dX12_goesReader_138 (by decide) (fun h138 => ?_) (fun h138 => ?_)
    · refine j_iconst (pc := 150) (v := 1) dX12_goesReader_150 (by decide) ?_
      refine j_goto (pc := 151) (tgt := 155) dX12_goesReader_151 (by decide) ?_
      refine j_zastn (pc := 155) dX12_goesReader_155 (mk_isEnded n2) (by omega) (Nat.le_of_ble_eq_true rfl) (by first | assumption | decide) ?_
      refine j_aload_n (pc := 156) dX12_goesReader_156 rfl ?_
      refine j_getIv (pc := 157) dX12_goesReader_157 f_X12_392 (Or.inl rfl) n2.1 (fd2.1) ?_
      refine j_if_ne (pc := 160) (tgt := 165) dX12_goesReader_160 (by decide) (fun h160 => absurd h134 h160) (fun h160 => ?_)
      refine j_iconst (pc := 163) (v := 0) dX12_goesReader_163 (by decide) ?_
      refine j_iret (pc := 164) dX12_goesReader_164 rfl ?_
      have hl0 : (zid (tO t) (tV t) (tH t u) (zbf (tO t) (tV t) (tH t u) y.2.2.2.2.2.2.2 y.2.2.1 (!bk)) (zbe (tO t) (tV t) (tH t u) y.2.2.2.2.2.2.2 y.2.2.1 (!bk))).length = 0 := (nI_eq (b := 0) (by have := zid_20 (O := tO t) (V := tV t) (t := tH t u) (F := y.2.2.2.2.2.2.2) (bk := bk) hWr.1.2; omega) (by decide)).mp h134
      have hli : (zid (tO t) (tV t) (tH t u) (zbf (tO t) (tV t) (tH t u) y.2.2.2.2.2.2.2 y.2.2.1 (!bk)) (zbe (tO t) (tV t) (tH t u) y.2.2.2.2.2.2.2 y.2.2.1 (!bk))).length = (zbe (tO t) (tV t) (tH t u) y.2.2.2.2.2.2.2 y.2.2.1 (!bk)) - (zbf (tO t) (tV t) (tH t u) y.2.2.2.2.2.2.2 y.2.2.1 (!bk)) := zid_len zbe_le
      have hfe : ¬ (zbf (tO t) (tV t) (tH t u) y.2.2.2.2.2.2.2 y.2.2.1 (!bk)) < (zbe (tO t) (tV t) (tH t u) y.2.2.2.2.2.2.2 y.2.2.1 (!bk)) := by omega
      have hL0 : (zid (tO t) (tV t) (tH t u) (zbf (tO t) (tV t) (tH t u) y.2.2.2.2.2.2.2 y.2.2.1 (!bk)) (zbe (tO t) (tV t) (tH t u) y.2.2.2.2.2.2.2 y.2.2.1 (!bk))) = [] := List.eq_nil_of_length_eq_zero hl0
      have q4 := ((kA.tr (zK.wI (X := zXj j) (a := 154) (k := j) (v := nI (y.2.2.2.2.1 + 1)) (Or.inr (Or.inl (by omega))))).tr (zK.wI (X := zXj j) (a := 153) (k := j) (v := 1) (Or.inr (Or.inl (by omega)))))
      rw [zstep_eq hue]
      refine ⟨by rw [← hli, hl0]; rfl, h.went hw ht hj hy q4 h0 hLg rfl rfl (mr.of ((q4.2.2.2.1 _ _ (by unfold zXj zXs; omega)).trans r1) ((q4.2.2.2.1 _ _ (by unfold zXj zXs; omega)).trans r2) (by rw [zgI_self]; rw [zRe, if_neg hfe]; rw [zbi_eq0.mp h138]; rfl) (by rw [zgI_ne (by decide), zgI_self]) ?_ ?_ ?_), q4.f (fun c k z => by unfold zXj zXs at z; unfold zMX; omega)⟩
      · rw [zRk, if_neg hfe]
        exact g5
      · rw [zRk, if_neg hfe]
        exact g6
      · rw [hL0]
        exact fun i hi => ⟨(g7 i hi).1, fun hp => by rw [show zsa y.2.2.2.2.2.2.1 [] (tv t) i = y.2.2.2.2.2.2.1 i from if_neg List.not_mem_nil]; exact (g7 i hi).2 hp⟩
    · refine j_aload_n (pc := 141) dX12_goesReader_141 rfl ?_
      refine j_getPv (pc := 142) dX12_goesReader_142 f_X12_105 (Or.inr ⟨_, rfl⟩) n2.1 (mp_isEnded n2) ?_
      refine j_iload_n (pc := 145) dX12_goesReader_145 rfl ?_
      refine j_zaldn (pc := 146) dX12_goesReader_146 (mk_isEnded n2) (by omega) (Nat.le_of_ble_eq_true rfl) (g3) ?_
      refine j_if_eq (pc := 147) (tgt := 154) dX12_goesReader_147 (by decide) (fun h147 => ?_) (fun h147 => ?_)
      · refine j_iconst (pc := 154) (v := 0) dX12_goesReader_154 (by decide) ?_
        refine j_zastn (pc := 155) dX12_goesReader_155 (mk_isEnded n2) (by omega) (Nat.le_of_ble_eq_true rfl) (by first | assumption | decide) ?_
        refine j_aload_n (pc := 156) dX12_goesReader_156 rfl ?_
        refine j_getIv (pc := 157) dX12_goesReader_157 f_X12_392 (Or.inl rfl) n2.1 (fd2.1) ?_
        refine j_if_ne (pc := 160) (tgt := 165) dX12_goesReader_160 (by decide) (fun h160 => absurd h134 h160) (fun h160 => ?_)
        refine j_iconst (pc := 163) (v := 0) dX12_goesReader_163 (by decide) ?_
        refine j_iret (pc := 164) dX12_goesReader_164 rfl ?_
        have hl0 : (zid (tO t) (tV t) (tH t u) (zbf (tO t) (tV t) (tH t u) y.2.2.2.2.2.2.2 y.2.2.1 (!bk)) (zbe (tO t) (tV t) (tH t u) y.2.2.2.2.2.2.2 y.2.2.1 (!bk))).length = 0 := (nI_eq (b := 0) (by have := zid_20 (O := tO t) (V := tV t) (t := tH t u) (F := y.2.2.2.2.2.2.2) (bk := bk) hWr.1.2; omega) (by decide)).mp h134
        have hli : (zid (tO t) (tV t) (tH t u) (zbf (tO t) (tV t) (tH t u) y.2.2.2.2.2.2.2 y.2.2.1 (!bk)) (zbe (tO t) (tV t) (tH t u) y.2.2.2.2.2.2.2 y.2.2.1 (!bk))).length = (zbe (tO t) (tV t) (tH t u) y.2.2.2.2.2.2.2 y.2.2.1 (!bk)) - (zbf (tO t) (tV t) (tH t u) y.2.2.2.2.2.2.2 y.2.2.1 (!bk)) := zid_len zbe_le
        have hfe : ¬ (zbf (tO t) (tV t) (tH t u) y.2.2.2.2.2.2.2 y.2.2.1 (!bk)) < (zbe (tO t) (tV t) (tH t u) y.2.2.2.2.2.2.2 y.2.2.1 (!bk)) := by omega
        have hL0 : (zid (tO t) (tV t) (tH t u) (zbf (tO t) (tV t) (tH t u) y.2.2.2.2.2.2.2 y.2.2.1 (!bk)) (zbe (tO t) (tV t) (tH t u) y.2.2.2.2.2.2.2 y.2.2.1 (!bk))) = [] := List.eq_nil_of_length_eq_zero hl0
        have q4 := ((kA.tr (zK.wI (X := zXj j) (a := 154) (k := j) (v := nI (y.2.2.2.2.1 + 1)) (Or.inr (Or.inl (by omega))))).tr (zK.wI (X := zXj j) (a := 153) (k := j) (v := 0) (Or.inr (Or.inl (by omega)))))
        rw [zstep_eq hue]
        refine ⟨by rw [← hli, hl0]; rfl, h.went hw ht hj hy q4 h0 hLg rfl rfl (mr.of ((q4.2.2.2.1 _ _ (by unfold zXj zXs; omega)).trans r1) ((q4.2.2.2.1 _ _ (by unfold zXj zXs; omega)).trans r2) (by rw [zgI_self]; rw [zRe, if_neg hfe]; rw [zbi_ne0 h138, if_neg (by decide), zbi_eq0.mp h147]; rfl) (by rw [zgI_ne (by decide), zgI_self]) ?_ ?_ ?_), q4.f (fun c k z => by unfold zXj zXs at z; unfold zMX; omega)⟩
        · rw [zRk, if_neg hfe]
          exact g5
        · rw [zRk, if_neg hfe]
          exact g6
        · rw [hL0]
          exact fun i hi => ⟨(g7 i hi).1, fun hp => by rw [show zsa y.2.2.2.2.2.2.1 [] (tv t) i = y.2.2.2.2.2.2.1 i from if_neg List.not_mem_nil]; exact (g7 i hi).2 hp⟩
      · refine j_iconst (pc := 150) (v := 1) dX12_goesReader_150 (by decide) ?_
        refine j_goto (pc := 151) (tgt := 155) dX12_goesReader_151 (by decide) ?_
        refine j_zastn (pc := 155) dX12_goesReader_155 (mk_isEnded n2) (by omega) (Nat.le_of_ble_eq_true rfl) (by first | assumption | decide) ?_
        refine j_aload_n (pc := 156) dX12_goesReader_156 rfl ?_
        refine j_getIv (pc := 157) dX12_goesReader_157 f_X12_392 (Or.inl rfl) n2.1 (fd2.1) ?_
        refine j_if_ne (pc := 160) (tgt := 165) dX12_goesReader_160 (by decide) (fun h160 => absurd h134 h160) (fun h160 => ?_)
        refine j_iconst (pc := 163) (v := 0) dX12_goesReader_163 (by decide) ?_
        refine j_iret (pc := 164) dX12_goesReader_164 rfl ?_
        have hl0 : (zid (tO t) (tV t) (tH t u) (zbf (tO t) (tV t) (tH t u) y.2.2.2.2.2.2.2 y.2.2.1 (!bk)) (zbe (tO t) (tV t) (tH t u) y.2.2.2.2.2.2.2 y.2.2.1 (!bk))).length = 0 := (nI_eq (b := 0) (by have := zid_20 (O := tO t) (V := tV t) (t := tH t u) (F := y.2.2.2.2.2.2.2) (bk := bk) hWr.1.2; omega) (by decide)).mp h134
        have hli : (zid (tO t) (tV t) (tH t u) (zbf (tO t) (tV t) (tH t u) y.2.2.2.2.2.2.2 y.2.2.1 (!bk)) (zbe (tO t) (tV t) (tH t u) y.2.2.2.2.2.2.2 y.2.2.1 (!bk))).length = (zbe (tO t) (tV t) (tH t u) y.2.2.2.2.2.2.2 y.2.2.1 (!bk)) - (zbf (tO t) (tV t) (tH t u) y.2.2.2.2.2.2.2 y.2.2.1 (!bk)) := zid_len zbe_le
        have hfe : ¬ (zbf (tO t) (tV t) (tH t u) y.2.2.2.2.2.2.2 y.2.2.1 (!bk)) < (zbe (tO t) (tV t) (tH t u) y.2.2.2.2.2.2.2 y.2.2.1 (!bk)) := by omega
        have hL0 : (zid (tO t) (tV t) (tH t u) (zbf (tO t) (tV t) (tH t u) y.2.2.2.2.2.2.2 y.2.2.1 (!bk)) (zbe (tO t) (tV t) (tH t u) y.2.2.2.2.2.2.2 y.2.2.1 (!bk))) = [] := List.eq_nil_of_length_eq_zero hl0
        have q4 := ((kA.tr (zK.wI (X := zXj j) (a := 154) (k := j) (v := nI (y.2.2.2.2.1 + 1)) (Or.inr (Or.inl (by omega))))).tr (zK.wI (X := zXj j) (a := 153) (k := j) (v := 1) (Or.inr (Or.inl (by omega)))))
        rw [zstep_eq hue]
        refine ⟨by rw [← hli, hl0]; rfl, h.went hw ht hj hy q4 h0 hLg rfl rfl (mr.of ((q4.2.2.2.1 _ _ (by unfold zXj zXs; omega)).trans r1) ((q4.2.2.2.1 _ _ (by unfold zXj zXs; omega)).trans r2) (by rw [zgI_self]; rw [zRe, if_neg hfe]; rw [zbi_ne0 h138, if_neg (by decide), zbi_ne0 h147]; rfl) (by rw [zgI_ne (by decide), zgI_self]) ?_ ?_ ?_), q4.f (fun c k z => by unfold zXj zXs at z; unfold zMX; omega)⟩
        · rw [zRk, if_neg hfe]
          exact g5
        · rw [zRk, if_neg hfe]
          exact g6
        · rw [hL0]
          exact fun i hi => ⟨(g7 i hi).1, fun hp => by rw [show zsa y.2.2.2.2.2.2.1 [] (tv t) i = y.2.2.2.2.2.2.1 i from if_neg List.not_mem_nil]; exact (g7 i hi).2 hp⟩
theorem nI_m1 {n : Nat} (h : n < 2 ^ 31) : nI n ≠ -1 := by
  intro q
  have := congrArg Int32.toNatClampNeg q
  rw [nI_clamp h] at this
  rw [show (-1 : Int32).toNatClampNeg = 0 by decide] at this
  subst this
  exact absurd q (by decide)
set_option maxRecDepth 20000 in
set_option maxHeartbeats 4000000 in
theorem n_goesReader {E : zE} {S : zM} {s : zST} {n : Nat} (h : zMO S s) (hw : zWF n s) (x : Int32) (bk : Bool) : zSp E 5 0 0 mX12_goesReader cX12_goesReader [zR 123, zI x, zI (zbi bk)] S (fun r T => r = some (zI (q_step s x (!bk)).1) ∧ zMO T (q_step s x (!bk)).2 ∧ zF zMX S T) := by
  refine zSp.of (by decide) rfl (Nat.le_of_ble_eq_true rfl) rfl ?_
  have hM := h.1
  cases hz : zbeg s x with
  | false =>
    have e : q_step s x (!bk) = zrf s 1 := by
      rcases zbeg_f hz with g | ⟨t, g, g2 | ⟨g2, g3⟩⟩
      · simp only [q_step, g]
      · simp only [q_step, g]
        rw [if_pos g2]
      · simp only [q_step, g]
        rw [if_neg (by rw [g2]; decide), g3]
    refine j_aload_n (pc := 0) dX12_goesReader_0 rfl ?_
    refine j_aload_n (pc := 1) dX12_goesReader_1 rfl ?_
    refine j_iload_n (pc := 2) dX12_goesReader_2 rfl ?_
    refine j_callV (pc := 3) (t := 12) (n_isReader h hw _) dX12_goesReader_3 l_X12_439 mk_X12_isReader mv_X12_isReader (by decide) rfl hM.1 (by decide) rfl rfl (Nat.le_of_ble_eq_true rfl) (Nat.le_refl _) (Nat.le_refl _) (fun r T h_1 => ?_)
    obtain ⟨rfl, rfl⟩ := h_1
    rw [hz]
    refine j_callS (pc := 6) (n_unlF) dX12_goesReader_6 l_X12_312 mk_X12_unless ms_X12_unless (by decide) rfl rfl (Nat.le_of_ble_eq_true rfl) (Nat.le_refl _) (Nat.le_refl _) (fun r T h_1 => ?_)
    obtain ⟨rfl, rfl⟩ := h_1
    refine j_callV (pc := 9) (t := 12) (n_rf1 hM) dX12_goesReader_9 l_X12_256 mk_X12_isRefused mv_X12_isRefused (by decide) rfl hM.1 (by decide) rfl rfl (Nat.le_of_ble_eq_true rfl) (Nat.le_refl _) (Nat.le_refl _) (fun r T h_1 => ?_)
    obtain ⟨rfl, rfl⟩ := h_1
    refine j_if_eq (pc := 12) (tgt := 17) dX12_goesReader_12 (by decide) (fun h12 => absurd h12 (by decide)) (fun h12 => ?_)
    refine j_iconst (pc := 15) (v := (-1)) dX12_goesReader_15 (by decide) ?_
    refine j_iret (pc := 16) dX12_goesReader_16 rfl ?_
    exact m_ref h (n := 1) (by decide) e
  | true =>
    obtain ⟨t, j, y, ht, hj, rfl, hy⟩ := zbeg_t hz
    have hcl : (nI j).toNatClampNeg = j := nI_clamp (by omega)
    have hc4 : ¬ zcl2 4 (nI j) = false := by rw [zcl2_nI hj (by decide)]; decide
    have hyn : sR s (zn (nI j)) = some y := by rw [zn, hcl]; exact hy
    have hm := h.2.2.2.2.2.2 j hj
    rw [hy] at hm
    obtain ⟨r1, r2, r3, r4, r5, r6, r7⟩ := hm
    have hv := hw.v ht
    have hWr := (hw.t ht).2.2 j y hy
    refine j_aload_n (pc := 0) dX12_goesReader_0 rfl ?_
    refine j_aload_n (pc := 1) dX12_goesReader_1 rfl ?_
    refine j_iload_n (pc := 2) dX12_goesReader_2 rfl ?_
    refine j_callV (pc := 3) (t := 12) (n_isReader h hw _) dX12_goesReader_3 l_X12_439 mk_X12_isReader mv_X12_isReader (by decide) rfl hM.1 (by decide) rfl rfl (Nat.le_of_ble_eq_true rfl) (Nat.le_refl _) (Nat.le_refl _) (fun r T h_1 => ?_)
    obtain ⟨rfl, rfl⟩ := h_1
    rw [hz]
    refine j_callS (pc := 6) (n_unlT) dX12_goesReader_6 l_X12_312 mk_X12_unless ms_X12_unless (by decide) rfl rfl (Nat.le_of_ble_eq_true rfl) (Nat.le_refl _) (Nat.le_refl _) (fun r T h_1 => ?_)
    obtain ⟨rfl, rfl⟩ := h_1
    refine j_callV (pc := 9) (t := 12) (n_ok hM) dX12_goesReader_9 l_X12_256 mk_X12_isRefused mv_X12_isRefused (by decide) rfl hM.1 (by decide) rfl rfl (Nat.le_of_ble_eq_true rfl) (Nat.le_refl _) (Nat.le_refl _) (fun r T h_1 => ?_)
    obtain ⟨rfl, rfl⟩ := h_1
    refine j_if_eq (pc := 12) (tgt := 17) dX12_goesReader_12 (by decide) (fun h12 => ?_) (fun h12 => absurd rfl h12)
    cases hb : y.1 with
    | true =>
      have hue : zrv2 t y = y.2.2.2.1 := by unfold zrv2; rw [hb]; rfl
      have r2 : zgI S 152 j = nI y.2.2.2.1 := by rw [hb] at r2; exact r2
      refine j_aload_n (pc := 17) dX12_goesReader_17 rfl ?_
      refine j_getPv (pc := 18) dX12_goesReader_18 f_X12_102 (Or.inr ⟨_, rfl⟩) hM.1 (mp_readerView hM) ?_
      refine j_iload_n (pc := 21) dX12_goesReader_21 rfl ?_
      refine j_ialdn (pc := 22) dX12_goesReader_22 (mk_readerView hM) (by omega) (Nat.le_of_ble_eq_true rfl) (r2) ?_
      refine j_iconst (pc := 23) (v := (-1)) dX12_goesReader_23 (by decide) ?_
      refine j_icmp_ne (pc := 24) (tgt := 34) dX12_goesReader_24 (by decide) (fun h24 => ?_) (fun h24 => absurd h24 (fun q => nI_m1 (by have := hWr.2.1; omega) q))
      refine j_aload_n (pc := 34) dX12_goesReader_34 rfl ?_
      refine j_getPv (pc := 35) dX12_goesReader_35 f_X12_102 (Or.inr ⟨_, rfl⟩) hM.1 (mp_readerView hM) ?_
      refine j_iload_n (pc := 38) dX12_goesReader_38 rfl ?_
      refine j_ialdn (pc := 39) dX12_goesReader_39 (mk_readerView hM) (by omega) (Nat.le_of_ble_eq_true rfl) (r2) ?_
      refine j_istore_n (pc := 40) (ls' := [_, _, _, _, _]) dX12_goesReader_40 (by decide) rfl rfl ?_
      refine j_aload_n (pc := 41) dX12_goesReader_41 rfl ?_
      refine j_iload_n (pc := 42) dX12_goesReader_42 rfl ?_
      refine j_callV (pc := 43) (t := 12) (n_canView (by exact hM) (by exact (h.2.2.2.2.1 t ht).1.2.2.2.1.1) (by omega) _) dX12_goesReader_43 l_X12_331 mk_X12_canView mv_X12_canView (by decide) rfl hM.1 (by decide) rfl rfl (Nat.le_of_ble_eq_true rfl) (Nat.le_refl _) (Nat.le_refl _) (fun r T h_1 => ?_)
      obtain ⟨rfl, rfl⟩ := h_1
      refine j_if_ne (pc := 46) (tgt := 56) dX12_goesReader_46 (by decide) (fun h46 => ?_) (fun h46 => ?_)
      · have hcv : zcv (tv t) (nI (zrv2 t y)) = true := by rw [hue]; exact zbi_ne0 h46
        obtain ⟨w, ew, hu1, hu2⟩ := zcv_t (by omega) (zbi_ne0 h46)
        have ewy : w = y.2.2.2.1 := (nI_eq (by omega) (by have := hWr.2.1; omega)).mp ew.symm
        rw [ewy] at hu1 hu2
        have ez : q_step s (nI j) (!bk) = (nI (zstep t y (!bk)).1, (sF s, (0, s.2.1.2), sT s, sP s, va_up (sR s) j (some (zstep t y (!bk)).2))) := by
          simp only [q_step, ht]
          rw [if_neg hc4, hyn]
          simp only []
          rw [if_neg (bnf2 hcv)]
          rw [zn, hcl]
        refine (j_gr (h.no (n := 0) (by decide)) (zWF.no hw) ht hj hy rfl hue hu1 hu2 bk).post (fun r T g => ?_)
        obtain ⟨rfl, g2, g3⟩ := g
        rw [ez]
        exact ⟨rfl, g2, zNw.f.tr g3⟩
      · refine j_aload_n (pc := 49) dX12_goesReader_49 rfl ?_
        refine j_bipush (pc := 50) (v := 8) dX12_goesReader_50 (by decide) ?_
        refine j_callV (pc := 52) (t := 12) (n_no (by exact hM) _) dX12_goesReader_52 l_X12_265 mk_X12_no mv_X12_no (by decide) rfl hM.1 (by decide) rfl rfl (Nat.le_of_ble_eq_true rfl) (Nat.le_refl _) (Nat.le_refl _) (fun r T h_1 => ?_)
        obtain ⟨rfl, rfl⟩ := h_1
        refine j_iret (pc := 55) dX12_goesReader_55 rfl ?_
        have ez : q_step s (nI j) (!bk) = zrf s 8 := by
          simp only [q_step, ht]
          rw [if_neg hc4, hyn]
          simp only []
          rw [if_pos]
          rw [hue]
          exact zbi_eq0.mp h46
        rw [ez]
        exact ⟨rfl, (h.no (n := 0) (by decide)).no1 (n := 8) (by decide), zNw.f.tr (zF.wI (by decide))⟩
    | false =>
      have hue : zrv2 t y = tv t := by unfold zrv2; rw [hb]; rfl
      have r2 : zgI S 152 j = -1 := by rw [hb] at r2; exact r2
      refine j_aload_n (pc := 17) dX12_goesReader_17 rfl ?_
      refine j_getPv (pc := 18) dX12_goesReader_18 f_X12_102 (Or.inr ⟨_, rfl⟩) hM.1 (mp_readerView hM) ?_
      refine j_iload_n (pc := 21) dX12_goesReader_21 rfl ?_
      refine j_ialdn (pc := 22) dX12_goesReader_22 (mk_readerView hM) (by omega) (Nat.le_of_ble_eq_true rfl) (r2) ?_
      refine j_iconst (pc := 23) (v := (-1)) dX12_goesReader_23 (by decide) ?_
      refine j_icmp_ne (pc := 24) (tgt := 34) dX12_goesReader_24 (by decide) (fun h24 => absurd rfl h24) (fun h24 => ?_)
      refine j_aload_n (pc := 27) dX12_goesReader_27 rfl ?_
      refine j_getIv (pc := 28) dX12_goesReader_28 f_X12_277 (Or.inl rfl) hM.1 ((h.2.2.2.2.1 t ht).1.2.2.2.1.1) ?_
      refine j_goto (pc := 31) (tgt := 40) dX12_goesReader_31 (by decide) ?_
      refine j_istore_n (pc := 40) (ls' := [_, _, _, _, _]) dX12_goesReader_40 (by decide) rfl rfl ?_
      refine j_aload_n (pc := 41) dX12_goesReader_41 rfl ?_
      refine j_iload_n (pc := 42) dX12_goesReader_42 rfl ?_
      refine j_callV (pc := 43) (t := 12) (n_canView (by exact hM) (by exact (h.2.2.2.2.1 t ht).1.2.2.2.1.1) (by omega) _) dX12_goesReader_43 l_X12_331 mk_X12_canView mv_X12_canView (by decide) rfl hM.1 (by decide) rfl rfl (Nat.le_of_ble_eq_true rfl) (Nat.le_refl _) (Nat.le_refl _) (fun r T h_1 => ?_)
      obtain ⟨rfl, rfl⟩ := h_1
      refine j_if_ne (pc := 46) (tgt := 56) dX12_goesReader_46 (by decide) (fun h46 => ?_) (fun h46 => ?_)
      · have hcv : zcv (tv t) (nI (zrv2 t y)) = true := by rw [hue]; exact zbi_ne0 h46
        obtain ⟨w, ew, hu1, hu2⟩ := zcv_t (by omega) (zbi_ne0 h46)
        have ewy : w = tv t := (nI_eq (by omega) (by omega)).mp ew.symm
        rw [ewy] at hu1 hu2
        have ez : q_step s (nI j) (!bk) = (nI (zstep t y (!bk)).1, (sF s, (0, s.2.1.2), sT s, sP s, va_up (sR s) j (some (zstep t y (!bk)).2))) := by
          simp only [q_step, ht]
          rw [if_neg hc4, hyn]
          simp only []
          rw [if_neg (bnf2 hcv)]
          rw [zn, hcl]
        refine (j_gr (h.no (n := 0) (by decide)) (zWF.no hw) ht hj hy rfl hue hu1 hu2 bk).post (fun r T g => ?_)
        obtain ⟨rfl, g2, g3⟩ := g
        rw [ez]
        exact ⟨rfl, g2, zNw.f.tr g3⟩
      · refine j_aload_n (pc := 49) dX12_goesReader_49 rfl ?_
        refine j_bipush (pc := 50) (v := 8) dX12_goesReader_50 (by decide) ?_
        refine j_callV (pc := 52) (t := 12) (n_no (by exact hM) _) dX12_goesReader_52 l_X12_265 mk_X12_no mv_X12_no (by decide) rfl hM.1 (by decide) rfl rfl (Nat.le_of_ble_eq_true rfl) (Nat.le_refl _) (Nat.le_refl _) (fun r T h_1 => ?_)
        obtain ⟨rfl, rfl⟩ := h_1
        refine j_iret (pc := 55) dX12_goesReader_55 rfl ?_
        have ez : q_step s (nI j) (!bk) = zrf s 8 := by
          simp only [q_step, ht]
          rw [if_neg hc4, hyn]
          simp only []
          rw [if_pos]
          rw [hue]
          exact zbi_eq0.mp h46
        rw [ez]
        exact ⟨rfl, (h.no (n := 0) (by decide)).no1 (n := 8) (by decide), zNw.f.tr (zF.wI (by decide))⟩
set_option maxRecDepth 20000 in
set_option maxHeartbeats 4000000 in
theorem m_on {E : zE} {S : zM} {s : zST} {n : Nat} (h : zMO S s) (hw : zWF n s) (x : Int32) : zSp E 6 0 0 mX12_on cX12_on [zR 123, zI x] S (fun r T => r = some (zI (q_step s x true).1) ∧ zMO T (q_step s x true).2 ∧ zF zMX S T) := by
  refine zSp.of (by decide) rfl (Nat.le_of_ble_eq_true rfl) rfl ?_
  have hM := h.1
  refine j_aload_n (pc := 0) dX12_on_0 rfl ?_
  refine j_iload_n (pc := 1) dX12_on_1 rfl ?_
  refine j_iconst (pc := 2) (v := 0) dX12_on_2 (by decide) ?_
  refine j_callV (pc := 3) (t := 12) (n_goesReader h hw x false) dX12_on_3 l_X12_442 mk_X12_goesReader mv_X12_goesReader (by decide) rfl hM.1 (by decide) rfl rfl (Nat.le_of_ble_eq_true rfl) (Nat.le_refl _) (Nat.le_refl _) (fun r T h_1 => ?_)
  obtain ⟨rfl, g2, g3⟩ := h_1
  refine j_iret (pc := 6) dX12_on_6 rfl ?_
  exact ⟨rfl, g2, g3⟩
set_option maxRecDepth 20000 in
set_option maxHeartbeats 4000000 in
theorem m_back {E : zE} {S : zM} {s : zST} {n : Nat} (h : zMO S s) (hw : zWF n s) (x : Int32) : zSp E 6 0 0 mX12_back cX12_back [zR 123, zI x] S (fun r T => r = some (zI (q_step s x false).1) ∧ zMO T (q_step s x false).2 ∧ zF zMX S T) := by
  refine zSp.of (by decide) rfl (Nat.le_of_ble_eq_true rfl) rfl ?_
  have hM := h.1
  refine j_aload_n (pc := 0) dX12_back_0 rfl ?_
  refine j_iload_n (pc := 1) dX12_back_1 rfl ?_
  refine j_iconst (pc := 2) (v := 1) dX12_back_2 (by decide) ?_
  refine j_callV (pc := 3) (t := 12) (n_goesReader h hw x true) dX12_back_3 l_X12_442 mk_X12_goesReader mv_X12_goesReader (by decide) rfl hM.1 (by decide) rfl rfl (Nat.le_of_ble_eq_true rfl) (Nat.le_refl _) (Nat.le_refl _) (fun r T h_1 => ?_)
  obtain ⟨rfl, g2, g3⟩ := h_1
  refine j_iret (pc := 6) dX12_back_6 rfl ?_
  exact ⟨rfl, g2, g3⟩
