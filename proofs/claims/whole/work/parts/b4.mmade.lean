/-! the model's object is made -/
def zMi (S : zM) (j : Nat) (U : zM) : Prop := zkd U 123 = (13, 0) ∧ zgn U = 123 + j ∧ (∀ q ∈ zMl.take j, zgP U 123 q.1 = q.2.1 ∧ zkd U q.2.1 = (q.2.2.1, q.2.2.2)) ∧ ((∀ k, k ≠ 3 → zgI U 123 k = 0) ∧ zgI U 123 3 = -1) ∧ (∀ c, 124 ≤ c → c ≤ 123 + j → ∀ k, zgI U c k = 0) ∧ zNF (fun c => c = 123) S U
theorem zMl_ad : ∀ j, j < 36 → ∀ q ∈ zMl.take j, 124 ≤ q.2.1 ∧ q.2.1 ≤ 123 + j := by decide +kernel
theorem zMi.step {S U : zM} {j f kd n : Nat} (h : zMi S j U) (hj : j < 36) (hm : zMl[j]? = some (f, 124 + j, kd, n)) (hf : ∀ q ∈ zMl.take j, q.1 ≠ f) : zMi S (j + 1) (zwP (znw U kd n) 123 f (zgn U + 1)) := by
  obtain ⟨h1, h2, h3, ⟨h4, h5⟩, h6, h7⟩ := h
  have ag : ∀ c, c ≤ 123 + j → zAg U (znw U kd n) c := fun c hc => (zNF.nw (X := fun _ => False)).2 c (by omega) (fun z => z)
  refine ⟨(ag 123 (by omega)).1.trans h1, by show zgn U + 1 = _; omega, fun q hq => ?_, ⟨fun k hk => ((ag 123 (by omega)).2.1 k).trans (h4 k hk), ((ag 123 (by omega)).2.1 3).trans h5⟩, fun c hc1 hc2 k => ?_, (h7.tr zNF.nw).tr (zNF.wP rfl)⟩
  · rw [List.take_succ, hm] at hq
    rcases List.mem_append.mp hq with hq | hq
    · have ha := zMl_ad j hj q hq
      exact ⟨(zgP_nk (hf q hq)).trans (((ag 123 (by omega)).2.2.2 _).trans (h3 q hq).1), (ag _ (by omega)).1.trans (h3 q hq).2⟩
    · have hq : q = (f, 124 + j, kd, n) := by simpa using hq
      rw [hq]
      refine ⟨zgP_self.trans (by show zgn U + 1 = 124 + j; omega), ?_⟩
      show zkd (znw U kd n) (124 + j) = (kd, n)
      rw [show 124 + j = zgn U + 1 by omega]
      exact znw_kd
  · by_cases e : c = zgn U + 1
    · show zgI (znw U kd n) c k = 0
      rw [zgI_nw, if_pos e]
    · exact ((ag c (by omega)).2.1 k).trans (h6 c hc1 (by omega) k)
theorem zMi.go {S U : zM} {j f kd n : Nat} {E : zE} {lv mc ms : Nat} {M : zMI} {cc : ByteArray} {pc : Nat} {ls : List (Option zV)} {st : List zV} {Q : Option zV → zM → Prop} (h : zMi S j U) (hj : j < 36) (hm : zMl[j]? = some (f, 124 + j, kd, n)) (hf : ∀ q ∈ zMl.take j, q.1 ≠ f) (k : ∀ V, zMi S (j + 1) V → zJ E lv mc ms M cc pc ls st V Q) : zJ E lv mc ms M cc pc ls st (zwP (znw U kd n) 123 f (zgn U + 1)) Q := k _ (h.step hj hm hf)
def s0 : zST := ([], (0, 0, -1), none, none, fun _ => none)
theorem zMi.all {S U : zM} (h : zMi S 36 U) : zMO U s0 ∧ zgn U = 159 := by
  obtain ⟨h1, h2, h3, ⟨h4, h5⟩, h6, h7⟩ := h
  have z : ∀ c k, 124 ≤ c → c ≤ 159 → zgI U c k = 0 := fun c k a b => h6 c a b k
  refine ⟨⟨⟨h1, fun q hq => h3 q (by rw [List.take_of_length_le (by decide)]; exact hq)⟩, ⟨h4 5 (by decide), fun i hi => absurd hi (Nat.not_lt_zero i)⟩, ⟨h4 1 (by decide), h4 2 (by decide), fun q => absurd (show (0 : Nat) = 4 from q) (by decide)⟩, ⟨h4 12 (by decide), fun _ => h4 29 (by decide)⟩, fun t ht => (by cases (show (none : Option zTB) = some t from ht)), ⟨⟨h4 46 (by decide), fun _ => ⟨([], fun _ _ => 0, [], [], 0, 0), ⟨Nat.zero_le _, ⟨Nat.zero_le _, Nat.zero_le _⟩, fun b hb => absurd hb List.not_mem_nil, fun b hb => absurd hb List.not_mem_nil⟩, h4 47 (by decide), fun i x hx => (by simp at hx), ⟨z 148 0 (by decide) (by decide), z 148 1 (by decide) (by decide)⟩, fun i hi => absurd hi (Nat.not_lt_zero i), fun i hi => absurd hi (Nat.not_lt_zero i), z 149 0 (by decide) (by decide), z 149 1 (by decide) (by decide)⟩⟩, fun q hq => (by cases (show (none : Option zPGE) = some q from hq))⟩, fun r hr => z 151 r (by decide) (by decide)⟩, h2⟩
set_option maxRecDepth 20000 in
set_option maxHeartbeats 4000000 in
theorem c_minit {E : zE} {S : zM}  (ha : zkd S 123 = (13, 0)) (hg : zgn S = 123) (h0 : ∀ k, zgI S 123 k = 0) : zSp E 1 36 17864 mX12_init cX12_init [zR 123] S (fun r T => r = none ∧ zMO T s0 ∧ zgn T = 159 ∧ zNF (fun c => c = 123) S T) := by
  refine zSp.of (by decide) rfl (Nat.le_of_ble_eq_true rfl) rfl ?_
  refine j_aload_n (pc := 0) dX12_init_0 rfl ?_
  refine j_objInit (pc := 1) dX12_init_1 oi_X12_3 (by omega) (by decide) (Nat.le_of_ble_eq_true rfl) ?_
  refine j_aload_n (pc := 4) dX12_init_4 rfl ?_
  refine j_iconst (pc := 5) (v := (-1)) dX12_init_5 (by decide) ?_
  refine j_putI (pc := 6) dX12_init_6 f_X12_11 rfl (by assumption) rfl ?_
  have i0 : zMi S 0 (zwI S 123 3 (-1)) := ⟨ha, hg, fun q hq => absurd hq (by simp), ⟨fun k hk => (zgI_nk hk).trans (h0 k), zgI_self⟩, fun c h1 h2 => absurd h1 (by omega), (zF.wI (X := fun c => c = 123) rfl).nf⟩
  refine j_aload_n (pc := 9) dX12_init_9 rfl ?_
  refine j_sipush (pc := 10) (v := 900) dX12_init_10 (by decide) ?_
  refine j_newa (pc := 13) (n := 900) (mc2 := 35) (ms2 := 16964) dX12_init_13 (Or.inl ⟨rfl, rfl⟩) ac_int (by decide) (by decide) (Nat.le_of_ble_eq_true rfl) (Nat.le_of_ble_eq_true rfl) (Nat.le_of_ble_eq_true rfl) ?_
  refine j_putFP (pc := 15) dX12_init_15 f_X12_15 (Or.inr ⟨_, rfl⟩) rfl rfl fp_X12_15 ((znw_ok (by have := i0.2.1; omega)).trans i0.1) rfl ?_
  refine zMi.go i0 (by decide) rfl (by decide) (fun U1 i1 => ?_)
  refine j_aload_n (pc := 18) dX12_init_18 rfl ?_
  refine j_iconst (pc := 19) (v := 4) dX12_init_19 (by decide) ?_
  refine j_newa (pc := 20) (n := 4) (mc2 := 34) (ms2 := 16960) dX12_init_20 (Or.inr (Or.inr ⟨rfl, rfl⟩)) ac_boolean (by decide) (by decide) (Nat.le_of_ble_eq_true rfl) (Nat.le_of_ble_eq_true rfl) (Nat.le_of_ble_eq_true rfl) ?_
  refine j_putFP (pc := 22) dX12_init_22 f_X12_19 (Or.inr ⟨_, rfl⟩) rfl rfl fp_X12_19 ((znw_ok (by have := i1.2.1; omega)).trans i1.1) rfl ?_
  refine zMi.go i1 (by decide) rfl (by decide) (fun U2 i2 => ?_)
  refine j_aload_n (pc := 25) dX12_init_25 rfl ?_
  refine j_iconst (pc := 26) (v := 4) dX12_init_26 (by decide) ?_
  refine j_newa (pc := 27) (n := 4) (mc2 := 33) (ms2 := 16956) dX12_init_27 (Or.inl ⟨rfl, rfl⟩) ac_int (by decide) (by decide) (Nat.le_of_ble_eq_true rfl) (Nat.le_of_ble_eq_true rfl) (Nat.le_of_ble_eq_true rfl) ?_
  refine j_putFP (pc := 29) dX12_init_29 f_X12_23 (Or.inr ⟨_, rfl⟩) rfl rfl fp_X12_23 ((znw_ok (by have := i2.2.1; omega)).trans i2.1) rfl ?_
  refine zMi.go i2 (by decide) rfl (by decide) (fun U3 i3 => ?_)
  refine j_aload_n (pc := 32) dX12_init_32 rfl ?_
  refine j_iconst (pc := 33) (v := 4) dX12_init_33 (by decide) ?_
  refine j_newa (pc := 34) (n := 4) (mc2 := 32) (ms2 := 16952) dX12_init_34 (Or.inr (Or.inr ⟨rfl, rfl⟩)) ac_boolean (by decide) (by decide) (Nat.le_of_ble_eq_true rfl) (Nat.le_of_ble_eq_true rfl) (Nat.le_of_ble_eq_true rfl) ?_
  refine j_putFP (pc := 36) dX12_init_36 f_X12_26 (Or.inr ⟨_, rfl⟩) rfl rfl fp_X12_26 ((znw_ok (by have := i3.2.1; omega)).trans i3.1) rfl ?_
  refine zMi.go i3 (by decide) rfl (by decide) (fun U4 i4 => ?_)
  refine j_aload_n (pc := 39) dX12_init_39 rfl ?_
  refine j_iconst (pc := 40) (v := 4) dX12_init_40 (by decide) ?_
  refine j_newa (pc := 41) (n := 4) (mc2 := 31) (ms2 := 16948) dX12_init_41 (Or.inr (Or.inr ⟨rfl, rfl⟩)) ac_boolean (by decide) (by decide) (Nat.le_of_ble_eq_true rfl) (Nat.le_of_ble_eq_true rfl) (Nat.le_of_ble_eq_true rfl) ?_
  refine j_putFP (pc := 43) dX12_init_43 f_X12_29 (Or.inr ⟨_, rfl⟩) rfl rfl fp_X12_29 ((znw_ok (by have := i4.2.1; omega)).trans i4.1) rfl ?_
  refine zMi.go i4 (by decide) rfl (by decide) (fun U5 i5 => ?_)
  refine j_aload_n (pc := 46) dX12_init_46 rfl ?_
  refine j_iconst (pc := 47) (v := 4) dX12_init_47 (by decide) ?_
  refine j_newa (pc := 48) (n := 4) (mc2 := 30) (ms2 := 16944) dX12_init_48 (Or.inr (Or.inl ⟨rfl, rfl⟩)) ac_long (by decide) (by decide) (Nat.le_of_ble_eq_true rfl) (Nat.le_of_ble_eq_true rfl) (Nat.le_of_ble_eq_true rfl) ?_
  refine j_putFP (pc := 50) dX12_init_50 f_X12_32 (Or.inr ⟨_, rfl⟩) rfl rfl fp_X12_32 ((znw_ok (by have := i5.2.1; omega)).trans i5.1) rfl ?_
  refine zMi.go i5 (by decide) rfl (by decide) (fun U6 i6 => ?_)
  refine j_aload_n (pc := 53) dX12_init_53 rfl ?_
  refine j_iconst (pc := 54) (v := 4) dX12_init_54 (by decide) ?_
  refine j_newa (pc := 55) (n := 4) (mc2 := 29) (ms2 := 16940) dX12_init_55 (Or.inr (Or.inr ⟨rfl, rfl⟩)) ac_boolean (by decide) (by decide) (Nat.le_of_ble_eq_true rfl) (Nat.le_of_ble_eq_true rfl) (Nat.le_of_ble_eq_true rfl) ?_
  refine j_putFP (pc := 57) dX12_init_57 f_X12_36 (Or.inr ⟨_, rfl⟩) rfl rfl fp_X12_36 ((znw_ok (by have := i6.2.1; omega)).trans i6.1) rfl ?_
  refine zMi.go i6 (by decide) rfl (by decide) (fun U7 i7 => ?_)
  refine j_aload_n (pc := 60) dX12_init_60 rfl ?_
  refine j_iconst (pc := 61) (v := 4) dX12_init_61 (by decide) ?_
  refine j_newa (pc := 62) (n := 4) (mc2 := 28) (ms2 := 16936) dX12_init_62 (Or.inl ⟨rfl, rfl⟩) ac_int (by decide) (by decide) (Nat.le_of_ble_eq_true rfl) (Nat.le_of_ble_eq_true rfl) (Nat.le_of_ble_eq_true rfl) ?_
  refine j_putFP (pc := 64) dX12_init_64 f_X12_39 (Or.inr ⟨_, rfl⟩) rfl rfl fp_X12_39 ((znw_ok (by have := i7.2.1; omega)).trans i7.1) rfl ?_
  refine zMi.go i7 (by decide) rfl (by decide) (fun U8 i8 => ?_)
  refine j_aload_n (pc := 67) dX12_init_67 rfl ?_
  refine j_iconst (pc := 68) (v := 4) dX12_init_68 (by decide) ?_
  refine j_newa (pc := 69) (n := 4) (mc2 := 27) (ms2 := 16932) dX12_init_69 (Or.inr (Or.inr ⟨rfl, rfl⟩)) ac_boolean (by decide) (by decide) (Nat.le_of_ble_eq_true rfl) (Nat.le_of_ble_eq_true rfl) (Nat.le_of_ble_eq_true rfl) ?_
  refine j_putFP (pc := 71) dX12_init_71 f_X12_42 (Or.inr ⟨_, rfl⟩) rfl rfl fp_X12_42 ((znw_ok (by have := i8.2.1; omega)).trans i8.1) rfl ?_
  refine zMi.go i8 (by decide) rfl (by decide) (fun U9 i9 => ?_)
  refine j_aload_n (pc := 74) dX12_init_74 rfl ?_
  refine j_iconst (pc := 75) (v := 4) dX12_init_75 (by decide) ?_
  refine j_newa (pc := 76) (n := 4) (mc2 := 26) (ms2 := 16928) dX12_init_76 (Or.inr (Or.inr ⟨rfl, rfl⟩)) ac_boolean (by decide) (by decide) (Nat.le_of_ble_eq_true rfl) (Nat.le_of_ble_eq_true rfl) (Nat.le_of_ble_eq_true rfl) ?_
  refine j_putFP (pc := 78) dX12_init_78 f_X12_45 (Or.inr ⟨_, rfl⟩) rfl rfl fp_X12_45 ((znw_ok (by have := i9.2.1; omega)).trans i9.1) rfl ?_
  refine zMi.go i9 (by decide) rfl (by decide) (fun U10 i10 => ?_)
  refine j_aload_n (pc := 81) dX12_init_81 rfl ?_
  refine j_bipush (pc := 82) (v := 120) dX12_init_82 (by decide) ?_
  refine j_newa (pc := 84) (n := 120) (mc2 := 25) (ms2 := 16808) dX12_init_84 (Or.inr (Or.inl ⟨rfl, rfl⟩)) ac_long (by decide) (by decide) (Nat.le_of_ble_eq_true rfl) (Nat.le_of_ble_eq_true rfl) (Nat.le_of_ble_eq_true rfl) ?_
  refine j_putFP (pc := 86) dX12_init_86 f_X12_48 (Or.inr ⟨_, rfl⟩) rfl rfl fp_X12_48 ((znw_ok (by have := i10.2.1; omega)).trans i10.1) rfl ?_
  refine zMi.go i10 (by decide) rfl (by decide) (fun U11 i11 => ?_)
  refine j_aload_n (pc := 89) dX12_init_89 rfl ?_
  refine j_sipush (pc := 90) (v := 2624) dX12_init_90 (by decide) ?_
  refine j_newa (pc := 93) (n := 2624) (mc2 := 24) (ms2 := 14184) dX12_init_93 (Or.inr (Or.inr ⟨rfl, rfl⟩)) ac_boolean (by decide) (by decide) (Nat.le_of_ble_eq_true rfl) (Nat.le_of_ble_eq_true rfl) (Nat.le_of_ble_eq_true rfl) ?_
  refine j_putFP (pc := 95) dX12_init_95 f_X12_51 (Or.inr ⟨_, rfl⟩) rfl rfl fp_X12_51 ((znw_ok (by have := i11.2.1; omega)).trans i11.1) rfl ?_
  refine zMi.go i11 (by decide) rfl (by decide) (fun U12 i12 => ?_)
  refine j_aload_n (pc := 98) dX12_init_98 rfl ?_
  refine j_sipush (pc := 99) (v := 10496) dX12_init_99 (by decide) ?_
  refine j_newa (pc := 102) (n := 10496) (mc2 := 23) (ms2 := 3688) dX12_init_102 (Or.inr (Or.inl ⟨rfl, rfl⟩)) ac_long (by decide) (by decide) (Nat.le_of_ble_eq_true rfl) (Nat.le_of_ble_eq_true rfl) (Nat.le_of_ble_eq_true rfl) ?_
  refine j_putFP (pc := 104) dX12_init_104 f_X12_54 (Or.inr ⟨_, rfl⟩) rfl rfl fp_X12_54 ((znw_ok (by have := i12.2.1; omega)).trans i12.1) rfl ?_
  refine zMi.go i12 (by decide) rfl (by decide) (fun U13 i13 => ?_)
  refine j_aload_n (pc := 107) dX12_init_107 rfl ?_
  refine j_bipush (pc := 108) (v := 64) dX12_init_108 (by decide) ?_
  refine j_newa (pc := 110) (n := 64) (mc2 := 22) (ms2 := 3624) dX12_init_110 (Or.inl ⟨rfl, rfl⟩) ac_int (by decide) (by decide) (Nat.le_of_ble_eq_true rfl) (Nat.le_of_ble_eq_true rfl) (Nat.le_of_ble_eq_true rfl) ?_
  refine j_putFP (pc := 112) dX12_init_112 f_X12_57 (Or.inr ⟨_, rfl⟩) rfl rfl fp_X12_57 ((znw_ok (by have := i13.2.1; omega)).trans i13.1) rfl ?_
  refine zMi.go i13 (by decide) rfl (by decide) (fun U14 i14 => ?_)
  refine j_aload_n (pc := 115) dX12_init_115 rfl ?_
  refine j_bipush (pc := 116) (v := 36) dX12_init_116 (by decide) ?_
  refine j_newa (pc := 118) (n := 36) (mc2 := 21) (ms2 := 3588) dX12_init_118 (Or.inl ⟨rfl, rfl⟩) ac_int (by decide) (by decide) (Nat.le_of_ble_eq_true rfl) (Nat.le_of_ble_eq_true rfl) (Nat.le_of_ble_eq_true rfl) ?_
  refine j_putFP (pc := 120) dX12_init_120 f_X12_60 (Or.inr ⟨_, rfl⟩) rfl rfl fp_X12_60 ((znw_ok (by have := i14.2.1; omega)).trans i14.1) rfl ?_
  refine zMi.go i14 (by decide) rfl (by decide) (fun U15 i15 => ?_)
  refine j_aload_n (pc := 123) dX12_init_123 rfl ?_
  refine j_bipush (pc := 124) (v := 42) dX12_init_124 (by decide) ?_
  refine j_newa (pc := 126) (n := 42) (mc2 := 20) (ms2 := 3546) dX12_init_126 (Or.inl ⟨rfl, rfl⟩) ac_int (by decide) (by decide) (Nat.le_of_ble_eq_true rfl) (Nat.le_of_ble_eq_true rfl) (Nat.le_of_ble_eq_true rfl) ?_
  refine j_putFP (pc := 128) dX12_init_128 f_X12_63 (Or.inr ⟨_, rfl⟩) rfl rfl fp_X12_63 ((znw_ok (by have := i15.2.1; omega)).trans i15.1) rfl ?_
  refine zMi.go i15 (by decide) rfl (by decide) (fun U16 i16 => ?_)
  refine j_aload_n (pc := 131) dX12_init_131 rfl ?_
  refine j_iconst (pc := 132) (v := 2) dX12_init_132 (by decide) ?_
  refine j_newa (pc := 133) (n := 2) (mc2 := 19) (ms2 := 3544) dX12_init_133 (Or.inl ⟨rfl, rfl⟩) ac_int (by decide) (by decide) (Nat.le_of_ble_eq_true rfl) (Nat.le_of_ble_eq_true rfl) (Nat.le_of_ble_eq_true rfl) ?_
  refine j_putFP (pc := 135) dX12_init_135 f_X12_66 (Or.inr ⟨_, rfl⟩) rfl rfl fp_X12_66 ((znw_ok (by have := i16.2.1; omega)).trans i16.1) rfl ?_
  refine zMi.go i16 (by decide) rfl (by decide) (fun U17 i17 => ?_)
  refine j_aload_n (pc := 138) dX12_init_138 rfl ?_
  refine j_iconst (pc := 139) (v := 2) dX12_init_139 (by decide) ?_
  refine j_newa (pc := 140) (n := 2) (mc2 := 18) (ms2 := 3542) dX12_init_140 (Or.inl ⟨rfl, rfl⟩) ac_int (by decide) (by decide) (Nat.le_of_ble_eq_true rfl) (Nat.le_of_ble_eq_true rfl) (Nat.le_of_ble_eq_true rfl) ?_
  refine j_putFP (pc := 142) dX12_init_142 f_X12_69 (Or.inr ⟨_, rfl⟩) rfl rfl fp_X12_69 ((znw_ok (by have := i17.2.1; omega)).trans i17.1) rfl ?_
  refine zMi.go i17 (by decide) rfl (by decide) (fun U18 i18 => ?_)
  refine j_aload_n (pc := 145) dX12_init_145 rfl ?_
  refine j_iconst (pc := 146) (v := 2) dX12_init_146 (by decide) ?_
  refine j_newa (pc := 147) (n := 2) (mc2 := 17) (ms2 := 3540) dX12_init_147 (Or.inr (Or.inl ⟨rfl, rfl⟩)) ac_long (by decide) (by decide) (Nat.le_of_ble_eq_true rfl) (Nat.le_of_ble_eq_true rfl) (Nat.le_of_ble_eq_true rfl) ?_
  refine j_putFP (pc := 149) dX12_init_149 f_X12_72 (Or.inr ⟨_, rfl⟩) rfl rfl fp_X12_72 ((znw_ok (by have := i18.2.1; omega)).trans i18.1) rfl ?_
  refine zMi.go i18 (by decide) rfl (by decide) (fun U19 i19 => ?_)
  refine j_aload_n (pc := 152) dX12_init_152 rfl ?_
  refine j_bipush (pc := 153) (v := 20) dX12_init_153 (by decide) ?_
  refine j_newa (pc := 155) (n := 20) (mc2 := 16) (ms2 := 3520) dX12_init_155 (Or.inl ⟨rfl, rfl⟩) ac_int (by decide) (by decide) (Nat.le_of_ble_eq_true rfl) (Nat.le_of_ble_eq_true rfl) (Nat.le_of_ble_eq_true rfl) ?_
  refine j_putFP (pc := 157) dX12_init_157 f_X12_75 (Or.inr ⟨_, rfl⟩) rfl rfl fp_X12_75 ((znw_ok (by have := i19.2.1; omega)).trans i19.1) rfl ?_
  refine zMi.go i19 (by decide) rfl (by decide) (fun U20 i20 => ?_)
  refine j_aload_n (pc := 160) dX12_init_160 rfl ?_
  refine j_bipush (pc := 161) (v := 36) dX12_init_161 (by decide) ?_
  refine j_newa (pc := 163) (n := 36) (mc2 := 15) (ms2 := 3484) dX12_init_163 (Or.inl ⟨rfl, rfl⟩) ac_int (by decide) (by decide) (Nat.le_of_ble_eq_true rfl) (Nat.le_of_ble_eq_true rfl) (Nat.le_of_ble_eq_true rfl) ?_
  refine j_putFP (pc := 165) dX12_init_165 f_X12_78 (Or.inr ⟨_, rfl⟩) rfl rfl fp_X12_78 ((znw_ok (by have := i20.2.1; omega)).trans i20.1) rfl ?_
  refine zMi.go i20 (by decide) rfl (by decide) (fun U21 i21 => ?_)
  refine j_aload_n (pc := 168) dX12_init_168 rfl ?_
  refine j_bipush (pc := 169) (v := 20) dX12_init_169 (by decide) ?_
  refine j_newa (pc := 171) (n := 20) (mc2 := 14) (ms2 := 3464) dX12_init_171 (Or.inl ⟨rfl, rfl⟩) ac_int (by decide) (by decide) (Nat.le_of_ble_eq_true rfl) (Nat.le_of_ble_eq_true rfl) (Nat.le_of_ble_eq_true rfl) ?_
  refine j_putFP (pc := 173) dX12_init_173 f_X12_81 (Or.inr ⟨_, rfl⟩) rfl rfl fp_X12_81 ((znw_ok (by have := i21.2.1; omega)).trans i21.1) rfl ?_
  refine zMi.go i21 (by decide) rfl (by decide) (fun U22 i22 => ?_)
  refine j_aload_n (pc := 176) dX12_init_176 rfl ?_
  refine j_bipush (pc := 177) (v := 80) dX12_init_177 (by decide) ?_
  refine j_newa (pc := 179) (n := 80) (mc2 := 13) (ms2 := 3384) dX12_init_179 (Or.inr (Or.inl ⟨rfl, rfl⟩)) ac_long (by decide) (by decide) (Nat.le_of_ble_eq_true rfl) (Nat.le_of_ble_eq_true rfl) (Nat.le_of_ble_eq_true rfl) ?_
  refine j_putFP (pc := 181) dX12_init_181 f_X12_84 (Or.inr ⟨_, rfl⟩) rfl rfl fp_X12_84 ((znw_ok (by have := i22.2.1; omega)).trans i22.1) rfl ?_
  refine zMi.go i22 (by decide) rfl (by decide) (fun U23 i23 => ?_)
  refine j_aload_n (pc := 184) dX12_init_184 rfl ?_
  refine j_sipush (pc := 185) (v := 1800) dX12_init_185 (by decide) ?_
  refine j_newa (pc := 188) (n := 1800) (mc2 := 12) (ms2 := 1584) dX12_init_188 (Or.inl ⟨rfl, rfl⟩) ac_int (by decide) (by decide) (Nat.le_of_ble_eq_true rfl) (Nat.le_of_ble_eq_true rfl) (Nat.le_of_ble_eq_true rfl) ?_
  refine j_putFP (pc := 190) dX12_init_190 f_X12_87 (Or.inr ⟨_, rfl⟩) rfl rfl fp_X12_87 ((znw_ok (by have := i23.2.1; omega)).trans i23.1) rfl ?_
  refine zMi.go i23 (by decide) rfl (by decide) (fun U24 i24 => ?_)
  refine j_aload_n (pc := 193) dX12_init_193 rfl ?_
  refine j_iconst (pc := 194) (v := 2) dX12_init_194 (by decide) ?_
  refine j_newa (pc := 195) (n := 2) (mc2 := 11) (ms2 := 1582) dX12_init_195 (Or.inl ⟨rfl, rfl⟩) ac_int (by decide) (by decide) (Nat.le_of_ble_eq_true rfl) (Nat.le_of_ble_eq_true rfl) (Nat.le_of_ble_eq_true rfl) ?_
  refine j_putFP (pc := 197) dX12_init_197 f_X12_90 (Or.inr ⟨_, rfl⟩) rfl rfl fp_X12_90 ((znw_ok (by have := i24.2.1; omega)).trans i24.1) rfl ?_
  refine zMi.go i24 (by decide) rfl (by decide) (fun U25 i25 => ?_)
  refine j_aload_n (pc := 200) dX12_init_200 rfl ?_
  refine j_iconst (pc := 201) (v := 2) dX12_init_201 (by decide) ?_
  refine j_newa (pc := 202) (n := 2) (mc2 := 10) (ms2 := 1580) dX12_init_202 (Or.inl ⟨rfl, rfl⟩) ac_int (by decide) (by decide) (Nat.le_of_ble_eq_true rfl) (Nat.le_of_ble_eq_true rfl) (Nat.le_of_ble_eq_true rfl) ?_
  refine j_putFP (pc := 204) dX12_init_204 f_X12_93 (Or.inr ⟨_, rfl⟩) rfl rfl fp_X12_93 ((znw_ok (by have := i25.2.1; omega)).trans i25.1) rfl ?_
  refine zMi.go i25 (by decide) rfl (by decide) (fun U26 i26 => ?_)
  refine j_aload_n (pc := 207) dX12_init_207 rfl ?_
  refine j_sipush (pc := 208) (v := 900) dX12_init_208 (by decide) ?_
  refine j_newa (pc := 211) (n := 900) (mc2 := 9) (ms2 := 680) dX12_init_211 (Or.inl ⟨rfl, rfl⟩) ac_int (by decide) (by decide) (Nat.le_of_ble_eq_true rfl) (Nat.le_of_ble_eq_true rfl) (Nat.le_of_ble_eq_true rfl) ?_
  refine j_putFP (pc := 213) dX12_init_213 f_X12_96 (Or.inr ⟨_, rfl⟩) rfl rfl fp_X12_96 ((znw_ok (by have := i26.2.1; omega)).trans i26.1) rfl ?_
  refine zMi.go i26 (by decide) rfl (by decide) (fun U27 i27 => ?_)
  refine j_aload_n (pc := 216) dX12_init_216 rfl ?_
  refine j_iconst (pc := 217) (v := 4) dX12_init_217 (by decide) ?_
  refine j_newa (pc := 218) (n := 4) (mc2 := 8) (ms2 := 676) dX12_init_218 (Or.inl ⟨rfl, rfl⟩) ac_int (by decide) (by decide) (Nat.le_of_ble_eq_true rfl) (Nat.le_of_ble_eq_true rfl) (Nat.le_of_ble_eq_true rfl) ?_
  refine j_putFP (pc := 220) dX12_init_220 f_X12_99 (Or.inr ⟨_, rfl⟩) rfl rfl fp_X12_99 ((znw_ok (by have := i27.2.1; omega)).trans i27.1) rfl ?_
  refine zMi.go i27 (by decide) rfl (by decide) (fun U28 i28 => ?_)
  refine j_aload_n (pc := 223) dX12_init_223 rfl ?_
  refine j_iconst (pc := 224) (v := 4) dX12_init_224 (by decide) ?_
  refine j_newa (pc := 225) (n := 4) (mc2 := 7) (ms2 := 672) dX12_init_225 (Or.inl ⟨rfl, rfl⟩) ac_int (by decide) (by decide) (Nat.le_of_ble_eq_true rfl) (Nat.le_of_ble_eq_true rfl) (Nat.le_of_ble_eq_true rfl) ?_
  refine j_putFP (pc := 227) dX12_init_227 f_X12_102 (Or.inr ⟨_, rfl⟩) rfl rfl fp_X12_102 ((znw_ok (by have := i28.2.1; omega)).trans i28.1) rfl ?_
  refine zMi.go i28 (by decide) rfl (by decide) (fun U29 i29 => ?_)
  refine j_aload_n (pc := 230) dX12_init_230 rfl ?_
  refine j_iconst (pc := 231) (v := 4) dX12_init_231 (by decide) ?_
  refine j_newa (pc := 232) (n := 4) (mc2 := 6) (ms2 := 668) dX12_init_232 (Or.inr (Or.inr ⟨rfl, rfl⟩)) ac_boolean (by decide) (by decide) (Nat.le_of_ble_eq_true rfl) (Nat.le_of_ble_eq_true rfl) (Nat.le_of_ble_eq_true rfl) ?_
  refine j_putFP (pc := 234) dX12_init_234 f_X12_105 (Or.inr ⟨_, rfl⟩) rfl rfl fp_X12_105 ((znw_ok (by have := i29.2.1; omega)).trans i29.1) rfl ?_
  refine zMi.go i29 (by decide) rfl (by decide) (fun U30 i30 => ?_)
  refine j_aload_n (pc := 237) dX12_init_237 rfl ?_
  refine j_iconst (pc := 238) (v := 4) dX12_init_238 (by decide) ?_
  refine j_newa (pc := 239) (n := 4) (mc2 := 5) (ms2 := 664) dX12_init_239 (Or.inl ⟨rfl, rfl⟩) ac_int (by decide) (by decide) (Nat.le_of_ble_eq_true rfl) (Nat.le_of_ble_eq_true rfl) (Nat.le_of_ble_eq_true rfl) ?_
  refine j_putFP (pc := 241) dX12_init_241 f_X12_108 (Or.inr ⟨_, rfl⟩) rfl rfl fp_X12_108 ((znw_ok (by have := i30.2.1; omega)).trans i30.1) rfl ?_
  refine zMi.go i30 (by decide) rfl (by decide) (fun U31 i31 => ?_)
  refine j_aload_n (pc := 244) dX12_init_244 rfl ?_
  refine j_iconst (pc := 245) (v := 4) dX12_init_245 (by decide) ?_
  refine j_newa (pc := 246) (n := 4) (mc2 := 4) (ms2 := 660) dX12_init_246 (Or.inl ⟨rfl, rfl⟩) ac_int (by decide) (by decide) (Nat.le_of_ble_eq_true rfl) (Nat.le_of_ble_eq_true rfl) (Nat.le_of_ble_eq_true rfl) ?_
  refine j_putFP (pc := 248) dX12_init_248 f_X12_111 (Or.inr ⟨_, rfl⟩) rfl rfl fp_X12_111 ((znw_ok (by have := i31.2.1; omega)).trans i31.1) rfl ?_
  refine zMi.go i31 (by decide) rfl (by decide) (fun U32 i32 => ?_)
  refine j_aload_n (pc := 251) dX12_init_251 rfl ?_
  refine j_sipush (pc := 252) (v := 144) dX12_init_252 (by decide) ?_
  refine j_newa (pc := 255) (n := 144) (mc2 := 3) (ms2 := 516) dX12_init_255 (Or.inl ⟨rfl, rfl⟩) ac_int (by decide) (by decide) (Nat.le_of_ble_eq_true rfl) (Nat.le_of_ble_eq_true rfl) (Nat.le_of_ble_eq_true rfl) ?_
  refine j_putFP (pc := 257) dX12_init_257 f_X12_114 (Or.inr ⟨_, rfl⟩) rfl rfl fp_X12_114 ((znw_ok (by have := i32.2.1; omega)).trans i32.1) rfl ?_
  refine zMi.go i32 (by decide) rfl (by decide) (fun U33 i33 => ?_)
  refine j_aload_n (pc := 260) dX12_init_260 rfl ?_
  refine j_sipush (pc := 261) (v := 256) dX12_init_261 (by decide) ?_
  refine j_newa (pc := 264) (n := 256) (mc2 := 2) (ms2 := 260) dX12_init_264 (Or.inl ⟨rfl, rfl⟩) ac_int (by decide) (by decide) (Nat.le_of_ble_eq_true rfl) (Nat.le_of_ble_eq_true rfl) (Nat.le_of_ble_eq_true rfl) ?_
  refine j_putFP (pc := 266) dX12_init_266 f_X12_117 (Or.inr ⟨_, rfl⟩) rfl rfl fp_X12_117 ((znw_ok (by have := i33.2.1; omega)).trans i33.1) rfl ?_
  refine zMi.go i33 (by decide) rfl (by decide) (fun U34 i34 => ?_)
  refine j_aload_n (pc := 269) dX12_init_269 rfl ?_
  refine j_sipush (pc := 270) (v := 256) dX12_init_270 (by decide) ?_
  refine j_newa (pc := 273) (n := 256) (mc2 := 1) (ms2 := 4) dX12_init_273 (Or.inl ⟨rfl, rfl⟩) ac_int (by decide) (by decide) (Nat.le_of_ble_eq_true rfl) (Nat.le_of_ble_eq_true rfl) (Nat.le_of_ble_eq_true rfl) ?_
  refine j_putFP (pc := 275) dX12_init_275 f_X12_120 (Or.inr ⟨_, rfl⟩) rfl rfl fp_X12_120 ((znw_ok (by have := i34.2.1; omega)).trans i34.1) rfl ?_
  refine zMi.go i34 (by decide) rfl (by decide) (fun U35 i35 => ?_)
  refine j_aload_n (pc := 278) dX12_init_278 rfl ?_
  refine j_iconst (pc := 279) (v := 4) dX12_init_279 (by decide) ?_
  refine j_newa (pc := 280) (n := 4) (mc2 := 0) (ms2 := 0) dX12_init_280 (Or.inl ⟨rfl, rfl⟩) ac_int (by decide) (by decide) (Nat.le_of_ble_eq_true rfl) (Nat.le_of_ble_eq_true rfl) (Nat.le_of_ble_eq_true rfl) ?_
  refine j_putFP (pc := 282) dX12_init_282 f_X12_123 (Or.inr ⟨_, rfl⟩) rfl rfl fp_X12_123 ((znw_ok (by have := i35.2.1; omega)).trans i35.1) rfl ?_
  refine zMi.go i35 (by decide) rfl (by decide) (fun U36 i36 => ?_)
  refine j_vret (pc := 285) dX12_init_285 rfl ?_
  exact ⟨rfl, i36.all.1, i36.all.2, i36.2.2.2.2.2⟩
