/-! a table begins anew -/
section ZBEG
variable {E : zE} {lv mc ms : Nat} {M : zMI} {cc : ByteArray} {pc : Nat} {ls : List (Option zV)} {st : List zV} {S : zM} {Q : Option zV → zM → Prop}
theorem j_zast1 {a n : Nat} {x : Int32} {v : Int32} (hd : decode cc pc = .ok (.bastore, 1)) (ha : zkd S a = (16, n)) (hin : vp_in x n) (kk : zJ E lv mc ms M cc (pc + 1) ls st (zwI S a x.toNatClampNeg (v &&& 1)) Q) : zJ E lv mc ms M cc pc ls (zI v :: zI x :: zR a :: st) S Q := by
  intro p l e R s m args below meth c H locs cells slots mcT msT lsA C hP hL
  obtain ⟨a0, -, hc⟩ := hP.2.2.2 a 2 n ha (by decide)
  show W _ _ _ _ _ _ _ _ _ _ _ _ _ _ _ (F0 m pc lsA (.int v :: .int x :: zrv (zb E) a :: st.map (ztv E)))
  rw [zrv_ad a0]
  refine W.zast C.1 C.2.1 hc ((C.2.2.2.2.2.2.2.1.2.1.2 2 _ rfl).1 n _) (fun q => by cases q) (by rw [arrV_size]; exact hin) rfl rfl hd fun H' e1 e2 e3 => ?_
  rw [show narrow .boolean (.int v) = .int (v &&& 1) from rfl] at e1
  refine kk p l e R s m args below meth c H' _ cells slots mcT msT lsA ?_ (hP.put a0 rfl rfl zwI_o e2 e3 (fun u q hu hu' => ?_) (fun i q hi hi' => ?_)) hL
  · obtain ⟨c1, c2, c3, c4, c5, c6, c7, c8, c9, c10, c11, c12, c13⟩ := C
    exact ⟨c1, c2, c3, c4, c5, c6, c7, c8, c9, c10, c11, c12, fun q hq => by
      rcases List.mem_append.mp hq with h | h
      · exact c13 q h
      · rw [List.mem_singleton.mp h]; exact Nat.le_add_right _ _⟩
  · rw [ha] at hu
    injection hu with h7 h8
    omega
  · have e4 : i = 2 ∧ q = n := by rw [ha] at hi; injection hi with h7 h8; omega
    obtain ⟨rfl, rfl⟩ := e4
    rw [e1, arrV_store]
    congr 2
    funext z
    by_cases hz : z = x.toNatClampNeg
    · subst hz
      simp [updV, zfv, zat, zgI_self]
    · simp only [updV, hz, if_false]
      exact (zwI_s _ _ hz).symm
theorem j_zastG {a n i : Nat} {v : Int32} (hd : decode cc pc = .ok (.bastore, 1)) (ha : zkd S a = (16, n)) (hi : i < n) (hn : n ≤ 65536) (kk : zJ E lv mc ms M cc (pc + 1) ls st (zwI S a i (v &&& 1)) Q) : zJ E lv mc ms M cc pc ls (zI v :: zI (nI i) :: zR a :: st) S Q := j_zast1 hd ha (vp_in_nI hi (by omega)) (by rw [nI_clamp (by omega)]; exact kk)
end ZBEG
theorem zbi_a1 (b : Bool) : zbi b &&& 1 = zbi b := by cases b <;> decide
abbrev zX1 (c k : Nat) : Prop := 125 ≤ c ∧ c ≤ 128
abbrev zX2 (c k : Nat) : Prop := 135 ≤ c ∧ c ≤ 137
def zXB (c k : Nat) : Prop := (c = 123 ∧ (k = 6 ∨ k = 8 ∨ k = 12 ∨ (29 ≤ k ∧ k ≤ 31) ∨ k = 39 ∨ k = 46)) ∨ (125 ≤ c ∧ c ≤ 128) ∨ (135 ≤ c ∧ c ≤ 137) ∨ c = 151
def mB1 (S T : zM) (i : Nat) : Prop := ∀ o, o < i → zgI T 125 o = zgI S 130 o &&& 1 ∧ zgI T 126 o = zgI S 131 o ∧ zgI T 127 o = zgI S 132 o &&& 1 ∧ zgI T 128 o = zgI S 133 o &&& 1
def mB2 (T : zM) (n g : Nat) (vl : Nat → Nat → Int64) (i : Nat) : Prop := ∀ o, o < i → zgI T 135 o = zbi (decide (o < g)) ∧ zgI T 137 o = 0 ∧ (o < g → ∀ c, c < n → zgL T 136 (4 * o + c) = vl o c)
set_option maxRecDepth 20000 in
set_option maxHeartbeats 4000000 in
theorem l_beg1 {E : zE} {S S0 : zM} {Q : Option zV → zM → Prop} (hM : zMs S) (h0 : ∀ c k, 130 ≤ c → c ≤ 133 → zgI S c k = zgI S0 c k) (cont : ∀ T, zK zX1 S T → mB1 S0 T 4 → zJ E 1 0 0 mX12_begins cX12_begins 77 [some (zR 123), some (zI (nI 4)), none] [] T Q) : ∀ (m i : Nat) (T : zM), i + m = 4 → zK zX1 S T → mB1 S0 T i → zJ E 1 0 0 mX12_begins cX12_begins 18 [some (zR 123), some (zI (nI i)), none] [] T Q := by
  intro m
  induction m with
  | zero =>
    intro i T hi hk hq
    have mT := hk.ms hM
    refine j_iload_n (pc := 18) dX12_begins_18 rfl ?_
    refine j_iconst (pc := 19) (v := 4) dX12_begins_19 (by decide) ?_
    refine j_icmp_ge (pc := 20) (tgt := 77) dX12_begins_20 (by decide) (fun h20 => ?_) (fun h20 => absurd (nI_le (a := 4) (show 4 ≤ i by omega) (by omega)) h20)
    have ei : i = 4 := by omega
    rw [ei] at hq ⊢
    exact cont T hk hq
  | succ m ih =>
    intro i T hi hk hq
    have mT := hk.ms hM
    have e : ∀ c, 130 ≤ c → c ≤ 133 → zgI T c i = zgI S0 c i := fun c h1 h2 => (hk.2.2.2.1 _ _ (by unfold zX1; omega)).trans (h0 c i h1 h2)
    refine j_iload_n (pc := 18) dX12_begins_18 rfl ?_
    refine j_iconst (pc := 19) (v := 4) dX12_begins_19 (by decide) ?_
    refine j_icmp_ge (pc := 20) (tgt := 77) dX12_begins_20 (by decide) (fun h20 => absurd h20 (nI_ge (b := 4) (show i < 4 by omega) (by decide))) (fun h20 => ?_)
    refine j_aload_n (pc := 23) dX12_begins_23 rfl ?_
    refine j_getPv (pc := 24) dX12_begins_24 f_X12_19 (Or.inr ⟨_, rfl⟩) mT.1 (mp_isText mT) ?_
    refine j_iload_n (pc := 27) dX12_begins_27 rfl ?_
    refine j_aload_n (pc := 28) dX12_begins_28 rfl ?_
    refine j_getPv (pc := 29) dX12_begins_29 f_X12_36 (Or.inr ⟨_, rfl⟩) mT.1 (mp_readText mT) ?_
    refine j_iload_n (pc := 32) dX12_begins_32 rfl ?_
    refine j_zaldn (pc := 33) dX12_begins_33 (mk_readText mT) (by omega) (Nat.le_of_ble_eq_true rfl) (e 130 (by decide) (by decide)) ?_
    refine j_zastG (pc := 34) dX12_begins_34 (mk_isText mT) (by omega) (Nat.le_of_ble_eq_true rfl) ?_
    refine j_aload_n (pc := 35) dX12_begins_35 rfl ?_
    refine j_getPv (pc := 36) dX12_begins_36 f_X12_23 (Or.inr ⟨_, rfl⟩) mT.1 (mp_order mT) ?_
    refine j_iload_n (pc := 39) dX12_begins_39 rfl ?_
    refine j_aload_n (pc := 40) dX12_begins_40 rfl ?_
    refine j_getPv (pc := 41) dX12_begins_41 f_X12_39 (Or.inr ⟨_, rfl⟩) mT.1 (mp_newOrder mT) ?_
    refine j_iload_n (pc := 44) dX12_begins_44 rfl ?_
    refine j_ialdn (pc := 45) dX12_begins_45 (mk_newOrder mT) (by omega) (Nat.le_of_ble_eq_true rfl) (e 131 (by decide) (by decide)) ?_
    refine j_iastn (pc := 46) dX12_begins_46 (mk_order mT) (by omega) (Nat.le_of_ble_eq_true rfl) ?_
    refine j_aload_n (pc := 47) dX12_begins_47 rfl ?_
    refine j_getPv (pc := 48) dX12_begins_48 f_X12_26 (Or.inr ⟨_, rfl⟩) mT.1 (mp_isDown mT) ?_
    refine j_iload_n (pc := 51) dX12_begins_51 rfl ?_
    refine j_aload_n (pc := 52) dX12_begins_52 rfl ?_
    refine j_getPv (pc := 53) dX12_begins_53 f_X12_42 (Or.inr ⟨_, rfl⟩) mT.1 (mp_newDown mT) ?_
    refine j_iload_n (pc := 56) dX12_begins_56 rfl ?_
    refine j_zaldn (pc := 57) dX12_begins_57 (mk_newDown mT) (by omega) (Nat.le_of_ble_eq_true rfl) (e 132 (by decide) (by decide)) ?_
    refine j_zastG (pc := 58) dX12_begins_58 (mk_isDown mT) (by omega) (Nat.le_of_ble_eq_true rfl) ?_
    refine j_aload_n (pc := 59) dX12_begins_59 rfl ?_
    refine j_getPv (pc := 60) dX12_begins_60 f_X12_29 (Or.inr ⟨_, rfl⟩) mT.1 (mp_isFirst mT) ?_
    refine j_iload_n (pc := 63) dX12_begins_63 rfl ?_
    refine j_aload_n (pc := 64) dX12_begins_64 rfl ?_
    refine j_getPv (pc := 65) dX12_begins_65 f_X12_45 (Or.inr ⟨_, rfl⟩) mT.1 (mp_newFirst mT) ?_
    refine j_iload_n (pc := 68) dX12_begins_68 rfl ?_
    refine j_zaldn (pc := 69) dX12_begins_69 (mk_newFirst mT) (by omega) (Nat.le_of_ble_eq_true rfl) (e 133 (by decide) (by decide)) ?_
    refine j_zastG (pc := 70) dX12_begins_70 (mk_isFirst mT) (by omega) (Nat.le_of_ble_eq_true rfl) ?_
    refine j_iinc (pc := 71) (v := _ + 1) (ls' := [_, _, _]) dX12_begins_71 rfl rfl (by decide) rfl rfl ?_
    refine j_goto (pc := 74) (tgt := 18) dX12_begins_74 (by decide) ?_
    rw [nI_1]
    refine ih (i + 1) _ (by omega) ((((hk.tr (zK.wI (by unfold zX1; omega))).tr (zK.wI (by unfold zX1; omega))).tr (zK.wI (by unfold zX1; omega))).tr (zK.wI (by unfold zX1; omega))) (fun o ho => ?_)
    by_cases ee : o = i
    · rw [ee]
      refine ⟨?_, ?_, ?_, ?_⟩
      · rw [zgI_ne (by decide), zgI_ne (by decide), zgI_ne (by decide), zgI_self]
      · rw [zgI_ne (by decide), zgI_ne (by decide), zgI_self]
      · rw [zgI_ne (by decide), zgI_self]
      · rw [zgI_self]
    · have := hq o (by omega)
      refine ⟨?_, ?_, ?_, ?_⟩
      · rw [zgI_ne (by decide), zgI_ne (by decide), zgI_ne (by decide), zgI_nk ee]
        exact this.1
      · rw [zgI_ne (by decide), zgI_ne (by decide), zgI_nk ee, zgI_ne (by decide)]
        exact this.2.1
      · rw [zgI_ne (by decide), zgI_nk ee, zgI_ne (by decide), zgI_ne (by decide)]
        exact this.2.2.1
      · rw [zgI_nk ee, zgI_ne (by decide), zgI_ne (by decide), zgI_ne (by decide)]
        exact this.2.2.2
set_option maxRecDepth 20000 in
set_option maxHeartbeats 4000000 in
theorem l_beg2 {E : zE} {S : zM} {Q : Option zV → zM → Prop} {n g i : Nat} {vl : Nat → Nat → Int64} (hM : zMs S) (hn : zgI S 123 6 = nI n) (hn4 : n ≤ 4) (hg : zgI S 123 20 = nI g) (hg3 : g ≤ 30) (hv : ∀ i c, c < n → i < g → zgL S 134 (4 * i + c) = vl i c) (hi : i < 64) (hig : i < g) (cont : ∀ T c, zK (fun c k => c = 136 ∧ 4 * i ≤ k ∧ k < 4 * i + 4) S T → (∀ o, o < n → zgL T 136 (4 * i + o) = vl i o) → zJ E 1 0 0 mX12_begins cX12_begins 173 [some (zR 123), some (zI (nI i)), some (zI (nI c))] [] T Q) : ∀ (m c : Nat) (T : zM), c + m = n → zK (fun c k => c = 136 ∧ 4 * i ≤ k ∧ k < 4 * i + 4) S T → (∀ o, o < c → zgL T 136 (4 * i + o) = vl i o) → zJ E 1 0 0 mX12_begins cX12_begins 131 [some (zR 123), some (zI (nI i)), some (zI (nI c))] [] T Q := by
  intro m
  induction m with
  | zero =>
    intro c T hc hk hq
    have mT := hk.ms hM
    have g6 : zgI T 123 6 = nI n := (hk.2.2.2.1 _ _ (by omega)).trans hn
    have g20 : zgI T 123 20 = nI g := (hk.2.2.2.1 _ _ (by omega)).trans hg
    refine j_iload_n (pc := 131) dX12_begins_131 rfl ?_
    refine j_aload_n (pc := 132) dX12_begins_132 rfl ?_
    refine j_getIv (pc := 133) dX12_begins_133 f_X12_271 (Or.inl rfl) mT.1 (g6) ?_
    refine j_icmp_ge (pc := 136) (tgt := 173) dX12_begins_136 (by decide) (fun h136 => ?_) (fun h136 => absurd (nI_le (show n ≤ c by omega) (by omega)) h136)
    have ec : c = n := by omega
    rw [ec] at hq ⊢
    exact cont T n hk hq
  | succ m ih =>
    intro c T hc hk hq
    have mT := hk.ms hM
    have g6 : zgI T 123 6 = nI n := (hk.2.2.2.1 _ _ (by omega)).trans hn
    have g20 : zgI T 123 20 = nI g := (hk.2.2.2.1 _ _ (by omega)).trans hg
    refine j_iload_n (pc := 131) dX12_begins_131 rfl ?_
    refine j_aload_n (pc := 132) dX12_begins_132 rfl ?_
    refine j_getIv (pc := 133) dX12_begins_133 f_X12_271 (Or.inl rfl) mT.1 (g6) ?_
    refine j_icmp_ge (pc := 136) (tgt := 173) dX12_begins_136 (by decide) (fun h136 => absurd h136 (nI_ge (show c < n by omega) (by omega))) (fun h136 => ?_)
    refine j_iload_n (pc := 139) dX12_begins_139 rfl ?_
    refine j_aload_n (pc := 140) dX12_begins_140 rfl ?_
    refine j_getIv (pc := 141) dX12_begins_141 f_X12_233 (Or.inl rfl) mT.1 (g20) ?_
    refine j_icmp_ge (pc := 144) (tgt := 173) dX12_begins_144 (by decide) (fun h144 => absurd h144 (nI_ge hig (by omega))) (fun h144 => ?_)
    refine j_aload_n (pc := 147) dX12_begins_147 rfl ?_
    refine j_getPv (pc := 148) dX12_begins_148 f_X12_54 (Or.inr ⟨_, rfl⟩) mT.1 (mp_values mT) ?_
    refine j_iconst (pc := 151) (v := 4) dX12_begins_151 (by decide) ?_
    refine j_iload_n (pc := 152) dX12_begins_152 rfl ?_
    refine j_imul (pc := 153) dX12_begins_153 ?_
    rw [show (4 : Int32) * nI i = nI (4 * i) from pk_mul 4 _]
    refine j_iload_n (pc := 154) dX12_begins_154 rfl ?_
    refine j_iadd (pc := 155) dX12_begins_155 ?_
    rw [nI_add]
    refine j_aload_n (pc := 156) dX12_begins_156 rfl ?_
    refine j_getPv (pc := 157) dX12_begins_157 f_X12_48 (Or.inr ⟨_, rfl⟩) mT.1 (mp_readValues mT) ?_
    refine j_iconst (pc := 160) (v := 4) dX12_begins_160 (by decide) ?_
    refine j_iload_n (pc := 161) dX12_begins_161 rfl ?_
    refine j_imul (pc := 162) dX12_begins_162 ?_
    rw [show (4 : Int32) * nI i = nI (4 * i) from pk_mul 4 _]
    refine j_iload_n (pc := 163) dX12_begins_163 rfl ?_
    refine j_iadd (pc := 164) dX12_begins_164 ?_
    rw [nI_add]
    refine j_laldn (pc := 165) dX12_begins_165 (mk_readValues mT) (by omega) (Nat.le_of_ble_eq_true rfl) ((hk.2.2.2.2 _ _ (by omega)).trans (hv i c (by omega) hig)) ?_
    refine j_lastn (pc := 166) dX12_begins_166 (mk_values mT) (by omega) (Nat.le_of_ble_eq_true rfl) ?_
    refine j_iinc (pc := 167) (v := _ + 1) (ls' := [_, _, _]) dX12_begins_167 rfl rfl (by decide) rfl rfl ?_
    refine j_goto (pc := 170) (tgt := 131) dX12_begins_170 (by decide) ?_
    rw [nI_1]
    refine ih (c + 1) _ (by omega) (hk.tr (zK.wL ⟨rfl, by omega, by omega⟩)) (fun o ho => ?_)
    rw [zgL_wL]
    by_cases e : o = c
    · rw [if_pos ⟨rfl, by omega⟩, e]
    · rw [if_neg (by omega)]
      exact hq o (by omega)
set_option maxRecDepth 20000 in
set_option maxHeartbeats 4000000 in
theorem l_beg3 {E : zE} {S : zM} {Q : Option zV → zM → Prop} {n g : Nat} {vl : Nat → Nat → Int64} (hM : zMs S) (hn : zgI S 123 6 = nI n) (hn4 : n ≤ 4) (hg : zgI S 123 20 = nI g) (hg3 : g ≤ 30) (hv : ∀ i c, c < n → i < g → zgL S 134 (4 * i + c) = vl i c) (cont : ∀ T (y : Option zV), zK zX2 S T → mB2 T n g vl 64 → zJ E 1 0 0 mX12_begins cX12_begins 179 [some (zR 123), some (zI (nI 64)), y] [] T Q) : ∀ (m i : Nat) (y : Option zV) (T : zM), i + m = 64 → zK zX2 S T → mB2 T n g vl i → zJ E 1 0 0 mX12_begins cX12_begins 97 [some (zR 123), some (zI (nI i)), y] [] T Q := by
  intro m
  induction m with
  | zero =>
    intro i y T hi hk hq
    have mT := hk.ms hM
    refine j_iload_n (pc := 97) dX12_begins_97 rfl ?_
    refine j_bipush (pc := 98) (v := 64) dX12_begins_98 (by decide) ?_
    refine j_icmp_ge (pc := 100) (tgt := 179) dX12_begins_100 (by decide) (fun h100 => ?_) (fun h100 => absurd (nI_le (a := 64) (show 64 ≤ i by omega) (by omega)) h100)
    have ei : i = 64 := by omega
    rw [ei] at hq ⊢
    exact cont T y hk hq
  | succ m ih =>
    intro i y T hi hk hq
    have mT := hk.ms hM
    have g6 : zgI T 123 6 = nI n := (hk.2.2.2.1 _ _ (by omega)).trans hn
    have g20 : zgI T 123 20 = nI g := (hk.2.2.2.1 _ _ (by omega)).trans hg
    have hvT : ∀ i c, c < n → i < g → zgL T 134 (4 * i + c) = vl i c := fun i c hc hi => (hk.2.2.2.2 _ _ (by omega)).trans (hv i c hc hi)
    by_cases hig : i < g
    case pos =>
      refine j_iload_n (pc := 97) dX12_begins_97 rfl ?_
      refine j_bipush (pc := 98) (v := 64) dX12_begins_98 (by decide) ?_
      refine j_icmp_ge (pc := 100) (tgt := 179) dX12_begins_100 (by decide) (fun h100 => absurd h100 (nI_ge (b := 64) (show i < 64 by omega) (by decide))) (fun h100 => ?_)
      refine j_aload_n (pc := 103) dX12_begins_103 rfl ?_
      refine j_getPv (pc := 104) dX12_begins_104 f_X12_51 (Or.inr ⟨_, rfl⟩) mT.1 (mp_isThere mT) ?_
      refine j_iload_n (pc := 107) dX12_begins_107 rfl ?_
      refine j_iload_n (pc := 108) dX12_begins_108 rfl ?_
      refine j_aload_n (pc := 109) dX12_begins_109 rfl ?_
      refine j_getIv (pc := 110) dX12_begins_110 f_X12_233 (Or.inl rfl) mT.1 (g20) ?_
      refine j_icmp_ge (pc := 113) (tgt := 120) dX12_begins_113 (by decide) (fun h113 => absurd h113 (nI_ge hig (by omega))) (fun h113 => ?_)
      refine j_iconst (pc := 116) (v := 1) dX12_begins_116 (by decide) ?_
      refine j_goto (pc := 117) (tgt := 121) dX12_begins_117 (by decide) ?_
      refine j_zastn (pc := 121) dX12_begins_121 (mk_isThere mT) (by omega) (Nat.le_of_ble_eq_true rfl) (by first | assumption | decide) ?_
      refine j_aload_n (pc := 122) dX12_begins_122 rfl ?_
      refine j_getPv (pc := 123) dX12_begins_123 f_X12_57 (Or.inr ⟨_, rfl⟩) mT.1 (mp_changedAt mT) ?_
      refine j_iload_n (pc := 126) dX12_begins_126 rfl ?_
      refine j_iconst (pc := 127) (v := 0) dX12_begins_127 (by decide) ?_
      refine j_iastn (pc := 128) dX12_begins_128 (mk_changedAt mT) (by omega) (Nat.le_of_ble_eq_true rfl) ?_
      refine j_iconst (pc := 129) (v := 0) dX12_begins_129 (by decide) ?_
      refine j_istore_n (pc := 130) (ls' := [_, _, _]) dX12_begins_130 (by decide) rfl rfl ?_
      refine l_beg2 (S := (zwI (zwI T 135 i 1) 137 i 0)) (by exact mT) (by exact g6) hn4 (by exact g20) hg3 (by exact hvT) (by omega) hig (fun T2 c k2 q2 => ?_) n 0 _ (by omega) zK.rf (fun o ho => absurd ho (Nat.not_lt_zero o))
      refine j_iinc (pc := 173) (v := _ + 1) (ls' := [_, _, _]) dX12_begins_173 rfl rfl (by decide) rfl rfl ?_
      refine j_goto (pc := 176) (tgt := 97) dX12_begins_176 (by decide) ?_
      rw [nI_1]
      refine ih (i + 1) _ _ (by omega) ((hk.tr ((zK.wI (by unfold zX2; omega)).tr (zK.wI (by unfold zX2; omega)))).tr (k2.mo (fun c k z => by unfold zX2; omega))) (fun o ho => ?_)
      by_cases ee : o = i
      · rw [ee]
        refine ⟨?_, ?_, ?_⟩
        · rw [k2.2.2.2.1 _ _ (by omega), zgI_ne (by decide), zgI_self, decide_eq_true hig]; rfl
        · rw [k2.2.2.2.1 _ _ (by omega), zgI_self]
        · exact fun _ c hc => q2 c hc
      · have hqo := hq o (by omega)
        refine ⟨?_, ?_, ?_⟩
        · rw [k2.2.2.2.1 _ _ (by omega), zgI_ne (by decide), zgI_nk ee]; exact hqo.1
        · rw [k2.2.2.2.1 _ _ (by omega), zgI_nk ee, zgI_ne (by decide)]; exact hqo.2.1
        · exact fun hg c hc => (k2.2.2.2.2 _ _ (by omega)).trans (hqo.2.2 hg c hc)
    case neg =>
      have hig : g ≤ i := Nat.le_of_not_lt hig
      refine j_iload_n (pc := 97) dX12_begins_97 rfl ?_
      refine j_bipush (pc := 98) (v := 64) dX12_begins_98 (by decide) ?_
      refine j_icmp_ge (pc := 100) (tgt := 179) dX12_begins_100 (by decide) (fun h100 => absurd h100 (nI_ge (b := 64) (show i < 64 by omega) (by decide))) (fun h100 => ?_)
      refine j_aload_n (pc := 103) dX12_begins_103 rfl ?_
      refine j_getPv (pc := 104) dX12_begins_104 f_X12_51 (Or.inr ⟨_, rfl⟩) mT.1 (mp_isThere mT) ?_
      refine j_iload_n (pc := 107) dX12_begins_107 rfl ?_
      refine j_iload_n (pc := 108) dX12_begins_108 rfl ?_
      refine j_aload_n (pc := 109) dX12_begins_109 rfl ?_
      refine j_getIv (pc := 110) dX12_begins_110 f_X12_233 (Or.inl rfl) mT.1 (g20) ?_
      refine j_icmp_ge (pc := 113) (tgt := 120) dX12_begins_113 (by decide) (fun h113 => ?_) (fun h113 => absurd (nI_le hig (by omega)) h113)
      refine j_iconst (pc := 120) (v := 0) dX12_begins_120 (by decide) ?_
      refine j_zastn (pc := 121) dX12_begins_121 (mk_isThere mT) (by omega) (Nat.le_of_ble_eq_true rfl) (by first | assumption | decide) ?_
      refine j_aload_n (pc := 122) dX12_begins_122 rfl ?_
      refine j_getPv (pc := 123) dX12_begins_123 f_X12_57 (Or.inr ⟨_, rfl⟩) mT.1 (mp_changedAt mT) ?_
      refine j_iload_n (pc := 126) dX12_begins_126 rfl ?_
      refine j_iconst (pc := 127) (v := 0) dX12_begins_127 (by decide) ?_
      refine j_iastn (pc := 128) dX12_begins_128 (mk_changedAt mT) (by omega) (Nat.le_of_ble_eq_true rfl) ?_
      refine j_iconst (pc := 129) (v := 0) dX12_begins_129 (by decide) ?_
      refine j_istore_n (pc := 130) (ls' := [_, _, _]) dX12_begins_130 (by decide) rfl rfl ?_
      refine j_iload_n (pc := 131) dX12_begins_131 rfl ?_
      refine j_aload_n (pc := 132) dX12_begins_132 rfl ?_
      refine j_getIv (pc := 133) dX12_begins_133 f_X12_271 (Or.inl rfl) mT.1 (g6) ?_
      refine j_icmp_ge (pc := 136) (tgt := 173) dX12_begins_136 (by decide) (fun h136 => ?_) (fun h136 => ?_)
      · refine j_iinc (pc := 173) (v := _ + 1) (ls' := [_, _, _]) dX12_begins_173 rfl rfl (by decide) rfl rfl ?_
        refine j_goto (pc := 176) (tgt := 97) dX12_begins_176 (by decide) ?_
        rw [nI_1]
        refine ih (i + 1) _ _ (by omega) (hk.tr ((zK.wI (by unfold zX2; omega)).tr (zK.wI (by unfold zX2; omega)))) (fun o ho => ?_)
        by_cases ee : o = i
        · rw [ee]
          refine ⟨?_, ?_, ?_⟩
          · rw [zgI_ne (by decide), zgI_self, decide_eq_false (by omega)]; rfl
          · rw [zgI_self]
          · exact fun q => absurd q (by omega)
        · have hqo := hq o (by omega)
          refine ⟨?_, ?_, ?_⟩
          · rw [zgI_ne (by decide), zgI_nk ee]; exact hqo.1
          · rw [zgI_nk ee, zgI_ne (by decide)]; exact hqo.2.1
          · exact hqo.2.2
      · refine j_iload_n (pc := 139) dX12_begins_139 rfl ?_
        refine j_aload_n (pc := 140) dX12_begins_140 rfl ?_
        refine j_getIv (pc := 141) dX12_begins_141 f_X12_233 (Or.inl rfl) mT.1 (g20) ?_
        refine j_icmp_ge (pc := 144) (tgt := 173) dX12_begins_144 (by decide) (fun h144 => ?_) (fun h144 => absurd (nI_le hig (by omega)) h144)
        refine j_iinc (pc := 173) (v := _ + 1) (ls' := [_, _, _]) dX12_begins_173 rfl rfl (by decide) rfl rfl ?_
        refine j_goto (pc := 176) (tgt := 97) dX12_begins_176 (by decide) ?_
        rw [nI_1]
        refine ih (i + 1) _ _ (by omega) (hk.tr ((zK.wI (by unfold zX2; omega)).tr (zK.wI (by unfold zX2; omega)))) (fun o ho => ?_)
        by_cases ee : o = i
        · rw [ee]
          refine ⟨?_, ?_, ?_⟩
          · rw [zgI_ne (by decide), zgI_self, decide_eq_false (by omega)]; rfl
          · rw [zgI_self]
          · exact fun q => absurd q (by omega)
        · have hqo := hq o (by omega)
          refine ⟨?_, ?_, ?_⟩
          · rw [zgI_ne (by decide), zgI_nk ee]; exact hqo.1
          · rw [zgI_nk ee, zgI_ne (by decide)]; exact hqo.2.1
          · exact hqo.2.2
set_option maxRecDepth 20000 in
set_option maxHeartbeats 4000000 in
theorem n_begins {E : zE} {S : zM} {X : List Nat} {w : zPi} (h : mPd S X w) : zSp E 1 0 0 mX12_begins cX12_begins [zR 123] S (fun r T => r = none ∧ zK zXB S T ∧ (zgI T 123 6 = nI w.2.1.length ∧ zgI T 123 8 = nI w.2.2.2.1.length ∧ zgI T 123 12 = 1 ∧ zgI T 123 29 = 0 ∧ zgI T 123 30 = 0 ∧ zgI T 123 31 = nI w.2.2.2.2.1 ∧ zgI T 123 39 = 0 ∧ zgI T 123 46 = 0) ∧ mB1 S T 4 ∧ mB2 T w.2.1.length w.2.2.2.2.1 w.2.2.2.2.2 64 ∧ ∀ r, r < 4 → zgI T 151 r = 0) := by
  refine zSp.of (by decide) rfl (Nat.le_of_ble_eq_true rfl) rfl ?_
  have hM := h.1
  have hlN := h.2.2.2.2.1.2.1
  refine j_aload_n (pc := 0) dX12_begins_0 rfl ?_
  refine j_aload_n (pc := 1) dX12_begins_1 rfl ?_
  refine j_getIv (pc := 2) dX12_begins_2 f_X12_188 (Or.inl rfl) hM.1 (h.2.2.2.2.1.1) ?_
  refine j_putI (pc := 5) dX12_begins_5 f_X12_271 rfl hM.1 rfl ?_
  refine j_aload_n (pc := 8) dX12_begins_8 rfl ?_
  refine j_aload_n (pc := 9) dX12_begins_9 rfl ?_
  refine j_getIv (pc := 10) dX12_begins_10 f_X12_217 (Or.inl rfl) hM.1 ((zgI_nk (by decide)).trans h.2.2.2.2.2.1.1) ?_
  refine j_putI (pc := 13) dX12_begins_13 f_X12_274 rfl hM.1 rfl ?_
  refine j_iconst (pc := 16) (v := 0) dX12_begins_16 (by decide) ?_
  refine j_istore_n (pc := 17) (ls' := [_, _, _]) dX12_begins_17 (by decide) rfl rfl ?_
  refine l_beg1 (S := zwI (zwI S 123 6 (nI w.2.1.length)) 123 8 (nI w.2.2.2.1.length)) (S0 := S) (by exact hM) (fun c k h1 h2 => by rw [zgI_ne (by omega), zgI_ne (by omega)]) (fun T1 k1 b1 => ?_) 4 0 _ rfl zK.rf (fun o ho => absurd ho (Nat.not_lt_zero o))
  have n1 := k1.ms (by exact hM)
  have a20 : zgI T1 123 20 = nI w.2.2.2.2.1 := (k1.2.2.2.1 _ _ (by unfold zX1; omega)).trans ((zgI_nk (by decide)).trans ((zgI_nk (by decide)).trans h.2.2.2.2.2.2.1.1))
  have g6 : zgI T1 123 6 = nI w.2.1.length := (k1.2.2.2.1 _ _ (by unfold zX1; omega)).trans ((zgI_nk (by decide)).trans zgI_self)
  have g8 : zgI T1 123 8 = nI w.2.2.2.1.length := (k1.2.2.2.1 _ _ (by unfold zX1; omega)).trans zgI_self
  refine j_aload_n (pc := 77) dX12_begins_77 rfl ?_
  refine j_iconst (pc := 78) (v := 0) dX12_begins_78 (by decide) ?_
  refine j_putI (pc := 79) dX12_begins_79 f_X12_277 rfl n1.1 rfl ?_
  refine j_aload_n (pc := 82) dX12_begins_82 rfl ?_
  refine j_iconst (pc := 83) (v := 0) dX12_begins_83 (by decide) ?_
  refine j_putI (pc := 84) dX12_begins_84 f_X12_280 rfl n1.1 rfl ?_
  refine j_aload_n (pc := 87) dX12_begins_87 rfl ?_
  refine j_aload_n (pc := 88) dX12_begins_88 rfl ?_
  refine j_getIv (pc := 89) dX12_begins_89 f_X12_233 (Or.inl rfl) n1.1 ((zgI_nk (by decide)).trans ((zgI_nk (by decide)).trans a20)) ?_
  refine j_putI (pc := 92) dX12_begins_92 f_X12_283 rfl n1.1 rfl ?_
  refine j_iconst (pc := 95) (v := 0) dX12_begins_95 (by decide) ?_
  refine j_istore_n (pc := 96) (ls' := [_, _, _]) dX12_begins_96 (by decide) rfl rfl ?_
  refine l_beg3 (S := zwI (zwI (zwI T1 123 29 0) 123 30 0) 123 31 (nI w.2.2.2.2.1)) (n := w.2.1.length) (g := w.2.2.2.2.1) (vl := w.2.2.2.2.2) (by exact n1) (by rw [zgI_nk (by decide), zgI_nk (by decide), zgI_nk (by decide)]; exact g6) hlN.2 (by rw [zgI_nk (by decide), zgI_nk (by decide), zgI_nk (by decide)]; exact a20) h.2.2.2.2.2.2.1.2 (fun i c hc hi => (k1.2.2.2.2 _ _ (by unfold zX1; omega)).trans (h.2.2.2.2.2.2.2 i c (by omega) (Or.inl hi))) (fun T2 y k2 b2 => ?_) 64 0 _ _ rfl zK.rf (fun o ho => absurd ho (Nat.not_lt_zero o))
  have n2 := k2.ms (by exact n1)
  refine j_aload_n (pc := 179) dX12_begins_179 rfl ?_
  refine j_iconst (pc := 180) (v := 0) dX12_begins_180 (by decide) ?_
  refine j_putI (pc := 181) dX12_begins_181 f_X12_286 rfl n2.1 rfl ?_
  refine j_aload_n (pc := 184) dX12_begins_184 rfl ?_
  refine j_iconst (pc := 185) (v := 0) dX12_begins_185 (by decide) ?_
  refine j_putZ (pc := 186) dX12_begins_186 f_X12_289 rfl (by first | assumption | decide) n2.1 rfl ?_
  refine j_aload_n (pc := 189) dX12_begins_189 rfl ?_
  refine j_callV (pc := 190) (t := 12) (n_nobody (by exact n2)) dX12_begins_190 l_X12_293 mk_X12_nobodyReads mv_X12_nobodyReads (by decide) rfl n2.1 (by decide) rfl rfl (Nat.le_of_ble_eq_true rfl) (Nat.le_refl _) (Nat.le_refl _) (fun r T3 h_1 => ?_)
  obtain ⟨rfl, k3, z3⟩ := h_1
  have n3 := k3.ms (by exact n2)
  refine j_aload_n (pc := 193) dX12_begins_193 rfl ?_
  refine j_iconst (pc := 194) (v := 1) dX12_begins_194 (by decide) ?_
  refine j_putZ (pc := 195) dX12_begins_195 f_X12_296 rfl (by first | assumption | decide) n3.1 rfl ?_
  refine j_vret (pc := 198) dX12_begins_198 rfl ?_
  have c2 : ∀ c k, ¬ zX2 c k → zgI T2 c k = zgI (zwI (zwI (zwI T1 123 29 0) 123 30 0) 123 31 (nI w.2.2.2.2.1)) c k := fun c k q => k2.2.2.2.1 _ _ q
  have c3 : ∀ c k, c ≠ 151 → zgI T3 c k = zgI (zwI (zwI T2 123 39 0) 123 46 0) c k := fun c k q => k3.2.2.2.1 _ _ q
  refine ⟨rfl, ((((((((zK.wI (by unfold zXB; omega)).tr (zK.wI (by unfold zXB; omega))).tr (k1.mo (fun c k z => by unfold zX1 at z; unfold zXB; omega))).tr (((zK.wI (by unfold zXB; omega)).tr (zK.wI (by unfold zXB; omega))).tr (zK.wI (by unfold zXB; omega)))).tr (k2.mo (fun c k z => by unfold zX2 at z; unfold zXB; omega))).tr ((zK.wI (by unfold zXB; omega)).tr (zK.wI (by unfold zXB; omega)))).tr (k3.mo (fun c k z => by unfold zXB; omega))).tr (zK.wI (by unfold zXB; omega))), ⟨?_, ?_, zgI_self, ?_, ?_, ?_, ?_, ?_⟩, fun o ho => ?_, fun o ho => ?_, fun r hr => ?_⟩
  · rw [zgI_nk (by decide), c3 _ _ (by decide), zgI_nk (by decide), zgI_nk (by decide), c2 _ _ (by unfold zX2; omega), zgI_nk (by decide), zgI_nk (by decide), zgI_nk (by decide)]
    exact g6
  · rw [zgI_nk (by decide), c3 _ _ (by decide), zgI_nk (by decide), zgI_nk (by decide), c2 _ _ (by unfold zX2; omega), zgI_nk (by decide), zgI_nk (by decide), zgI_nk (by decide)]
    exact g8
  · rw [zgI_nk (by decide), c3 _ _ (by decide), zgI_nk (by decide), zgI_nk (by decide), c2 _ _ (by unfold zX2; omega), zgI_nk (by decide), zgI_nk (by decide), zgI_self]
  · rw [zgI_nk (by decide), c3 _ _ (by decide), zgI_nk (by decide), zgI_nk (by decide), c2 _ _ (by unfold zX2; omega), zgI_nk (by decide), zgI_self]
  · rw [zgI_nk (by decide), c3 _ _ (by decide), zgI_nk (by decide), zgI_nk (by decide), c2 _ _ (by unfold zX2; omega), zgI_self]
  · rw [zgI_nk (by decide), c3 _ _ (by decide), zgI_nk (by decide), zgI_self]
  · rw [zgI_nk (by decide), c3 _ _ (by decide), zgI_self]
  · have e : ∀ c, 125 ≤ c → c ≤ 128 → zgI (zwI T3 123 12 1) c o = zgI T1 c o := fun c h1 h2 => by
      rw [zgI_ne (by omega), c3 _ _ (by omega), zgI_ne (by omega), zgI_ne (by omega), c2 _ _ (by unfold zX2; omega), zgI_ne (by omega), zgI_ne (by omega), zgI_ne (by omega)]
    rw [e 125 (by decide) (by decide), e 126 (by decide) (by decide), e 127 (by decide) (by decide), e 128 (by decide) (by decide)]
    exact b1 o ho
  · have := b2 o ho
    refine ⟨?_, ?_, fun hg c hc => ?_⟩
    · rw [zgI_ne (by decide), c3 _ _ (by decide), zgI_ne (by decide), zgI_ne (by decide)]
      exact this.1
    · rw [zgI_ne (by decide), c3 _ _ (by decide), zgI_ne (by decide), zgI_ne (by decide)]
      exact this.2.1
    · exact (k3.2.2.2.2 _ _ (by omega)).trans (this.2.2 hg c hc)
  · rw [zgI_ne (by decide)]
    exact z3 r hr
