/-! READER.take: a stretch of rows is seen -/
def zseg (B : List Nat) (f e : Nat) : List Nat := (B.drop f).take (e - f)
def zsg (sg : Nat → Nat) (l : List Nat) : Nat → Nat := fun i => sg i + l.count i
def zsa (sa : Nat → Nat) (l : List Nat) (now : Nat) : Nat → Nat := fun i => if i ∈ l then now else sa i
theorem zseg_1 {B : List Nat} {f n x : Nat} (h : B[f + n]? = some x) : zseg B f (f + (n + 1)) = zseg B f (f + n) ++ [x] := by
  unfold zseg
  rw [show f + (n + 1) - f = n + 1 by omega, show f + n - f = n by omega, List.take_add_one, List.getElem?_drop, h]
  rfl
theorem zseg_0 {B : List Nat} {f : Nat} : zseg B f (f + 0) = [] := by
  unfold zseg
  rw [show f + 0 - f = 0 by omega, List.take_zero]
theorem zsg_nil {sg : Nat → Nat} : zsg sg [] = sg := by
  funext i
  exact Nat.add_zero _
theorem zsa_nil {sa : Nat → Nat} {now : Nat} : zsa sa [] now = sa := by
  funext i
  exact if_neg List.not_mem_nil
def zRe (f e : Nat) (on en : Bool) : Bool := if f < e then false else if on then true else en
def zRk (O : List zOe) (t : zRW) (B : List Nat) (f e : Nat) (on : Bool) (L : List Nat) : List Nat := if f < e then zkf O t (B[if on then e - 1 else f]?.getD 0) else L
theorem zsg_1 {sg : Nat → Nat} {l : List Nat} {x : Nat} : zsg (zsg sg l) [x] = zsg sg (l ++ [x]) := by
  funext i
  unfold zsg
  rw [List.count_append, Nat.add_assoc]
theorem zsa_1 {sa : Nat → Nat} {l : List Nat} {x now : Nat} : zsa (zsa sa l now) [x] now = zsa sa (l ++ [x]) now := by
  funext i
  unfold zsa
  by_cases h1 : i ∈ [x]
  · rw [if_pos h1, if_pos (List.mem_append_right _ h1)]
  · rw [if_neg h1]
    by_cases h2 : i ∈ l
    · rw [if_pos h2, if_pos (List.mem_append_left _ h2)]
    · rw [if_neg h2, if_neg (fun q => (List.mem_append.mp q).elim h2 h1)]
theorem zRd.upd {S T : zM} {a : Nat} {bg sb en en' : Bool} {sz vr pg pg' : Nat} {sg sa : Nat → Nat} {L L' : List Nat} (h : zRd S a bg sb en sz vr pg sg sa L) (f : zF (fun c => c = a ∨ c = a + 3 ∨ c = a + 4) S T) (hi : ∀ k, k ≠ 5 → k ≠ 8 → zgI T a k = zgI S a k) (h5 : zgI T a 5 = zbi en') (h8 : zgI T a 8 = nI pg') (hB : zBy T (a + 3) (a + 4) 34 L') : zRd T a bg sb en' sz vr pg' sg sa L' := by
  obtain ⟨hs, -, ⟨i1, i2, i3, i4, i5, i6⟩, e1⟩ := h
  refine ⟨by rw [f.1, f.2.2.1]; exact hs, hB, ⟨(hi 3 (by decide) (by decide)).trans i1, (hi 4 (by decide) (by decide)).trans i2, h5, (hi 6 (by decide) (by decide)).trans i4, (hi 7 (by decide) (by decide)).trans i5, h8⟩, fun i h => ?_⟩
  rw [f.2.2.2.1 (a + 1) (by omega), f.2.2.2.1 (a + 2) (by omega)]
  exact e1 i h
theorem zRd.see {S : zM} {a : Nat} {bg sb en : Bool} {sz vr pg : Nat} {sg sa : Nat → Nat} {L : List Nat} (h : zRd S a bg sb en sz vr pg sg sa L) (x now : Nat) : zRd (zwI (zwI S (a + 1) x (nI (sg x + 1))) (a + 2) x (nI now)) a bg sb en sz vr pg (zsg sg [x]) (zsa sa [x] now) L := by
  have f9 : zF (fun c => c = a + 1 ∨ c = a + 2) S (zwI (zwI S (a + 1) x (nI (sg x + 1))) (a + 2) x (nI now)) := (zF.wI (Or.inl rfl)).tr (zF.wI (Or.inr rfl))
  have g := f9.2.2.2.1 a (by omega)
  obtain ⟨hs, hB, ⟨i1, i2, i3, i4, i5, i6⟩, e1⟩ := h
  refine ⟨hs, hB.keep f9 (by omega) (by omega), ⟨(g 3).trans i1, (g 4).trans i2, (g 5).trans i3, (g 6).trans i4, (g 7).trans i5, (g 8).trans i6⟩, fun i hi => ?_⟩
  rw [zgI_ne (show a + 1 ≠ a + 2 by omega), zgI_wI, zgI_wI]
  unfold zsg zsa
  by_cases e : i = x
  · subst e
    rw [if_pos ⟨rfl, rfl⟩, if_pos ⟨rfl, rfl⟩, if_pos (List.mem_singleton.mpr rfl), List.count_singleton_self]
    exact ⟨rfl, rfl⟩
  · rw [if_neg (fun z => e z.2), if_neg (fun z => e z.2), if_neg (fun z => e (List.mem_singleton.mp z)), zgI_ne (by omega), List.count_cons_of_ne (fun z => e z.symm)]
    exact e1 i hi
set_option maxRecDepth 20000 in
set_option maxHeartbeats 4000000 in
theorem c_take {E : zE} {S : zM} {O : List zOe} {V : List zSe} {t : zRW} {a : Nat} {bg sb en : Bool} {sz vr pg : Nat} {sg sa : Nat → Nat} {L : List Nat} {f e now : Nat} (h0 : zVC S O V t) (h : zRd S a bg sb en sz vr pg sg sa L) (ha : 93 ≤ a) (hf : zgI S 6 6 = nI f) (he : zgI S 6 7 = nI e) (hfe : f ≤ e) (heB : e ≤ (zBB O V t).length) (on : Bool) : zSp E 2 0 0 mX6_take cX6_take [zR a, zR 6, zI (zbi on), zI (nI now)] S (fun r T => r = none ∧ zRd T a bg sb (zRe f e on en) sz vr (pg + 1) (zsg sg (zseg (zBB O V t) f e)) (zsa sa (zseg (zBB O V t) f e) now) (zRk O t (zBB O V t) f e on L) ∧ zF (zX5 a) S T) := by
  refine zSp.of (by decide) rfl (Nat.le_of_ble_eq_true rfl) rfl ?_
  have hlE := Nat.le_trans heB h0.len.2
  have k60 := h0.sh.1
  have ka0 := h.1.1
  have hon := zbi_01 on
  have tail : ∀ (T : zM) (y : Option zV), zF (zX5 a) S T → zRd T a bg sb en sz vr (pg + 1) (zsg sg (zseg (zBB O V t) f e)) (zsa sa (zseg (zBB O V t) f e) now) L → zJ E 2 0 0 mX6_take cX6_take 58 [some (zR a), some (zR 6), some (zI (zbi on)), some (zI (nI now)), some (zI (nI e)), y] [] T (fun r T => r = none ∧ zRd T a bg sb (zRe f e on en) sz vr (pg + 1) (zsg sg (zseg (zBB O V t) f e)) (zsa sa (zseg (zBB O V t) f e) now) (zRk O t (zBB O V t) f e on L) ∧ zF (zX5 a) S T) := by
    intro T y hF hR
    have hVT : zVC T O V t := h0.ag (fun c z1 z2 => hF.ag (by unfold zX5; omega))
    have k6 := hVT.sh.1
    have e6 : zgI T 6 6 = nI f := (hF.2.2.2.1 6 (by unfold zX5; omega) 6).trans hf
    have e7 : zgI T 6 7 = nI e := (hF.2.2.2.1 6 (by unfold zX5; omega) 7).trans he
    have k1 := hR.1.1
    have k2 := hR.1.2.1
    have k3 := hR.1.2.2.1
    have kB0 := hR.2.1.1
    refine j_aload_n (pc := 58) dX6_take_58 rfl ?_
    refine j_getI (pc := 59) dX6_take_59 f_X6_50 (Or.inl rfl) (by assumption) ?_
    rw [e6]
    refine j_aload_n (pc := 62) dX6_take_62 rfl ?_
    refine j_getI (pc := 63) dX6_take_63 f_X6_55 (Or.inl rfl) (by assumption) ?_
    rw [e7]
    refine j_icmp_ge (pc := 66) (tgt := 122) dX6_take_66 (by decide) (fun h66 => ?_) (fun h66 => ?_)
    · refine j_iload_n (pc := 122) dX6_take_122 rfl ?_
      refine j_if_eq (pc := 123) (tgt := 131) dX6_take_123 (by decide) (fun h123 => ?_) (fun h123 => ?_)
      · refine j_vret (pc := 131) dX6_take_131 rfl ?_
        have hge : ¬ f < e := fun q => absurd h66 (nI_ge q (by omega))
        refine ⟨rfl, ?_, hF⟩
        unfold zRe zRk
        rw [if_neg hge, if_neg hge, if_neg (by rw [zbi_eq0.mp h123]; decide)]
        exact hR
      · refine j_aload_n (pc := 126) dX6_take_126 rfl ?_
        refine j_iconst (pc := 127) (v := 1) dX6_take_127 (by decide) ?_
        refine j_putZ (pc := 128) dX6_take_128 f_X6_34 rfl (by first | assumption | decide) (by assumption) rfl ?_
        refine j_vret (pc := 131) dX6_take_131 rfl ?_
        have hge : ¬ f < e := fun q => absurd h66 (nI_ge q (by omega))
        have eon : on = true := by cases on; exact absurd rfl h123; rfl
        refine ⟨rfl, ?_, hF.tr (zF.wI (by unfold zX5; omega))⟩
        unfold zRe zRk
        rw [if_neg hge, if_neg hge, if_pos eon]
        exact hR.upd (zF.wI (Or.inl rfl)) (fun k hk _ => zgI_nk hk) zgI_self ((zgI_nk (by decide)).trans hR.2.2.1.2.2.2.2.2) (hR.2.1.keep (zF.wI (X := fun c => c = a) rfl) (by omega) (by omega))
    · have hlt : f < e := (Nat.lt_of_not_le (fun q => h66 (nI_le q (by omega))))
      obtain ⟨xf, hxf⟩ : ∃ x, (zBB O V t)[f]? = some x := ⟨_, List.getElem?_eq_getElem (by omega)⟩
      obtain ⟨xe, hxe⟩ : ∃ x, (zBB O V t)[e - 1]? = some x := ⟨_, List.getElem?_eq_getElem (by omega)⟩
      refine j_aload_n (pc := 69) dX6_take_69 rfl ?_
      refine j_iload_n (pc := 70) dX6_take_70 rfl ?_
      refine j_if_eq (pc := 71) (tgt := 83) dX6_take_71 (by decide) (fun h71 => ?_) (fun h71 => ?_)
      · refine j_aload_n (pc := 83) dX6_take_83 rfl ?_
        refine j_getI (pc := 84) dX6_take_84 f_X6_50 (Or.inl rfl) (by assumption) ?_
        rw [e6]
        refine j_callV (pc := 87) (t := 10) (c_keyPassing hVT hxf) dX6_take_87 l_X6_62 mk_X10_keyPassing mv_X10_keyPassing (by decide) rfl (by assumption) (by decide) rfl rfl (Nat.le_of_ble_eq_true rfl) (Nat.le_refl _) (Nat.le_refl _) (fun r T h_1 => ?_)
        obtain ⟨rfl, c, rfl, c12, c90, hBc⟩ := h_1
        have kc := hBc.1
        refine j_astore (pc := 90) (ls' := [_, _, _, _, _, _]) dX6_take_90 (by decide) rfl rfl ?_
        refine j_aload_n (pc := 92) dX6_take_92 rfl ?_
        refine j_getP (pc := 93) dX6_take_93 f_X6_23 (Or.inl ⟨_, rfl⟩) (by assumption) ?_
        rw [hR.1.2.2.2.2.2]
        refine j_callV (pc := 96) (t := 1) (c_empty hR.2.1) dX6_take_96 l_X6_47 mk_X1_empty mv_X1_empty (by decide) rfl (by assumption) (by decide) rfl rfl (Nat.le_of_ble_eq_true rfl) (Nat.le_refl _) (Nat.le_refl _) (fun r T h_1 => ?_)
        obtain ⟨rfl, rfl⟩ := h_1
        have hB1 := hR.2.1.empty
        have hc1 := hBc.keep (zF.wI (X := fun c => c = a + 3) (S := T) (a := a + 3) (k := 1) (v := 0) rfl) (by omega) (by omega)
        have kc1 := hc1.1
        have kB1 := hB1.1
        refine j_aload_n (pc := 99) dX6_take_99 rfl ?_
        refine j_getP (pc := 100) dX6_take_100 f_X6_23 (Or.inl ⟨_, rfl⟩) (by assumption) ?_
        rw [show zgP (zwI T (a + 3) 1 0) a 2 = a + 3 from hR.1.2.2.2.2.2]
        refine j_aload (pc := 103) dX6_take_103 rfl ?_
        refine j_iconst (pc := 105) (v := 0) dX6_take_105 (by decide) ?_
        refine j_aload (pc := 106) dX6_take_106 rfl ?_
        refine j_getI (pc := 108) dX6_take_108 f_X6_66 (Or.inl rfl) (by assumption) ?_
        rw [zgI_ne (show c ≠ a + 3 by omega), hBc.2.2.2.2.1]
        refine j_callV (pc := 111) (t := 1) (c_append (f := 0) hB1 hc1 ⟨by omega, by omega, by omega, by omega⟩ (Nat.zero_le _) (Nat.le_refl _) (by simpa using hc1.2.2.2.2.2.1)) dX6_take_111 l_X6_69 mk_X1_append mv_X1_append (by decide) rfl (by assumption) (by decide) rfl rfl (Nat.le_of_ble_eq_true rfl) (Nat.le_refl _) (Nat.le_refl _) (fun r T2 h_1 => ?_)
        obtain ⟨rfl, b1, f1⟩ := h_1
        rw [List.nil_append, List.drop_zero, Nat.sub_zero, List.take_length] at b1
        have k19 : zkd T2 a = (7, 0) := by rw [f1.1]; exact k1
        refine j_aload_n (pc := 114) dX6_take_114 rfl ?_
        refine j_iconst (pc := 115) (v := 0) dX6_take_115 (by decide) ?_
        refine j_putZ (pc := 116) dX6_take_116 f_X6_34 rfl (by first | assumption | decide) (by assumption) rfl ?_
        refine j_goto (pc := 119) (tgt := 131) dX6_take_119 (by decide) ?_
        refine j_vret (pc := 131) dX6_take_131 rfl ?_
        have g2 : zF (fun c => c = a + 3 ∨ c = a + 4) T T2 := (zF.wI (Or.inl rfl)).tr f1
        have g3 : zF (fun c => c = a ∨ c = a + 3 ∨ c = a + 4) T (zwI T2 a 5 0) := (g2.mo (fun c z => Or.inr z)).tr (zF.wI (Or.inl rfl))
        have g4 : ∀ k, k ≠ 5 → zgI (zwI T2 a 5 0) a k = zgI T a k := fun k hk => (zgI_nk hk).trans (g2.2.2.2.1 a (by omega) k)
        have eL : zRk O t (zBB O V t) f e on L = zkf O t xf := by unfold zRk; rw [if_pos hlt, if_neg (by rw [zbi_eq0.mp h71]; decide), hxf]; rfl
        refine ⟨rfl, hR.upd g3 (fun k hk _ => g4 k hk) (zgI_self.trans ?_) ((g4 8 (by decide)).trans hR.2.2.1.2.2.2.2.2) ?_, hF.tr (g3.mo (fun c z => by unfold zX5; omega))⟩
        · unfold zRe
          rw [if_pos hlt]
          rfl
        · rw [eL]
          exact b1.keep (zF.wI (X := fun c => c = a) rfl) (by omega) (by omega)
      · refine j_aload_n (pc := 74) dX6_take_74 rfl ?_
        refine j_getI (pc := 75) dX6_take_75 f_X6_55 (Or.inl rfl) (by assumption) ?_
        rw [e7]
        refine j_iconst (pc := 78) (v := 1) dX6_take_78 (by decide) ?_
        refine j_isub (pc := 79) dX6_take_79 ?_
        refine j_goto (pc := 80) (tgt := 87) dX6_take_80 (by decide) ?_
        rw [show nI e - 1 = nI (e - 1) from pk_sub (b := 1) (by omega)]
        refine j_callV (pc := 87) (t := 10) (c_keyPassing hVT hxe) dX6_take_87 l_X6_62 mk_X10_keyPassing mv_X10_keyPassing (by decide) rfl (by assumption) (by decide) rfl rfl (Nat.le_of_ble_eq_true rfl) (Nat.le_refl _) (Nat.le_refl _) (fun r T h_1 => ?_)
        obtain ⟨rfl, c, rfl, c12, c90, hBc⟩ := h_1
        have kc := hBc.1
        refine j_astore (pc := 90) (ls' := [_, _, _, _, _, _]) dX6_take_90 (by decide) rfl rfl ?_
        refine j_aload_n (pc := 92) dX6_take_92 rfl ?_
        refine j_getP (pc := 93) dX6_take_93 f_X6_23 (Or.inl ⟨_, rfl⟩) (by assumption) ?_
        rw [hR.1.2.2.2.2.2]
        refine j_callV (pc := 96) (t := 1) (c_empty hR.2.1) dX6_take_96 l_X6_47 mk_X1_empty mv_X1_empty (by decide) rfl (by assumption) (by decide) rfl rfl (Nat.le_of_ble_eq_true rfl) (Nat.le_refl _) (Nat.le_refl _) (fun r T h_1 => ?_)
        obtain ⟨rfl, rfl⟩ := h_1
        have hB1 := hR.2.1.empty
        have hc1 := hBc.keep (zF.wI (X := fun c => c = a + 3) (S := T) (a := a + 3) (k := 1) (v := 0) rfl) (by omega) (by omega)
        have kc1 := hc1.1
        have kB1 := hB1.1
        refine j_aload_n (pc := 99) dX6_take_99 rfl ?_
        refine j_getP (pc := 100) dX6_take_100 f_X6_23 (Or.inl ⟨_, rfl⟩) (by assumption) ?_
        rw [show zgP (zwI T (a + 3) 1 0) a 2 = a + 3 from hR.1.2.2.2.2.2]
        refine j_aload (pc := 103) dX6_take_103 rfl ?_
        refine j_iconst (pc := 105) (v := 0) dX6_take_105 (by decide) ?_
        refine j_aload (pc := 106) dX6_take_106 rfl ?_
        refine j_getI (pc := 108) dX6_take_108 f_X6_66 (Or.inl rfl) (by assumption) ?_
        rw [zgI_ne (show c ≠ a + 3 by omega), hBc.2.2.2.2.1]
        refine j_callV (pc := 111) (t := 1) (c_append (f := 0) hB1 hc1 ⟨by omega, by omega, by omega, by omega⟩ (Nat.zero_le _) (Nat.le_refl _) (by simpa using hc1.2.2.2.2.2.1)) dX6_take_111 l_X6_69 mk_X1_append mv_X1_append (by decide) rfl (by assumption) (by decide) rfl rfl (Nat.le_of_ble_eq_true rfl) (Nat.le_refl _) (Nat.le_refl _) (fun r T2 h_1 => ?_)
        obtain ⟨rfl, b1, f1⟩ := h_1
        rw [List.nil_append, List.drop_zero, Nat.sub_zero, List.take_length] at b1
        have k19 : zkd T2 a = (7, 0) := by rw [f1.1]; exact k1
        refine j_aload_n (pc := 114) dX6_take_114 rfl ?_
        refine j_iconst (pc := 115) (v := 0) dX6_take_115 (by decide) ?_
        refine j_putZ (pc := 116) dX6_take_116 f_X6_34 rfl (by first | assumption | decide) (by assumption) rfl ?_
        refine j_goto (pc := 119) (tgt := 131) dX6_take_119 (by decide) ?_
        refine j_vret (pc := 131) dX6_take_131 rfl ?_
        have g2 : zF (fun c => c = a + 3 ∨ c = a + 4) T T2 := (zF.wI (Or.inl rfl)).tr f1
        have g3 : zF (fun c => c = a ∨ c = a + 3 ∨ c = a + 4) T (zwI T2 a 5 0) := (g2.mo (fun c z => Or.inr z)).tr (zF.wI (Or.inl rfl))
        have g4 : ∀ k, k ≠ 5 → zgI (zwI T2 a 5 0) a k = zgI T a k := fun k hk => (zgI_nk hk).trans (g2.2.2.2.1 a (by omega) k)
        have eL : zRk O t (zBB O V t) f e on L = zkf O t xe := by unfold zRk; rw [if_pos hlt, if_pos (by cases on; exact absurd rfl h71; rfl), hxe]; rfl
        refine ⟨rfl, hR.upd g3 (fun k hk _ => g4 k hk) (zgI_self.trans ?_) ((g4 8 (by decide)).trans hR.2.2.1.2.2.2.2.2) ?_, hF.tr (g3.mo (fun c z => by unfold zX5; omega))⟩
        · unfold zRe
          rw [if_pos hlt]
          rfl
        · rw [eL]
          exact b1.keep (zF.wI (X := fun c => c = a) rfl) (by omega) (by omega)
  have lp : ∀ (m n : Nat) (T : zM) (y : Option zV), f + n + m = e → zF (zX5 a) S T → zRd T a bg sb en sz vr (pg + 1) (zsg sg (zseg (zBB O V t) f (f + n))) (zsa sa (zseg (zBB O V t) f (f + n)) now) L → zJ E 2 0 0 mX6_take cX6_take 16 [some (zR a), some (zR 6), some (zI (zbi on)), some (zI (nI now)), some (zI (nI (f + n))), y] [] T (fun r T => r = none ∧ zRd T a bg sb (zRe f e on en) sz vr (pg + 1) (zsg sg (zseg (zBB O V t) f e)) (zsa sa (zseg (zBB O V t) f e) now) (zRk O t (zBB O V t) f e on L) ∧ zF (zX5 a) S T) := by
    intro m
    induction m with
    | zero =>
      intro n T y hm hF hR
      have en : f + n = e := by omega
      rw [en] at hR ⊢
      have hVT : zVC T O V t := h0.ag (fun c z1 z2 => hF.ag (by unfold zX5; omega))
      have k6 := hVT.sh.1
      have e6 : zgI T 6 6 = nI f := (hF.2.2.2.1 6 (by unfold zX5; omega) 6).trans hf
      have e7 : zgI T 6 7 = nI e := (hF.2.2.2.1 6 (by unfold zX5; omega) 7).trans he
      have k1 := hR.1.1
      have k2 := hR.1.2.1
      have k3 := hR.1.2.2.1
      have kB0 := hR.2.1.1
      refine j_iload (pc := 16) dX6_take_16 rfl ?_
      refine j_aload_n (pc := 18) dX6_take_18 rfl ?_
      refine j_getI (pc := 19) dX6_take_19 f_X6_55 (Or.inl rfl) (by assumption) ?_
      rw [e7]
      refine j_icmp_ge (pc := 22) (tgt := 58) dX6_take_22 (by decide) (fun h22 => ?_) (fun h22 => ?_)
      · exact tail T y hF hR
      · exact absurd (nI_le (by omega) (by omega)) h22
    | succ m ih =>
      intro n T y hm hF hR
      have hVT : zVC T O V t := h0.ag (fun c z1 z2 => hF.ag (by unfold zX5; omega))
      have k6 := hVT.sh.1
      have e6 : zgI T 6 6 = nI f := (hF.2.2.2.1 6 (by unfold zX5; omega) 6).trans hf
      have e7 : zgI T 6 7 = nI e := (hF.2.2.2.1 6 (by unfold zX5; omega) 7).trans he
      have k1 := hR.1.1
      have k2 := hR.1.2.1
      have k3 := hR.1.2.2.1
      have kB0 := hR.2.1.1
      obtain ⟨x, hx⟩ : ∃ x, (zBB O V t)[f + n]? = some x := ⟨(zBB O V t)[f + n]'(by omega), List.getElem?_eq_getElem (by omega)⟩
      have hx64 : x < 64 := zBB_64 (List.mem_of_getElem? hx)
      have hin : vp_in (nI x) 64 := vp_in_nI hx64 (by decide)
      have hcl : (nI x).toNatClampNeg = x := nI_clamp (by omega)
      have hE1 := (hR.2.2.2 x hx64).1
      refine j_iload (pc := 16) dX6_take_16 rfl ?_
      refine j_aload_n (pc := 18) dX6_take_18 rfl ?_
      refine j_getI (pc := 19) dX6_take_19 f_X6_55 (Or.inl rfl) (by assumption) ?_
      rw [e7]
      refine j_icmp_ge (pc := 22) (tgt := 58) dX6_take_22 (by decide) (fun h22 => ?_) (fun h22 => ?_)
      · exact absurd h22 (nI_ge (by omega) (by omega))
      · refine j_aload_n (pc := 25) dX6_take_25 rfl ?_
        refine j_iload (pc := 26) dX6_take_26 rfl ?_
        refine j_callV (pc := 28) (t := 10) (c_idPassing hVT hx) dX6_take_28 l_X6_58 mk_X10_idPassing mv_X10_idPassing (by decide) rfl (by assumption) (by decide) rfl rfl (Nat.le_of_ble_eq_true rfl) (Nat.le_refl _) (Nat.le_refl _) (fun r T h_1 => ?_)
        obtain ⟨rfl, rfl⟩ := h_1
        refine j_istore (pc := 31) (ls' := [_, _, _, _, _, _]) dX6_take_31 (by decide) rfl rfl ?_
        refine j_aload_n (pc := 33) dX6_take_33 rfl ?_
        refine j_getP (pc := 34) dX6_take_34 f_X6_9 (Or.inr ⟨_, rfl⟩) (by assumption) ?_
        rw [hR.1.2.2.2.1]
        refine j_iload (pc := 37) dX6_take_37 rfl ?_
        refine j_dup2 (pc := 39) dX6_take_39 rfl rfl ?_
        refine j_iald (pc := 40) dX6_take_40 (by assumption) (by assumption) ?_
        rw [hcl, hE1]
        refine j_iconst (pc := 41) (v := 1) dX6_take_41 (by decide) ?_
        refine j_iadd (pc := 42) dX6_take_42 ?_
        rw [nI_1]
        refine j_iast (pc := 43) dX6_take_43 (by assumption) (by assumption) ?_
        refine j_aload_n (pc := 44) dX6_take_44 rfl ?_
        refine j_getP (pc := 45) dX6_take_45 f_X6_15 (Or.inr ⟨_, rfl⟩) (by assumption) ?_
        rw [hcl, show zgP (zwI T (a + 1) x (nI (zsg sg (zseg (zBB O V t) f (f + n)) x + 1))) a 1 = a + 2 from hR.1.2.2.2.2.1]
        refine j_iload (pc := 48) dX6_take_48 rfl ?_
        refine j_iload_n (pc := 50) dX6_take_50 rfl ?_
        refine j_iast (pc := 51) dX6_take_51 (by assumption) (by assumption) ?_
        refine j_iinc (pc := 52) (v := _ + 1) (ls' := [_, _, _, _, _, _]) dX6_take_52 rfl rfl (by decide) rfl rfl ?_
        refine j_goto (pc := 55) (tgt := 16) dX6_take_55 (by decide) ?_
        rw [nI_1, hcl]
        refine ih (n + 1) _ _ (by omega) (hF.tr ((zF.wI (by unfold zX5; omega)).tr (zF.wI (by unfold zX5; omega)))) ?_
        rw [zseg_1 hx, ← zsg_1, ← zsa_1]
        exact hR.see x now
  refine j_aload_n (pc := 0) dX6_take_0 rfl ?_
  refine j_dup (pc := 1) dX6_take_1 rfl ?_
  refine j_getI (pc := 2) dX6_take_2 f_X6_44 (Or.inl rfl) (by assumption) ?_
  rw [h.2.2.1.2.2.2.2.2]
  refine j_iconst (pc := 5) (v := 1) dX6_take_5 (by decide) ?_
  refine j_iadd (pc := 6) dX6_take_6 ?_
  rw [nI_1]
  refine j_putI (pc := 7) dX6_take_7 f_X6_44 rfl (by assumption) rfl ?_
  refine j_aload_n (pc := 10) dX6_take_10 rfl ?_
  refine j_getI (pc := 11) dX6_take_11 f_X6_50 (Or.inl rfl) (by assumption) ?_
  rw [show zgI (zwI S a 8 (nI (pg + 1))) 6 6 = nI f from (zgI_ne (by omega)).trans hf]
  refine j_istore (pc := 14) (ls' := [_, _, _, _, _, _]) dX6_take_14 (by decide) rfl rfl ?_
  refine lp (e - f) 0 _ none (by omega) (zF.wI (by unfold zX5; omega)) ?_
  rw [zseg_0, zsg_nil, zsa_nil]
  exact h.upd (zF.wI (Or.inl rfl)) (fun k _ hk => zgI_nk hk) ((zgI_nk (by decide)).trans h.2.2.1.2.2.1) zgI_self (h.2.1.keep (zF.wI (X := fun c => c = a) rfl) (by omega) (by omega))
