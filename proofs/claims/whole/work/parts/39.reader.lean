set_option maxRecDepth 20000 in
set_option maxHeartbeats 4000000 in
theorem c_keepToken {E : zE} {S : zM} {O : List zOe} {V : List zSe} {t : zRW} {tp tp2 cap eg eg2 cap2 n : Nat} {F G : List Nat} {pt : Bool} {ids : List Nat} {vs : Nat → Nat → Int64} {kb ka : List Nat} {ah be : Nat} (h : zVC S O V t) (hg : zPg S pt ids vs kb ka [] ah be) (g : zBy S tp tp2 cap F) (hn : n ≤ F.length) (hn9 : n ≤ 900) (hd : tp < 93 ∧ tp2 < 93) (e : zBy S eg eg2 cap2 G) (hd2 : eg < 93 ∧ eg2 < 93) : zSp E 3 0 0 mX4_keepToken cX4_keepToken [zR 93, zR tp, zI (nI n), zR 6, zR eg] S (fun r T => r = none ∧ zF zXP S T ∧ if ids.length = 0 then zPg T pt ids vs kb ka (F.take n) ((zBB O V t).takeWhile (fun x => zkl (zkf O t x) G)).length ((zBB O V t).length - ((zBB O V t).takeWhile (fun x => !zkl G (zkf O t x))).length) else T = S) := by
  refine zSp.of (by decide) rfl (Nat.le_of_ble_eq_true rfl) rfl ?_
  obtain ⟨⟨k1, k2, k3, p1, p2, p3, p4, p5⟩, h1, h2, h3, h4, h5, h6, h7, h8, h9, h10⟩ := id hg
  have k6 := h.sh.1
  have ke := e.1
  have kg := g.1
  have k100 := h10.1
  have l1 := zTW_le (zBB O V t) (fun x => !zkl G (zkf O t x))
  have l2 := zTW_le (zBB O V t) (fun x => zkl (zkf O t x) G)
  have hlen := h.len
  refine j_aload_n (pc := 0) dX4_keepToken_0 rfl ?_
  refine j_getI (pc := 1) dX4_keepToken_1 f_X4_38 (Or.inl rfl) (by assumption) ?_
  rw [h2]
  refine j_if_ne (pc := 4) (tgt := 42) dX4_keepToken_4 (by decide) (fun h4_1 => ?_) (fun h4_1 => ?_)
  · refine j_vret (pc := 42) dX4_keepToken_42 rfl ?_
    exact ⟨rfl, zF.rf, by rw [if_neg (fun q => h4_1 (by rw [q]; rfl))]⟩
  · refine j_aload_n (pc := 7) dX4_keepToken_7 rfl ?_
    refine j_getP (pc := 8) dX4_keepToken_8 f_X4_31 (Or.inl ⟨_, rfl⟩) (by assumption) ?_
    rw [p5]
    refine j_aload_n (pc := 11) dX4_keepToken_11 rfl ?_
    refine j_iconst (pc := 12) (v := 0) dX4_keepToken_12 (by decide) ?_
    refine j_iload_n (pc := 13) dX4_keepToken_13 rfl ?_
    refine j_callV (pc := 14) (t := 1) (c_append (f := 0) h10 g ⟨by omega, by omega, by omega, by omega⟩ (Nat.zero_le _) hn (by simpa using hn9)) dX4_keepToken_14 l_X4_80 mk_X1_append mv_X1_append (by decide) rfl (by assumption) (by decide) rfl rfl (Nat.le_of_ble_eq_true rfl) (Nat.le_refl _) (Nat.le_refl _) (fun r T1 h_1 => ?_)
    obtain ⟨rfl, b1, f1⟩ := h_1
    rw [List.nil_append, List.drop_zero, Nat.sub_zero] at b1
    have hV1 : zVC T1 O V t := h.ag (fun c c1 c2 => f1.ag (by unfold zAB; omega))
    have e1 : zBy T1 eg eg2 cap2 G := e.keep f1 (by unfold zAB; omega) (by unfold zAB; omega)
    have k61 := hV1.sh.1
    have ke1 := e1.1
    have k931 : zkd T1 93 = (5, 0) := by rw [f1.1]; exact k1
    refine j_aload_n (pc := 17) dX4_keepToken_17 rfl ?_
    refine j_aload_n (pc := 18) dX4_keepToken_18 rfl ?_
    refine j_aload (pc := 19) dX4_keepToken_19 rfl ?_
    refine j_callV (pc := 21) (t := 10) (c_countBelow hV1 e1) dX4_keepToken_21 l_X4_84 mk_X10_countBelow mv_X10_countBelow (by decide) rfl (by assumption) (by decide) rfl rfl (Nat.le_of_ble_eq_true rfl) (Nat.le_refl _) (Nat.le_refl _) (fun r T h_1 => ?_)
    obtain ⟨rfl, rfl⟩ := h_1
    have f2 : zF (fun c => c = 93) T1 (zwI T1 93 7 (nI (List.takeWhile (fun x => zkl (zkf O t x) G) (zBB O V t)).length)) := zF.wI rfl
    have hV2 := hV1.ag (fun c c1 c2 => f2.ag (show c ≠ 93 by omega))
    have e2 := e1.keep f2 (by omega) (by omega)
    have ke2 := e2.1
    refine j_putI (pc := 24) dX4_keepToken_24 f_X4_42 rfl (by assumption) rfl ?_
    refine j_aload_n (pc := 27) dX4_keepToken_27 rfl ?_
    refine j_aload_n (pc := 28) dX4_keepToken_28 rfl ?_
    
    refine j_getI (pc := 29) dX4_keepToken_29 f_X4_73 (Or.inl rfl) (by assumption) ?_
    rw [show zgI (zwI T1 93 7 (nI (List.takeWhile (fun x => zkl (zkf O t x) G) (zBB O V t)).length)) 6 5 = nI (zBB O V t).length from (zgI_ne (by decide)).trans ((f1.2.2.2.1 6 (by decide) 5).trans hlen.1)]
    refine j_aload_n (pc := 32) dX4_keepToken_32 rfl ?_
    refine j_aload (pc := 33) dX4_keepToken_33 rfl ?_
    refine j_callV (pc := 35) (t := 10) (c_countNotAbove hV2 e2) dX4_keepToken_35 l_X4_88 mk_X10_countNotAbove mv_X10_countNotAbove (by decide) rfl (by assumption) (by decide) rfl rfl (Nat.le_of_ble_eq_true rfl) (Nat.le_refl _) (Nat.le_refl _) (fun r T h_1 => ?_)
    obtain ⟨rfl, rfl⟩ := h_1
    refine j_isub (pc := 38) dX4_keepToken_38 ?_
    rw [pk_sub l1]
    refine j_putI (pc := 39) dX4_keepToken_39 f_X4_45 rfl (by assumption) rfl ?_
    refine j_vret (pc := 42) dX4_keepToken_42 rfl ?_
    have e0 : ids.length = 0 := (nI_eq (b := 0) (by omega) (by decide)).mp h4_1
    have F9 : zF zXP S (zwI (zwI T1 93 7 (nI (List.takeWhile (fun x => zkl (zkf O t x) G) (zBB O V t)).length)) 93 8 (nI ((zBB O V t).length - (List.takeWhile (fun x => !zkl G (zkf O t x)) (zBB O V t)).length))) := ((f1.mo (fun c z => by unfold zAB at z; unfold zXP; omega)).tr (zF.wI (by decide))).tr (zF.wI (by decide))
    have A9 : ∀ c, c ≠ 93 → c ≠ 100 → c ≠ 101 → zAg S (zwI (zwI T1 93 7 (nI (List.takeWhile (fun x => zkl (zkf O t x) G) (zBB O V t)).length)) 93 8 (nI ((zBB O V t).length - (List.takeWhile (fun x => !zkl G (zkf O t x)) (zBB O V t)).length))) c := fun c z1 z2 z3 => (f1.ag (by unfold zAB; omega)).tr (((zF.wI (X := fun c => c = 93) rfl).tr (zF.wI (X := fun c => c = 93) rfl)).ag z1)
    refine ⟨rfl, F9, ?_⟩
    rw [if_pos e0]
    refine ⟨hg.1.f F9, ?_, ?_, h3, ?_, zgI_self, fun i x hx => ?_, fun i j hi => absurd hi (by omega), h8.ag (A9 _ (by decide) (by decide) (by decide)) (A9 _ (by decide) (by decide) (by decide)), h9.ag (A9 _ (by decide) (by decide) (by decide)) (A9 _ (by decide) (by decide) (by decide)), b1.keep ((zF.wI (X := fun c => c = 93) rfl).tr (zF.wI (X := fun c => c = 93) rfl)) (by decide) (by decide)⟩
    · exact (zgI_nk (by decide)).trans ((zgI_nk (by decide)).trans ((f1.2.2.2.1 93 (by decide) 5).trans h1))
    · exact (zgI_nk (by decide)).trans ((zgI_nk (by decide)).trans ((f1.2.2.2.1 93 (by decide) 6).trans h2))
    · exact (zgI_nk (by decide)).trans zgI_self
    · exact ((A9 94 (by decide) (by decide) (by decide)).2.1 i).trans (h6 i x hx)
/-! READER: begun, stable, ended, size, version, pages, how often and when each row was seen, where it stands -/
def zRd (S : zM) (a : Nat) (bg sb en : Bool) (sz vr pg : Nat) (sg sa : Nat → Nat) (L : List Nat) : Prop := (zkd S a = (7, 0) ∧ zkd S (a + 1) = (14, 64) ∧ zkd S (a + 2) = (14, 64) ∧ zgP S a 0 = a + 1 ∧ zgP S a 1 = a + 2 ∧ zgP S a 2 = a + 3) ∧ zBy S (a + 3) (a + 4) 34 L ∧ (zgI S a 3 = zbi bg ∧ zgI S a 4 = zbi sb ∧ zgI S a 5 = zbi en ∧ zgI S a 6 = nI sz ∧ zgI S a 7 = nI vr ∧ zgI S a 8 = nI pg) ∧ ∀ i, i < 64 → zgI S (a + 1) i = nI (sg i) ∧ zgI S (a + 2) i = nI (sa i)
theorem zRd.ag {S T : zM} {a : Nat} {bg sb en : Bool} {sz vr pg : Nat} {sg sa : Nat → Nat} {L : List Nat} (h : zRd S a bg sb en sz vr pg sg sa L) (f : ∀ k, k < 5 → zAg S T (a + k)) : zRd T a bg sb en sz vr pg sg sa L := by
  have f0 := f 0 (by decide)
  have f1 := f 1 (by decide)
  have f2 := f 2 (by decide)
  obtain ⟨⟨k1, k2, k3, p1, p2, p3⟩, hB, ⟨i1, i2, i3, i4, i5, i6⟩, e1⟩ := h
  exact ⟨⟨f0.1.trans k1, f1.1.trans k2, f2.1.trans k3, (f0.2.2.2 0).trans p1, (f0.2.2.2 1).trans p2, (f0.2.2.2 2).trans p3⟩, hB.ag (f 3 (by decide)) (f 4 (by decide)), ⟨(f0.2.1 3).trans i1, (f0.2.1 4).trans i2, (f0.2.1 5).trans i3, (f0.2.1 6).trans i4, (f0.2.1 7).trans i5, (f0.2.1 8).trans i6⟩, fun i hi => ⟨(f1.2.1 i).trans (e1 i hi).1, (f2.2.1 i).trans (e1 i hi).2⟩⟩
set_option maxRecDepth 20000 in
set_option maxHeartbeats 4000000 in
theorem c_rstart {E : zE} {S : zM} {a : Nat} {bg sb en : Bool} {sz vr pg : Nat} {sg sa : Nat → Nat} {L : List Nat} {nz nv : Nat} (h : zRd S a bg sb en sz vr pg sg sa L) (st : Bool) : zSp E 1 0 0 mX6_start cX6_start [zR a, zI (nI nz), zI (zbi st), zI (nI nv)] S (fun r T => r = none ∧ zRd T a true st false nz nv 0 (fun _ => 0) (fun _ => 0) [] ∧ zF (zX5 a) S T) := by
  refine zSp.of (by decide) rfl (Nat.le_of_ble_eq_true rfl) rfl ?_
  have hsh := h.1
  have hB0 := h.2.1
  have k1 := h.1.1
  have hst := zbi_01 st
  have lp : ∀ (n i : Nat) (T : zM), i + n = 64 → zF (zX5 a) S T → zBy T (a + 3) (a + 4) 34 [] → (zgI T a 3 = zbi true ∧ zgI T a 4 = zbi st ∧ zgI T a 5 = zbi false ∧ zgI T a 6 = nI nz ∧ zgI T a 7 = nI nv ∧ zgI T a 8 = nI 0) → (∀ k, k < i → zgI T (a + 1) k = nI 0 ∧ zgI T (a + 2) k = nI 0) → zJ E 1 0 0 mX6_start cX6_start 40 [some (zR a), some (zI (nI nz)), some (zI (zbi st)), some (zI (nI nv)), some (zI (nI i))] [] T (fun r T => r = none ∧ zRd T a true st false nz nv 0 (fun _ => 0) (fun _ => 0) [] ∧ zF (zX5 a) S T) := by
    intro n
    induction n with
    | zero =>
      intro i T hi hF hB hI hE
      have ei : i = 64 := by omega
      subst ei
      refine j_iload (pc := 40) dX6_start_40 rfl ?_
      refine j_bipush (pc := 42) (v := 64) dX6_start_42 (by decide) ?_
      refine j_icmp_ge (pc := 44) (tgt := 69) dX6_start_44 (by decide) (fun h44 => ?_) (fun h44 => ?_)
      · refine j_vret (pc := 69) dX6_start_69 rfl ?_
        exact ⟨rfl, ⟨by rw [hF.1, hF.2.2.1]; exact hsh, hB, hI, hE⟩, hF⟩
      · exact absurd (nI_le (a := 64) (Nat.le_refl _) (by decide)) h44
    | succ n ih =>
      intro i T hi hF hB hI hE
      have ka : zkd T a = (7, 0) := by rw [hF.1]; exact hsh.1
      have ka1 : zkd T (a + 1) = (14, 64) := by rw [hF.1]; exact hsh.2.1
      have ka2 : zkd T (a + 2) = (14, 64) := by rw [hF.1]; exact hsh.2.2.1
      have hin : vp_in (nI i) 64 := vp_in_nI (by omega) (by decide)
      have hcl : (nI i).toNatClampNeg = i := nI_clamp (by omega)
      refine j_iload (pc := 40) dX6_start_40 rfl ?_
      refine j_bipush (pc := 42) (v := 64) dX6_start_42 (by decide) ?_
      refine j_icmp_ge (pc := 44) (tgt := 69) dX6_start_44 (by decide) (fun h44 => ?_) (fun h44 => ?_)
      · exact absurd h44 (nI_ge (b := 64) (by omega) (by decide))
      · refine j_aload_n (pc := 47) dX6_start_47 rfl ?_
        refine j_getP (pc := 48) dX6_start_48 f_X6_9 (Or.inr ⟨_, rfl⟩) (by assumption) ?_
        rw [show zgP T a 0 = a + 1 from by rw [hF.2.2.1]; exact hsh.2.2.2.1]
        refine j_iload (pc := 51) dX6_start_51 rfl ?_
        refine j_iconst (pc := 53) (v := 0) dX6_start_53 (by decide) ?_
        refine j_iast (pc := 54) dX6_start_54 (by assumption) (by assumption) ?_
        refine j_aload_n (pc := 55) dX6_start_55 rfl ?_
        refine j_getP (pc := 56) dX6_start_56 f_X6_15 (Or.inr ⟨_, rfl⟩) (by assumption) ?_
        rw [hcl, show zgP (zwI T (a + 1) i 0) a 1 = a + 2 from by show zgP T a 1 = _; rw [hF.2.2.1]; exact hsh.2.2.2.2.1]
        refine j_iload (pc := 59) dX6_start_59 rfl ?_
        refine j_iconst (pc := 61) (v := 0) dX6_start_61 (by decide) ?_
        refine j_iast (pc := 62) dX6_start_62 (by assumption) (by assumption) ?_
        refine j_iinc (pc := 63) (v := _ + 1) (ls' := [_, _, _, _, _]) dX6_start_63 rfl rfl (by decide) rfl rfl ?_
        refine j_goto (pc := 66) (tgt := 40) dX6_start_66 (by decide) ?_
        rw [nI_1, hcl]
        have f9 : zF (fun c => c = a + 1 ∨ c = a + 2) T (zwI (zwI T (a + 1) i 0) (a + 2) i 0) := (zF.wI (Or.inl rfl)).tr (zF.wI (Or.inr rfl))
        refine ih (i + 1) _ (by omega) (hF.tr (f9.mo (fun c z => by unfold zX5; omega))) (hB.keep f9 (by omega) (by omega)) ?_ (fun k hk => ?_)
        · have g := f9.2.2.2.1 a (by omega)
          exact ⟨(g 3).trans hI.1, (g 4).trans hI.2.1, (g 5).trans hI.2.2.1, (g 6).trans hI.2.2.2.1, (g 7).trans hI.2.2.2.2.1, (g 8).trans hI.2.2.2.2.2⟩
        · rw [zgI_ne (show a + 1 ≠ a + 2 by omega), zgI_wI, zgI_wI]
          by_cases e : k = i
          · rw [if_pos ⟨rfl, e⟩, if_pos ⟨rfl, e⟩]
            exact ⟨rfl, rfl⟩
          · rw [if_neg (fun z => e z.2), if_neg (fun z => e z.2), zgI_ne (by omega)]
            exact hE k (by omega)
  refine j_aload_n (pc := 0) dX6_start_0 rfl ?_
  refine j_iconst (pc := 1) (v := 1) dX6_start_1 (by decide) ?_
  refine j_putZ (pc := 2) dX6_start_2 f_X6_27 rfl (by first | assumption | decide) (by assumption) rfl ?_
  refine j_aload_n (pc := 5) dX6_start_5 rfl ?_
  refine j_iload_n (pc := 6) dX6_start_6 rfl ?_
  refine j_putZ (pc := 7) dX6_start_7 f_X6_31 rfl (by first | assumption | decide) (by assumption) rfl ?_
  refine j_aload_n (pc := 10) dX6_start_10 rfl ?_
  refine j_iconst (pc := 11) (v := 0) dX6_start_11 (by decide) ?_
  refine j_putZ (pc := 12) dX6_start_12 f_X6_34 rfl (by first | assumption | decide) (by assumption) rfl ?_
  refine j_aload_n (pc := 15) dX6_start_15 rfl ?_
  refine j_iload_n (pc := 16) dX6_start_16 rfl ?_
  refine j_putI (pc := 17) dX6_start_17 f_X6_37 rfl (by assumption) rfl ?_
  refine j_aload_n (pc := 20) dX6_start_20 rfl ?_
  refine j_iload_n (pc := 21) dX6_start_21 rfl ?_
  refine j_putI (pc := 22) dX6_start_22 f_X6_41 rfl (by assumption) rfl ?_
  refine j_aload_n (pc := 25) dX6_start_25 rfl ?_
  refine j_iconst (pc := 26) (v := 0) dX6_start_26 (by decide) ?_
  refine j_putI (pc := 27) dX6_start_27 f_X6_44 rfl (by assumption) rfl ?_
  refine j_aload_n (pc := 30) dX6_start_30 rfl ?_
  refine j_getP (pc := 31) dX6_start_31 f_X6_23 (Or.inl ⟨_, rfl⟩) (by assumption) ?_
  rw [show zgP (zwI (zwI (zwI (zwI (zwI (zwI S a 3 1) a 4 (zbi st)) a 5 0) a 6 (nI nz)) a 7 (nI nv)) a 8 0) a 2 = a + 3 from hsh.2.2.2.2.2]
  have f6 : zF (fun c => c = a) S (zwI (zwI (zwI (zwI (zwI (zwI S a 3 1) a 4 (zbi st)) a 5 0) a 6 (nI nz)) a 7 (nI nv)) a 8 0) := (((((zF.wI (X := fun c => c = a) rfl).tr (zF.wI (X := fun c => c = a) rfl)).tr (zF.wI (X := fun c => c = a) rfl)).tr (zF.wI (X := fun c => c = a) rfl)).tr (zF.wI (X := fun c => c = a) rfl)).tr (zF.wI (X := fun c => c = a) rfl)
  have hB6 := hB0.keep f6 (by omega) (by omega)
  have kB6 := hB6.1
  refine j_callV (pc := 34) (t := 1) (c_empty hB6) dX6_start_34 l_X6_47 mk_X1_empty mv_X1_empty (by decide) rfl (by assumption) (by decide) rfl rfl (Nat.le_of_ble_eq_true rfl) (Nat.le_refl _) (Nat.le_refl _) (fun r T h_1 => ?_)
  obtain ⟨rfl, rfl⟩ := h_1
  refine j_iconst (pc := 37) (v := 0) dX6_start_37 (by decide) ?_
  refine j_istore (pc := 38) (ls' := [_, _, _, _, _]) dX6_start_38 (by decide) rfl rfl ?_
  refine lp 64 0 _ (by omega) ((f6.mo (fun c z => by unfold zX5; omega)).tr (zF.wI (by unfold zX5; omega))) hB6.empty ?_ (fun k hk => absurd hk (Nat.not_lt_zero k))
  refine ⟨?_, ?_, ?_, ?_, ?_, ?_⟩
  · exact (zgI_ne (by omega)).trans ((zgI_nk (by decide)).trans ((zgI_nk (by decide)).trans ((zgI_nk (by decide)).trans ((zgI_nk (by decide)).trans ((zgI_nk (by decide)).trans zgI_self)))))
  · exact (zgI_ne (by omega)).trans ((zgI_nk (by decide)).trans ((zgI_nk (by decide)).trans ((zgI_nk (by decide)).trans ((zgI_nk (by decide)).trans zgI_self))))
  · exact (zgI_ne (by omega)).trans ((zgI_nk (by decide)).trans ((zgI_nk (by decide)).trans ((zgI_nk (by decide)).trans zgI_self)))
  · exact (zgI_ne (by omega)).trans ((zgI_nk (by decide)).trans ((zgI_nk (by decide)).trans zgI_self))
  · exact (zgI_ne (by omega)).trans ((zgI_nk (by decide)).trans zgI_self)
  · exact (zgI_ne (by omega)).trans (zgI_self.trans nI_0.symm)
