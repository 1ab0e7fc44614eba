/-! ORDER: column, text or number, down, first; the part of a key for a value -/
abbrev zOe : Type := Nat × Bool × Bool × Bool
abbrev zMiss : Int64 := -9223372036854775808
def zwd (t : Int32) (v : Int64) : Nat → List Nat
  | 0 => []
  | k + 1 => (if v >>> ((nI (8 * k)).toInt64 &&& 63) = 0 then [] else [zb8 ((v >>> ((nI (8 * k)).toInt64 &&& 63)).toInt32 ^^^ t)]) ++ zwd t v k
def zpt (tx dn fs : Bool) (v : Int64) : List Nat := if v = zMiss then [if fs then 0 else 2] else 1 :: (if tx then zwd (if dn then 255 else 0) v 6 ++ [zb8 (if dn then 255 else 0)] else [zb8 (((v.toInt32 + 32768) >>> (8 &&& 31)) ^^^ (if dn then 255 else 0)), zb8 ((v.toInt32 + 32768) ^^^ (if dn then 255 else 0))])
theorem zwd_len (t : Int32) (v : Int64) : ∀ k, (zwd t v k).length ≤ k
  | 0 => Nat.le_refl _
  | k + 1 => by
    have := zwd_len t v k
    rw [zwd, List.length_append]
    split <;> simp <;> omega
theorem zpt_len (tx dn fs : Bool) (v : Int64) : (zpt tx dn fs v).length ≤ 8 := by
  unfold zpt
  have := zwd_len (if dn then 255 else 0) v 6
  split
  · simp
  · split <;> simp <;> omega
def zOr (S : zM) (a : Nat) (O : List zOe) : Prop := (zkd S a = (4, 0) ∧ zkd S (a + 1) = (14, 4) ∧ zkd S (a + 2) = (14, 4) ∧ zkd S (a + 3) = (16, 4) ∧ zkd S (a + 4) = (16, 4)) ∧ (zgP S a 0 = a + 1 ∧ zgP S a 1 = a + 2 ∧ zgP S a 2 = a + 3 ∧ zgP S a 3 = a + 4) ∧ zgI S a 4 = nI O.length ∧ O.length ≤ 4 ∧ ∀ i e, O[i]? = some e → zgI S (a + 1) i = nI e.1 ∧ zgI S (a + 2) i = zbi e.2.1 ∧ zgI S (a + 3) i = zbi e.2.2.1 ∧ zgI S (a + 4) i = zbi e.2.2.2 ∧ e.1 < 4
theorem zOr.keep {X : Nat → Prop} {S T : zM} {a : Nat} {O : List zOe} (h : zOr S a O) (f : zF X S T) (h0 : ∀ k, k < 5 → ¬ X (a + k)) : zOr T a O := by
  obtain ⟨⟨k1, k2, k3, k4, k5⟩, ⟨p1, p2, p3, p4⟩, i1, i2, e1⟩ := h
  refine ⟨⟨by rw [f.1]; exact k1, by rw [f.1]; exact k2, by rw [f.1]; exact k3, by rw [f.1]; exact k4, by rw [f.1]; exact k5⟩, ⟨by rw [f.2.2.1]; exact p1, by rw [f.2.2.1]; exact p2, by rw [f.2.2.1]; exact p3, by rw [f.2.2.1]; exact p4⟩, by rw [f.2.2.2.1 a (h0 0 (by decide))]; exact i1, i2, fun i e he => ?_⟩
  rw [f.2.2.2.1 _ (h0 1 (by decide)), f.2.2.2.1 _ (h0 2 (by decide)), f.2.2.2.1 _ (h0 3 (by decide)), f.2.2.2.1 _ (h0 4 (by decide))]
  exact e1 i e he
theorem zbi_eq0 {b : Bool} : zbi b = 0 ↔ b = false := by cases b <;> simp
theorem zput_in {cap : Nat} {L : List Nat} {x : Int32} (h : L.length < cap) : zput cap L x = L ++ [zb8 x] := if_pos h
set_option maxRecDepth 20000 in
theorem l_writePart {E : zE} {a i b c cap : Nat} {v : Int64} {t : Int32} : ∀ (k : Nat) {S : zM} {L : List Nat}, k ≤ 6 → zBy S b c cap L → L.length + k + 1 ≤ cap → zJ E 1 0 0 mX3_writePart cX3_writePart 109 [some (zR a), some (zI (nI i)), some (zL v), none, some (zR b), some (zI t), some (zI (nI (8 * k) - 8))] [] S (fun r T => r = none ∧ zBy T b c cap (L ++ zwd t v k ++ [zb8 t]) ∧ zF (zAB b c) S T) := by
  intro k
  induction k with
  | zero =>
    intro S L hk g hc
    have kb := g.1
    refine j_iload (pc := 109) dX3_writePart_109 rfl ?_
    refine j_if_lt (pc := 111) (tgt := 142) dX3_writePart_111 (by decide) (fun h111 => ?_) (fun h111 => ?_)
    · refine j_aload (pc := 142) dX3_writePart_142 rfl ?_
      refine j_iload (pc := 144) dX3_writePart_144 rfl ?_
      refine j_callV (pc := 146) (t := 1) (c_put g _) dX3_writePart_146 l_X3_50 mk_X1_put mv_X1_put (by decide) rfl (by assumption) (by decide) rfl rfl (Nat.le_of_ble_eq_true rfl) (Nat.le_refl _) (Nat.le_refl _) (fun r T h_1 => ?_)
      obtain ⟨rfl, g2, f2⟩ := h_1
      refine j_vret (pc := 149) dX3_writePart_149 rfl ?_
      rw [zput_in (by omega)] at g2
      refine ⟨rfl, ?_, f2⟩
      rw [zwd, List.append_nil]
      exact g2
    · exact absurd (by decide) h111
  | succ k ih0 =>
    intro S L hk g hc
    have kb := g.1
    have ih := fun {S : zM} {L : List Nat} => ih0 (S := S) (L := L) (by omega)
    have e8 : nI (8 * (k + 1)) - 8 = nI (8 * k) := pk_sub (a := 8 * (k + 1)) (b := 8) (by omega)
    refine j_iload (pc := 109) dX3_writePart_109 rfl ?_
    rw [e8]
    refine j_if_lt (pc := 111) (tgt := 142) dX3_writePart_111 (by decide) (fun h111 => ?_) (fun h111 => ?_)
    · exact absurd h111 (nI_pos (by omega))
    · refine j_lload_n (pc := 114) dX3_writePart_114 rfl ?_
      refine j_iload (pc := 115) dX3_writePart_115 rfl ?_
      refine j_lshr (pc := 117) dX3_writePart_117 ?_
      refine j_lconst (pc := 118) (v := 0) dX3_writePart_118 (by decide) ?_
      refine j_lcmp (pc := 119) dX3_writePart_119 ?_
      refine j_if_eq (pc := 120) (tgt := 136) dX3_writePart_120 (by decide) (fun h120 => ?_) (fun h120 => ?_)
      · refine j_iinc (pc := 136) (v := _ + (-8)) (ls' := [_, _, _, _, _, _, _]) dX3_writePart_136 rfl rfl (by decide) rfl rfl ?_
        refine j_goto (pc := 139) (tgt := 109) dX3_writePart_139 (by decide) ?_
        rw [show nI (8 * k) + -8 = nI (8 * k) - 8 from (Int32.sub_eq_add_neg _ _).symm]
        refine (ih g (by omega)).post (fun r T h9 => ?_)
        rw [zwd, if_pos ((lg_cmp_eq _ _).mp h120), List.nil_append]
        exact h9
      · refine j_aload (pc := 123) dX3_writePart_123 rfl ?_
        refine j_lload_n (pc := 125) dX3_writePart_125 rfl ?_
        refine j_iload (pc := 126) dX3_writePart_126 rfl ?_
        refine j_lshr (pc := 128) dX3_writePart_128 ?_
        refine j_l2i (pc := 129) dX3_writePart_129 ?_
        refine j_iload (pc := 130) dX3_writePart_130 rfl ?_
        refine j_ixor (pc := 132) dX3_writePart_132 ?_
        refine j_callV (pc := 133) (t := 1) (c_put g _) dX3_writePart_133 l_X3_50 mk_X1_put mv_X1_put (by decide) rfl (by assumption) (by decide) rfl rfl (Nat.le_of_ble_eq_true rfl) (Nat.le_refl _) (Nat.le_refl _) (fun r T h_1 => ?_)
        obtain ⟨rfl, g2, f2⟩ := h_1
        refine j_iinc (pc := 136) (v := _ + (-8)) (ls' := [_, _, _, _, _, _, _]) dX3_writePart_136 rfl rfl (by decide) rfl rfl ?_
        refine j_goto (pc := 139) (tgt := 109) dX3_writePart_139 (by decide) ?_
        rw [show nI (8 * k) + -8 = nI (8 * k) - 8 from (Int32.sub_eq_add_neg _ _).symm]
        rw [zput_in (by omega)] at g2
        refine (ih g2 (by rw [List.length_append]; simp only [List.length_cons, List.length_nil]; omega)).post (fun r T h9 => ?_)
        rw [zwd, if_neg (fun q => h120 ((lg_cmp_eq _ _).mpr q))]
        refine ⟨h9.1, ?_, f2.tr h9.2.2⟩
        have h10 := h9.2.1
        simp only [List.append_assoc] at h10 ⊢
        exact h10
set_option maxRecDepth 20000 in
set_option maxHeartbeats 4000000 in
theorem c_writePart {E : zE} {S : zM} {a i b c cap : Nat} {O : List zOe} {e : zOe} {L : List Nat} (h : zOr S a O) (he : O[i]? = some e) (v : Int64) (g : zBy S b c cap L) (hc : L.length + 8 ≤ cap) : zSp E 1 0 0 mX3_writePart cX3_writePart [zR a, zI (nI i), zL v, zR b] S (fun r T => r = none ∧ zBy T b c cap (L ++ zpt e.2.1 e.2.2.1 e.2.2.2 v) ∧ zF (zAB b c) S T) := by
  refine zSp.of (by decide) rfl (Nat.le_of_ble_eq_true rfl) rfl ?_
  obtain ⟨⟨k1, k2, k3, k4, k5⟩, ⟨p1, p2, p3, p4⟩, i1, i2, e1⟩ := id h
  obtain ⟨q1, q2, q3, q4, q5⟩ := e1 i e he
  have hi : i < O.length := (List.getElem?_eq_some_iff.mp he).1
  have hin : vp_in (nI i) 4 := vp_in_nI (by omega) (by decide)
  have hcl : (nI i).toNatClampNeg = i := nI_clamp (by omega)
  have kb := g.1
  refine j_iload_n (pc := 0) dX3_writePart_0 rfl ?_
  refine j_if_lt (pc := 1) (tgt := 12) dX3_writePart_1 (by decide) (fun h1 => ?_) (fun h1 => ?_)
  · exact absurd h1 (nI_pos (by omega))
  · refine j_iload_n (pc := 4) dX3_writePart_4 rfl ?_
    refine j_aload_n (pc := 5) dX3_writePart_5 rfl ?_
    refine j_getI (pc := 6) dX3_writePart_6 f_X3_25 (Or.inl rfl) (by assumption) ?_
    rw [i1]
    refine j_icmp_lt (pc := 9) (tgt := 13) dX3_writePart_9 (by decide) (fun h9 => ?_) (fun h9 => ?_)
    · refine j_lload_n (pc := 13) dX3_writePart_13 rfl ?_
      refine j_ldcL (pc := 14) dX3_writePart_14 k_X3_48 ?_
      refine j_lcmp (pc := 17) dX3_writePart_17 ?_
      refine j_if_ne (pc := 18) (tgt := 41) dX3_writePart_18 (by decide) (fun h18 => ?_) (fun h18 => ?_)
      · have hv : ¬ v = zMiss := fun q => h18 ((lg_cmp_eq _ _).mpr q)
        have hn2 : ¬ zAB b c (a + 2) := by intro q; rcases q with q | q; exact absurd (q ▸ k3) (by rw [kb]; decide); exact absurd (q ▸ k3) (by rw [g.2.1]; intro z; injection z with z1 z2; omega)
        have hn3 : ¬ zAB b c (a + 3) := by intro q; rcases q with q | q; exact absurd (q ▸ k4) (by rw [kb]; decide); exact absurd (q ▸ k4) (by rw [g.2.1]; intro z; injection z with z1 z2; omega)
        refine j_aload (pc := 41) dX3_writePart_41 rfl ?_
        refine j_iconst (pc := 43) (v := 1) dX3_writePart_43 (by decide) ?_
        refine j_callV (pc := 44) (t := 1) (c_put g _) dX3_writePart_44 l_X3_50 mk_X1_put mv_X1_put (by decide) rfl (by assumption) (by decide) rfl rfl (Nat.le_of_ble_eq_true rfl) (Nat.le_refl _) (Nat.le_refl _) (fun r T h_1 => ?_)
        obtain ⟨rfl, g1, f1⟩ := h_1
        rw [zput_in (by omega)] at g1
        have hl1 : (L ++ [zb8 1]).length = L.length + 1 := by simp
        have ka : zkd T a = (4, 0) := by rw [f1.1]; exact k1
        have ka2 : zkd T (a + 2) = (14, 4) := by rw [f1.1]; exact k3
        have ka3 : zkd T (a + 3) = (16, 4) := by rw [f1.1]; exact k4
        have kb1 := g1.1
        refine j_aload_n (pc := 47) dX3_writePart_47 rfl ?_
        refine j_getP (pc := 48) dX3_writePart_48 f_X3_18 (Or.inr ⟨_, rfl⟩) (by assumption) ?_
        rw [show zgP T a 2 = a + 3 from by rw [f1.2.2.1]; exact p3]
        refine j_iload_n (pc := 51) dX3_writePart_51 rfl ?_
        refine j_zald (pc := 52) dX3_writePart_52 (by assumption) (by assumption) ?_
        rw [hcl, show zgI T (a + 3) i = zbi e.2.2.1 from by rw [f1.2.2.2.1 _ hn3]; exact q3]
        refine j_if_eq (pc := 53) (tgt := 62) dX3_writePart_53 (by decide) (fun h53 => ?_) (fun h53 => ?_)
        · refine j_iconst (pc := 62) (v := 0) dX3_writePart_62 (by decide) ?_
          refine j_istore (pc := 63) (ls' := [_, _, _, _, _, _, _]) dX3_writePart_63 (by decide) rfl rfl ?_
          refine j_aload_n (pc := 65) dX3_writePart_65 rfl ?_
          refine j_getP (pc := 66) dX3_writePart_66 f_X3_15 (Or.inr ⟨_, rfl⟩) (by assumption) ?_
          rw [show zgP T a 1 = a + 2 from by rw [f1.2.2.1]; exact p2]
          refine j_iload_n (pc := 69) dX3_writePart_69 rfl ?_
          refine j_iald (pc := 70) dX3_writePart_70 (by assumption) (by assumption) ?_
          rw [hcl, show zgI T (a + 2) i = zbi e.2.1 from by rw [f1.2.2.2.1 _ hn2]; exact q2]
          refine j_if_ne (pc := 71) (tgt := 105) dX3_writePart_71 (by decide) (fun h71 => ?_) (fun h71 => ?_)
          · refine j_bipush (pc := 105) (v := 40) dX3_writePart_105 (by decide) ?_
            refine j_istore (pc := 107) (ls' := [_, _, _, _, _, _, _]) dX3_writePart_107 (by decide) rfl rfl ?_
            refine (l_writePart (k := 6) (by decide) g1 (by omega)).post (fun r T h9 => ?_)
            have e2 : e.2.1 = true := by cases q : e.2.1 <;> rw [q] at h71 <;> first | rfl | exact absurd rfl h71
            have e3 : e.2.2.1 = false := zbi_eq0.mp h53
            refine ⟨h9.1, ?_, f1.tr h9.2.2⟩
            have h10 := h9.2.1
            rw [zpt, if_neg hv, e2, e3, if_pos rfl]
            simp only [List.append_assoc, List.cons_append, List.nil_append] at h10 ⊢
            exact h10
          · refine j_lload_n (pc := 74) dX3_writePart_74 rfl ?_
            refine j_l2i (pc := 75) dX3_writePart_75 ?_
            refine j_ldcI (pc := 76) dX3_writePart_76 k_X3_53 ?_
            refine j_iadd (pc := 78) dX3_writePart_78 ?_
            refine j_istore (pc := 79) (ls' := [_, _, _, _, _, _, _]) dX3_writePart_79 (by decide) rfl rfl ?_
            refine j_aload (pc := 81) dX3_writePart_81 rfl ?_
            refine j_iload (pc := 83) dX3_writePart_83 rfl ?_
            refine j_bipush (pc := 85) (v := 8) dX3_writePart_85 (by decide) ?_
            refine j_ishr (pc := 87) dX3_writePart_87 ?_
            refine j_iload (pc := 88) dX3_writePart_88 rfl ?_
            refine j_ixor (pc := 90) dX3_writePart_90 ?_
            refine j_callV (pc := 91) (t := 1) (c_put g1 _) dX3_writePart_91 l_X3_50 mk_X1_put mv_X1_put (by decide) rfl (by assumption) (by decide) rfl rfl (Nat.le_of_ble_eq_true rfl) (Nat.le_refl _) (Nat.le_refl _) (fun r T h_1 => ?_)
            obtain ⟨rfl, g2, f2⟩ := h_1
            rw [zput_in (by omega)] at g2
            have kb2 := g2.1
            refine j_aload (pc := 94) dX3_writePart_94 rfl ?_
            refine j_iload (pc := 96) dX3_writePart_96 rfl ?_
            refine j_iload (pc := 98) dX3_writePart_98 rfl ?_
            refine j_ixor (pc := 100) dX3_writePart_100 ?_
            refine j_callV (pc := 101) (t := 1) (c_put g2 _) dX3_writePart_101 l_X3_50 mk_X1_put mv_X1_put (by decide) rfl (by assumption) (by decide) rfl rfl (Nat.le_of_ble_eq_true rfl) (Nat.le_refl _) (Nat.le_refl _) (fun r T h_1 => ?_)
            obtain ⟨rfl, g3, f3⟩ := h_1
            refine j_vret (pc := 104) dX3_writePart_104 rfl ?_
            rw [zput_in (by rw [List.length_append]; simp only [List.length_cons, List.length_nil]; omega)] at g3
            have e2 : e.2.1 = false := zbi_eq0.mp h71
            have e3 : e.2.2.1 = false := zbi_eq0.mp h53
            refine ⟨rfl, ?_, (f1.tr f2).tr f3⟩
            rw [zpt, if_neg hv, e2, e3, if_neg (by decide)]
            simp only [List.append_assoc, List.cons_append, List.nil_append] at g3 ⊢
            exact g3
        · refine j_sipush (pc := 56) (v := 255) dX3_writePart_56 (by decide) ?_
          refine j_goto (pc := 59) (tgt := 63) dX3_writePart_59 (by decide) ?_
          refine j_istore (pc := 63) (ls' := [_, _, _, _, _, _, _]) dX3_writePart_63 (by decide) rfl rfl ?_
          refine j_aload_n (pc := 65) dX3_writePart_65 rfl ?_
          refine j_getP (pc := 66) dX3_writePart_66 f_X3_15 (Or.inr ⟨_, rfl⟩) (by assumption) ?_
          rw [show zgP T a 1 = a + 2 from by rw [f1.2.2.1]; exact p2]
          refine j_iload_n (pc := 69) dX3_writePart_69 rfl ?_
          refine j_iald (pc := 70) dX3_writePart_70 (by assumption) (by assumption) ?_
          rw [hcl, show zgI T (a + 2) i = zbi e.2.1 from by rw [f1.2.2.2.1 _ hn2]; exact q2]
          refine j_if_ne (pc := 71) (tgt := 105) dX3_writePart_71 (by decide) (fun h71 => ?_) (fun h71 => ?_)
          · refine j_bipush (pc := 105) (v := 40) dX3_writePart_105 (by decide) ?_
            refine j_istore (pc := 107) (ls' := [_, _, _, _, _, _, _]) dX3_writePart_107 (by decide) rfl rfl ?_
            refine (l_writePart (k := 6) (by decide) g1 (by omega)).post (fun r T h9 => ?_)
            have e2 : e.2.1 = true := by cases q : e.2.1 <;> rw [q] at h71 <;> first | rfl | exact absurd rfl h71
            have e3 : e.2.2.1 = true := by cases q : e.2.2.1 <;> rw [q] at h53 <;> first | rfl | exact absurd rfl h53
            refine ⟨h9.1, ?_, f1.tr h9.2.2⟩
            have h10 := h9.2.1
            rw [zpt, if_neg hv, e2, e3, if_pos rfl]
            simp only [List.append_assoc, List.cons_append, List.nil_append] at h10 ⊢
            exact h10
          · refine j_lload_n (pc := 74) dX3_writePart_74 rfl ?_
            refine j_l2i (pc := 75) dX3_writePart_75 ?_
            refine j_ldcI (pc := 76) dX3_writePart_76 k_X3_53 ?_
            refine j_iadd (pc := 78) dX3_writePart_78 ?_
            refine j_istore (pc := 79) (ls' := [_, _, _, _, _, _, _]) dX3_writePart_79 (by decide) rfl rfl ?_
            refine j_aload (pc := 81) dX3_writePart_81 rfl ?_
            refine j_iload (pc := 83) dX3_writePart_83 rfl ?_
            refine j_bipush (pc := 85) (v := 8) dX3_writePart_85 (by decide) ?_
            refine j_ishr (pc := 87) dX3_writePart_87 ?_
            refine j_iload (pc := 88) dX3_writePart_88 rfl ?_
            refine j_ixor (pc := 90) dX3_writePart_90 ?_
            refine j_callV (pc := 91) (t := 1) (c_put g1 _) dX3_writePart_91 l_X3_50 mk_X1_put mv_X1_put (by decide) rfl (by assumption) (by decide) rfl rfl (Nat.le_of_ble_eq_true rfl) (Nat.le_refl _) (Nat.le_refl _) (fun r T h_1 => ?_)
            obtain ⟨rfl, g2, f2⟩ := h_1
            rw [zput_in (by omega)] at g2
            have kb2 := g2.1
            refine j_aload (pc := 94) dX3_writePart_94 rfl ?_
            refine j_iload (pc := 96) dX3_writePart_96 rfl ?_
            refine j_iload (pc := 98) dX3_writePart_98 rfl ?_
            refine j_ixor (pc := 100) dX3_writePart_100 ?_
            refine j_callV (pc := 101) (t := 1) (c_put g2 _) dX3_writePart_101 l_X3_50 mk_X1_put mv_X1_put (by decide) rfl (by assumption) (by decide) rfl rfl (Nat.le_of_ble_eq_true rfl) (Nat.le_refl _) (Nat.le_refl _) (fun r T h_1 => ?_)
            obtain ⟨rfl, g3, f3⟩ := h_1
            refine j_vret (pc := 104) dX3_writePart_104 rfl ?_
            rw [zput_in (by rw [List.length_append]; simp only [List.length_cons, List.length_nil]; omega)] at g3
            have e2 : e.2.1 = false := zbi_eq0.mp h71
            have e3 : e.2.2.1 = true := by cases q : e.2.2.1 <;> rw [q] at h53 <;> first | rfl | exact absurd rfl h53
            refine ⟨rfl, ?_, (f1.tr f2).tr f3⟩
            rw [zpt, if_neg hv, e2, e3, if_neg (by decide)]
            simp only [List.append_assoc, List.cons_append, List.nil_append] at g3 ⊢
            exact g3
      · refine j_aload (pc := 21) dX3_writePart_21 rfl ?_
        refine j_aload_n (pc := 23) dX3_writePart_23 rfl ?_
        refine j_getP (pc := 24) dX3_writePart_24 f_X3_22 (Or.inr ⟨_, rfl⟩) (by assumption) ?_
        rw [p4]
        refine j_iload_n (pc := 27) dX3_writePart_27 rfl ?_
        refine j_zald (pc := 28) dX3_writePart_28 (by assumption) (by assumption) ?_
        rw [hcl, q4]
        refine j_if_eq (pc := 29) (tgt := 36) dX3_writePart_29 (by decide) (fun h29 => ?_) (fun h29 => ?_)
        · refine j_iconst (pc := 36) (v := 2) dX3_writePart_36 (by decide) ?_
          refine j_callV (pc := 37) (t := 1) (c_put g _) dX3_writePart_37 l_X3_50 mk_X1_put mv_X1_put (by decide) rfl (by assumption) (by decide) rfl rfl (Nat.le_of_ble_eq_true rfl) (Nat.le_refl _) (Nat.le_refl _) (fun r T h_1 => ?_)
          obtain ⟨rfl, g1, f1⟩ := h_1
          refine j_vret (pc := 40) dX3_writePart_40 rfl ?_
          have hv : v = zMiss := (lg_cmp_eq _ _).mp h18
          rw [zput_in (by omega)] at g1
          have e3 : e.2.2.2 = false := zbi_eq0.mp h29
          refine ⟨rfl, ?_, f1⟩
          rw [zpt, if_pos hv, e3]
          exact g1
        · refine j_iconst (pc := 32) (v := 0) dX3_writePart_32 (by decide) ?_
          refine j_goto (pc := 33) (tgt := 37) dX3_writePart_33 (by decide) ?_
          refine j_callV (pc := 37) (t := 1) (c_put g _) dX3_writePart_37 l_X3_50 mk_X1_put mv_X1_put (by decide) rfl (by assumption) (by decide) rfl rfl (Nat.le_of_ble_eq_true rfl) (Nat.le_refl _) (Nat.le_refl _) (fun r T h_1 => ?_)
          obtain ⟨rfl, g1, f1⟩ := h_1
          refine j_vret (pc := 40) dX3_writePart_40 rfl ?_
          have hv : v = zMiss := (lg_cmp_eq _ _).mp h18
          rw [zput_in (by omega)] at g1
          have e3 : e.2.2.2 = true := by cases q : e.2.2.2 <;> rw [q] at h29 <;> first | rfl | exact absurd rfl h29
          refine ⟨rfl, ?_, f1⟩
          rw [zpt, if_pos hv, e3]
          exact g1
    · exact absurd (nI_lt hi (by omega)) h9
