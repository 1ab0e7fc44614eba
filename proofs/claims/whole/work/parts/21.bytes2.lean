/-! Math's and Long's own -/
set_option maxRecDepth 20000 in
set_option maxHeartbeats 4000000 in
theorem c_max {E : zE} {S : zM}  (x y : Int32) : zSp E 0 0 0 mJ9_max_7cf53 cJ9_max_7cf53 [zI x, zI y] S (fun r T => S = T ∧ r = some (zI (if x < y then y else x))) := by
  refine zSp.ofF (by decide +kernel) rfl (Nat.le_of_ble_eq_true rfl) rfl ?_
  refine j_iload_n (pc := 0) dJ9_max_7cf53_0 rfl ?_
  refine j_iload_n (pc := 1) dJ9_max_7cf53_1 rfl ?_
  refine j_icmp_lt (pc := 2) (tgt := 9) dJ9_max_7cf53_2 (by decide) (fun h2 => ?_) (fun h2 => ?_)
  · refine j_iload_n (pc := 9) dJ9_max_7cf53_9 rfl ?_
    refine j_iret (pc := 10) dJ9_max_7cf53_10 rfl ?_
    first | exact ⟨rfl, by rw [if_pos h2]⟩ | exact ⟨rfl, by rw [if_neg h2]⟩
  · refine j_iload_n (pc := 5) dJ9_max_7cf53_5 rfl ?_
    refine j_goto (pc := 6) (tgt := 10) dJ9_max_7cf53_6 (by decide) ?_
    refine j_iret (pc := 10) dJ9_max_7cf53_10 rfl ?_
    first | exact ⟨rfl, by rw [if_pos h2]⟩ | exact ⟨rfl, by rw [if_neg h2]⟩
set_option maxRecDepth 20000 in
set_option maxHeartbeats 4000000 in
theorem c_min {E : zE} {S : zM}  (x y : Int32) : zSp E 0 0 0 mJ9_min_7cf53 cJ9_min_7cf53 [zI x, zI y] S (fun r T => S = T ∧ r = some (zI (if y < x then y else x))) := by
  refine zSp.ofF (by decide +kernel) rfl (Nat.le_of_ble_eq_true rfl) rfl ?_
  refine j_iload_n (pc := 0) dJ9_min_7cf53_0 rfl ?_
  refine j_iload_n (pc := 1) dJ9_min_7cf53_1 rfl ?_
  refine j_icmp_gt (pc := 2) (tgt := 9) dJ9_min_7cf53_2 (by decide) (fun h2 => ?_) (fun h2 => ?_)
  · refine j_iload_n (pc := 9) dJ9_min_7cf53_9 rfl ?_
    refine j_iret (pc := 10) dJ9_min_7cf53_10 rfl ?_
    first | exact ⟨rfl, by rw [if_pos h2]⟩ | exact ⟨rfl, by rw [if_neg h2]⟩
  · refine j_iload_n (pc := 5) dJ9_min_7cf53_5 rfl ?_
    refine j_goto (pc := 6) (tgt := 10) dJ9_min_7cf53_6 (by decide) ?_
    refine j_iret (pc := 10) dJ9_min_7cf53_10 rfl ?_
    first | exact ⟨rfl, by rw [if_pos h2]⟩ | exact ⟨rfl, by rw [if_neg h2]⟩
theorem zmax_nI {a b : Nat} (ha : a < 2 ^ 31) (hb : b < 2 ^ 31) : (if nI a < nI b then nI b else nI a) = nI (max a b) := by
  by_cases h : a < b
  · rw [if_pos (nI_lt h hb), Nat.max_eq_right (by omega)]
  · rw [if_neg (nI_nlt (by omega) ha), Nat.max_eq_left (by omega)]
theorem zmin_nI {a b : Nat} (ha : a < 2 ^ 31) (hb : b < 2 ^ 31) : (if nI b < nI a then nI b else nI a) = nI (min a b) := by
  by_cases h : b < a
  · rw [if_pos (nI_lt h ha), Nat.min_eq_right (by omega)]
  · rw [if_neg (nI_nlt (by omega) hb), Nat.min_eq_left (by omega)]
theorem znxor {a b : Nat} (ha : a < 2 ^ 31) (hb : b < 2 ^ 31) : 0 ≤ nI a ^^^ nI b := by
  rw [fb_xorI]
  exact nI_pos' (Nat.xor_lt_two_pow ha hb)
set_option maxRecDepth 20000 in
set_option maxHeartbeats 4000000 in
theorem c_floorMod {E : zE} {S : zM} {a b : Nat} (ha : a < 2 ^ 31) (h0 : 0 < b) (hb : b < 2 ^ 31) : zSp E 0 0 0 mJ9_floorMod_7cf53 cJ9_floorMod_7cf53 [zI (nI a), zI (nI b)] S (fun r T => S = T ∧ r = some (zI (nI (a % b)))) := by
  refine zSp.ofF (by decide +kernel) rfl (Nat.le_of_ble_eq_true rfl) rfl ?_
  refine j_iload_n (pc := 0) dJ9_floorMod_7cf53_0 rfl ?_
  refine j_iload_n (pc := 1) dJ9_floorMod_7cf53_1 rfl ?_
  refine j_irem (pc := 2) dJ9_floorMod_7cf53_2 (nI_ne0 h0 hb) ?_
  refine j_istore_n (pc := 3) (ls' := [_, _, _]) dJ9_floorMod_7cf53_3 (by decide) rfl rfl ?_
  refine j_iload_n (pc := 4) dJ9_floorMod_7cf53_4 rfl ?_
  refine j_iload_n (pc := 5) dJ9_floorMod_7cf53_5 rfl ?_
  refine j_ixor (pc := 6) dJ9_floorMod_7cf53_6 ?_
  refine j_if_ge (pc := 7) (tgt := 18) dJ9_floorMod_7cf53_7 (by decide) (fun h7 => ?_) (fun h7 => ?_)
  · refine j_iload_n (pc := 18) dJ9_floorMod_7cf53_18 rfl ?_
    refine j_iret (pc := 19) dJ9_floorMod_7cf53_19 rfl ?_
    exact ⟨rfl, by rw [pk_rem ha h0 hb]⟩
  · exact absurd (znxor ha hb) h7
set_option maxRecDepth 20000 in
set_option maxHeartbeats 4000000 in
theorem c_lcmp {E : zE} {S : zM}  (x y : Int64) : zSp E 0 0 0 mJ13_compare_74951 cJ13_compare_74951 [zL x, zL y] S (fun r T => S = T ∧ r = some (zI (lg_cmp x y))) := by
  refine zSp.of (by decide) rfl (Nat.le_of_ble_eq_true rfl) rfl ?_
  refine j_lload_n (pc := 0) dJ13_compare_74951_0 rfl ?_
  refine j_lload_n (pc := 1) dJ13_compare_74951_1 rfl ?_
  refine j_lcmp (pc := 2) dJ13_compare_74951_2 ?_
  refine j_if_ge (pc := 3) (tgt := 10) dJ13_compare_74951_3 (by decide) (fun h3 => ?_) (fun h3 => ?_)
  · refine j_lload_n (pc := 10) dJ13_compare_74951_10 rfl ?_
    refine j_lload_n (pc := 11) dJ13_compare_74951_11 rfl ?_
    refine j_lcmp (pc := 12) dJ13_compare_74951_12 ?_
    refine j_if_ne (pc := 13) (tgt := 20) dJ13_compare_74951_13 (by decide) (fun h13 => ?_) (fun h13 => ?_)
    · refine j_iconst (pc := 20) (v := 1) dJ13_compare_74951_20 (by decide) ?_
      refine j_iret (pc := 21) dJ13_compare_74951_21 rfl ?_
      first
        | (refine ⟨rfl, ?_⟩
           have hx : ¬ y ≤ x := fun q => h3 ((lg_cmp_ge x y).mpr q)
           have : lg_cmp x y = -1 := by
             unfold lg_cmp
             rw [Int64.le_iff_toInt_le] at hx
             rw [if_neg (by rw [gt_iff_lt, Int64.lt_iff_toInt_lt]; omega), if_neg (fun q => hx (by rw [q]; omega))]
           rw [this])
        | (refine ⟨rfl, ?_⟩
           rw [show lg_cmp x y = 0 from h13])
        | (refine ⟨rfl, ?_⟩
           have h13' : ¬ lg_cmp x y = 0 := h13
           have : lg_cmp x y = 1 := by
             have hx := (lg_cmp_ge x y).mp h3
             unfold lg_cmp at h13' ⊢
             rw [Int64.le_iff_toInt_le] at hx
             by_cases e : x = y
             · rw [if_neg (by rw [gt_iff_lt, Int64.lt_iff_toInt_lt, e]; omega), if_pos e] at h13'
               exact absurd rfl h13'
             · rw [if_pos (by rw [gt_iff_lt, Int64.lt_iff_toInt_lt]; have hne : x.toInt ≠ y.toInt := fun q => e (Int64.toInt_inj.mp q); omega)]
           rw [this])
    · refine j_iconst (pc := 16) (v := 0) dJ13_compare_74951_16 (by decide) ?_
      refine j_goto (pc := 17) (tgt := 21) dJ13_compare_74951_17 (by decide) ?_
      refine j_iret (pc := 21) dJ13_compare_74951_21 rfl ?_
      first
        | (refine ⟨rfl, ?_⟩
           have hx : ¬ y ≤ x := fun q => h3 ((lg_cmp_ge x y).mpr q)
           have : lg_cmp x y = -1 := by
             unfold lg_cmp
             rw [Int64.le_iff_toInt_le] at hx
             rw [if_neg (by rw [gt_iff_lt, Int64.lt_iff_toInt_lt]; omega), if_neg (fun q => hx (by rw [q]; omega))]
           rw [this])
        | (refine ⟨rfl, ?_⟩
           rw [show lg_cmp x y = 0 from h13])
        | (refine ⟨rfl, ?_⟩
           have h13' : ¬ lg_cmp x y = 0 := h13
           have : lg_cmp x y = 1 := by
             have hx := (lg_cmp_ge x y).mp h3
             unfold lg_cmp at h13' ⊢
             rw [Int64.le_iff_toInt_le] at hx
             by_cases e : x = y
             · rw [if_neg (by rw [gt_iff_lt, Int64.lt_iff_toInt_lt, e]; omega), if_pos e] at h13'
               exact absurd rfl h13'
             · rw [if_pos (by rw [gt_iff_lt, Int64.lt_iff_toInt_lt]; have hne : x.toInt ≠ y.toInt := fun q => e (Int64.toInt_inj.mp q); omega)]
           rw [this])
  · refine j_iconst (pc := 6) (v := (-1)) dJ13_compare_74951_6 (by decide) ?_
    refine j_goto (pc := 7) (tgt := 21) dJ13_compare_74951_7 (by decide) ?_
    refine j_iret (pc := 21) dJ13_compare_74951_21 rfl ?_
    first
      | (refine ⟨rfl, ?_⟩
         have hx : ¬ y ≤ x := fun q => h3 ((lg_cmp_ge x y).mpr q)
         have : lg_cmp x y = -1 := by
           unfold lg_cmp
           rw [Int64.le_iff_toInt_le] at hx
           rw [if_neg (by rw [gt_iff_lt, Int64.lt_iff_toInt_lt]; omega), if_neg (fun q => hx (by rw [q]; omega))]
         rw [this])
      | (refine ⟨rfl, ?_⟩
         rw [show lg_cmp x y = 0 from h13])
      | (refine ⟨rfl, ?_⟩
         have h13' : ¬ lg_cmp x y = 0 := h13
         have : lg_cmp x y = 1 := by
           have hx := (lg_cmp_ge x y).mp h3
           unfold lg_cmp at h13' ⊢
           rw [Int64.le_iff_toInt_le] at hx
           by_cases e : x = y
           · rw [if_neg (by rw [gt_iff_lt, Int64.lt_iff_toInt_lt, e]; omega), if_pos e] at h13'
             exact absurd rfl h13'
           · rw [if_pos (by rw [gt_iff_lt, Int64.lt_iff_toInt_lt]; have hne : x.toInt ≠ y.toInt := fun q => e (Int64.toInt_inj.mp q); omega)]
         rw [this])
set_option maxRecDepth 20000 in
set_option maxHeartbeats 4000000 in
theorem c_putTwo {E : zE} {S : zM} {a b cap : Nat} {L : List Nat} (h : zBy S a b cap L) (x : Int32) : zSp E 1 0 0 mX1_putTwo cX1_putTwo [zR a, zI x] S (fun r T => r = none ∧ zBy T a b cap (zput cap (zput cap L (x >>> (8 &&& 31))) x) ∧ zF (zAB a b) S T) := by
  refine zSp.of (by decide) rfl (Nat.le_of_ble_eq_true rfl) rfl ?_
  have ka := h.1
  refine j_aload_n (pc := 0) dX1_putTwo_0 rfl ?_
  refine j_iload_n (pc := 1) dX1_putTwo_1 rfl ?_
  refine j_bipush (pc := 2) (v := 8) dX1_putTwo_2 (by decide) ?_
  refine j_ishr (pc := 4) dX1_putTwo_4 ?_
  refine j_callV (pc := 5) (t := 1) (c_put h _) dX1_putTwo_5 l_X1_19 mk_X1_put mv_X1_put (by decide) rfl (by assumption) (by decide) rfl rfl (Nat.le_of_ble_eq_true rfl) (Nat.le_refl _) (Nat.le_refl _) (fun r T h => ?_)
  obtain ⟨rfl, h, f1⟩ := h
  have ka := h.1
  refine j_aload_n (pc := 8) dX1_putTwo_8 rfl ?_
  refine j_iload_n (pc := 9) dX1_putTwo_9 rfl ?_
  refine j_callV (pc := 10) (t := 1) (c_put h _) dX1_putTwo_10 l_X1_19 mk_X1_put mv_X1_put (by decide) rfl (by assumption) (by decide) rfl rfl (Nat.le_of_ble_eq_true rfl) (Nat.le_refl _) (Nat.le_refl _) (fun r T h => ?_)
  obtain ⟨rfl, h, f2⟩ := h
  refine j_vret (pc := 13) dX1_putTwo_13 rfl ?_
  exact ⟨rfl, h, f1.tr f2⟩
set_option maxRecDepth 20000 in
set_option maxHeartbeats 4000000 in
theorem c_putFour {E : zE} {S : zM} {a b cap : Nat} {L : List Nat} (h : zBy S a b cap L) (x : Int32) : zSp E 2 0 0 mX1_putFour cX1_putFour [zR a, zI x] S (fun r T => r = none ∧ zBy T a b cap (zput cap (zput cap (zput cap (zput cap L (x >>> (16 &&& 31) >>> (8 &&& 31))) (x >>> (16 &&& 31))) (x >>> (8 &&& 31))) x) ∧ zF (zAB a b) S T) := by
  refine zSp.of (by decide) rfl (Nat.le_of_ble_eq_true rfl) rfl ?_
  have ka := h.1
  refine j_aload_n (pc := 0) dX1_putFour_0 rfl ?_
  refine j_iload_n (pc := 1) dX1_putFour_1 rfl ?_
  refine j_bipush (pc := 2) (v := 16) dX1_putFour_2 (by decide) ?_
  refine j_ishr (pc := 4) dX1_putFour_4 ?_
  refine j_callV (pc := 5) (t := 1) (c_putTwo h _) dX1_putFour_5 l_X1_23 mk_X1_putTwo mv_X1_putTwo (by decide) rfl (by assumption) (by decide) rfl rfl (Nat.le_of_ble_eq_true rfl) (Nat.le_refl _) (Nat.le_refl _) (fun r T h => ?_)
  obtain ⟨rfl, h, f1⟩ := h
  have ka := h.1
  refine j_aload_n (pc := 8) dX1_putFour_8 rfl ?_
  refine j_iload_n (pc := 9) dX1_putFour_9 rfl ?_
  refine j_callV (pc := 10) (t := 1) (c_putTwo h _) dX1_putFour_10 l_X1_23 mk_X1_putTwo mv_X1_putTwo (by decide) rfl (by assumption) (by decide) rfl rfl (Nat.le_of_ble_eq_true rfl) (Nat.le_refl _) (Nat.le_refl _) (fun r T h => ?_)
  obtain ⟨rfl, h, f2⟩ := h
  refine j_vret (pc := 13) dX1_putFour_13 rfl ?_
  exact ⟨rfl, h, f1.tr f2⟩
set_option maxRecDepth 20000 in
set_option maxHeartbeats 4000000 in
theorem c_getTwo {E : zE} {S : zM} {a b cap : Nat} {L : List Nat} (h : zBy S a b cap L) (x : Int32) : zSp E 1 0 0 mX1_getTwo cX1_getTwo [zR a, zI x] S (fun r T => S = T ∧ r = some (zI (zget L x * 256 + zget L (x + 1)))) := by
  refine zSp.of (by decide) rfl (Nat.le_of_ble_eq_true rfl) rfl ?_
  have ka := h.1
  refine j_aload_n (pc := 0) dX1_getTwo_0 rfl ?_
  refine j_iload_n (pc := 1) dX1_getTwo_1 rfl ?_
  refine j_callV (pc := 2) (t := 1) (c_get h _) dX1_getTwo_2 l_X1_26 mk_X1_get mv_X1_get (by decide) rfl (by assumption) (by decide) rfl rfl (Nat.le_of_ble_eq_true rfl) (Nat.le_refl _) (Nat.le_refl _) (fun r T h_1 => ?_)
  obtain ⟨rfl, rfl⟩ := h_1
  refine j_sipush (pc := 5) (v := 256) dX1_getTwo_5 (by decide) ?_
  refine j_imul (pc := 8) dX1_getTwo_8 ?_
  refine j_aload_n (pc := 9) dX1_getTwo_9 rfl ?_
  refine j_iload_n (pc := 10) dX1_getTwo_10 rfl ?_
  refine j_iconst (pc := 11) (v := 1) dX1_getTwo_11 (by decide) ?_
  refine j_iadd (pc := 12) dX1_getTwo_12 ?_
  refine j_callV (pc := 13) (t := 1) (c_get h _) dX1_getTwo_13 l_X1_26 mk_X1_get mv_X1_get (by decide) rfl (by assumption) (by decide) rfl rfl (Nat.le_of_ble_eq_true rfl) (Nat.le_refl _) (Nat.le_refl _) (fun r T h_1 => ?_)
  obtain ⟨rfl, rfl⟩ := h_1
  refine j_iadd (pc := 16) dX1_getTwo_16 ?_
  refine j_iret (pc := 17) dX1_getTwo_17 rfl ?_
  exact ⟨rfl, rfl⟩
theorem ztake_succ {F : List Nat} {f i : Nat} (hf : f ≤ i) (hi : i < F.length) : (F.drop f).take (i + 1 - f) = (F.drop f).take (i - f) ++ [F.getD i 0] := by
  have e : i + 1 - f = (i - f) + 1 := by omega
  rw [e, List.take_add_one, List.getElem?_drop, show f + (i - f) = i by omega, List.getD_eq_getElem?_getD, List.getElem?_eq_getElem hi]
  rfl
set_option maxRecDepth 20000 in
set_option maxHeartbeats 4000000 in
theorem c_append {E : zE} {S : zM} {a b cap : Nat} {L : List Nat} {a' b' cap' : Nat} {F : List Nat} (h : zBy S a b cap L) (g : zBy S a' b' cap' F) (hd : a' ≠ a ∧ a' ≠ b ∧ b' ≠ a ∧ b' ≠ b) {f e : Nat} (hfe : f ≤ e) (he : e ≤ F.length) (hc : L.length + (e - f) ≤ cap) : zSp E 1 0 0 mX1_append cX1_append [zR a, zR a', zI (nI f), zI (nI e)] S (fun r T => r = none ∧ zBy T a b cap (L ++ (F.drop f).take (e - f)) ∧ zF (zAB a b) S T) := by
  refine zSp.of (by decide) rfl (Nat.le_of_ble_eq_true rfl) rfl ?_
  have hF : F.length < 2 ^ 31 := Nat.lt_of_le_of_lt g.2.2.2.2.2.1 g.2.2.2.1
  have lp : ∀ (n i : Nat) (T : zM), i + n = e → f ≤ i → zBy T a b cap (L ++ (F.drop f).take (i - f)) → zF (zAB a b) S T → zJ E 1 0 0 mX1_append cX1_append 3 [some (zR a), some (zR a'), some (zI (nI f)), some (zI (nI e)), some (zI (nI i))] [] T (fun r T => r = none ∧ zBy T a b cap (L ++ (F.drop f).take (e - f)) ∧ zF (zAB a b) S T) := by
    intro n
    induction n with
    | zero =>
      intro i T hi hf hB hT
      have ei : i = e := by omega
      subst ei
      refine j_iload (pc := 3) dX1_append_3 rfl ?_
      refine j_iload_n (pc := 5) dX1_append_5 rfl ?_
      refine j_icmp_ge (pc := 6) (tgt := 25) dX1_append_6 (by decide) (fun h6 => ?_) (fun h6 => ?_)
      · refine j_vret (pc := 25) dX1_append_25 rfl ?_
        exact ⟨rfl, hB, hT⟩
      · exact absurd (nI_le (Nat.le_refl _) (by omega)) h6
    | succ n ih =>
      intro i T hi hf hB hT
      have g2 : zBy T a' b' cap' F := g.keep hT (by rintro (q | q); exact hd.1 q; exact hd.2.1 q) (by rintro (q | q); exact hd.2.2.1 q; exact hd.2.2.2 q)
      have ka := hB.1
      have kg := g2.1
      refine j_iload (pc := 3) dX1_append_3 rfl ?_
      refine j_iload_n (pc := 5) dX1_append_5 rfl ?_
      refine j_icmp_ge (pc := 6) (tgt := 25) dX1_append_6 (by decide) (fun h6 => ?_) (fun h6 => ?_)
      · exact absurd h6 (nI_ge (by omega) (by omega))
      · refine j_aload_n (pc := 9) dX1_append_9 rfl ?_
        refine j_aload_n (pc := 10) dX1_append_10 rfl ?_
        refine j_iload (pc := 11) dX1_append_11 rfl ?_
        refine j_callV (pc := 13) (t := 1) (c_get g2 _) dX1_append_13 l_X1_26 mk_X1_get mv_X1_get (by decide) rfl (by assumption) (by decide) rfl rfl (Nat.le_of_ble_eq_true rfl) (Nat.le_refl _) (Nat.le_refl _) (fun r T2 h => ?_)
        obtain ⟨rfl, rfl⟩ := h
        refine j_callV (pc := 16) (t := 1) (c_put hB _) dX1_append_16 l_X1_19 mk_X1_put mv_X1_put (by decide) rfl (by assumption) (by decide) rfl rfl (Nat.le_of_ble_eq_true rfl) (Nat.le_refl _) (Nat.le_refl _) (fun r T2 h => ?_)
        obtain ⟨rfl, hB2, hF2⟩ := h
        refine j_iinc (pc := 19) (v := _ + 1) (ls' := [_, _, _, _, _]) dX1_append_19 rfl rfl (by decide) rfl rfl ?_
        refine j_goto (pc := 22) (tgt := 3) dX1_append_22 (by decide) ?_
        rw [nI_1]
        refine ih (i + 1) _ (by omega) (by omega) ?_ (hT.tr hF2)
        have hl : (L ++ (F.drop f).take (i - f)).length < cap := by
          simp only [List.length_append, List.length_take, List.length_drop]
          omega
        rw [zput, if_pos hl, zget_in (by omega) hF, zb8_nI (g.2.2.2.2.2.2 i (by omega)).2] at hB2
        rw [ztake_succ hf (by omega), ← List.append_assoc]
        exact hB2
  refine j_iload_n (pc := 0) dX1_append_0 rfl ?_
  refine j_istore (pc := 1) (ls' := [_, _, _, _, _]) dX1_append_1 (by decide) rfl rfl ?_
  exact lp (e - f) f S (by omega) (Nat.le_refl _) (by simpa using h) zF.rf
def zchk (L : List Nat) : Nat := L.foldl (fun c b => (31 * c + b) % 251) 7
theorem zchk_lt0 (L : List Nat) : ∀ c, c < 251 → L.foldl (fun c b => (31 * c + b) % 251) c < 251 := by
  induction L with
  | nil => exact fun c h => h
  | cons b L ih => exact fun c _ => ih _ (Nat.mod_lt _ (by decide))
theorem zchk_lt (L : List Nat) : zchk L < 251 := zchk_lt0 L 7 (by decide)
theorem zchk_snoc (L : List Nat) (b : Nat) : zchk (L ++ [b]) = (31 * zchk L + b) % 251 := by
  unfold zchk
  rw [List.foldl_append]
  rfl
theorem ztake1 {L : List Nat} {i : Nat} (h : i < L.length) : L.take (i + 1) = L.take i ++ [L.getD i 0] := by
  rw [List.take_add_one, List.getElem?_eq_getElem h, List.getD_eq_getElem?_getD, List.getElem?_eq_getElem h]
  rfl
set_option maxRecDepth 20000 in
set_option maxHeartbeats 4000000 in
theorem c_checkOf {E : zE} {S : zM} {a b cap : Nat} {L : List Nat} (h : zBy S a b cap L) {n : Nat} (hn : n ≤ L.length) : zSp E 1 0 0 mX1_checkOf cX1_checkOf [zR a, zI (nI n)] S (fun r T => S = T ∧ r = some (zI (nI (zchk (L.take n))))) := by
  refine zSp.of (by decide) rfl (Nat.le_of_ble_eq_true rfl) rfl ?_
  have hF : L.length < 2 ^ 31 := Nat.lt_of_le_of_lt h.2.2.2.2.2.1 h.2.2.2.1
  have ka := h.1
  have lp : ∀ (d i : Nat), i + d = n → zJ E 1 0 0 mX1_checkOf cX1_checkOf 5 [some (zR a), some (zI (nI n)), some (zI (nI (zchk (L.take i)))), some (zI (nI i))] [] S (fun r T => S = T ∧ r = some (zI (nI (zchk (L.take n))))) := by
    intro d
    induction d with
    | zero =>
      intro i hi
      have ei : i = n := by omega
      subst ei
      refine j_iload_n (pc := 5) dX1_checkOf_5 rfl ?_
      refine j_iload_n (pc := 6) dX1_checkOf_6 rfl ?_
      refine j_icmp_ge (pc := 7) (tgt := 31) dX1_checkOf_7 (by decide) (fun h7 => ?_) (fun h7 => ?_)
      · refine j_iload_n (pc := 31) dX1_checkOf_31 rfl ?_
        refine j_iret (pc := 32) dX1_checkOf_32 rfl ?_
        exact ⟨rfl, rfl⟩
      · exact absurd (nI_le (Nat.le_refl _) (by omega)) h7
    | succ d ih =>
      intro i hi
      have hlt : i < L.length := by omega
      refine j_iload_n (pc := 5) dX1_checkOf_5 rfl ?_
      refine j_iload_n (pc := 6) dX1_checkOf_6 rfl ?_
      refine j_icmp_ge (pc := 7) (tgt := 31) dX1_checkOf_7 (by decide) (fun h7 => ?_) (fun h7 => ?_)
      · exact absurd h7 (nI_ge (by omega) (by omega))
      · refine j_bipush (pc := 10) (v := 31) dX1_checkOf_10 (by decide) ?_
        refine j_iload_n (pc := 12) dX1_checkOf_12 rfl ?_
        refine j_imul (pc := 13) dX1_checkOf_13 ?_
        refine j_aload_n (pc := 14) dX1_checkOf_14 rfl ?_
        refine j_iload_n (pc := 15) dX1_checkOf_15 rfl ?_
        refine j_callV (pc := 16) (t := 1) (c_get h _) dX1_checkOf_16 l_X1_26 mk_X1_get mv_X1_get (by decide) rfl (by assumption) (by decide) rfl rfl (Nat.le_of_ble_eq_true rfl) (Nat.le_refl _) (Nat.le_refl _) (fun r T h_1 => ?_)
        obtain ⟨rfl, rfl⟩ := h_1
        refine j_iadd (pc := 19) dX1_checkOf_19 ?_
        refine j_sipush (pc := 20) (v := 251) dX1_checkOf_20 (by decide) ?_
        refine j_irem (pc := 23) dX1_checkOf_23 (by decide) ?_
        rw [zget_in hlt hF]
        have hb := (h.2.2.2.2.2.2 i hlt).2
        have hk := zchk_lt (L.take i)
        rw [show (31 : Int32) = nI 31 from rfl, pk_mul, nI_add, show (251 : Int32) = nI 251 from rfl, pk_rem (by omega) (by decide) (by decide), ← zchk_snoc, ← ztake1 hlt]
        refine j_istore_n (pc := 24) (ls' := [_, _, _, _]) dX1_checkOf_24 (by decide) rfl rfl ?_
        refine j_iinc (pc := 25) (v := _ + 1) (ls' := [_, _, _, _]) dX1_checkOf_25 rfl rfl (by decide) rfl rfl ?_
        refine j_goto (pc := 28) (tgt := 5) dX1_checkOf_28 (by decide) ?_
        rw [nI_1]
        exact ih (i + 1) (by omega)
  refine j_bipush (pc := 0) (v := 7) dX1_checkOf_0 (by decide) ?_
  refine j_istore_n (pc := 2) (ls' := [_, _, _, _]) dX1_checkOf_2 (by decide) rfl rfl ?_
  refine j_iconst (pc := 3) (v := 0) dX1_checkOf_3 (by decide) ?_
  refine j_istore_n (pc := 4) (ls' := [_, _, _, _]) dX1_checkOf_4 (by decide) rfl rfl ?_
  exact lp n 0 (by omega)
