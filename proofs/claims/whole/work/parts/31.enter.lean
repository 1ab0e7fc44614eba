theorem zV0.ag {S T : zM} {q : Nat → Nat} (h : zV0 S q) (f : zAg S T 6) (f1 : zAg S T 10) (f2 : zAg S T 11) (f3 : zAg S T 92) (g : ∀ j, j < 40 → ∃ L, zBy T (12 + 2 * j) (12 + 2 * j + 1) 34 L) : zV0 T q := by
  obtain ⟨⟨k1, k2, k3, k4, p1, p2, p3, p4⟩, h2, h3⟩ := h
  refine ⟨⟨f.1.trans k1, f1.1.trans k2, f2.1.trans k3, f3.1.trans k4, (f.2.2.2 0).trans p1, (f.2.2.2 1).trans p2, (f.2.2.2 2).trans p3, (f.2.2.2 3).trans p4⟩, fun i hi => ?_, h3⟩
  obtain ⟨e1, ⟨j, hj, e2⟩, -⟩ := h2 i hi
  refine ⟨(f2.2.2.2 i).trans e1, ⟨j, hj, e2⟩, ?_⟩
  rw [e2]
  exact g j hj
theorem zV0.by {S : zM} {q : Nat → Nat} (h : zV0 S q) {j : Nat} (hj : j < 40) : ∃ L, zBy S (12 + 2 * j) (12 + 2 * j + 1) 34 L := by
  obtain ⟨i, hi, e⟩ : ∃ i, i < 40 ∧ (q i - 12) / 2 = j := by
    have hf : ∀ i, i < 40 → (fun i => (q i - 12) / 2) i < 40 := fun i hi => by
      obtain ⟨-, ⟨k, hk, e⟩, -⟩ := h.2.1 i hi
      show (q i - 12) / 2 < 40
      omega
    have hinj : ∀ i k, i < k → k < 40 → (fun i => (q i - 12) / 2) i ≠ (fun i => (q i - 12) / 2) k := fun i k hik hk e => by
      obtain ⟨-, ⟨a, ha, ea⟩, -⟩ := h.2.1 i (by omega)
      obtain ⟨-, ⟨b, hb, eb⟩, -⟩ := h.2.1 k hk
      have e' : (q i - 12) / 2 = (q k - 12) / 2 := e
      have := h.2.2 i k (by omega) hk (by omega)
      omega
    exact fb_onto hf hinj hj
  obtain ⟨-, ⟨k, hk, e2⟩, L, hL⟩ := h.2.1 i hi
  rw [show q i = 12 + 2 * j by omega] at hL
  exact ⟨L, hL⟩
theorem zins_get {kf : Nat → List Nat} {A : List Nat} {id : Nat} (hn : zlow kf A (kf id) ≤ A.length) (k : Nat) : (zins kf id A)[k]? = if k < zlow kf A (kf id) then A[k]? else if k = zlow kf A (kf id) then some id else A[k - 1]? := by
  unfold zins
  generalize zlow kf A (kf id) = n at hn ⊢
  by_cases h1 : k < n
  · rw [if_pos h1, List.getElem?_append_left (by rw [List.length_take]; omega), List.getElem?_take_of_lt h1]
  · rw [if_neg h1, List.getElem?_append_right (by rw [List.length_take]; omega), List.length_take, Nat.min_eq_left hn]
    by_cases h2 : k = n
    · rw [if_pos h2, h2, Nat.sub_self]
      rfl
    · rw [if_neg h2, show k - n = (k - n - 1) + 1 by omega, List.getElem?_cons_succ, List.getElem?_drop, show n + (k - n - 1) = k - 1 by omega]
theorem zins_len {kf : Nat → List Nat} {A : List Nat} {id : Nat} (hn : zlow kf A (kf id) ≤ A.length) : (zins kf id A).length = A.length + 1 := by
  unfold zins
  rw [List.length_append, List.length_cons, List.length_take, List.length_drop]
  omega
theorem zSo_lt {kf : Nat → List Nat} {A : List Nat} (h : zSo kf A) {i j x y : Nat} (hij : i < j) (hx : A[i]? = some x) (hy : A[j]? = some y) : zkl (kf x) (kf y) = true := by
  obtain ⟨hi, ex⟩ := List.getElem?_eq_some_iff.mp hx
  obtain ⟨hj, ey⟩ := List.getElem?_eq_some_iff.mp hy
  rw [← ex, ← ey]
  exact List.pairwise_iff_getElem.mp h i j hi hj hij
set_option maxRecDepth 20000 in
set_option maxHeartbeats 4000000 in
theorem l_enter1 {E : zE} {S : zM} {Q : Option zV → zM → Prop} {q : Nat → Nat} {A : List Nat} {kf : Nat → List Nat} {id o n : Nat} (h0 : zV0 S q) (hkey : ∀ i x, A[i]? = some x → zBy S (q i) (q i + 1) 34 (kf x)) (hnew : zBy S (q n) (q n + 1) 34 (kf id)) (hs : zSo kf A) (hn : n = A.length) (hl : n < 40)
    (hcont : ∀ (u : Int32) (y : Option zV), zJ E 3 0 0 mX10_enter cX10_enter 85 [some (zR 6), some (zI (nI id)), some (zR o), some (zR (q n)), some (zI (nI (zlow kf A (kf id)))), some (zI u), y] [] S Q) :
    ∀ (k lo hi : Nat) (y : Option zV), hi - lo < k → lo ≤ hi → hi ≤ n → (∀ i x, A[i]? = some x → i < lo → zkl (kf x) (kf id) = true) → (∀ i x, A[i]? = some x → hi ≤ i → zkl (kf x) (kf id) = false) → zJ E 3 0 0 mX10_enter cX10_enter 39 [some (zR 6), some (zI (nI id)), some (zR o), some (zR (q n)), some (zI (nI lo)), some (zI (nI hi)), y] [] S Q := by
  have k1 := h0.1.1
  have k3 := h0.1.2.2.1
  have hp3 := h0.1.2.2.2.2.2.2.1
  intro k
  induction k with
  | zero => exact fun lo hi y h => absurd h (Nat.not_lt_zero _)
  | succ k ih =>
    intro lo hi y hk hlh hhn h2 h3
    refine j_iload (pc := 39) dX10_enter_39 rfl ?_
    refine j_iload (pc := 41) dX10_enter_41 rfl ?_
    refine j_icmp_ge (pc := 43) (tgt := 85) dX10_enter_43 (by decide) (fun h43 => ?_) (fun h43 => ?_)
    · have hle : hi ≤ lo := Nat.le_of_not_lt (fun z => nI_ge z (by omega) h43)
      have e : zlow kf A (kf id) = lo := zlow_of (by omega) h2 (fun i x hx hi2 => h3 i x hx (by omega))
      rw [← e]
      exact hcont _ _
    · refine j_iload (pc := 46) dX10_enter_46 rfl ?_
      refine j_iload (pc := 48) dX10_enter_48 rfl ?_
      refine j_iadd (pc := 50) dX10_enter_50 ?_
      refine j_iconst (pc := 51) (v := 2) dX10_enter_51 (by decide) ?_
      refine j_idiv (pc := 52) dX10_enter_52 (by decide) ?_
      rw [nI_add, show nI (lo + hi) / 2 = nI ((lo + hi) / 2) from pk_div (d := 2) (by omega) (by decide) (by decide)]
      obtain ⟨mid, hmid⟩ : ∃ m, m = (lo + hi) / 2 := ⟨_, rfl⟩
      rw [← hmid]
      have hlt : lo < hi := Nat.lt_of_not_le (fun z => h43 (nI_le z (by omega)))
      have hin : vp_in (nI mid) 40 := vp_in_nI (by omega) (by decide)
      have hcl : (nI mid).toNatClampNeg = mid := nI_clamp (by omega)
      obtain ⟨x, hx⟩ : ∃ x, A[mid]? = some x := ⟨A[mid], List.getElem?_eq_getElem (by omega)⟩
      refine j_istore (pc := 53) (ls' := [_, _, _, _, _, _, _]) dX10_enter_53 (by decide) rfl rfl ?_
      refine j_aload_n (pc := 55) dX10_enter_55 rfl ?_
      refine j_getP (pc := 56) dX10_enter_56 f_X10_24 (Or.inr ⟨_, rfl⟩) (by assumption) ?_
      rw [hp3]
      refine j_iload (pc := 59) dX10_enter_59 rfl ?_
      refine j_aald (pc := 61) (j := 3) dX10_enter_61 (by assumption) (by decide) (by assumption) ?_
      rw [hcl, (h0.2.1 mid (by omega)).1]
      have kx := (hkey mid x hx).1
      refine j_aload_n (pc := 62) dX10_enter_62 rfl ?_
      refine j_callV (pc := 63) (t := 1) (c_against (hkey mid x hx) hnew) dX10_enter_63 l_X10_106 mk_X1_against mv_X1_against (by decide) rfl (by assumption) (by decide) rfl rfl (Nat.le_of_ble_eq_true rfl) (Nat.le_refl _) (Nat.le_refl _) (fun r T h_1 => ?_)
      obtain ⟨rfl, rfl⟩ := h_1
      refine j_if_ge (pc := 66) (tgt := 78) dX10_enter_66 (by decide) (fun h66 => ?_) (fun h66 => ?_)
      · refine j_iload (pc := 78) dX10_enter_78 rfl ?_
        refine j_istore (pc := 80) (ls' := [_, _, _, _, _, _, _]) dX10_enter_80 (by decide) rfl rfl ?_
        refine j_goto (pc := 82) (tgt := 39) dX10_enter_82 (by decide) ?_
        refine ih lo mid _ (by omega) (by omega) (by omega) h2 (fun i z hz hi2 => ?_)
        have hmf : zkl (kf x) (kf id) = false := Bool.eq_false_iff.mpr (fun q => Int32.not_le.mpr ((zcmp_lt _ _).mpr q) h66)
        by_cases e : i = mid
        · subst e
          rw [hx] at hz
          cases hz
          exact hmf
        · refine Bool.eq_false_iff.mpr (fun q => ?_)
          have := zkl_tr _ _ _ (zSo_lt hs (show mid < i by omega) hx hz) q
          rw [hmf] at this
          cases this
      · refine j_iload (pc := 69) dX10_enter_69 rfl ?_
        refine j_iconst (pc := 71) (v := 1) dX10_enter_71 (by decide) ?_
        refine j_iadd (pc := 72) dX10_enter_72 ?_
        refine j_istore (pc := 73) (ls' := [_, _, _, _, _, _, _]) dX10_enter_73 (by decide) rfl rfl ?_
        refine j_goto (pc := 75) (tgt := 82) dX10_enter_75 (by decide) ?_
        refine j_goto (pc := 82) (tgt := 39) dX10_enter_82 (by decide) ?_
        rw [nI_1]
        refine ih (mid + 1) hi _ (by omega) (by omega) (by omega) (fun i z hz hi2 => ?_) h3
        have hmt : zkl (kf x) (kf id) = true := (zcmp_lt _ _).mp (Int32.not_le.mp h66)
        by_cases e : i = mid
        · subst e
          rw [hx] at hz
          cases hz
          exact hmt
        · exact zkl_tr _ _ _ (zSo_lt hs (show i < mid by omega) hz hx) hmt
set_option maxRecDepth 20000 in
set_option maxHeartbeats 4000000 in
theorem l_enter2 {E : zE} {S : zM} {Q : Option zV → zM → Prop} {q : Nat → Nat} {id o n low : Nat} (h0 : zV0 S q) (hl : n < 40)
    (hcont : ∀ (T : zM) (u : Int32) (y : Option zV), (∀ k, k < 40 → zgP T 11 k = if low < k ∧ k ≤ n then q (k - 1) else q k) → (∀ k, k < 40 → zgI T 10 k = if low < k ∧ k ≤ n then zgI S 10 (k - 1) else zgI S 10 k) → zG (fun c => c = 10 ∨ c = 11) S T → zJ E 3 0 0 mX10_enter cX10_enter 136 [some (zR 6), some (zI (nI id)), some (zR o), some (zR (q n)), some (zI (nI low)), some (zI u), y] [] T Q) :
    ∀ (d i : Nat) (T : zM) (u : Int32), i - low ≤ d → low ≤ i → i ≤ n → (∀ k, k < 40 → zgP T 11 k = if i < k ∧ k ≤ n then q (k - 1) else q k) → (∀ k, k < 40 → zgI T 10 k = if i < k ∧ k ≤ n then zgI S 10 (k - 1) else zgI S 10 k) → zG (fun c => c = 10 ∨ c = 11) S T → zJ E 3 0 0 mX10_enter cX10_enter 91 [some (zR 6), some (zI (nI id)), some (zR o), some (zR (q n)), some (zI (nI low)), some (zI u), some (zI (nI i))] [] T Q := by
  intro d
  induction d with
  | zero =>
    intro i T u hd hli hin0 hP hI hG
    have k6 : zkd T 6 = (11, 0) := by rw [hG.1]; exact h0.1.1
    refine j_iload (pc := 91) dX10_enter_91 rfl ?_
    refine j_iload (pc := 93) dX10_enter_93 rfl ?_
    refine j_icmp_le (pc := 95) (tgt := 136) dX10_enter_95 (by decide) (fun h95 => ?_) (fun h95 => ?_)
    · have e : i = low := by omega
      subst e
      exact hcont _ _ _ hP hI hG
    · exact absurd (nI_le (by omega) (by omega)) h95
  | succ d ih =>
    intro i T u hd hli hin0 hP hI hG
    have k6 : zkd T 6 = (11, 0) := by rw [hG.1]; exact h0.1.1
    have k10 : zkd T 10 = (14, 40) := by rw [hG.1]; exact h0.1.2.1
    have k11 : zkd T 11 = (17, 40) := by rw [hG.1]; exact h0.1.2.2.1
    have hq3 : zgP T 6 2 = 11 := ((hG.2.2 6 (by decide)).2.2.2 2).trans h0.1.2.2.2.2.2.2.1
    have hq2 : zgP T 6 1 = 10 := ((hG.2.2 6 (by decide)).2.2.2 1).trans h0.1.2.2.2.2.2.1
    refine j_iload (pc := 91) dX10_enter_91 rfl ?_
    refine j_iload (pc := 93) dX10_enter_93 rfl ?_
    refine j_icmp_le (pc := 95) (tgt := 136) dX10_enter_95 (by decide) (fun h95 => ?_) (fun h95 => ?_)
    · have hle : i ≤ low := Nat.le_of_not_lt (fun z => nI_ge z (by omega) h95)
      have e : i = low := by omega
      subst e
      exact hcont _ _ _ hP hI hG
    · have hgt : low < i := Nat.lt_of_not_le (fun z => h95 (nI_le z (by omega)))
      have hin : vp_in (nI i) 40 := vp_in_nI (by omega) (by decide)
      have hin1 : vp_in (nI (i - 1)) 40 := vp_in_nI (by omega) (by decide)
      have hcl : (nI i).toNatClampNeg = i := nI_clamp (by omega)
      have hcl1 : (nI (i - 1)).toNatClampNeg = i - 1 := nI_clamp (by omega)
      have hi1 : nI i - 1 = nI (i - 1) := pk_sub (a := i) (b := 1) (by omega)
      have kq : zkd T (q (i - 1)) = (2, 0) := by rw [hG.1]; obtain ⟨-, -, L, hL⟩ := h0.2.1 (i - 1) (by omega); exact hL.1
      refine j_aload_n (pc := 98) dX10_enter_98 rfl ?_
      refine j_getP (pc := 99) dX10_enter_99 f_X10_24 (Or.inr ⟨_, rfl⟩) (by assumption) ?_
      rw [hq3]
      refine j_iload (pc := 102) dX10_enter_102 rfl ?_
      refine j_aload_n (pc := 104) dX10_enter_104 rfl ?_
      refine j_getP (pc := 105) dX10_enter_105 f_X10_24 (Or.inr ⟨_, rfl⟩) (by assumption) ?_
      rw [hq3]
      refine j_iload (pc := 108) dX10_enter_108 rfl ?_
      refine j_iconst (pc := 110) (v := 1) dX10_enter_110 (by decide) ?_
      refine j_isub (pc := 111) dX10_enter_111 ?_
      rw [hi1]
      refine j_aald (pc := 112) (j := 3) dX10_enter_112 (by assumption) (by decide) (by assumption) ?_
      rw [hcl1, hP (i - 1) (by omega), if_neg (by omega)]
      refine j_aast (pc := 113) (j := 3) (t := 1) dX10_enter_113 (by assumption) (by decide) (by assumption) (by assumption) ?_
      refine j_aload_n (pc := 114) dX10_enter_114 rfl ?_
      refine j_getP (pc := 115) dX10_enter_115 f_X10_18 (Or.inr ⟨_, rfl⟩) (by assumption) ?_
      rw [hcl]
      rw [show zgP (zwP T 11 i (q (i - 1))) 6 1 = 10 from hq2]
      refine j_iload (pc := 118) dX10_enter_118 rfl ?_
      refine j_aload_n (pc := 120) dX10_enter_120 rfl ?_
      refine j_getP (pc := 121) dX10_enter_121 f_X10_18 (Or.inr ⟨_, rfl⟩) (by assumption) ?_
      rw [show zgP (zwP T 11 i (q (i - 1))) 6 1 = 10 from hq2]
      refine j_iload (pc := 124) dX10_enter_124 rfl ?_
      refine j_iconst (pc := 126) (v := 1) dX10_enter_126 (by decide) ?_
      refine j_isub (pc := 127) dX10_enter_127 ?_
      rw [hi1]
      refine j_iald (pc := 128) dX10_enter_128 (by assumption) (by assumption) ?_
      rw [hcl1]
      refine j_iast (pc := 129) dX10_enter_129 (by assumption) (by assumption) ?_
      refine j_iinc (pc := 130) (v := _ + (-1)) (ls' := [_, _, _, _, _, _, _]) dX10_enter_130 rfl rfl (by decide) rfl rfl ?_
      refine j_goto (pc := 133) (tgt := 91) dX10_enter_133 (by decide) ?_
      rw [hcl, show nI i + -1 = nI (i - 1) from by rw [← Int32.sub_eq_add_neg]; exact pk_sub (a := i) (b := 1) (by omega)]
      refine ih (i - 1) _ _ (by omega) (by omega) (by omega) (fun k hk => ?_) (fun k hk => ?_) (hG.tr ((zG.wP (Or.inr rfl)).tr (zF.wI (Or.inl rfl)).g))
      · show zgP (zwP T 11 i (q (i - 1))) 11 k = _
        rw [zgP_wP]
        by_cases e : k = i
        · rw [if_pos ⟨rfl, e⟩, if_pos (by omega), e]
        · rw [if_neg (fun z => e z.2), hP k hk]
          by_cases e2 : i < k ∧ k ≤ n
          · rw [if_pos e2, if_pos (by omega)]
          · rw [if_neg e2, if_neg (by omega)]
      · rw [zgI_wI]
        show (if 10 = 10 ∧ k = i then zgI T 10 (i - 1) else zgI T 10 k) = _
        by_cases e : k = i
        · rw [if_pos ⟨rfl, e⟩, if_pos (by omega), e, hI (i - 1) (by omega), if_neg (by omega)]
        · rw [if_neg (fun z => e z.2), hI k hk]
          by_cases e2 : i < k ∧ k ≤ n
          · rw [if_pos e2, if_pos (by omega)]
          · rw [if_neg e2, if_neg (by omega)]
theorem zenter_end {S T U : zM} {q : Nat → Nat} {A : List Nat} {kf : Nat → List Nat} {id n : Nat} (h0 : zV0 S q) (h0' : zV0 T q) (h1 : zV1 S q A kf) (hkey : ∀ i x, A[i]? = some x → zBy T (q i) (q i + 1) 34 (kf x)) (g1 : zBy T (q n) (q n + 1) 34 (kf id)) (hn : n = A.length) (hl : n < 40) (hlow : zlow kf A (kf id) ≤ n) (hid : id < 64)
    (hP : ∀ k, k < 40 → zgP U 11 k = if zlow kf A (kf id) < k ∧ k ≤ n then q (k - 1) else q k) (hI : ∀ k, k < 40 → zgI U 10 k = if zlow kf A (kf id) < k ∧ k ≤ n then zgI T 10 (k - 1) else zgI T 10 k) (hG : zG (fun c => c = 10 ∨ c = 11) T U) (f1 : zF (zAB (q n) (q n + 1)) S T) (hj : ∃ j, j < 40 ∧ q n = 12 + 2 * j) :
    ∃ q', zV0 (zwI (zwI (zwP U 11 (zlow kf A (kf id)) (q n)) 10 (zlow kf A (kf id)) (nI id)) 6 4 (nI (n + 1))) q' ∧ zV1 (zwI (zwI (zwP U 11 (zlow kf A (kf id)) (q n)) 10 (zlow kf A (kf id)) (nI id)) 6 4 (nI (n + 1))) q' (zins kf id A) kf ∧ zG (fun c => c = 6 ∨ (10 ≤ c ∧ c ≤ 91)) S (zwI (zwI (zwP U 11 (zlow kf A (kf id)) (q n)) 10 (zlow kf A (kf id)) (nI id)) 6 4 (nI (n + 1))) ∧ (∀ k, k ≠ 4 → zgI (zwI (zwI (zwP U 11 (zlow kf A (kf id)) (q n)) 10 (zlow kf A (kf id)) (nI id)) 6 4 (nI (n + 1))) 6 k = zgI S 6 k) ∧ ∀ k, zgP (zwI (zwI (zwP U 11 (zlow kf A (kf id)) (q n)) 10 (zlow kf A (kf id)) (nI id)) 6 4 (nI (n + 1))) 6 k = zgP S 6 k := by
  have hget := zins_get (kf := kf) (A := A) (id := id) (by rw [← hn]; exact hlow)
  have hlen := zins_len (kf := kf) (A := A) (id := id) (by rw [← hn]; exact hlow)
  generalize zlow kf A (kf id) = low at *
  obtain ⟨jn, hjn, ejn⟩ := hj
  have hW : zG (fun c => c = 6 ∨ c = 10 ∨ c = 11) T (zwI (zwI (zwP U 11 low (q n)) 10 low (nI id)) 6 4 (nI (n + 1))) := (hG.mo (fun c z => Or.inr z)).tr (((zG.wP (Or.inr (Or.inr rfl))).tr (zF.wI (Or.inr (Or.inl rfl))).g).tr (zF.wI (Or.inl rfl)).g)
  have hPW : ∀ k, k < 40 → zgP (zwI (zwI (zwP U 11 low (q n)) 10 low (nI id)) 6 4 (nI (n + 1))) 11 k = if k = low then q n else if low < k ∧ k ≤ n then q (k - 1) else q k := fun k hk => by
    show zgP (zwP U 11 low (q n)) 11 k = _
    rw [zgP_wP]
    by_cases e : k = low
    · rw [if_pos ⟨rfl, e⟩, if_pos e]
    · rw [if_neg (fun z => e z.2), if_neg e]
      exact hP k hk
  have hIW : ∀ k, k < 40 → zgI (zwI (zwI (zwP U 11 low (q n)) 10 low (nI id)) 6 4 (nI (n + 1))) 10 k = if k = low then nI id else if low < k ∧ k ≤ n then zgI T 10 (k - 1) else zgI T 10 k := fun k hk => by
    rw [zgI_ne (by decide), zgI_wI]
    by_cases e : k = low
    · rw [if_pos ⟨rfl, e⟩, if_pos e]
    · rw [if_neg (fun z => e z.2), if_neg e]
      exact hI k hk
  have hT10 : ∀ k, zgI T 10 k = zgI S 10 k := f1.2.2.2.1 10 (by unfold zAB; omega)
  have hmv : ∀ {a L}, 12 ≤ a → zBy T a (a + 1) 34 L → zBy (zwI (zwI (zwP U 11 low (q n)) 10 low (nI id)) 6 4 (nI (n + 1))) a (a + 1) 34 L := fun ha h => h.ag (hW.2.2 _ (by omega)) (hW.2.2 _ (by omega))
  have hq12 : ∀ i, i < 40 → 12 ≤ q i := fun i hi => by obtain ⟨-, ⟨j, -, e⟩, -⟩ := h0.2.1 i hi; omega
  have hkW : zkd (zwI (zwI (zwP U 11 low (q n)) 10 low (nI id)) 6 4 (nI (n + 1))) = zkd T := hW.1
  have hinv : ∀ k, k < 40 → ∃ i, i < 40 ∧ (if k = low then q n else if low < k ∧ k ≤ n then q (k - 1) else q k) = q i ∧ (i = if k = low then n else if low < k ∧ k ≤ n then k - 1 else k) := fun k hk => by
    by_cases e : k = low
    · exact ⟨n, hl, by rw [if_pos e], by rw [if_pos e]⟩
    · by_cases e2 : low < k ∧ k ≤ n
      · exact ⟨k - 1, by omega, by rw [if_neg e, if_pos e2], by rw [if_neg e, if_pos e2]⟩
      · exact ⟨k, hk, by rw [if_neg e, if_neg e2], by rw [if_neg e, if_neg e2]⟩
  have h6 : ∀ k, zgP (zwI (zwI (zwP U 11 low (q n)) 10 low (nI id)) 6 4 (nI (n + 1))) 6 k = zgP T 6 k := fun k => by
    show zgP (zwP U 11 low (q n)) 6 k = _
    rw [zgP_ne (by decide)]
    exact (hG.2.2 6 (by decide)).2.2.2 k
  refine ⟨fun k => if k = low then q n else if low < k ∧ k ≤ n then q (k - 1) else q k, ⟨⟨by rw [hkW]; exact h0'.1.1, by rw [hkW]; exact h0'.1.2.1, by rw [hkW]; exact h0'.1.2.2.1, by rw [hkW]; exact h0'.1.2.2.2.1, (h6 0).trans h0'.1.2.2.2.2.1, (h6 1).trans h0'.1.2.2.2.2.2.1, (h6 2).trans h0'.1.2.2.2.2.2.2.1, (h6 3).trans h0'.1.2.2.2.2.2.2.2⟩, fun k hk => ?_, fun a b ha hb e => ?_⟩, ⟨by rw [zgI_self, hlen, hn], by rw [hlen]; omega, fun i x hx => ?_⟩, ?_, fun k hk => ?_, fun k => ?_⟩
  · refine ⟨hPW k hk, ?_, ?_⟩
    · obtain ⟨i, hi, e, -⟩ := hinv k hk
      show ∃ j, j < 40 ∧ (if k = low then q n else if low < k ∧ k ≤ n then q (k - 1) else q k) = 12 + 2 * j
      rw [e]
      exact (h0.2.1 i hi).2.1
    · obtain ⟨i, hi, e, -⟩ := hinv k hk
      show ∃ L, zBy _ (if k = low then q n else if low < k ∧ k ≤ n then q (k - 1) else q k) ((if k = low then q n else if low < k ∧ k ≤ n then q (k - 1) else q k) + 1) 34 L
      rw [e]
      obtain ⟨-, -, L, hL⟩ := h0'.2.1 i hi
      exact ⟨L, hmv (hq12 i hi) hL⟩
  · obtain ⟨i, hi, e1, e2⟩ := hinv a ha
    obtain ⟨j, hj, e3, e4⟩ := hinv b hb
    have e5 : q i = q j := e1.symm.trans (e.trans e3)
    have e6 := h0.2.2 i j hi hj e5
    rw [e2, e4] at e6
    by_cases a1 : a = low <;> by_cases b1 : b = low
    · omega
    · rw [if_pos a1, if_neg b1] at e6
      by_cases b2 : low < b ∧ b ≤ n
      · rw [if_pos b2] at e6; omega
      · rw [if_neg b2] at e6; omega
    · rw [if_neg a1, if_pos b1] at e6
      by_cases a2 : low < a ∧ a ≤ n
      · rw [if_pos a2] at e6; omega
      · rw [if_neg a2] at e6; omega
    · rw [if_neg a1, if_neg b1] at e6
      by_cases a2 : low < a ∧ a ≤ n <;> by_cases b2 : low < b ∧ b ≤ n
      · rw [if_pos a2, if_pos b2] at e6; omega
      · rw [if_pos a2, if_neg b2] at e6; omega
      · rw [if_neg a2, if_pos b2] at e6; omega
      · rw [if_neg a2, if_neg b2] at e6; omega
  · have hi : i < (zins kf id A).length := (List.getElem?_eq_some_iff.mp hx).1
    rw [hlen] at hi
    rw [hget i] at hx
    rw [hIW i (by omega)]
    show _ ∧ x < 64 ∧ zBy _ (if i = low then q n else if low < i ∧ i ≤ n then q (i - 1) else q i) ((if i = low then q n else if low < i ∧ i ≤ n then q (i - 1) else q i) + 1) 34 (kf x)
    by_cases c1 : i < low
    · rw [if_pos c1] at hx
      rw [if_neg (by omega), if_neg (by omega), if_neg (by omega), if_neg (by omega), hT10]
      exact ⟨(h1.2.2 i x hx).1, (h1.2.2 i x hx).2.1, hmv (hq12 i (by omega)) (hkey i x hx)⟩
    · rw [if_neg c1] at hx
      by_cases c2 : i = low
      · rw [if_pos c2] at hx
        cases hx
        rw [if_pos c2, if_pos c2]
        exact ⟨rfl, hid, hmv (by omega) g1⟩
      · rw [if_neg c2] at hx
        rw [if_neg c2, if_pos (by omega), if_neg c2, if_pos (by omega), hT10]
        exact ⟨(h1.2.2 _ x hx).1, (h1.2.2 _ x hx).2.1, hmv (hq12 _ (by omega)) (hkey _ x hx)⟩
  · exact (f1.g.mo (fun c z => by unfold zAB at z; omega)).tr (hW.mo (fun c z => by omega))
  · rw [zgI_nk hk, zgI_ne (by decide)]
    show zgI U 6 k = _
    rw [(hG.2.2 6 (by decide)).2.1 k]
    exact f1.2.2.2.1 6 (by unfold zAB; omega) k
  · rw [h6 k, f1.2.2.1]

set_option maxRecDepth 20000 in
set_option maxHeartbeats 4000000 in
theorem c_enter {E : zE} {S : zM} {q : Nat → Nat} {A : List Nat} {kf : Nat → List Nat} {id o gv : Nat} {O : List zOe} {th : Nat → Bool} {vl : Nat → Nat → Int64} (h0 : zV0 S q) (h1 : zV1 S q A kf) (hs : zSo kf A) (hO : zOr S o O) (ho : 93 ≤ o) (hR : zRo S 7 th vl gv) (hid : id < 64) (hl0 : A.length < 40) (hk : kf id = zkey O (vl id) id) : zSp E 3 0 0 mX10_enter cX10_enter [zR 6, zI (nI id), zR o] S (fun r T => r = none ∧ ∃ q', zV0 T q' ∧ zV1 T q' (zins kf id A) kf ∧ zG (fun c => c = 6 ∨ (10 ≤ c ∧ c ≤ 91)) S T ∧ (∀ k, k ≠ 4 → zgI T 6 k = zgI S 6 k) ∧ ∀ k, zgP T 6 k = zgP S 6 k) := by
  refine zSp.of (by decide) rfl (Nat.le_of_ble_eq_true rfl) rfl ?_
  obtain ⟨n, hn⟩ : ∃ n, n = A.length := ⟨_, rfl⟩
  rw [← hn] at hl0
  have hl := hl0
  have h1x := h1
  obtain ⟨h1a, h1b, h1c⟩ := h1x
  rw [← hn] at h1a
  have k1 := h0.1.1
  have k3 := h0.1.2.2.1
  have ko := hO.1.1
  obtain ⟨L0, g⟩ := (h0.2.1 n hl).2.2
  obtain ⟨j0, hj0, ej0⟩ := (h0.2.1 n hl).2.1
  have hin : vp_in (nI n) 40 := vp_in_nI hl (by decide)
  have hcl : (nI n).toNatClampNeg = n := nI_clamp (by omega)
  refine j_aload_n (pc := 0) dX10_enter_0 rfl ?_
  refine j_getI (pc := 1) dX10_enter_1 f_X10_34 (Or.inl rfl) (by assumption) ?_
  rw [h1a]
  refine j_bipush (pc := 4) (v := 40) dX10_enter_4 (by decide) ?_
  refine j_icmp_lt (pc := 6) (tgt := 10) dX10_enter_6 (by decide) (fun h6 => ?_) (fun h6 => ?_)
  · refine j_aload_n (pc := 10) dX10_enter_10 rfl ?_
    refine j_getP (pc := 11) dX10_enter_11 f_X10_24 (Or.inr ⟨_, rfl⟩) (by assumption) ?_
    rw [h0.1.2.2.2.2.2.2.1]
    refine j_aload_n (pc := 14) dX10_enter_14 rfl ?_
    refine j_getI (pc := 15) dX10_enter_15 f_X10_34 (Or.inl rfl) (by assumption) ?_
    rw [h1a]
    refine j_aald (pc := 18) (j := 3) dX10_enter_18 (by assumption) (by decide) (by assumption) ?_
    rw [hcl, (h0.2.1 n (by omega)).1]
    refine j_astore_n (pc := 19) (ls' := [_, _, _, _, _, _, _]) dX10_enter_19 (by decide) rfl rfl ?_
    refine j_aload_n (pc := 20) dX10_enter_20 rfl ?_
    refine j_aload_n (pc := 21) dX10_enter_21 rfl ?_
    refine j_getP (pc := 22) dX10_enter_22 f_X10_12 (Or.inl ⟨_, rfl⟩) (by assumption) ?_
    rw [h0.1.2.2.2.2.1]
    refine j_iload_n (pc := 25) dX10_enter_25 rfl ?_
    refine j_aload_n (pc := 26) dX10_enter_26 rfl ?_
    refine j_callV (pc := 27) (t := 3) (c_writeKey hO hR hid g (Nat.le_refl 34) (fun k hk => by unfold zAB; omega) (fun k hk => by unfold zAB; omega)) dX10_enter_27 l_X10_100 mk_X3_writeKey mv_X3_writeKey (by decide) rfl (by assumption) (by decide) rfl rfl (Nat.le_of_ble_eq_true rfl) (Nat.le_refl _) (Nat.le_refl _) (fun r T h_1 => ?_)
    obtain ⟨rfl, g1, f1⟩ := h_1
    have hA : ∀ c, ¬ zAB (q n) (q n + 1) c → zAg S T c := fun c hc => f1.ag hc
    obtain ⟨jn, hjn, ejn⟩ := (h0.2.1 n (by omega)).2.1
    have h0' : zV0 T q := h0.ag (hA 6 (by unfold zAB; omega)) (hA 10 (by unfold zAB; omega)) (hA 11 (by unfold zAB; omega)) (hA 92 (by unfold zAB; omega)) (fun j hj => by
      by_cases e : j = jn
      · rw [e, ← ejn]
        exact ⟨_, g1⟩
      · obtain ⟨L2, hL2⟩ := h0.by hj
        exact ⟨L2, hL2.ag (hA _ (by unfold zAB; omega)) (hA _ (by unfold zAB; omega))⟩)
    have hkey : ∀ i x, A[i]? = some x → zBy T (q i) (q i + 1) 34 (kf x) := fun i x hx => by
      have hi : i < A.length := (List.getElem?_eq_some_iff.mp hx).1
      obtain ⟨ji, hji, eji⟩ := (h0.2.1 i (by omega)).2.1
      have hne : q i ≠ q n := fun z => absurd (h0.2.2 i n (by omega) (by omega) z) (by omega)
      exact (h1.2.2 i x hx).2.2.ag (hA _ (by unfold zAB; omega)) (hA _ (by unfold zAB; omega))
    rw [← hk] at g1
    have hc6 : zgI T 6 4 = nI n := ((hA 6 (by unfold zAB; omega)).2.1 4).trans h1a
    have k6 : zkd T 6 = (11, 0) := h0'.1.1
    refine j_iconst (pc := 30) (v := 0) dX10_enter_30 (by decide) ?_
    refine j_istore (pc := 31) (ls' := [_, _, _, _, _, _, _]) dX10_enter_31 (by decide) rfl rfl ?_
    refine j_aload_n (pc := 33) dX10_enter_33 rfl ?_
    refine j_getI (pc := 34) dX10_enter_34 f_X10_34 (Or.inl rfl) (by assumption) ?_
    rw [hc6]
    refine j_istore (pc := 37) (ls' := [_, _, _, _, _, _, _]) dX10_enter_37 (by decide) rfl rfl ?_
    refine l_enter1 h0' hkey g1 hs hn hl (fun u y => ?_) (n + 1) 0 n _ (by omega) (by omega) (Nat.le_refl _) (fun i x _ hi => absurd hi (Nat.not_lt_zero i)) (fun i x hx hi => absurd (List.getElem?_eq_some_iff.mp hx).1 (by omega))
    have hlow : zlow kf A (kf id) ≤ n := by rw [hn]; exact List.countP_le_length
    refine j_aload_n (pc := 85) dX10_enter_85 rfl ?_
    refine j_getI (pc := 86) dX10_enter_86 f_X10_34 (Or.inl rfl) (by assumption) ?_
    rw [hc6]
    refine j_istore (pc := 89) (ls' := [_, _, _, _, _, _, _]) dX10_enter_89 (by decide) rfl rfl ?_
    refine l_enter2 h0' hl (fun U v z hP hI hG => ?_) n n _ _ (by omega) hlow (Nat.le_refl _) (fun k hk => by rw [if_neg (by omega)]; exact (h0'.2.1 k hk).1) (fun k hk => by rw [if_neg (by omega)]) zG.rf
    have e6 := hG.2.2 6 (by decide)
    have hin2 : vp_in (nI (zlow kf A (kf id))) 40 := vp_in_nI (by omega) (by decide)
    have hcl2 : (nI (zlow kf A (kf id))).toNatClampNeg = zlow kf A (kf id) := nI_clamp (by omega)
    have u6 : zkd U 6 = (11, 0) := e6.1.trans h0'.1.1
    have u10 : zkd U 10 = (14, 40) := by rw [hG.1]; exact h0'.1.2.1
    have u11 : zkd U 11 = (17, 40) := by rw [hG.1]; exact h0'.1.2.2.1
    have uq : zkd U (q n) = (2, 0) := by rw [hG.1]; exact g1.1
    refine j_aload_n (pc := 136) dX10_enter_136 rfl ?_
    refine j_getP (pc := 137) dX10_enter_137 f_X10_24 (Or.inr ⟨_, rfl⟩) (by assumption) ?_
    rw [(e6.2.2.2 2).trans h0'.1.2.2.2.2.2.2.1]
    refine j_iload (pc := 140) dX10_enter_140 rfl ?_
    refine j_aload_n (pc := 142) dX10_enter_142 rfl ?_
    refine j_aast (pc := 143) (j := 3) (t := 1) dX10_enter_143 (by assumption) (by decide) (by assumption) (by assumption) ?_
    refine j_aload_n (pc := 144) dX10_enter_144 rfl ?_
    refine j_getP (pc := 145) dX10_enter_145 f_X10_18 (Or.inr ⟨_, rfl⟩) (by assumption) ?_
    rw [hcl2, show zgP (zwP U 11 (zlow kf A (kf id)) (q n)) 6 1 = 10 from (e6.2.2.2 1).trans h0'.1.2.2.2.2.2.1]
    refine j_iload (pc := 148) dX10_enter_148 rfl ?_
    refine j_iload_n (pc := 150) dX10_enter_150 rfl ?_
    refine j_iast (pc := 151) dX10_enter_151 (by assumption) (by assumption) ?_
    refine j_aload_n (pc := 152) dX10_enter_152 rfl ?_
    refine j_dup (pc := 153) dX10_enter_153 rfl ?_
    refine j_getI (pc := 154) dX10_enter_154 f_X10_34 (Or.inl rfl) (by assumption) ?_
    rw [hcl2, show zgI (zwI (zwP U 11 (zlow kf A (kf id)) (q n)) 10 (zlow kf A (kf id)) (nI id)) 6 4 = nI n from (zgI_ne (S := zwP U 11 (zlow kf A (kf id)) (q n)) (by decide)).trans ((e6.2.1 4).trans hc6)]
    refine j_iconst (pc := 157) (v := 1) dX10_enter_157 (by decide) ?_
    refine j_iadd (pc := 158) dX10_enter_158 ?_
    rw [nI_1]
    refine j_putI (pc := 159) dX10_enter_159 f_X10_34 rfl (by assumption) rfl ?_
    refine j_vret (pc := 162) dX10_enter_162 rfl ?_
    exact ⟨rfl, zenter_end h0 h0' h1 hkey g1 hn hl hlow hid hP hI hG f1 ⟨jn, hjn, ejn⟩⟩
  · refine j_vret (pc := 9) dX10_enter_9 rfl ?_
    exact absurd (nI_lt (b := 40) hl (by decide)) h6
