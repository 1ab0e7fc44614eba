/-! BYTES: a row of bytes as a list of numbers below 256 -/
def zb8 (x : Int32) : Nat := x.toBitVec.toNat % 256
theorem zb8_and (x : Int32) : x &&& 255 = nI (zb8 x) := pk_and x 8 (by decide)
theorem zb8_lt (x : Int32) : zb8 x < 256 := Nat.mod_lt _ (by decide)
theorem zb8_nI {n : Nat} (h : n < 256) : zb8 (nI n) = n := by
  unfold zb8
  rw [pk_tn (by omega), Nat.mod_eq_of_lt h]
/-- nothing is made, no reference is written, nothing but the cells of X is written -/
def zF (X : Nat → Prop) (S T : zM) : Prop := zkd T = zkd S ∧ zgn T = zgn S ∧ zgP T = zgP S ∧ (∀ c, ¬ X c → ∀ k, zgI T c k = zgI S c k) ∧ ∀ c, ¬ X c → ∀ k, zgL T c k = zgL S c k
theorem zF.rf {X : Nat → Prop} {S : zM} : zF X S S := ⟨rfl, rfl, rfl, fun _ _ _ => rfl, fun _ _ _ => rfl⟩
theorem zF.tr {X : Nat → Prop} {S T U : zM} (h : zF X S T) (g : zF X T U) : zF X S U := ⟨g.1.trans h.1, g.2.1.trans h.2.1, g.2.2.1.trans h.2.2.1, fun c hc k => (g.2.2.2.1 c hc k).trans (h.2.2.2.1 c hc k), fun c hc k => (g.2.2.2.2 c hc k).trans (h.2.2.2.2 c hc k)⟩
theorem zF.mo {X Y : Nat → Prop} {S T : zM} (h : zF X S T) (hxy : ∀ c, X c → Y c) : zF Y S T := ⟨h.1, h.2.1, h.2.2.1, fun c hc => h.2.2.2.1 c (fun q => hc (hxy c q)), fun c hc => h.2.2.2.2 c (fun q => hc (hxy c q))⟩
theorem zgI_wI (S : zM) (a k b j : Nat) (v : Int32) : zgI (zwI S a k v) b j = if b = a ∧ j = k then v else zgI S b j := rfl
theorem zgL_wL (S : zM) (a k b j : Nat) (v : Int64) : zgL (zwL S a k v) b j = if b = a ∧ j = k then v else zgL S b j := rfl
theorem zgP_wP (S : zM) (a k b j v : Nat) : zgP (zwP S a k v) b j = if b = a ∧ j = k then v else zgP S b j := rfl
theorem zgI_ne {S : zM} {a k b j : Nat} {v : Int32} (h : b ≠ a) : zgI (zwI S a k v) b j = zgI S b j := by
  rw [zgI_wI]
  exact if_neg (fun q => h q.1)
theorem zgI_nk {S : zM} {a k j : Nat} {v : Int32} (h : j ≠ k) : zgI (zwI S a k v) a j = zgI S a j := by
  rw [zgI_wI]
  exact if_neg (fun q => h q.2)
theorem zgL_ne {S : zM} {a k b j : Nat} {v : Int64} (h : b ≠ a) : zgL (zwL S a k v) b j = zgL S b j := by
  rw [zgL_wL]
  exact if_neg (fun q => h q.1)
theorem zgL_nk {S : zM} {a k j : Nat} {v : Int64} (h : j ≠ k) : zgL (zwL S a k v) a j = zgL S a j := by
  rw [zgL_wL]
  exact if_neg (fun q => h q.2)
theorem zgP_ne {S : zM} {a k b j v : Nat} (h : b ≠ a) : zgP (zwP S a k v) b j = zgP S b j := by
  rw [zgP_wP]
  exact if_neg (fun q => h q.1)
theorem zgP_nk {S : zM} {a k j v : Nat} (h : j ≠ k) : zgP (zwP S a k v) a j = zgP S a j := by
  rw [zgP_wP]
  exact if_neg (fun q => h q.2)
theorem zF.wI {X : Nat → Prop} {S : zM} {a k : Nat} {v : Int32} (h : X a) : zF X S (zwI S a k v) := ⟨rfl, rfl, rfl, fun c hc j => zgI_ne (fun q => hc (q ▸ h)), fun _ _ _ => rfl⟩
theorem zF.wL {X : Nat → Prop} {S : zM} {a k : Nat} {v : Int64} (h : X a) : zF X S (zwL S a k v) := ⟨rfl, rfl, rfl, fun _ _ _ => rfl, fun c hc j => zgL_ne (fun q => hc (q ▸ h))⟩
def zBy (S : zM) (a b cap : Nat) (L : List Nat) : Prop := zkd S a = (2, 0) ∧ zkd S b = (14, cap) ∧ zgP S a 0 = b ∧ cap < 2 ^ 31 ∧ zgI S a 1 = nI L.length ∧ L.length ≤ cap ∧ ∀ i, i < L.length → zgI S b i = nI (L.getD i 0) ∧ L.getD i 0 < 256
theorem zBy.keep {X : Nat → Prop} {S T : zM} {a b cap : Nat} {L : List Nat} (h : zBy S a b cap L) (f : zF X S T) (ha : ¬ X a) (hb : ¬ X b) : zBy T a b cap L := by
  obtain ⟨h1, h2, h3, h4, h5, h6, h7⟩ := h
  refine ⟨by rw [f.1]; exact h1, by rw [f.1]; exact h2, by rw [f.2.2.1]; exact h3, h4, by rw [f.2.2.2.1 a ha]; exact h5, h6, fun i hi => ?_⟩
  rw [f.2.2.2.1 b hb]
  exact h7 i hi
theorem zBy.ne {S : zM} {a b cap : Nat} {L : List Nat} (h : zBy S a b cap L) : a ≠ b := fun e => by
  have h1 := h.1
  rw [e, h.2.1] at h1
  cases h1
theorem zin {x : Int32} {n cap : Nat} (h0 : ¬ x < 0) (h1 : ¬ nI n ≤ x) (hn : n ≤ cap) (hc : cap < 2 ^ 31) : vp_in x cap ∧ x.toNatClampNeg < n := by
  rcases pk_ix x (n := n) (by omega) with h | h | ⟨j, hj, rfl⟩
  · exact absurd h h0
  · exact absurd h h1
  · rw [nI_clamp (by omega)]
    exact ⟨vp_in_nI (by omega) hc, hj⟩
def zget (L : List Nat) (x : Int32) : Int32 := if x < 0 ∨ nI L.length ≤ x then -1 else nI (L.getD x.toNatClampNeg 0)
theorem zget_in {L : List Nat} {i : Nat} (h : i < L.length) (hl : L.length < 2 ^ 31) : zget L (nI i) = nI (L.getD i 0) := by
  unfold zget
  rw [if_neg (by rintro (q | q); exact nI_pos (by omega) q; exact nI_ge h hl q), nI_clamp (by omega)]
theorem zget_out {L : List Nat} {i : Nat} (h : L.length ≤ i) (hl : i < 2 ^ 31) : zget L (nI i) = -1 := by
  unfold zget
  rw [if_pos (Or.inr (nI_le h hl))]
set_option maxRecDepth 10000 in
theorem c_get {E : zE} {S : zM} {a b cap : Nat} {L : List Nat} (h : zBy S a b cap L) (x : Int32) : zSp E 0 0 0 mX1_get cX1_get [zR a, zI x] S (fun r T => S = T ∧ r = some (zI (zget L x))) := by
  refine zSp.of (by decide) rfl (Nat.le_of_ble_eq_true rfl) rfl ?_
  obtain ⟨ka, kb, hp, hcap, hn, hle, hel⟩ := id h
  refine j_iload_n (pc := 0) dX1_get_0 rfl ?_
  refine j_if_lt (pc := 1) (tgt := 21) dX1_get_1 (by decide) (fun h1 => ?_) (fun h1 => ?_)
  · refine j_iconst (pc := 21) (v := (-1)) dX1_get_21 (by decide) ?_
    refine j_iret (pc := 22) dX1_get_22 rfl ?_
    first
      | exact ⟨rfl, by rw [zget, if_pos (Or.inl h1)]⟩
      | exact ⟨rfl, by rw [hn] at h9; rw [zget, if_pos (Or.inr h9)]⟩
      | exact ⟨rfl, by rw [zget, if_neg (fun q => q.elim h1 h9), (hel _ hlt).1]⟩
  · refine j_iload_n (pc := 4) dX1_get_4 rfl ?_
    refine j_aload_n (pc := 5) dX1_get_5 rfl ?_
    refine j_getI (pc := 6) dX1_get_6 f_X1_15 (Or.inl rfl) (by assumption) ?_
    refine j_icmp_ge (pc := 9) (tgt := 21) dX1_get_9 (by decide) (fun h9 => ?_) (fun h9 => ?_)
    · refine j_iconst (pc := 21) (v := (-1)) dX1_get_21 (by decide) ?_
      refine j_iret (pc := 22) dX1_get_22 rfl ?_
      first
        | exact ⟨rfl, by rw [zget, if_pos (Or.inl h1)]⟩
        | exact ⟨rfl, by rw [hn] at h9; rw [zget, if_pos (Or.inr h9)]⟩
        | exact ⟨rfl, by rw [zget, if_neg (fun q => q.elim h1 h9), (hel _ hlt).1]⟩
    · refine j_aload_n (pc := 12) dX1_get_12 rfl ?_
      refine j_getP (pc := 13) dX1_get_13 f_X1_9 (Or.inr ⟨_, rfl⟩) (by assumption) ?_
      rw [hp]
      refine j_iload_n (pc := 16) dX1_get_16 rfl ?_
      rw [hn] at h9
      obtain ⟨hin, hlt⟩ := zin h1 h9 hle hcap
      refine j_iald (pc := 17) dX1_get_17 (by assumption) (by assumption) ?_
      refine j_goto (pc := 18) (tgt := 22) dX1_get_18 (by decide) ?_
      refine j_iret (pc := 22) dX1_get_22 rfl ?_
      first
        | exact ⟨rfl, by rw [zget, if_pos (Or.inl h1)]⟩
        | exact ⟨rfl, by rw [hn] at h9; rw [zget, if_pos (Or.inr h9)]⟩
        | exact ⟨rfl, by rw [zget, if_neg (fun q => q.elim h1 h9), (hel _ hlt).1]⟩
set_option maxRecDepth 10000 in
theorem c_empty {E : zE} {S : zM} {a b cap : Nat} {L : List Nat} (h : zBy S a b cap L) : zSp E 0 0 0 mX1_empty cX1_empty [zR a] S (fun r T => r = none ∧ T = zwI S a 1 0) := by
  refine zSp.of (by decide) rfl (Nat.le_of_ble_eq_true rfl) rfl ?_
  obtain ⟨ka, kb, hp, hcap, hn, hle, hel⟩ := id h
  refine j_aload_n (pc := 0) dX1_empty_0 rfl ?_
  refine j_iconst (pc := 1) (v := 0) dX1_empty_1 (by decide) ?_
  refine j_putI (pc := 2) dX1_empty_2 f_X1_15 rfl (by assumption) rfl ?_
  refine j_vret (pc := 5) dX1_empty_5 rfl ?_
  exact ⟨rfl, rfl⟩
theorem zBy.empty {S : zM} {a b cap : Nat} {L : List Nat} (h : zBy S a b cap L) : zBy (zwI S a 1 0) a b cap [] := by
  obtain ⟨ka, kb, hp, hcap, hn, hle, hel⟩ := h
  exact ⟨ka, kb, hp, hcap, zgI_self.trans nI_0.symm, Nat.zero_le _, fun i hi => absurd hi (Nat.not_lt_zero i)⟩
def zput (cap : Nat) (L : List Nat) (x : Int32) : List Nat := if L.length < cap then L ++ [zb8 x] else L
abbrev zAB (a b : Nat) : Nat → Prop := fun c => c = a ∨ c = b
theorem zBy.put {S : zM} {a b cap : Nat} {L : List Nat} {x : Nat} (h : zBy S a b cap L) (hl : L.length < cap) (hx : x < 256) : zBy (zwI (zwI S b L.length (nI x)) a 1 (nI (L.length + 1))) a b cap (L ++ [x]) := by
  have hne := h.ne
  obtain ⟨ka, kb, hp, hcap, hn, hle, hel⟩ := h
  refine ⟨ka, kb, hp, hcap, ?_, by simp; omega, fun i hi => ?_⟩
  · rw [zgI_self]
    simp
  · rw [zgI_ne hne.symm, zgI_wI]
    simp only [List.length_append, List.length_cons, List.length_nil] at hi
    by_cases e : i = L.length
    · subst e
      simp [hx]
    · rw [if_neg (fun q => e q.2)]
      have hlt : i < L.length := by omega
      have e2 : (L ++ [x]).getD i 0 = L.getD i 0 := by simp [List.getD_eq_getElem?_getD, List.getElem?_append_left hlt]
      rw [e2]
      exact hel i hlt
set_option maxRecDepth 10000 in
theorem c_put {E : zE} {S : zM} {a b cap : Nat} {L : List Nat} (h : zBy S a b cap L) (x : Int32) : zSp E 0 0 0 mX1_put cX1_put [zR a, zI x] S (fun r T => r = none ∧ zBy T a b cap (zput cap L x) ∧ zF (zAB a b) S T) := by
  refine zSp.of (by decide) rfl (Nat.le_of_ble_eq_true rfl) rfl ?_
  obtain ⟨ka, kb, hp, hcap, hn, hle, hel⟩ := id h
  refine j_aload_n (pc := 0) dX1_put_0 rfl ?_
  refine j_getI (pc := 1) dX1_put_1 f_X1_15 (Or.inl rfl) (by assumption) ?_
  refine j_aload_n (pc := 4) dX1_put_4 rfl ?_
  refine j_getP (pc := 5) dX1_put_5 f_X1_9 (Or.inr ⟨_, rfl⟩) (by assumption) ?_
  rw [hp]
  refine j_alen (pc := 8) (j := 0) dX1_put_8 (by assumption) (by decide) ?_
  refine j_icmp_ge (pc := 9) (tgt := 36) dX1_put_9 (by decide) (fun h9 => ?_) (fun h9 => ?_)
  · refine j_vret (pc := 36) dX1_put_36 rfl ?_
    first
      | exact ⟨rfl, by rw [zput, if_neg (fun q => h9 (by rw [hn]; exact nI_le q (by omega)))]; exact h, zF.rf⟩
      | exact ⟨rfl, by rw [zput, if_pos hlt]; exact h.put hlt (zb8_lt x), (zF.wI (Or.inr rfl)).tr (zF.wI (Or.inl rfl))⟩
      | (refine ⟨rfl, ?_, zF.rf⟩
         rw [hn] at h9
         rw [zput, if_neg (fun q => nI_ge q hcap h9)]
         exact h)
  · refine j_aload_n (pc := 12) dX1_put_12 rfl ?_
    refine j_getP (pc := 13) dX1_put_13 f_X1_9 (Or.inr ⟨_, rfl⟩) (by assumption) ?_
    rw [hp]
    refine j_aload_n (pc := 16) dX1_put_16 rfl ?_
    refine j_getI (pc := 17) dX1_put_17 f_X1_15 (Or.inl rfl) (by assumption) ?_
    refine j_iload_n (pc := 20) dX1_put_20 rfl ?_
    refine j_sipush (pc := 21) (v := 255) dX1_put_21 (by decide) ?_
    refine j_iand (pc := 24) dX1_put_24 ?_
    rw [hn] at h9 ⊢
    have hlt : L.length < cap := Nat.lt_of_not_le fun q => h9 (nI_le q (by omega))
    have hin : vp_in (nI L.length) cap := vp_in_nI hlt hcap
    rw [zb8_and]
    refine j_iast (pc := 25) dX1_put_25 (by assumption) (by assumption) ?_
    refine j_aload_n (pc := 26) dX1_put_26 rfl ?_
    refine j_dup (pc := 27) dX1_put_27 rfl ?_
    refine j_getI (pc := 28) dX1_put_28 f_X1_15 (Or.inl rfl) (by assumption) ?_
    rw [show zgI (zwI S b (nI L.length).toNatClampNeg (nI (zb8 x))) a 1 = nI L.length from (zgI_ne h.ne).trans hn]
    refine j_iconst (pc := 31) (v := 1) dX1_put_31 (by decide) ?_
    refine j_iadd (pc := 32) dX1_put_32 ?_
    rw [nI_1, nI_clamp (show L.length < 2 ^ 31 by omega)]
    refine j_putI (pc := 33) dX1_put_33 f_X1_15 rfl (by assumption) rfl ?_
    refine j_vret (pc := 36) dX1_put_36 rfl ?_
    first
      | exact ⟨rfl, by rw [zput, if_neg (fun q => h9 (by rw [hn]; exact nI_le q (by omega)))]; exact h, zF.rf⟩
      | exact ⟨rfl, by rw [zput, if_pos hlt]; exact h.put hlt (zb8_lt x), (zF.wI (Or.inr rfl)).tr (zF.wI (Or.inl rfl))⟩
      | (refine ⟨rfl, ?_, zF.rf⟩
         rw [hn] at h9
         rw [zput, if_neg (fun q => nI_ge q hcap h9)]
         exact h)
