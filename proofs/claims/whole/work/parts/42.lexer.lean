/-! LEXER: runs of signs -/
def zrun (P : Nat → Bool) (X : List Nat) (i : Nat) : Nat := i + ((X.drop i).takeWhile P).length
def zfo (f : Int64 → Nat → Int64) (P : Nat → Bool) (c : Int64) (X : List Nat) (i : Nat) : Int64 := ((X.drop i).takeWhile P).foldl f c
theorem zdrop {X : List Nat} {i b : Nat} (h : X[i]? = some b) : X.drop i = b :: X.drop (i + 1) := by
  obtain ⟨hl, e⟩ := List.getElem?_eq_some_iff.mp h
  rw [List.drop_eq_getElem_cons hl, e]
theorem zrun_T {P : Nat → Bool} {X : List Nat} {i b : Nat} (h : X[i]? = some b) (hp : P b = true) : zrun P X i = zrun P X (i + 1) := by
  unfold zrun
  rw [zdrop h, List.takeWhile_cons_of_pos hp, List.length_cons]
  omega
theorem zrun_F {P : Nat → Bool} {X : List Nat} {i b : Nat} (h : X[i]? = some b) (hp : P b = false) : zrun P X i = i := by
  unfold zrun
  rw [zdrop h, List.takeWhile_cons_of_neg (by rw [hp]; decide)]
  rfl
theorem zrun_E {P : Nat → Bool} {X : List Nat} {i : Nat} (h : X.length ≤ i) : zrun P X i = i := by
  unfold zrun
  rw [List.drop_eq_nil_of_le h]
  rfl
theorem zfo_T {f : Int64 → Nat → Int64} {P : Nat → Bool} {c : Int64} {X : List Nat} {i b : Nat} (h : X[i]? = some b) (hp : P b = true) : zfo f P c X i = zfo f P (f c b) X (i + 1) := by
  unfold zfo
  rw [zdrop h, List.takeWhile_cons_of_pos hp, List.foldl_cons]
theorem zfo_F {f : Int64 → Nat → Int64} {P : Nat → Bool} {c : Int64} {X : List Nat} {i b : Nat} (h : X[i]? = some b) (hp : P b = false) : zfo f P c X i = c := by
  unfold zfo
  rw [zdrop h, List.takeWhile_cons_of_neg (by rw [hp]; decide)]
  rfl
theorem zfo_E {f : Int64 → Nat → Int64} {P : Nat → Bool} {c : Int64} {X : List Nat} {i : Nat} (h : X.length ≤ i) : zfo f P c X i = c := by
  unfold zfo
  rw [List.drop_eq_nil_of_le h]
  rfl
theorem zrun_ge {P : Nat → Bool} {X : List Nat} {i : Nat} : i ≤ zrun P X i := Nat.le_add_right _ _
theorem zrun_le {P : Nat → Bool} {X : List Nat} {i : Nat} (h : i ≤ X.length) : zrun P X i ≤ X.length := by
  unfold zrun
  have := (List.takeWhile_sublist P (l := X.drop i)).length_le
  rw [List.length_drop] at this
  omega
def zlet (b : Nat) : Bool := decide (97 ≤ b ∧ b ≤ 122)
def zdig (b : Nat) : Bool := decide (48 ≤ b ∧ b ≤ 57)
def zcw (v : Int64) (b : Nat) : Int64 := v <<< ((8 : Int32).toInt64 &&& 63) ||| (nI b).toInt64
def zcd (v : Int64) (b : Nat) : Int64 := v * 10 + (nI b).toInt64 - 48
/-- lexer x over the first n bytes of F: position, sort, start, content -/
def zLx (S : zM) (x tp tp2 cap : Nat) (F : List Nat) (n ps so sr : Nat) (co : Int64) : Prop := zkd S x = (3, 0) ∧ zgP S x 0 = tp ∧ zBy S tp tp2 cap F ∧ (n ≤ F.length ∧ x ≠ tp ∧ x ≠ tp2) ∧ zgI S x 1 = nI n ∧ zgI S x 2 = nI ps ∧ zgI S x 3 = nI so ∧ zgI S x 4 = nI sr ∧ zgL S x 5 = co
theorem zLx.w2 {S : zM} {x tp tp2 cap : Nat} {F : List Nat} {n ps so sr : Nat} {co : Int64} (h : zLx S x tp tp2 cap F n ps so sr co) (q : Nat) : zLx (zwI S x 2 (nI q)) x tp tp2 cap F n q so sr co := ⟨h.1, h.2.1, h.2.2.1.keep (zF.wI (X := fun c => c = x) rfl) (fun e => h.2.2.2.1.2.1 e.symm) (fun e => h.2.2.2.1.2.2 e.symm), h.2.2.2.1, (zgI_nk (by decide)).trans h.2.2.2.2.1, zgI_self, (zgI_nk (by decide)).trans h.2.2.2.2.2.2.1, (zgI_nk (by decide)).trans h.2.2.2.2.2.2.2.1, h.2.2.2.2.2.2.2.2⟩
theorem zLx.w3 {S : zM} {x tp tp2 cap : Nat} {F : List Nat} {n ps so sr : Nat} {co : Int64} (h : zLx S x tp tp2 cap F n ps so sr co) (q : Nat) : zLx (zwI S x 3 (nI q)) x tp tp2 cap F n ps q sr co := ⟨h.1, h.2.1, h.2.2.1.keep (zF.wI (X := fun c => c = x) rfl) (fun e => h.2.2.2.1.2.1 e.symm) (fun e => h.2.2.2.1.2.2 e.symm), h.2.2.2.1, (zgI_nk (by decide)).trans h.2.2.2.2.1, (zgI_nk (by decide)).trans h.2.2.2.2.2.1, zgI_self, (zgI_nk (by decide)).trans h.2.2.2.2.2.2.2.1, h.2.2.2.2.2.2.2.2⟩
theorem zLx.w4 {S : zM} {x tp tp2 cap : Nat} {F : List Nat} {n ps so sr : Nat} {co : Int64} (h : zLx S x tp tp2 cap F n ps so sr co) (q : Nat) : zLx (zwI S x 4 (nI q)) x tp tp2 cap F n ps so q co := ⟨h.1, h.2.1, h.2.2.1.keep (zF.wI (X := fun c => c = x) rfl) (fun e => h.2.2.2.1.2.1 e.symm) (fun e => h.2.2.2.1.2.2 e.symm), h.2.2.2.1, (zgI_nk (by decide)).trans h.2.2.2.2.1, (zgI_nk (by decide)).trans h.2.2.2.2.2.1, (zgI_nk (by decide)).trans h.2.2.2.2.2.2.1, zgI_self, h.2.2.2.2.2.2.2.2⟩
theorem zLx.w5 {S : zM} {x tp tp2 cap : Nat} {F : List Nat} {n ps so sr : Nat} {co : Int64} (h : zLx S x tp tp2 cap F n ps so sr co) (q : Int64) : zLx (zwL S x 5 q) x tp tp2 cap F n ps so sr q := ⟨h.1, h.2.1, h.2.2.1.keep (zF.wL (X := fun c => c = x) rfl) (fun e => h.2.2.2.1.2.1 e.symm) (fun e => h.2.2.2.1.2.2 e.symm), h.2.2.2.1, h.2.2.2.2.1, h.2.2.2.2.2.1, h.2.2.2.2.2.2.1, h.2.2.2.2.2.2.2.1, zgL_self⟩
theorem zLx.at {S : zM} {x tp tp2 cap : Nat} {F : List Nat} {n ps so sr : Nat} {co : Int64} (h : zLx S x tp tp2 cap F n ps so sr co) {i : Nat} (hi : i < n) : ∃ b, (F.take n)[i]? = some b ∧ zget F (nI i) = nI b ∧ b < 256 := by
  obtain ⟨-, -, hB, ⟨hn, -⟩, -⟩ := h
  have hF := hB.2.2.2.2.2.1
  have hc := hB.2.2.2.1
  have hl : i < F.length := by omega
  refine ⟨F.getD i 0, ?_, zget_in hl (by omega), (hB.2.2.2.2.2.2 i hl).2⟩
  rw [List.getElem?_take_of_lt hi, List.getD_eq_getElem?_getD, List.getElem?_eq_getElem hl]
  rfl
theorem zLx.ln {S : zM} {x tp tp2 cap : Nat} {F : List Nat} {n ps so sr : Nat} {co : Int64} (h : zLx S x tp tp2 cap F n ps so sr co) : (F.take n).length = n ∧ n < 2 ^ 31 := by
  obtain ⟨-, -, hB, ⟨hn, -⟩, -⟩ := h
  have hF := hB.2.2.2.2.2.1
  have hc := hB.2.2.2.1
  rw [List.length_take]
  omega
theorem zle_nI {a b : Nat} (h : a < 2 ^ 31) (hb : b < 2 ^ 31) : nI a ≤ nI b ↔ a ≤ b := ⟨fun q => Nat.le_of_not_lt (fun z => absurd q (nI_ge z (by omega))), fun q => nI_le q (by omega)⟩
set_option maxRecDepth 20000 in
set_option maxHeartbeats 4000000 in
theorem c_isLetter {E : zE} {S : zM} {b : Nat} (hb : b < 256) : zSp E 0 0 0 mX2_isLetter cX2_isLetter [zI (nI b)] S (fun r T => S = T ∧ r = some (zI (zbi (zlet b)))) := by
  refine zSp.of (by decide) rfl (Nat.le_of_ble_eq_true rfl) rfl ?_
  have e1 : nI b < 97 ↔ b < 97 := ⟨fun q => Nat.lt_of_not_le (fun z => Int32.not_le.mpr q (nI_le (a := 97) z (by omega))), fun q => Int32.not_le.mp (fun z => absurd z (nI_ge (a := b) (b := 97) q (by decide)))⟩
  have e2 : nI b ≤ 122 ↔ b ≤ 122 := zle_nI (b := 122) (by omega) (by decide)
  have e3 : zlet b = decide (97 ≤ b ∧ b ≤ 122) := rfl
  refine j_iload_n (pc := 0) dX2_isLetter_0 rfl ?_
  refine j_bipush (pc := 1) (v := 97) dX2_isLetter_1 (by decide) ?_
  refine j_icmp_lt (pc := 3) (tgt := 16) dX2_isLetter_3 (by decide) (fun h3 => ?_) (fun h3 => ?_)
  · refine j_iconst (pc := 16) (v := 0) dX2_isLetter_16 (by decide) ?_
    refine j_zret (pc := 17) dX2_isLetter_17 rfl (by first | assumption | decide) ?_
    exact ⟨rfl, by rw [e3, decide_eq_false (fun z => by have := e1.mp h3; omega)]; rfl⟩
  · refine j_iload_n (pc := 6) dX2_isLetter_6 rfl ?_
    refine j_bipush (pc := 7) (v := 122) dX2_isLetter_7 (by decide) ?_
    refine j_icmp_gt (pc := 9) (tgt := 16) dX2_isLetter_9 (by decide) (fun h9 => ?_) (fun h9 => ?_)
    · refine j_iconst (pc := 16) (v := 0) dX2_isLetter_16 (by decide) ?_
      refine j_zret (pc := 17) dX2_isLetter_17 rfl (by first | assumption | decide) ?_
      exact ⟨rfl, by rw [e3, decide_eq_false (fun z => Int32.not_le.mpr h9 (e2.mpr z.2))]; rfl⟩
    · refine j_iconst (pc := 12) (v := 1) dX2_isLetter_12 (by decide) ?_
      refine j_goto (pc := 13) (tgt := 17) dX2_isLetter_13 (by decide) ?_
      refine j_zret (pc := 17) dX2_isLetter_17 rfl (by first | assumption | decide) ?_
      exact ⟨rfl, by rw [e3, decide_eq_true ⟨Nat.le_of_not_lt (fun z => h3 (e1.mpr z)), e2.mp (Int32.not_lt.mp h9)⟩]; rfl⟩
set_option maxRecDepth 20000 in
set_option maxHeartbeats 4000000 in
theorem c_isDigit {E : zE} {S : zM} {b : Nat} (hb : b < 256) : zSp E 0 0 0 mX2_isDigit cX2_isDigit [zI (nI b)] S (fun r T => S = T ∧ r = some (zI (zbi (zdig b)))) := by
  refine zSp.of (by decide) rfl (Nat.le_of_ble_eq_true rfl) rfl ?_
  have e1 : nI b < 48 ↔ b < 48 := ⟨fun q => Nat.lt_of_not_le (fun z => Int32.not_le.mpr q (nI_le (a := 48) z (by omega))), fun q => Int32.not_le.mp (fun z => absurd z (nI_ge (a := b) (b := 48) q (by decide)))⟩
  have e2 : nI b ≤ 57 ↔ b ≤ 57 := zle_nI (b := 57) (by omega) (by decide)
  have e3 : zdig b = decide (48 ≤ b ∧ b ≤ 57) := rfl
  refine j_iload_n (pc := 0) dX2_isDigit_0 rfl ?_
  refine j_bipush (pc := 1) (v := 48) dX2_isDigit_1 (by decide) ?_
  refine j_icmp_lt (pc := 3) (tgt := 16) dX2_isDigit_3 (by decide) (fun h3 => ?_) (fun h3 => ?_)
  · refine j_iconst (pc := 16) (v := 0) dX2_isDigit_16 (by decide) ?_
    refine j_zret (pc := 17) dX2_isDigit_17 rfl (by first | assumption | decide) ?_
    exact ⟨rfl, by rw [e3, decide_eq_false (fun z => by have := e1.mp h3; omega)]; rfl⟩
  · refine j_iload_n (pc := 6) dX2_isDigit_6 rfl ?_
    refine j_bipush (pc := 7) (v := 57) dX2_isDigit_7 (by decide) ?_
    refine j_icmp_gt (pc := 9) (tgt := 16) dX2_isDigit_9 (by decide) (fun h9 => ?_) (fun h9 => ?_)
    · refine j_iconst (pc := 16) (v := 0) dX2_isDigit_16 (by decide) ?_
      refine j_zret (pc := 17) dX2_isDigit_17 rfl (by first | assumption | decide) ?_
      exact ⟨rfl, by rw [e3, decide_eq_false (fun z => Int32.not_le.mpr h9 (e2.mpr z.2))]; rfl⟩
    · refine j_iconst (pc := 12) (v := 1) dX2_isDigit_12 (by decide) ?_
      refine j_goto (pc := 13) (tgt := 17) dX2_isDigit_13 (by decide) ?_
      refine j_zret (pc := 17) dX2_isDigit_17 rfl (by first | assumption | decide) ?_
      exact ⟨rfl, by rw [e3, decide_eq_true ⟨Nat.le_of_not_lt (fun z => h3 (e1.mpr z)), e2.mp (Int32.not_lt.mp h9)⟩]; rfl⟩
set_option maxRecDepth 20000 in
set_option maxHeartbeats 4000000 in
theorem c_isSign {E : zE} {S : zM} {x tp tp2 cap : Nat} {F : List Nat} {n ps so sr : Nat} {co : Int64} {c : Nat} (h : zLx S x tp tp2 cap F n ps so sr co) : zSp E 0 0 0 mX2_isSign cX2_isSign [zR x, zI (nI c)] S (fun r T => S = T ∧ r = some (zI (zbi (decide (nI so = 3 ∧ co = (nI c).toInt64))))) := by
  refine zSp.of (by decide) rfl (Nat.le_of_ble_eq_true rfl) rfl ?_
  have k1 := h.1
  have e3 := h.2.2.2.2.2.2.1
  have e5 := h.2.2.2.2.2.2.2.2
  refine j_aload_n (pc := 0) dX2_isSign_0 rfl ?_
  refine j_getI (pc := 1) dX2_isSign_1 f_X2_22 (Or.inl rfl) (by assumption) ?_
  rw [e3]
  refine j_iconst (pc := 4) (v := 3) dX2_isSign_4 (by decide) ?_
  refine j_icmp_ne (pc := 5) (tgt := 22) dX2_isSign_5 (by decide) (fun h5 => ?_) (fun h5 => ?_)
  · refine j_iconst (pc := 22) (v := 0) dX2_isSign_22 (by decide) ?_
    refine j_zret (pc := 23) dX2_isSign_23 rfl (by first | assumption | decide) ?_
    exact ⟨rfl, by rw [decide_eq_false (fun z => h5 z.1)]; rfl⟩
  · refine j_aload_n (pc := 8) dX2_isSign_8 rfl ?_
    refine j_getL (pc := 9) dX2_isSign_9 f_X2_28 rfl (by assumption) ?_
    rw [e5]
    refine j_iload_n (pc := 12) dX2_isSign_12 rfl ?_
    refine j_i2l (pc := 13) dX2_isSign_13 ?_
    refine j_lcmp (pc := 14) dX2_isSign_14 ?_
    refine j_if_ne (pc := 15) (tgt := 22) dX2_isSign_15 (by decide) (fun h15 => ?_) (fun h15 => ?_)
    · refine j_iconst (pc := 22) (v := 0) dX2_isSign_22 (by decide) ?_
      refine j_zret (pc := 23) dX2_isSign_23 rfl (by first | assumption | decide) ?_
      exact ⟨rfl, by rw [decide_eq_false (fun z => h15 ((lg_cmp_eq _ _).mpr z.2))]; rfl⟩
    · refine j_iconst (pc := 18) (v := 1) dX2_isSign_18 (by decide) ?_
      refine j_goto (pc := 19) (tgt := 23) dX2_isSign_19 (by decide) ?_
      refine j_zret (pc := 23) dX2_isSign_23 rfl (by first | assumption | decide) ?_
      exact ⟨rfl, by rw [decide_eq_true ⟨h5, (lg_cmp_eq _ _).mp h15⟩]; rfl⟩
set_option maxRecDepth 20000 in
set_option maxHeartbeats 4000000 in
theorem c_isWord {E : zE} {S : zM} {x tp tp2 cap : Nat} {F : List Nat} {n ps so sr : Nat} {co : Int64} (h : zLx S x tp tp2 cap F n ps so sr co) (w : Int64) : zSp E 0 0 0 mX2_isWord cX2_isWord [zR x, zL w] S (fun r T => S = T ∧ r = some (zI (zbi (decide (nI so = 1 ∧ co = w))))) := by
  refine zSp.of (by decide) rfl (Nat.le_of_ble_eq_true rfl) rfl ?_
  have k1 := h.1
  have e3 := h.2.2.2.2.2.2.1
  have e5 := h.2.2.2.2.2.2.2.2
  refine j_aload_n (pc := 0) dX2_isWord_0 rfl ?_
  refine j_getI (pc := 1) dX2_isWord_1 f_X2_22 (Or.inl rfl) (by assumption) ?_
  rw [e3]
  refine j_iconst (pc := 4) (v := 1) dX2_isWord_4 (by decide) ?_
  refine j_icmp_ne (pc := 5) (tgt := 21) dX2_isWord_5 (by decide) (fun h5 => ?_) (fun h5 => ?_)
  · refine j_iconst (pc := 21) (v := 0) dX2_isWord_21 (by decide) ?_
    refine j_zret (pc := 22) dX2_isWord_22 rfl (by first | assumption | decide) ?_
    exact ⟨rfl, by rw [decide_eq_false (fun z => h5 z.1)]; rfl⟩
  · refine j_aload_n (pc := 8) dX2_isWord_8 rfl ?_
    refine j_getL (pc := 9) dX2_isWord_9 f_X2_28 rfl (by assumption) ?_
    rw [e5]
    refine j_lload_n (pc := 12) dX2_isWord_12 rfl ?_
    refine j_lcmp (pc := 13) dX2_isWord_13 ?_
    refine j_if_ne (pc := 14) (tgt := 21) dX2_isWord_14 (by decide) (fun h14 => ?_) (fun h14 => ?_)
    · refine j_iconst (pc := 21) (v := 0) dX2_isWord_21 (by decide) ?_
      refine j_zret (pc := 22) dX2_isWord_22 rfl (by first | assumption | decide) ?_
      exact ⟨rfl, by rw [decide_eq_false (fun z => h14 ((lg_cmp_eq _ _).mpr z.2))]; rfl⟩
    · refine j_iconst (pc := 17) (v := 1) dX2_isWord_17 (by decide) ?_
      refine j_goto (pc := 18) (tgt := 22) dX2_isWord_18 (by decide) ?_
      refine j_zret (pc := 22) dX2_isWord_22 rfl (by first | assumption | decide) ?_
      exact ⟨rfl, by rw [decide_eq_true ⟨h5, (lg_cmp_eq _ _).mp h14⟩]; rfl⟩
