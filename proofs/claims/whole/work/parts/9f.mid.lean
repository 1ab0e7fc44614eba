/-! the model while it lays a page: what its cells hold is some page -/
abbrev zsP (s : zST) (q : zPGE) : zST := (s.1, s.2.1, s.2.2.1, some q, s.2.2.2.2)
abbrev zXg (c k : Nat) : Prop := zXs c k ∨ (145 ≤ c ∧ c ≤ 149) ∨ (c = 123 ∧ (k = 46 ∨ k = 47))
abbrev zTkn (L : List Nat) : Prop := L.length ≤ 900 ∧ ∀ b ∈ L, b < 256
theorem zMO.pg {S T : zM} {s : zST} {q : zPGE} (h : zMO S s) (f : zK zXg S T) (hq : mP T (some q) (sk s)) : zMO T (zsP s q) := by
  obtain ⟨h0, hA, hB, h12, hT, hP, hR⟩ := h
  have gi : ∀ k, ¬ zXg 123 k → zgI T 123 k = zgI S 123 k := fun k z => f.2.2.2.1 _ _ z
  exact ⟨f.ms h0, hA.k f (by unfold zXg zXs; omega) (fun k => by unfold zXg zXs; omega), ⟨(gi 1 (by unfold zXg zXs; omega)).trans hB.1, (gi 2 (by unfold zXg zXs; omega)).trans hB.2.1, fun q => (gi 3 (by unfold zXg zXs; omega)).trans (hB.2.2 q)⟩, ⟨(gi 12 (by unfold zXg zXs; omega)).trans h12.1, fun q => (gi 29 (by unfold zXg zXs; omega)).trans (h12.2 q)⟩, fun t ht => ⟨(hT t ht).1.k f (fun k hk => by unfold zXg zXs; omega) (fun c k hc => by unfold zXg zXs; omega), (hT t ht).2.k f (fun k => by unfold zXg zXs; omega)⟩, hq, fun r hr => (hR r hr).k f (fun c k a b => by unfold zXg zXs; omega)⟩
theorem nI_sur : ∃ g : Int32 → Nat, ∀ x, nI (g x) = x := ⟨fun x => x.toBitVec.toNat, fun x => Int32.toBitVec_inj.mp (by
  show BitVec.ofNat 32 x.toBitVec.toNat = x.toBitVec
  rw [BitVec.ofNat_toNat, BitVec.setWidth_eq])⟩
theorem zWF.sp {n : Nat} {s : zST} {t : zTB} {q : zPGE} (hw : zWF n s) (ht : sT s = some t) (hq : zWp q) : zWF n (zsP s q) := by
  obtain ⟨a, b, o, c, d⟩ := s
  have ht' : o = some t := ht
  subst ht'
  exact ⟨hw.1, hw.2.1, hw.2.2.1, hw.2.2.2.1, fun q' hq' => by cases hq'; exact hq, hw.2.2.2.2.2⟩
theorem zMO.mid {S T : zM} {s : zST} {t : zTB} {n k : Nat} {A B : List Nat} (h : zMO S s) (hw : zWF n s) (ht : sT s = some t) (f : zK zXg S T) (e46 : zgI T 123 46 = 1) (e47 : zgI T 123 47 = nI k) (hk : k ≤ 20) (hA : mTk T 0 A) (hB : mTk T 1 B) (hA9 : zTkn A) (hB9 : zTkn B) : ∃ q, zMO T (zsP s q) ∧ zWF n (zsP s q) := by
  obtain ⟨g, hg⟩ := nI_sur
  refine ⟨((List.range k).map (fun i => g (zgI T 145 i)), fun i c => zgL T 146 (4 * i + c), A, B, g (zgI T 149 0), g (zgI T 149 1)), h.pg f ⟨⟨e46, fun q => by cases q⟩, fun q' hq' => ?_⟩, hw.sp ht ⟨?_, ⟨hA9.1, hB9.1⟩, hA9.2, hB9.2⟩⟩
  · cases hq'
    refine ⟨⟨?_, fun i x hx => ?_, ⟨hA.1, hB.1⟩, fun i hi => ?_, fun i hi => hB.2 i hi, (hg _).symm, (hg _).symm⟩, fun i c _ _ => rfl⟩
    · show zgI T 123 47 = nI ((List.range k).map _).length
      rw [List.length_map, List.length_range]
      exact e47
    · obtain ⟨h1, h2⟩ := List.getElem?_eq_some_iff.mp hx
      rw [← h2, List.getElem_map, List.getElem_range, hg]
    · have := hA.2 i hi
      rwa [show 900 * 0 + i = i by omega] at this
  · show ((List.range k).map _).length ≤ 20
    rw [List.length_map, List.length_range]
    exact hk
theorem zMO.tk {S : zM} {s : zST} {n : Nat} (h : zMO S s) (hw : zWF n s) : ∃ A B, mTk S 0 A ∧ mTk S 1 B ∧ zTkn A ∧ zTkn B := by
  obtain ⟨q, h1, h2⟩ : ∃ q, zWp q ∧ mQ S q := by
    cases hP : sP s with
    | none => exact h.2.2.2.2.2.1.1.2 hP
    | some q =>
      obtain ⟨t, -, hq⟩ := hw.pg hP
      exact ⟨q, hq, (h.2.2.2.2.2.1.2 q hP).1⟩
  exact ⟨q.2.2.1, q.2.2.2.1, ⟨h2.2.2.1.1, fun i hi => by rw [show 900 * 0 + i = i by omega]; exact h2.2.2.2.1 i hi⟩, ⟨h2.2.2.1.2, fun i hi => h2.2.2.2.2.1 i hi⟩, ⟨h1.2.1.1, h1.2.2.1⟩, ⟨h1.2.1.2, h1.2.2.2⟩⟩
theorem mTk.k {X : Nat → Nat → Prop} {S T : zM} {w : Nat} {L : List Nat} (h : mTk S w L) (f : zK X S T) (h9 : L.length ≤ 900) (h1 : ¬ X 148 w) (h2 : ∀ i, i < 900 → ¬ X 147 (900 * w + i)) : mTk T w L := ⟨(f.2.2.2.1 _ _ h1).trans h.1, fun i hi => (f.2.2.2.1 _ _ (h2 i (by omega))).trans (h.2 i hi)⟩
theorem mFd.k {X : Nat → Nat → Prop} {S T : zM} {L : List Nat} (h : mFd S L) (f : zK X S T) (h1 : ¬ X 123 44) (h2 : ∀ i, ¬ X 143 i) : mFd T L := ⟨(f.2.2.2.1 _ _ h1).trans h.1, fun i x hx => (f.2.2.2.1 _ _ (h2 i)).trans (h.2 i x hx)⟩
def mAs (S : zM) (A : List Nat) : Prop := zgI S 123 54 = nI A.length ∧ ∀ i, i < A.length → zgI S 150 i = nI (A.getD i 0)
theorem mAs.k {X : Nat → Nat → Prop} {S T : zM} {L : List Nat} (h : mAs S L) (f : zK X S T) (h1 : ¬ X 123 54) (h2 : ∀ i, ¬ X 150 i) : mAs T L := ⟨(f.2.2.2.1 _ _ h1).trans h.1, fun i hi => (f.2.2.2.1 _ _ (h2 i)).trans (h.2 i hi)⟩
theorem ztok_len (a b c : Nat) (L : List Nat) : (ztok a b c L).length = 6 + L.length := by
  unfold ztok
  rw [List.length_append, zth5_len]
  simp only [List.length_cons, List.length_nil]
  omega
theorem ztok_b {a b c : Nat} {L : List Nat} (hL : ∀ x ∈ L, x < 256) : ∀ x ∈ ztok a b c L, x < 256 := by
  intro x hx
  rcases List.mem_append.mp hx with q | q
  · rcases List.mem_append.mp q with q | q
    · simp only [List.mem_cons, List.not_mem_nil, or_false] at q
      omega
    · exact hL x q
  · rw [List.mem_singleton.mp q]
    have := zchk_lt (zth5 a b c L)
    omega
abbrev zXq (c k : Nat) : Prop := zXkm c k ∨ (145 ≤ c ∧ c ≤ 149) ∨ (c = 123 ∧ (k = 46 ∨ k = 47))
theorem zXq.g {c k : Nat} (h : zXq c k) : zXg c k := h.elim (fun q => Or.inl (zXkm.s q)) Or.inr
/-- the page that is laid -/
def zpg (t : zTB) (u : Nat) (L : List Nat) (z σ : Nat) (A : List Nat) : zPGE := (L, fun i j => (tH t u).2 (L.getD i 0) j,
  (if L.length = 0 then A else ztok (tn t) z σ (zkf (tO t) (tH t u) (L.getD 0 0))),
  (if L.length = 0 then A else ztok (tn t) z σ (zkf (tO t) (tH t u) (L.getD (L.length - 1) 0))),
  (if L.length = 0 then 0 else zlf (tO t) (tV t) (tH t u) (zkf (tO t) (tH t u) (L.getD 0 0))),
  (if L.length = 0 then 0 else (zBB (tO t) (tV t) (tH t u)).length - zlg (tO t) (tV t) (tH t u) (zkf (tO t) (tH t u) (L.getD (L.length - 1) 0))))
set_option maxRecDepth 20000 in
set_option maxHeartbeats 4000000 in
theorem n_marksNothing {E : zE} {S : zM}  (hM : zMs S) : zSp E 0 0 0 mX12_marksNothing cX12_marksNothing [zR 123] S (fun r T => r = none ∧ T = zwI (zwI S 123 38 0) 123 54 0) := by
  refine zSp.of (by decide) rfl (Nat.le_of_ble_eq_true rfl) rfl ?_
  refine j_aload_n (pc := 0) dX12_marksNothing_0 rfl ?_
  refine j_iconst (pc := 1) (v := 0) dX12_marksNothing_1 (by decide) ?_
  refine j_putI (pc := 2) dX12_marksNothing_2 f_X12_348 rfl hM.1 rfl ?_
  refine j_aload_n (pc := 5) dX12_marksNothing_5 rfl ?_
  refine j_iconst (pc := 6) (v := 0) dX12_marksNothing_6 (by decide) ?_
  refine j_putI (pc := 7) dX12_marksNothing_7 f_X12_409 rfl hM.1 rfl ?_
  refine j_vret (pc := 10) dX12_marksNothing_10 rfl ?_
  exact ⟨rfl, rfl⟩
