/-! THE STATE that both have: what was fed; trouble, fault, place; the table; the page; the readers -/
abbrev zTB : Type := List Bool × List zOe × List zSe × (Nat → zRW) × Nat × Nat × Nat × (Nat → Nat)
abbrev tK (t : zTB) : List Bool := t.1
abbrev tO (t : zTB) : List zOe := t.2.1
abbrev tV (t : zTB) : List zSe := t.2.2.1
abbrev tH (t : zTB) : Nat → zRW := t.2.2.2.1
abbrev tG (t : zTB) : Nat := t.2.2.2.2.1
abbrev tv (t : zTB) : Nat := t.2.2.2.2.2.1
abbrev tn (t : zTB) : Nat := t.2.2.2.2.2.2.1
abbrev tc (t : zTB) : Nat → Nat := t.2.2.2.2.2.2.2
/-- the rows as they are -/
abbrev tW (t : zTB) : zRW := tH t (tv t)
abbrev zPGE : Type := List Nat × (Nat → Nat → Int64) × List Nat × List Nat × Nat × Nat
abbrev zRDR : Type := Bool × Bool × Nat × Nat × Nat × (Nat → Nat) × (Nat → Nat) × List Nat
abbrev zST : Type := List Nat × (Nat × Nat × Int32) × Option zTB × Option zPGE × (Nat → Option zRDR)
abbrev sF (s : zST) : List Nat := s.1
abbrev sTr (s : zST) : Nat := s.2.1.1
abbrev sFl (s : zST) : Nat := s.2.1.2.1
abbrev sPl (s : zST) : Int32 := s.2.1.2.2
abbrev sT (s : zST) : Option zTB := s.2.2.1
abbrev sP (s : zST) : Option zPGE := s.2.2.2.1
abbrev sR (s : zST) : Nat → Option zRDR := s.2.2.2.2
/-! the class's cells -/
def zC0 (S : zM) : Prop := zkd S 1 = (12, 0) ∧ (zgP S 1 0 = 2 ∧ zgP S 1 1 = 4 ∧ zgP S 1 2 = 6 ∧ zgP S 1 3 = 93 ∧ zgP S 1 4 = 102) ∧ zkd S 102 = (18, 4) ∧ (∀ r, r < 4 → zgP S 102 r = 103 + 5 * r) ∧ 160 ≤ zgn S
def zCP (S : zM) (P : Option zPGE) : Prop := match P with
  | none => ∃ ids vs kb ka kk ah be, zPg S false ids vs kb ka kk ah be
  | some q => ∃ kb ka kk, zPg S true q.1 q.2.1 kb ka kk q.2.2.2.2.1 q.2.2.2.2.2 ∧ q.2.2.1 = (if q.1.length = 0 then kk else kb) ∧ q.2.2.2.1 = (if q.1.length = 0 then kk else ka)
def zCr (S : zM) (a : Nat) (x : Option zRDR) : Prop := match x with
  | none => ∃ sb en sz vr pg sg sa L, zRd S a false sb en sz vr pg sg sa L
  | some x => zRd S a true x.1 x.2.1 x.2.2.1 x.2.2.2.1 x.2.2.2.2.1 x.2.2.2.2.2.1 x.2.2.2.2.2.2.1 x.2.2.2.2.2.2.2
/-- what the view holds of the table at a -/
def zVI (S : zM) (a : Nat) (t : zTB) : Prop := zgP S 6 8 = a → ∃ w u, zgI S 6 9 = nI w ∧ zgI S 6 10 = nI u ∧ w ≤ tv t ∧ u ≤ tn t ∧ (u = tn t → zVQ S (tO t) (tV t) (tH t w))
def zTt (S : zM) (a : Nat) (t : zTB) : Prop := ∃ so si sc ol, zTA S a (tK t) (tO t) (tV t) (tW t) (tG t) so si sc ol (tv t) (tn t) (tc t) ∧ zHi so si sc ol (tv t) (tH t) ∧ ∀ u, u < tv t → tv t ≤ u + 40 → si (u % 40) < tG t
def zCT (S : zM) (t : Option zTB) : Prop := match t with
  | none => zgP S 1 5 = 0
  | some t => ∃ a, zgP S 1 5 = a ∧ 161 ≤ a ∧ a + 21 ≤ zgn S ∧ zTt S a t ∧ zVI S a t
def zCI (S : zM) (s : zST) : Prop := zC0 S ∧ zBy S 2 3 900 (sF s) ∧ (∃ G, zBy S 4 5 900 G) ∧ (zgI S 1 6 = nI (sTr s) ∧ zgI S 1 7 = nI (sFl s) ∧ zgI S 1 8 = sPl s) ∧ (zVW S ∧ zgP S 6 8 ≤ zgn S) ∧ zCP S (sP s) ∧ (∀ r, r < 4 → zCr S (103 + 5 * r) (sR s r)) ∧ zCT S (sT s)
theorem zC0.ag {S T : zM} (h : zC0 S) (f1 : zAg S T 1) (f2 : zAg S T 102) (g : zgn S ≤ zgn T) : zC0 T := by
  obtain ⟨k1, ⟨p0, p1, p2, p3, p4⟩, k2, pr, hg⟩ := h
  exact ⟨f1.1.trans k1, ⟨(f1.2.2.2 0).trans p0, (f1.2.2.2 1).trans p1, (f1.2.2.2 2).trans p2, (f1.2.2.2 3).trans p3, (f1.2.2.2 4).trans p4⟩, f2.1.trans k2, fun r hr => (f2.2.2.2 r).trans (pr r hr), Nat.le_trans hg g⟩
theorem zCP.ag {S T : zM} {P : Option zPGE} (h : zCP S P) (f : ∀ c, 93 ≤ c → c ≤ 101 → zAg S T c) : zCP T P := by
  cases P with
  | none =>
    obtain ⟨ids, vs, kb, ka, kk, ah, be, h⟩ := h
    exact ⟨ids, vs, kb, ka, kk, ah, be, h.ag f⟩
  | some q =>
    obtain ⟨kb, ka, kk, h, h2⟩ := h
    exact ⟨kb, ka, kk, h.ag f, h2⟩
theorem zCr.ag {S T : zM} {a : Nat} {x : Option zRDR} (h : zCr S a x) (f : ∀ k, k < 5 → zAg S T (a + k)) : zCr T a x := by
  cases x with
  | none =>
    obtain ⟨sb, en, sz, vr, pg, sg, sa, L, h⟩ := h
    exact ⟨sb, en, sz, vr, pg, sg, sa, L, h.ag f⟩
  | some x => exact zRd.ag h f
theorem zVW.ag {S T : zM} (h : zVW S) (f : ∀ c, 6 ≤ c → c ≤ 92 → zAg S T c) : zVW T := by
  obtain ⟨q, t, g, h0, hR⟩ := h
  refine ⟨q, t, g, h0.ag (f 6 (by decide) (by decide)) (f 10 (by decide) (by decide)) (f 11 (by decide) (by decide)) (f 92 (by decide) (by decide)) (fun j hj => ?_), hR.ag (fun k hk => f _ (by omega) (by omega))⟩
  obtain ⟨L, hL⟩ := zV0.by h0 hj
  exact ⟨L, hL.ag (f _ (by omega) (by omega)) (f _ (by omega) (by omega))⟩
theorem zTt.ag {S T : zM} {a : Nat} {t : zTB} (h : zTt S a t) (f : ∀ k, k < 22 → zAg S T (a + k)) : zTt T a t := by
  obtain ⟨so, si, sc, ol, h1, h2⟩ := h
  exact ⟨so, si, sc, ol, h1.ag f, h2⟩
theorem zVI.ag {S T : zM} {a : Nat} {t : zTB} (h : zVI S a t) (f : ∀ c, 6 ≤ c → c ≤ 92 → zAg S T c) : zVI T a t := by
  intro q
  have f6 := f 6 (by decide) (by decide)
  obtain ⟨w, u, h1, h2, h3, h4, h5⟩ := h ((f6.2.2.2 8).symm.trans q)
  exact ⟨w, u, (f6.2.1 9).trans h1, (f6.2.1 10).trans h2, h3, h4, fun e => (h5 e).ag f⟩
theorem zCT.ag {S T : zM} {t : Option zTB} (h : zCT S t) (f : ∀ c, 1 ≤ c → c < 123 ∨ 161 ≤ c → c ≤ zgn S → zAg S T c) (hg : zgn S ≤ zgn T) (h160 : 160 ≤ zgn S) : zCT T t := by
  have f1 := f 1 (by decide) (Or.inl (by decide)) (by omega)
  cases t with
  | none => exact (f1.2.2.2 5).trans h
  | some t =>
    obtain ⟨a, h1, h2, h3, h4, h5⟩ := h
    exact ⟨a, (f1.2.2.2 5).trans h1, h2, Nat.le_trans h3 hg, h4.ag (fun k hk => f _ (by omega) (Or.inr (by omega)) (by omega)), h5.ag (fun c z1 z2 => f c (by omega) (Or.inl (by omega)) (by omega))⟩
/-- the class's cells are as they were -/
theorem zCI.ag {S T : zM} {s : zST} (h : zCI S s) (f : ∀ c, 1 ≤ c → c < 123 ∨ 161 ≤ c → c ≤ zgn S → zAg S T c) (hg : zgn S ≤ zgn T) : zCI T s := by
  obtain ⟨h0, hF, ⟨G, hG⟩, ⟨i1, i2, i3⟩, ⟨hV, hV2⟩, hP, hR, hT⟩ := h
  have h160 := h0.2.2.2.2
  have ff : ∀ c, 1 ≤ c → c < 123 → zAg S T c := fun c h1 h2 => f c h1 (Or.inl h2) (by omega)
  have f1 := ff 1 (by decide) (by decide)
  refine ⟨h0.ag f1 (ff 102 (by decide) (by decide)) hg, hF.ag (ff 2 (by decide) (by decide)) (ff 3 (by decide) (by decide)), ⟨G, hG.ag (ff 4 (by decide) (by decide)) (ff 5 (by decide) (by decide))⟩, ⟨(f1.2.1 6).trans i1, (f1.2.1 7).trans i2, (f1.2.1 8).trans i3⟩, ⟨hV.ag (fun c z1 z2 => ff c (by omega) (by omega)), ?_⟩, hP.ag (fun c z1 z2 => ff c (by omega) (by omega)), fun r hr => (hR r hr).ag (fun k hk => ff _ (by omega) (by omega)), hT.ag f hg h160⟩
  rw [(ff 6 (by decide) (by decide)).2.2.2 8]
  exact Nat.le_trans hV2 hg
/-- trouble is told -/
abbrev zno (s : zST) (n : Nat) : zST := (s.1, (n, s.2.1.2), s.2.2)
theorem zVW.wI1 {S : zM} {k : Nat} {v : Int32} (h : zVW S) : zVW (zwI S 1 k v) := h.ag (fun c h1 h2 => (zF.wI (X := fun c => c = 1) rfl).ag (show c ≠ 1 by omega))
theorem zCI.no {S : zM} {s : zST} (h : zCI S s) (n : Nat) : zCI (zwI S 1 6 (nI n)) (zno s n) := by
  obtain ⟨h0, hF, ⟨G, hG⟩, ⟨i1, i2, i3⟩, ⟨hV, hV2⟩, hP, hR, hT⟩ := h
  have ff : ∀ c, c ≠ 1 → zAg S (zwI S 1 6 (nI n)) c := fun c h => (zF.wI (X := fun c => c = 1) rfl).ag h
  refine ⟨h0, hF.ag (ff 2 (by decide)) (ff 3 (by decide)), ⟨G, hG.ag (ff 4 (by decide)) (ff 5 (by decide))⟩, ⟨zgI_self, (zgI_nk (by decide)).trans i2, (zgI_nk (by decide)).trans i3⟩, ⟨hV.ag (fun c z1 z2 => ff c (by omega)), hV2⟩, hP.ag (fun c z1 z2 => ff c (by omega)), fun r hr => (hR r hr).ag (fun k hk => ff _ (by omega)), ?_⟩
  show zCT _ (sT s)
  generalize sT s = t at hT
  cases t with
  | none => exact hT
  | some t =>
    obtain ⟨a, h1, h2, h3, h4, h5⟩ := hT
    exact ⟨a, h1, h2, h3, h4.ag (fun k hk => ff _ (by omega)), h5.ag (fun c z1 z2 => ff c (by omega))⟩
/-- the model's cells are as they were -/
abbrev zOM (c : Nat) : Prop := c < 123 ∨ 160 < c
abbrev zQF (S T : zM) : Prop := zNF zOM S T
