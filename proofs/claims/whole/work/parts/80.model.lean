/-! THE MODEL holds the state -/
abbrev zMX (c : Nat) : Prop := 123 ≤ c ∧ c ≤ 159
/-- places that no call leaves anything in for the next -/
def zXs (c k : Nat) : Prop := c = 138 ∨ c = 139 ∨ c = 143 ∨ c = 144 ∨ c = 150 ∨ c = 159 ∨ (129 ≤ c ∧ c ≤ 134) ∨ (c = 123 ∧ (k = 0 ∨ (13 ≤ k ∧ k ≤ 28) ∨ k = 36 ∨ k = 38 ∨ k = 44 ∨ k = 54))
def mA (S : zM) (F : List Nat) : Prop := zgI S 123 5 = nI F.length ∧ ∀ i, i < F.length → zgI S 124 i = nI (F.getD i 0)
def mB (S : zM) (s : zST) : Prop := zgI S 123 1 = nI (sTr s) ∧ zgI S 123 2 = nI (sFl s) ∧ (sTr s = 4 → zgI S 123 3 = sPl s)
def mK (S : zM) (K : List Bool) : Prop := zgI S 123 6 = nI K.length ∧ ∀ i b, K[i]? = some b → zgI S 125 i = zbi b
def mO (S : zM) (O : List zOe) : Prop := zgI S 123 8 = nI O.length ∧ ∀ i e, O[i]? = some e → zgI S 126 i = nI e.1 ∧ zgI S 127 i = zbi e.2.2.1 ∧ zgI S 128 i = zbi e.2.2.2
def mV (S : zM) (V : List zSe) : Prop := zgI S 123 39 = nI V.length ∧ ∀ i c, V[i]? = some c → zgI S 140 i = nI c.1 ∧ zgI S 141 i = nI c.2.2.1 ∧ zgL S 142 i = c.2.2.2
def mH (S : zM) (n v : Nat) (ch : Nat → zRW) : Prop := ∀ u, u ≤ v → v ≤ u + 40 → ∀ i, i < 64 → zgI S 135 (64 * (u % 41) + i) = zbi ((ch u).1 i) ∧ ((ch u).1 i = true → ∀ c, c < n → zgL S 136 (4 * (64 * (u % 41) + i) + c) = (ch u).2 i c)
def mT (S : zM) (t : zTB) : Prop := mK S (tK t) ∧ mO S (tO t) ∧ mV S (tV t) ∧ (zgI S 123 29 = nI (tv t) ∧ zgI S 123 30 = nI (tn t) ∧ zgI S 123 31 = nI (tG t)) ∧ mH S (tK t).length (tv t) (tH t)
def mQ (S : zM) (q : zPGE) : Prop := zgI S 123 47 = nI q.1.length ∧ (∀ i x, q.1[i]? = some x → zgI S 145 i = nI x) ∧ (zgI S 148 0 = nI q.2.2.1.length ∧ zgI S 148 1 = nI q.2.2.2.1.length) ∧ (∀ i, i < q.2.2.1.length → zgI S 147 i = nI (q.2.2.1.getD i 0)) ∧ (∀ i, i < q.2.2.2.1.length → zgI S 147 (900 + i) = nI (q.2.2.2.1.getD i 0)) ∧ zgI S 149 0 = nI q.2.2.2.2.1 ∧ zgI S 149 1 = nI q.2.2.2.2.2
def mP (S : zM) (P : Option zPGE) (n : Nat) : Prop := (zgI S 123 46 = zbi P.isSome ∧ (P = none → ∃ q, zWp q ∧ mQ S q)) ∧ ∀ q, P = some q → mQ S q ∧ ∀ i c, i < q.1.length → c < n → zgL S 146 (4 * i + c) = q.2.1 i c
def mr (S : zM) (r : Nat) (x : Option zRDR) : Prop := match x with
  | none => zgI S 151 r = 0
  | some x => zgI S 151 r = nI x.2.2.1 ∧ zgI S 152 r = (if x.1 then nI x.2.2.2.1 else -1) ∧ zgI S 153 r = zbi x.2.1 ∧ zgI S 154 r = nI x.2.2.2.2.1 ∧ zgI S 155 r = nI x.2.2.2.2.2.2.2.length ∧ (∀ k, k < x.2.2.2.2.2.2.2.length → zgI S 156 (36 * r + k) = nI (x.2.2.2.2.2.2.2.getD k 0)) ∧ ∀ i, i < 64 → zgI S 157 (64 * r + i) = nI (x.2.2.2.2.2.1 i) ∧ (0 < x.2.2.2.2.2.1 i → zgI S 158 (64 * r + i) = nI (x.2.2.2.2.2.2.1 i))
/-- of rows that were never given nothing is known -/
def zcz (t : zTB) (R : Nat → Option zRDR) : Prop := (∀ i, tG t ≤ i → tc t i = 0) ∧ ∀ r x, r < 4 → R r = some x → ∀ i, tG t ≤ i → x.2.2.2.2.2.1 i = 0
def mD (S : zM) (t : zTB) (R : Nat → Option zRDR) : Prop := ∃ ca : Nat → Nat, ∀ i, i < 64 → zgI S 137 i = nI (ca i) ∧ ca i ≤ tv t ∧ (ca i = tc t i ∨ (tc t i = 0 ∧ (∀ r x, r < 4 → R r = some x → 0 < x.2.2.2.2.2.1 i → ca i ≤ x.2.2.2.2.2.2.1 i) ∧ ∀ u, u ≤ tv t → (tH t u).1 i = true → ca i ≤ u))
def mC (S : zM) (t : zTB) (R : Nat → Option zRDR) : Prop := mD S t R ∧ zcz t R
/-- how many columns -/
def sk (s : zST) : Nat := match sT s with
  | none => 0
  | some t => (tK t).length
theorem sk_s {s : zST} {t : zTB} (h : sT s = some t) : sk s = (tK t).length := by rw [sk, h]
def zMO (S : zM) (s : zST) : Prop := zMs S ∧ mA S (sF s) ∧ mB S s ∧ (zgI S 123 12 = zbi (sT s).isSome ∧ (sT s = none → zgI S 123 29 = 0)) ∧ (∀ t, sT s = some t → mT S t ∧ mC S t (sR s)) ∧ mP S (sP s) (sk s) ∧ ∀ r, r < 4 → mr S r (sR s r)
/-! what is not written stays -/
theorem mA.k {X : Nat → Nat → Prop} {S T : zM} {F : List Nat} (h : mA S F) (f : zK X S T) (h1 : ¬ X 123 5) (h2 : ∀ k, ¬ X 124 k) : mA T F := ⟨(f.2.2.2.1 _ _ h1).trans h.1, fun i hi => (f.2.2.2.1 _ _ (h2 i)).trans (h.2 i hi)⟩
theorem mK.k {X : Nat → Nat → Prop} {S T : zM} {K : List Bool} (h : mK S K) (f : zK X S T) (h1 : ¬ X 123 6) (h2 : ∀ k, ¬ X 125 k) : mK T K := ⟨(f.2.2.2.1 _ _ h1).trans h.1, fun i b hb => (f.2.2.2.1 _ _ (h2 i)).trans (h.2 i b hb)⟩
theorem mO.k {X : Nat → Nat → Prop} {S T : zM} {O : List zOe} (h : mO S O) (f : zK X S T) (h1 : ¬ X 123 8) (h2 : ∀ c k, 126 ≤ c → c ≤ 128 → ¬ X c k) : mO T O := ⟨(f.2.2.2.1 _ _ h1).trans h.1, fun i e he => ⟨(f.2.2.2.1 _ _ (h2 126 i (by decide) (by decide))).trans (h.2 i e he).1, (f.2.2.2.1 _ _ (h2 127 i (by decide) (by decide))).trans (h.2 i e he).2.1, (f.2.2.2.1 _ _ (h2 128 i (by decide) (by decide))).trans (h.2 i e he).2.2⟩⟩
theorem mV.k {X : Nat → Nat → Prop} {S T : zM} {V : List zSe} (h : mV S V) (f : zK X S T) (h1 : ¬ X 123 39) (h2 : ∀ c k, 140 ≤ c → c ≤ 142 → ¬ X c k) : mV T V := ⟨(f.2.2.2.1 _ _ h1).trans h.1, fun i e he => ⟨(f.2.2.2.1 _ _ (h2 140 i (by decide) (by decide))).trans (h.2 i e he).1, (f.2.2.2.1 _ _ (h2 141 i (by decide) (by decide))).trans (h.2 i e he).2.1, (f.2.2.2.2 _ _ (h2 142 i (by decide) (by decide))).trans (h.2 i e he).2.2⟩⟩
theorem mH.k {X : Nat → Nat → Prop} {S T : zM} {n v : Nat} {ch : Nat → zRW} (h : mH S n v ch) (f : zK X S T) (h2 : ∀ c k, 135 ≤ c → c ≤ 136 → ¬ X c k) : mH T n v ch := fun u h1 h3 i hi => ⟨(f.2.2.2.1 _ _ (h2 135 _ (by decide) (by decide))).trans (h u h1 h3 i hi).1, fun ht c hc => (f.2.2.2.2 _ _ (h2 136 _ (by decide) (by decide))).trans ((h u h1 h3 i hi).2 ht c hc)⟩
theorem mQ.k {X : Nat → Nat → Prop} {S T : zM} {q : zPGE} (h : mQ S q) (f : zK X S T) (h1 : ¬ X 123 47) (h2 : ∀ c k, c = 145 ∨ c = 147 ∨ c = 148 ∨ c = 149 → ¬ X c k) : mQ T q := by
  obtain ⟨a1, a2, ⟨a3, a4⟩, a5, a6, a7, a8⟩ := h
  exact ⟨(f.2.2.2.1 _ _ h1).trans a1, fun i x hx => (f.2.2.2.1 _ _ (h2 145 i (by decide))).trans (a2 i x hx), ⟨(f.2.2.2.1 _ _ (h2 148 0 (by decide))).trans a3, (f.2.2.2.1 _ _ (h2 148 1 (by decide))).trans a4⟩, fun i hi => (f.2.2.2.1 _ _ (h2 147 i (by decide))).trans (a5 i hi), fun i hi => (f.2.2.2.1 _ _ (h2 147 _ (by decide))).trans (a6 i hi), (f.2.2.2.1 _ _ (h2 149 0 (by decide))).trans a7, (f.2.2.2.1 _ _ (h2 149 1 (by decide))).trans a8⟩
theorem mP.k {X : Nat → Nat → Prop} {S T : zM} {P : Option zPGE} {n : Nat} (h : mP S P n) (f : zK X S T) (h1 : ¬ X 123 46 ∧ ¬ X 123 47) (h2 : ∀ c k, 145 ≤ c → c ≤ 149 → ¬ X c k) : mP T P n := ⟨⟨(f.2.2.2.1 _ _ h1.1).trans h.1.1, fun hn => by
  obtain ⟨q, hq1, hq2⟩ := h.1.2 hn
  exact ⟨q, hq1, hq2.k f h1.2 (fun c k hc => h2 c k (by omega) (by omega))⟩⟩, fun q hq => ⟨(h.2 q hq).1.k f h1.2 (fun c k hc => h2 c k (by omega) (by omega)), fun i c hi hc => (f.2.2.2.2 _ _ (h2 146 _ (by decide) (by decide))).trans ((h.2 q hq).2 i c hi hc)⟩⟩
theorem mr.k {X : Nat → Nat → Prop} {S T : zM} {r : Nat} {x : Option zRDR} (h : mr S r x) (f : zK X S T) (h2 : ∀ c k, 151 ≤ c → c ≤ 158 → ¬ X c k) : mr T r x := by
  have g : ∀ c k, 151 ≤ c → c ≤ 158 → zgI T c k = zgI S c k := fun c k a b => f.2.2.2.1 _ _ (h2 c k a b)
  cases x with
  | none => exact (g 151 r (by decide) (by decide)).trans h
  | some x =>
    obtain ⟨a1, a2, a3, a4, a5, a6, a7⟩ := h
    exact ⟨(g 151 _ (by decide) (by decide)).trans a1, (g 152 _ (by decide) (by decide)).trans a2, (g 153 _ (by decide) (by decide)).trans a3, (g 154 _ (by decide) (by decide)).trans a4, (g 155 _ (by decide) (by decide)).trans a5, fun k hk => (g 156 _ (by decide) (by decide)).trans (a6 k hk), fun i hi => ⟨(g 157 _ (by decide) (by decide)).trans (a7 i hi).1, fun hp => (g 158 _ (by decide) (by decide)).trans ((a7 i hi).2 hp)⟩⟩
theorem mC.k {X : Nat → Nat → Prop} {S T : zM} {t : zTB} {R : Nat → Option zRDR} (h : mC S t R) (f : zK X S T) (h2 : ∀ k, ¬ X 137 k) : mC T t R := by
  obtain ⟨⟨ca, h⟩, hz⟩ := h
  exact ⟨⟨ca, fun i hi => ⟨(f.2.2.2.1 _ _ (h2 i)).trans (h i hi).1, (h i hi).2⟩⟩, hz⟩
theorem mT.k {X : Nat → Nat → Prop} {S T : zM} {t : zTB} (h : mT S t) (f : zK X S T) (h1 : ∀ k, k = 6 ∨ k = 8 ∨ (29 ≤ k ∧ k ≤ 31) ∨ k = 39 → ¬ X 123 k) (h2 : ∀ c k, (125 ≤ c ∧ c ≤ 128) ∨ (135 ≤ c ∧ c ≤ 136) ∨ (140 ≤ c ∧ c ≤ 142) → ¬ X c k) : mT T t := by
  obtain ⟨a1, a2, a3, ⟨a4, a5, a6⟩, a7⟩ := h
  exact ⟨a1.k f (h1 6 (by decide)) (fun k => h2 125 k (by decide)), a2.k f (h1 8 (by decide)) (fun c k x y => h2 c k (by omega)), a3.k f (h1 39 (by decide)) (fun c k x y => h2 c k (by omega)), ⟨(f.2.2.2.1 _ _ (h1 29 (by decide))).trans a4, (f.2.2.2.1 _ _ (h1 30 (by decide))).trans a5, (f.2.2.2.1 _ _ (h1 31 (by decide))).trans a6⟩, a7.k f (fun c k x y => h2 c k (by omega))⟩
/-- nothing but scratch was written -/
theorem zMO.scr {X : Nat → Nat → Prop} {S T : zM} {s : zST} (h : zMO S s) (f : zK X S T) (hx : ∀ c k, X c k → zXs c k) : zMO T s := by
  obtain ⟨h0, hA, hB, h12, hT, hP, hR⟩ := h
  have g : ∀ c k, ¬ zXs c k → ¬ X c k := fun c k q z => q (hx c k z)
  have gi : ∀ k, ¬ zXs 123 k → zgI T 123 k = zgI S 123 k := fun k q => f.2.2.2.1 _ _ (g _ _ q)
  refine ⟨f.ms h0, hA.k f (g _ _ (by unfold zXs; omega)) (fun k => g _ _ (by unfold zXs; omega)), ⟨(gi 1 (by unfold zXs; omega)).trans hB.1, (gi 2 (by unfold zXs; omega)).trans hB.2.1, fun q => (gi 3 (by unfold zXs; omega)).trans (hB.2.2 q)⟩, ⟨(gi 12 (by unfold zXs; omega)).trans h12.1, fun q => (gi 29 (by unfold zXs; omega)).trans (h12.2 q)⟩, fun t ht => ⟨(hT t ht).1.k f (fun k hk => g _ _ (by unfold zXs; omega)) (fun c k hc => g _ _ (by unfold zXs; omega)), (hT t ht).2.k f (fun k => g _ _ (by unfold zXs; omega))⟩, hP.k f ⟨g _ _ (by unfold zXs; omega), g _ _ (by unfold zXs; omega)⟩ (fun c k _ _ => g _ _ (by unfold zXs; omega)), fun r hr => (hR r hr).k f (fun c k _ _ => g _ _ (by unfold zXs; omega))⟩
/-- the class wrote none of the model's cells -/
theorem zMO.q {S T : zM} {s : zST} (h : zMO S s) (h160 : 160 ≤ zgn S) (f : zQF S T) : zMO T s := by
  have g : ∀ c, 123 ≤ c → c ≤ 159 → zAg S T c := fun c a b => f.2 c (by omega) (by unfold zOM; omega)
  obtain ⟨⟨h00, h01⟩, hA, hB, h12, hT, hP, hR⟩ := h
  have g0 := g 123 (by decide) (by decide)
  have key : zK (fun c k => c < 123 ∨ 159 < c) ((zkd T, S.2.1, S.2.2.1, zgP T, zgn T) : zM) T := ⟨rfl, rfl, rfl, fun c k hc => (g c (by omega) (by omega)).2.1 k, fun c k hc => (g c (by omega) (by omega)).2.2.1 k⟩
  have base : zMO ((zkd T, S.2.1, S.2.2.1, zgP T, zgn T) : zM) s := by
    refine ⟨⟨g0.1.trans h00, fun q hq => ⟨(g0.2.2.2 _).trans (h01 q hq).1, ?_⟩⟩, hA, hB, h12, hT, hP, hR⟩
    have hb : ∀ q ∈ zMl, 124 ≤ q.2.1 ∧ q.2.1 ≤ 159 := by decide
    exact (g q.2.1 (by have := hb q hq; omega) (by have := hb q hq; omega)).1.trans (h01 q hq).2
  obtain ⟨h0, hA, hB, h12, hT, hP, hR⟩ := base
  have gi : ∀ k, zgI T 123 k = zgI S 123 k := fun k => g0.2.1 k
  refine ⟨key.ms h0, hA.k key (by omega) (fun k => by omega), ⟨(gi 1).trans hB.1, (gi 2).trans hB.2.1, fun q => (gi 3).trans (hB.2.2 q)⟩, ⟨(gi 12).trans h12.1, fun q => (gi 29).trans (h12.2 q)⟩, fun t ht => ⟨(hT t ht).1.k key (fun k hk => by omega) (fun c k hc => by omega), (hT t ht).2.k key (fun k => by omega)⟩, hP.k key ⟨by omega, by omega⟩ (fun c k _ _ => by omega), fun r hr => (hR r hr).k key (fun c k _ _ => by omega)⟩
/-- trouble is told -/
abbrev zNw (S : zM) (x : Int32) : zM := zwI (zwI (zwI S 123 0 0) 123 3 (-1)) 123 1 x
theorem zMO.no {S : zM} {s : zST} (h : zMO S s) {n : Nat} (hn : n ≠ 4) : zMO (zNw S (nI n)) (zno s n) := by
  obtain ⟨h0, hA, hB, h12, hT, hP, hR⟩ := h
  have f : zK (fun c k => c = 123 ∧ (k = 0 ∨ k = 3 ∨ k = 1)) S (zNw S (nI n)) := ((zK.wI ⟨rfl, Or.inl rfl⟩).tr (zK.wI ⟨rfl, Or.inr (Or.inl rfl)⟩)).tr (zK.wI ⟨rfl, Or.inr (Or.inr rfl)⟩)
  have gi : ∀ k, ¬ (k = 0 ∨ k = 3 ∨ k = 1) → zgI (zNw S (nI n)) 123 k = zgI S 123 k := fun k q => f.2.2.2.1 _ _ (fun z => q z.2)
  exact ⟨f.ms h0, hA.k f (by omega) (fun k => by omega), ⟨zgI_self, (gi 2 (by omega)).trans hB.2.1, fun q => absurd q hn⟩, ⟨(gi 12 (by omega)).trans h12.1, fun q => (gi 29 (by omega)).trans (h12.2 q)⟩, fun t ht => ⟨(hT t ht).1.k f (fun k hk => by omega) (fun c k hc => by omega), (hT t ht).2.k f (fun k => by omega)⟩, hP.k f ⟨by omega, by omega⟩ (fun c k _ _ => by omega), fun r hr => (hR r hr).k f (fun c k _ _ => by omega)⟩
theorem zNw.f {S : zM} {x : Int32} : zF zMX S (zNw S x) := ((zF.wI (by decide)).tr (zF.wI (by decide))).tr (zF.wI (by decide))
theorem zMO.no1 {S : zM} {s : zST} (h : zMO S s) {n : Nat} (hn : n ≠ 4) : zMO (zwI S 123 1 (nI n)) (zno s n) := by
  obtain ⟨h0, hA, hB, h12, hT, hP, hR⟩ := h
  have f : zK (fun c k => c = 123 ∧ k = 1) S (zwI S 123 1 (nI n)) := zK.wI ⟨rfl, rfl⟩
  have gi : ∀ k, k ≠ 1 → zgI (zwI S 123 1 (nI n)) 123 k = zgI S 123 k := fun k q => f.2.2.2.1 _ _ (fun z => q z.2)
  exact ⟨f.ms h0, hA.k f (by omega) (fun k => by omega), ⟨zgI_self, (gi 2 (by omega)).trans hB.2.1, fun q => absurd q hn⟩, ⟨(gi 12 (by omega)).trans h12.1, fun q => (gi 29 (by omega)).trans (h12.2 q)⟩, fun t ht => ⟨(hT t ht).1.k f (fun k hk => by omega) (fun c k hc => by omega), (hT t ht).2.k f (fun k => by omega)⟩, hP.k f ⟨by omega, by omega⟩ (fun c k _ _ => by omega), fun r hr => (hR r hr).k f (fun c k _ _ => by omega)⟩
