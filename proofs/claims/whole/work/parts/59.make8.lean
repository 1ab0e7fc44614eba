/-! TABLE.<init>: each thing it makes stands behind the one before -/
theorem zNF.kd {X : Nat → Prop} {S T : zM} {c : Nat} {k : Nat × Nat} (h : zNF X S T) (hc : c ≤ zgn S) (hx : ¬ X c) (hk : zkd S c = k) : zkd T c = k := (h.2 c hc hx).1.trans hk
