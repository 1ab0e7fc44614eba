/-! what is made: cells that were there and are not of X stay as they were -/
def zNF (X : Nat → Prop) (S T : zM) : Prop := zgn S ≤ zgn T ∧ ∀ c, c ≤ zgn S → ¬ X c → zAg S T c
theorem zAg.rf {S : zM} {c : Nat} : zAg S S c := ⟨rfl, fun _ => rfl, fun _ => rfl, fun _ => rfl⟩
theorem zNF.rf {X : Nat → Prop} {S : zM} : zNF X S S := ⟨Nat.le_refl _, fun _ _ _ => zAg.rf⟩
theorem zNF.tr {X : Nat → Prop} {S T U : zM} (h : zNF X S T) (g : zNF X T U) : zNF X S U := ⟨Nat.le_trans h.1 g.1, fun c hc hx => (h.2 c hc hx).tr (g.2 c (Nat.le_trans hc h.1) hx)⟩
theorem zNF.mo {X Y : Nat → Prop} {S T : zM} (h : zNF X S T) (g : ∀ c, c ≤ zgn S → X c → Y c) : zNF Y S T := ⟨h.1, fun c hc hy => h.2 c hc (fun q => hy (g c hc q))⟩
theorem zF.nf {X : Nat → Prop} {S T : zM} (h : zF X S T) : zNF X S T := ⟨by rw [h.2.1]; exact Nat.le_refl _, fun c _ hx => h.ag hx⟩
theorem zNF.nw {X : Nat → Prop} {S : zM} {t n : Nat} : zNF X S (znw S t n) := ⟨Nat.le_succ _, fun c hc _ => ⟨if_neg (by omega), fun _ => if_neg (by omega), fun _ => if_neg (by omega), fun _ => if_neg (by omega)⟩⟩
theorem zNF.wP {X : Nat → Prop} {S : zM} {a k v : Nat} (h : X a) : zNF X S (zwP S a k v) := ⟨Nat.le_refl _, fun c _ hx => ⟨rfl, fun _ => rfl, fun _ => rfl, fun j => zgP_ne (fun e => hx (e ▸ h))⟩⟩
theorem znw_kd {S : zM} {t n : Nat} : zkd (znw S t n) (zgn S + 1) = (t, n) := if_pos rfl
theorem znw_ok {S : zM} {t n a : Nat} (h : a ≤ zgn S) : zkd (znw S t n) a = zkd S a := if_neg (by omega)
