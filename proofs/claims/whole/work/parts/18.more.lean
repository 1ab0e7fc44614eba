/-- a contract out of the walk of its body -/
theorem zSp.ofF {E : zE} {lv mc ms : Nat} {M : zMI} {cc : ByteArray} {av : List zV} {S : zM} {Q : Option zV → zM → Prop} (hy : plainFor M.2.1 = true) (ho : M.2.1.cls = M.1) (hl : (zlay av).length ≤ M.2.2.1) {ls : List (Option zV)} (hls : zlay av ++ List.replicate (M.2.2.1 - (zlay av).length) none = ls)
    (k : zJ E lv mc ms M cc 0 ls [] S Q) : zSp E lv mc ms M cc av S Q := by
  intro l
  refine va_MetF (cc := cc) (maxL := M.2.2.1) (ret := M.2.2.2) hy rfl ?_
  intro p e s m args below meth c s₁ B hml hv
  obtain ⟨rfl, hT, hP⟩ := hv
  have hown : s.vm.findClass M.1 = some m.cls := by rw [← ho]; exact findClass_of_methodNamed B.named
  obtain ⟨hlen, hget⟩ := zlay_sl E av [] [] rfl (fun i v h => by simp at h)
  simp only [List.nil_append] at hlen hget
  have hle := lv_entry (av.map (ztv E)) (n := M.2.2.1) (by omega)
  rw [lg_entry_eq]
  refine k p l e _ s m _ below meth c s.heap [] 0 0 mc ms _ ⟨B.exec, B.bytes, hml, B.returns, B.notSynchronized, (name_of_methodNamed B.named B.method).1, hown, hT, Nat.le_refl _, Nat.le_refl _, ⟨Nat.le_of_eq (Nat.zero_add _), Nat.le_of_eq (Nat.zero_add _)⟩, ⟨Nat.le_of_eq (Nat.zero_add _), Nat.le_of_eq (Nat.zero_add _)⟩, fun q h => by simp at h⟩ hP ⟨hle.1, hle.2.1, fun i v h => ?_⟩
  subst hls
  rw [List.getElem?_toArray]
  by_cases hi : i < (zlay av).length
  · rw [List.getElem?_append_left hi] at h
    rw [List.getElem?_append_left (by omega)]
    exact hget i v h
  · rw [List.getElem?_append_right (by omega)] at h
    simp [List.getElem?_replicate] at h
