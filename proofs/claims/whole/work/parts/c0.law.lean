/-! THE LAW -/
abbrev mL_law (nm : String) : zMI := (RL, ⟨RL, nm, "([I)Z"⟩, 7, some .boolean)
theorem nlL_8 : zNL RL 8 11 := ⟨by decide, List.mem_of_getElem? (i := 109) (by decide +kernel), List.mem_of_getElem? (i := 110) (by decide +kernel), List.mem_of_getElem? (i := 85) (by decide +kernel)⟩
theorem nlL_16 : zNL RL 16 12 := ⟨by decide, List.mem_of_getElem? (i := 1147) (by decide +kernel), List.mem_of_getElem? (i := 1148) (by decide +kernel), List.mem_of_getElem? (i := 91) (by decide +kernel)⟩
theorem kL_93 : Cond.constantLong RL 93 4294967295 ∈ lw_tbl := List.mem_of_getElem? (i := 1815) (by decide +kernel)
theorem nI_p (i c : Nat) : nI i + nI c = nI (i + c) := (Int32.ofNat_add i c).symm
theorem nI_p0 (i : Nat) : nI i = nI i := rfl
theorem nI_p1 (i : Nat) : nI i + 1 = nI (i + 1) := nI_p i 1
theorem nI_p2 (i : Nat) : nI i + 2 = nI (i + 2) := nI_p i 2
theorem nI_p3 (i : Nat) : nI i + 3 = nI (i + 3) := nI_p i 3
theorem nI_p4 (i : Nat) : nI i + 4 = nI (i + 4) := nI_p i 4
theorem nI_p5 (i : Nat) : nI i + 5 = nI (i + 5) := nI_p i 5
theorem nI_p6 (i : Nat) : nI i + 6 = nI (i + 6) := nI_p i 6
theorem nI_p7 (i : Nat) : nI i + 7 = nI (i + 7) := nI_p i 7
theorem nI_p8 (i : Nat) : nI i + 8 = nI (i + 8) := nI_p i 8
theorem nI_p9 (i : Nat) : nI i + 9 = nI (i + 9) := nI_p i 9
def zLI (n : Nat) (S : zM) (s : zST) : Prop := zCI S s ∧ zMO S s ∧ zWF n s ∧ zkd S 160 = (15, 1)
abbrev zll (i : Nat) : List (Option zV) := [some (zQ 42), some (zR 1), some (zR 123), some (zR 160), some (zI (nI i)), none, none]
/-- the script lies below -/
def zScr (E : zE) (L : Nat) (xs : Nat → Int32) : Prop := zS E 42 < zb E ∧ ∀ U, zX E U → va_X (zS E 42) L xs U (zH E)
section ZLAW
variable {E : zE} {lv mc ms : Nat} {M : zMI} {cc : ByteArray} {pc : Nat} {ls : List (Option zV)} {st rest : List zV} {S : zM} {Q : zQx} {L : Nat} {xs : Nat → Int32}
theorem x_sld {x : Int32} {j : Nat} (hs : zScr E L xs) (h4 : L ≤ 4608) (hd : decode cc pc = .ok (.iaload, 1)) (hx : x = nI j) (hj : j < L) (kk : zJx E lv mc ms M cc (pc + 1) ls (zI (xs j) :: st) S Q) : zJx E lv mc ms M cc pc ls (zI x :: zQ 42 :: st) S Q := by
  subst hx
  intro p l e R s m args below meth c H locs cells slots mcT msT lsA hz C hP hL
  have hT := C.2.2.2.2.2.2.2.1
  obtain ⟨scr, g1, g2, g3, g4, g5⟩ := hs.2 s hT.2.2.2.2.2
  have hc : (nI j).toNatClampNeg = j := nI_clamp (by omega)
  exact W.iald (v := .int (xs j)) C.1 C.2.1 (by rw [hP.2.1 _ hs.1]; exact g1) g2 g3 (by rw [g4]; exact vp_in_nI hj (by omega)) (by rw [hc]; exact g5 j hj) rfl rfl hd (kk p l e R s m args below meth c H locs cells slots mcT msT lsA hz C hP hL)
theorem x_slen (hs : zScr E L xs) (hd : decode cc pc = .ok (.arraylength, 1)) (kk : zJx E lv mc ms M cc (pc + 1) ls (zI (nI L) :: st) S Q) : zJx E lv mc ms M cc pc ls (zQ 42 :: st) S Q := by
  intro p l e R s m args below meth c H locs cells slots mcT msT lsA hz C hP hL
  have hT := C.2.2.2.2.2.2.2.1
  obtain ⟨scr, g1, g2, g3, g4, g5⟩ := hs.2 s hT.2.2.2.2.2
  exact W.alen (n := Int32.ofNat L) C.1 C.2.1 (by rw [hP.2.1 _ hs.1]; exact g1) g2 (by rw [g4] <;> rfl) rfl rfl hd (kk p l e R s m args below meth c H locs cells slots mcT msT lsA hz C hP hL)
end ZLAW
theorem zMO.q2 {S T : zM} {s : zST} (h : zMO S s) (g : ∀ c, 123 ≤ c → c ≤ 159 → zAg S T c) : zMO T s := by
  obtain ⟨⟨h00, h01⟩, hA, hB, h12, hT, hP, hR⟩ := h
  have g0 := g 123 (by decide) (by decide)
  have key : zK (fun c k => c < 123 ∨ 159 < c) ((zkd T, S.2.1, S.2.2.1, zgP T, zgn T) : zM) T := ⟨rfl, rfl, rfl, fun c k hc => (g c (by omega) (by omega)).2.1 k, fun c k hc => (g c (by omega) (by omega)).2.2.1 k⟩
  have base : zMO ((zkd T, S.2.1, S.2.2.1, zgP T, zgn T) : zM) s := by
    refine ⟨⟨g0.1.trans h00, fun q hq => ⟨(g0.2.2.2 _).trans (h01 q hq).1, ?_⟩⟩, hA, hB, h12, hT, hP, hR⟩
    have hb : ∀ q ∈ zMl, 124 ≤ q.2.1 ∧ q.2.1 ≤ 159 := by decide
    exact (g q.2.1 (by have := hb q hq; omega) (by have := hb q hq; omega)).1.trans (h01 q hq).2
  obtain ⟨h0, hA, hB, h12, hT, hP, hR⟩ := base
  have gi : ∀ k, zgI T 123 k = zgI S 123 k := fun k => g0.2.1 k
  refine ⟨key.ms h0, hA.k key (by omega) (fun k => by omega), ⟨(gi 1).trans hB.1, (gi 2).trans hB.2.1, fun q => (gi 3).trans (hB.2.2 q)⟩, ⟨(gi 12).trans h12.1, fun q => (gi 29).trans (h12.2 q)⟩, fun t ht => ⟨(hT t ht).1.k key (fun k hk => by omega) (fun c k hc => by omega), (hT t ht).2.k key (fun k => by omega)⟩, hP.k key ⟨by omega, by omega⟩ (fun c k _ _ => by omega), fun r hr => (hR r hr).k key (fun c k _ _ => by omega)⟩
theorem zLI.m {n : Nat} {S T : zM} {s : zST} (h : zLI n S s) (f : zQF S T) : zMO T s := h.2.1.q h.1.1.2.2.2.2 f
theorem zLI.c2 {T T2 : zM} {s : zST} (h : zCI T s) (f : zF zMX T T2) : zCI T2 s := h.ag (fun c _ h2 _ => f.ag (show ¬ zMX c by unfold zMX; omega)) (Nat.le_of_eq f.2.1.symm)
theorem zLI.next {n n' : Nat} {S T T2 : zM} {s s' : zST} (h : zLI n S s) (f : zQF S T) (hC : zCI T s') (f2 : zF zMX T T2) (hM : zMO T2 s') (hW : zWF n' s') : zLI n' T2 s' :=
  ⟨zLI.c2 hC f2, hM, hW, (f2.ag (show ¬ zMX 160 by decide)).1.trans ((f.2 160 h.1.1.2.2.2.2 (by unfold zOM; omega)).1.trans h.2.2.2)⟩
