/-! arrays of longs copied whole -/
theorem cp_l : Cond.methodLink RX7 36 arraycopyName ∈ lw_tbl := List.mem_of_getElem? (i := 727) (by decide +kernel)
theorem cp_n : Cond.native arraycopyName ∈ lw_tbl := List.mem_of_getElem? (i := 729) (by decide +kernel)
theorem cp_s : Cond.static arraycopyName ∈ lw_tbl := List.mem_of_getElem? (i := 728) (by decide +kernel)
theorem cp_i : Cond.initialized "java/lang/System" ∈ lw_tbl := List.mem_of_getElem? (i := 103) (by decide +kernel)
theorem arrV_congr {cA : ClassId} {n : Nat} {f g : Nat → Value} (h : ∀ k, k < n → f k = g k) : arrV cA n f = arrV cA n g := by
  unfold arrV
  congr 2
  funext j
  exact h j.1 j.2
def zcL (S : zM) (a b n : Nat) : zM := (S.1, S.2.1, fun c j => if c = b ∧ j < n then S.2.2.1 a j else S.2.2.1 c j, S.2.2.2)
theorem j_copyL {E : zE} {lv mc ms : Nat} {M : zMI} {cc : ByteArray} {pc : Nat} {ls : List (Option zV)} {st : List zV} {S : zM} {Q : Option zV → zM → Prop} {i a b n : Nat} (hd : decode cc pc = .ok (.invokestatic i, 3)) (hl : Cond.methodLink M.1 i arraycopyName ∈ lw_tbl) (ha : zkd S a = (15, n)) (hb : zkd S b = (15, n)) (hlv : 1 ≤ lv) (hw : (st.map zcat).sum ≤ 8)
    (kk : zJ E lv mc ms M cc (pc + 3) ls st (zcL S a b n) Q) : zJ E lv mc ms M cc pc ls (zI (nI n) :: zI 0 :: zR b :: zI 0 :: zR a :: st) S Q := by
  intro p l e R s m args below meth c H locs cells slots mcT msT lsA C hP hL
  obtain ⟨a0, an, hc0⟩ := hP.2.2.2 a 1 n ha (by decide)
  obtain ⟨b0, -, hc1⟩ := hP.2.2.2 b 1 n hb (by decide)
  have hT := C.2.2.2.2.2.2.2.1
  have hcl : (nI n).toNatClampNeg = n := nI_clamp an
  have hti : (nI n).toInt = (n : Int) := nI_toInt an
  obtain ⟨-, k0, hk0, cm0, hkk0⟩ := (hT.2.1.2 1 _ rfl).1 n (zfv E S a .long)
  have hframes := C.2.2.2.2.2.2.2.2.1
  have hlocals := C.2.2.2.2.2.2.2.2.2.1
  have hroom := zroom (E := E) st hw
  intro T hTh X
  obtain ⟨vm', X', step⟩ := X.arraycopy C.1 C.2.2.2.2.2.2.1 (hT.w hl rfl _) (hT.w cp_n rfl _) (hT.w cp_s rfl _) (hT.w cp_i rfl _) (src := zad E a) (dst := zad E b) (cs := arrV (zA E 1) n (zfv E S a .long)) (cd := arrV (zA E 1) n (zfv E S b .long)) (srcPos := 0) (destPos := 0) (n := nI n) (by rw [hTh]; exact hc0) (by rw [hTh]; exact hc1)
    (fun _ h => by cases h) (fun _ h => by cases h) (fun h => by cases h) (fun h => by cases h) hk0 hk0 hkk0 hkk0 (by simp [refKind]) (by decide) (by decide) (nI_pos an)
    (by rw [hti, arrV_size]; show ¬ (0 : Int) + _ > _; omega) (by rw [hti, arrV_size]; show ¬ (0 : Int) + _ > _; omega)
    (fun vm₁ _ i hi => by
      rw [hcl] at hi
      have e : (arrV (zA E 1) n (zfv E S a .long)).slots.getD ((0 : Int32).toNatClampNeg + i) .null = .long (zgL S a i) := by
        rw [Array.getD_eq_getD_getElem?, show (0 : Int32).toNatClampNeg + i = i from Nat.zero_add i, arrV_read _ _ hi]
        rfl
      refine ⟨?_, ?_⟩
      · rw [e]
        rfl
      · rw [e]
        exact trivial)
    (g := F0 m pc lsA ((zI (nI n) :: zI 0 :: zR b :: zI 0 :: zR a :: st).map (ztv E))) rfl (by rw [C.2.2.1]; exact hL.1) (rest := st.map (ztv E)) (by
      show Value.int (nI n) :: Value.int 0 :: zrv (zb E) b :: Value.int 0 :: zrv (zb E) a :: _ = _
      rw [zrv_ad a0, zrv_ad b0]) (by rw [C.2.1]; exact hd) (by omega) (by
      show 2 * 0 + _ + (nativeFrameWords "java/lang/System" "arraycopy" 5 + 11) ≤ _
      have hz : nativeFrameWords "java/lang/System" "arraycopy" 5 ≤ 29 := by decide +kernel
      omega)
  have e1 : copied (arrV (zA E 1) n (zfv E S a .long)) (arrV (zA E 1) n (zfv E S b .long)) 0 0 (nI n) = arrV (zA E 1) n (fun j => .long (va_cpy (zgL S a) (zgL S b) (0 : Int32).toNatClampNeg (0 : Int32).toNatClampNeg (nI n).toNatClampNeg j)) := va_copied (fun z => .long z) (zA E 1) (zA E 1) (zgL S a) (zgL S b) (by rw [hcl]; show 0 + n ≤ n; omega)
  rw [e1] at X' step
  have hlt : zad E b < H.size := (Array.getElem?_eq_some_iff.mp hc1).1
  have hr : zRp E (zcL S a b n) (H.setIfInBounds (zad E b) (arrV (zA E 1) n (fun j => .long (va_cpy (zgL S a) (zgL S b) (0 : Int32).toNatClampNeg (0 : Int32).toNatClampNeg (nI n).toNatClampNeg j)))) := by
    refine hP.put b0 rfl rfl (fun c hcb ty k => ?_) (by simp) (fun q hq => by simp [Array.getElem?_setIfInBounds, Ne.symm hq]) (fun u q hu hu' => ?_) (fun j q hj hj' => ?_)
    · unfold zfv
      split <;> simp [zgI, zgL, zgP, zcL, hcb]
    · rw [hb] at hu
      injection hu with h7 h8
      omega
    · have e4 : j = 1 ∧ q = n := by rw [hb] at hj; injection hj with h7 h8; omega
      obtain ⟨rfl, rfl⟩ := e4
      rw [Array.getElem?_setIfInBounds_self_of_lt hlt]
      refine congrArg some (arrV_congr fun k hk => ?_)
      show Value.long _ = Value.long _
      simp only [zgL, zcL, va_cpy, hcl, show (0 : Int32).toNatClampNeg = 0 from rfl, Nat.zero_le, Nat.zero_add, hk, and_self, if_true, Nat.sub_zero]
  have C2 : ∀ LL : List Loc, (∀ q ∈ LL, zb E ≤ q.base) → zCx E M cc lv mc ms p R s m meth c (locs ++ LL) cells slots mcT msT := by
    intro LL hLL
    obtain ⟨c1, c2, c3, c4, c5, c6, c7, c8, c9, c10, c11, c12, c13⟩ := C
    exact ⟨c1, c2, c3, c4, c5, c6, c7, c8, c9, c10, c11, c12, fun q hq => by
      rcases List.mem_append.mp hq with h | h
      · exact c13 q h
      · exact hLL q h⟩
  obtain ⟨t, a1, b1⟩ := kk p l e R s m args below meth c _ _ cells slots mcT msT lsA (C2 _ (fun q h => by
    obtain ⟨z, -, hz⟩ := List.mem_map.mp h
    rw [← hz]
    exact Nat.le_add_right _ _)) hr hL _ (by rw [← hTh]; rfl) X'
  exact ⟨t, step t a1, b1⟩
