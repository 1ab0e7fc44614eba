/-! what the tables say at a state -/
def ztw (w : Cond) : Bool := match w with
  | .fieldLinkNest _ _ _ _ _ _ => true
  | .methodLinkNest _ _ _ _ => true
  | w => goodWord w
def ztys (E : zE) : List (ClassId × FieldType) := [(zA E 0, .int), (zA E 1, .long), (zA E 2, .boolean), (zA E 3, .object RX1), (zA E 4, .object RX6)]
def zTb (E : zE) (U : State) : Prop := (∀ w ∈ lw_tbl, ztw w = true → w.before #[] U = true) ∧ va_K (zD E) vwCl (ztys E) U ∧ va_AO RX1 U ∧ va_AO RX6 U ∧ (∀ s V : State, s.WarmedH V.vm → zX E s → zX E V) ∧ zX E U
theorem ztw_warm {w : Cond} {s U : State} (hW : s.WarmedH U.vm) (ht : ztw w = true) (h : w.before #[] s = true) (a : Array Value) : w.before a U = true := by
  unfold ztw at ht
  split at ht
  · exact va_Nw.use rfl (va_Nw.warmF hW h)
  · exact va_Nw.use rfl (va_Nw.warmM hW h)
  · exact word_at hW (good_of_word ht) h
theorem zTb.moved {E : zE} {s U : State} (hW : s.WarmedH U.vm) (h : zTb E s) : zTb E U :=
  ⟨fun w hm ht => ztw_warm hW ht (h.1 w hm ht) _, h.2.1.moved hW.alike, h.2.2.1.moved hW.alike, h.2.2.2.1.moved hW.alike, h.2.2.2.2.1, h.2.2.2.2.1 _ _ hW h.2.2.2.2.2⟩
theorem zTb.w {E : zE} {s : State} (h : zTb E s) {w : Cond} (hm : w ∈ lw_tbl) (ht : ztw w = true) (a : Array Value) : w.before a s = true := ztw_warm (State.WarmedH.refl s) ht (h.1 w hm ht) a
theorem zTb.ws {E : zE} {s : State} (h : zTb E s) {ws : List Cond} (hm : ∀ w ∈ ws, w ∈ lw_tbl) (ht : ∀ w ∈ ws, ztw w = true) (a : Array Value) : ∀ w ∈ ws, w.before a s = true := fun w hw => h.w (hm w hw) (ht w hw) a
/-- a method: its class, its name, how many locals, what it returns -/
abbrev zMI : Type := String × MethodName × Nat × Option FieldType
def zCx (E : zE) (M : zMI) (cc : ByteArray) (lv mc ms : Nat) (p : Program) (R : Room) (s : State) (m : MethodId) (meth : Method) (c : Code) (locs : List Loc) (cells slots mcT msT : Nat) : Prop :=
  p.tables.exec = Jvm.exec ∧ c.code = cc ∧ c.maxLocals = M.2.2.1 ∧ meth.sig.returnType = M.2.2.2 ∧ meth.locks = false ∧ meth.name = M.2.1.name ∧ s.vm.findClass M.1 = some m.cls ∧ zTb E s ∧
  lv ≤ R.frames ∧ 48 * lv ≤ R.locals ∧ (cells + mc ≤ R.cells ∧ slots + ms ≤ R.slots) ∧ (cells + mc ≤ mcT ∧ slots + ms ≤ msT) ∧ ∀ q ∈ locs, zb E ≤ q.base
def zLs (E : zE) (lsA : Array Slot) (nL : Nat) (ls : List (Option zV)) : Prop := lsA.size = nL ∧ lv_wf lsA ∧ ∀ (i : Nat) (v : zV), ls[i]? = some (some v) → lsA[i]? = some (.val (ztv E v))
def zQc (E : zE) (Q : Option zV → zM → Prop) : Array Value → State → Outcome → State → Prop := fun _ _ o t => ∃ (r : Option zV) (S : zM), o = .returned (r.map (ztv E)) ∧ zRp E S t.heap ∧ Q r S
abbrev zfr (E : zE) : Addr → Prop := fun q => zb E ≤ q
/-- from this frame, over this memory, the method comes to its end with Q; lv: how deep its calls may go; mc, ms: cells and slots that it may still make -/
def zJ (E : zE) (lv mc ms : Nat) (M : zMI) (cc : ByteArray) (pc : Nat) (ls : List (Option zV)) (st : List zV) (S : zM) (Q : Option zV → zM → Prop) : Prop :=
  ∀ (p : Program) (l : Launch) (e : Env) (R : Room) (s : State) (m : MethodId) (args : Array Value) (below : List Frame) (meth : Method) (c : Code) (H : Heap) (locs : List Loc) (cells slots mcT msT : Nat) (lsA : Array Slot),
    zCx E M cc lv mc ms p R s m meth c locs cells slots mcT msT → zRp E S H → zLs E lsA M.2.2.1 ls →
    W p l e R s m args below meth c H locs cells slots (MQ below (zQc E Q) args s mcT msT (zfr E)) (F0 m pc lsA (st.map (ztv E)))
def zPc (E : zE) (av : List zV) (S : zM) : Array Value → State → Prop := fun v U => v = (av.map (ztv E)).toArray ∧ zTb E U ∧ zRp E S U.heap
abbrev zrm (lv mc ms : Nat) : Room := { frames := lv, cells := mc, slots := ms, locals := 48 * lv }
abbrev zws (M : zMI) (cc : ByteArray) : List Cond := [.code M.2.1 cc M.2.2.1 M.2.2.2]
/-- a method's contract at these arguments over this memory -/
def zSp (E : zE) (lv mc ms : Nat) (M : zMI) (cc : ByteArray) (av : List zV) (S : zM) (Q : Option zV → zM → Prop) : Prop :=
  ∀ l : Launch, Met l M.2.1 (zws M cc) (zrm lv mc ms) (zPc E av S) (zQc E Q) mc ms (zfr E)
/-! locals at the entry -/
def zcat (v : zV) : Nat := match v with
  | .inr (.inl _) => 2
  | _ => 1
theorem ztv_cat (E : zE) (v : zV) : (ztv E v).category = zcat v := by
  rcases v with x | x | x | x
  · rfl
  · rfl
  · cases x <;> rfl
  · rfl
def zlay (av : List zV) : List (Option zV) := av.flatMap fun v => if zcat v = 2 then [some v, none] else [some v]
theorem zlay_sl (E : zE) (av : List zV) : ∀ (pre : List Slot) (lp : List (Option zV)), pre.length = lp.length → (∀ (i : Nat) (v : zV), lp[i]? = some (some v) → pre[i]? = some (.val (ztv E v))) →
    (pre ++ lg_sl (av.map (ztv E))).length = (lp ++ zlay av).length ∧ ∀ (i : Nat) (v : zV), (lp ++ zlay av)[i]? = some (some v) → (pre ++ lg_sl (av.map (ztv E)))[i]? = some (.val (ztv E v)) := by
  induction av with
  | nil =>
    intro pre lp h1 h2
    simpa [lg_sl, zlay] using ⟨h1, h2⟩
  | cons a av ih =>
    intro pre lp h1 h2
    by_cases hc : zcat a = 2
    · have e1 : pre ++ lg_sl ((a :: av).map (ztv E)) = (pre ++ [.val (ztv E a), .second]) ++ lg_sl (av.map (ztv E)) := by
        simp [lg_sl, ztv_cat, hc]
      have e2 : lp ++ zlay (a :: av) = (lp ++ [some a, none]) ++ zlay av := by
        simp [zlay, hc]
      rw [e1, e2]
      refine ih _ _ (by simp [h1]) fun i v h => ?_
      by_cases hi : i < lp.length
      · rw [List.getElem?_append_left hi] at h
        rw [List.getElem?_append_left (by omega)]
        exact h2 i v h
      · rw [List.getElem?_append_right (by omega)] at h
        rw [List.getElem?_append_right (by omega), h1]
        match hk : i - lp.length, h with
        | 0, h => simp at h; subst h; rfl
        | 1, h => simp at h
        | k + 2, h => simp at h
    · have e1 : pre ++ lg_sl ((a :: av).map (ztv E)) = (pre ++ [.val (ztv E a)]) ++ lg_sl (av.map (ztv E)) := by
        simp [lg_sl, ztv_cat, hc]
      have e2 : lp ++ zlay (a :: av) = (lp ++ [some a]) ++ zlay av := by
        simp [zlay, hc]
      rw [e1, e2]
      refine ih _ _ (by simp [h1]) fun i v h => ?_
      by_cases hi : i < lp.length
      · rw [List.getElem?_append_left hi] at h
        rw [List.getElem?_append_left (by omega)]
        exact h2 i v h
      · rw [List.getElem?_append_right (by omega)] at h
        rw [List.getElem?_append_right (by omega), h1]
        match hk : i - lp.length, h with
        | 0, h => simp at h; subst h; rfl
        | k + 1, h => simp at h
/-- a contract out of the walk of its body -/
theorem zSp.of {E : zE} {lv mc ms : Nat} {M : zMI} {cc : ByteArray} {av : List zV} {S : zM} {Q : Option zV → zM → Prop} (hy : plainName M.2.1.cls = true) (ho : M.2.1.cls = M.1) (hl : (zlay av).length ≤ M.2.2.1) {ls : List (Option zV)} (hls : zlay av ++ List.replicate (M.2.2.1 - (zlay av).length) none = ls)
    (k : zJ E lv mc ms M cc 0 ls [] S Q) : zSp E lv mc ms M cc av S Q := by
  intro l
  refine Met.ofW (cc := cc) (maxL := M.2.2.1) (ret := M.2.2.2) hy rfl ?_
  intro p e s m args below meth c s₁ B hml hv
  obtain ⟨rfl, hT, hP⟩ := hv
  have hown : s.vm.findClass M.1 = some m.cls := by rw [← ho]; exact findClass_of_methodNamed B.named
  obtain ⟨hlen, hget⟩ := zlay_sl E av [] [] rfl (fun i v h => by simp at h)
  simp only [List.nil_append] at hlen hget
  have hle := lv_entry (av.map (ztv E)) (n := M.2.2.1) (by omega)
  rw [lg_entry_eq]
  refine k p l e _ s m _ below meth c s.heap [] 0 0 mc ms _ ⟨B.exec, B.bytes, hml, B.returns, B.notSynchronized, (name_of_methodNamed B.named B.method).1, hown, hT, Nat.le_refl _, Nat.le_refl _, ⟨Nat.le_of_eq (Nat.zero_add _), Nat.le_of_eq (Nat.zero_add _)⟩, ⟨Nat.le_of_eq (Nat.zero_add _), Nat.le_of_eq (Nat.zero_add _)⟩, fun q h => by simp at h⟩ hP ⟨hle.1, hle.2.1, fun i v h => ?_⟩
  subst hls
  rw [List.getElem?_toArray]
  by_cases hi : i < (zlay av).length
  · rw [List.getElem?_append_left hi] at h
    rw [List.getElem?_append_left (by omega)]
    exact hget i v h
  · rw [List.getElem?_append_right (by omega)] at h
    simp [List.getElem?_replicate] at h
/-- less may be asked, and more be given -/
theorem zJ.post {E : zE} {lv mc ms : Nat} {M : zMI} {cc : ByteArray} {pc : Nat} {ls : List (Option zV)} {st : List zV} {S : zM} {Q Q' : Option zV → zM → Prop} (k : zJ E lv mc ms M cc pc ls st S Q') (h : ∀ r T, Q' r T → Q r T) : zJ E lv mc ms M cc pc ls st S Q := by
  intro p l e R s m args below meth c H locs cells slots mcT msT lsA C hP hL T hT X
  obtain ⟨t, a1, o, b1, b2, ⟨r, S', c1, c2, c3⟩, b4⟩ := k p l e R s m args below meth c H locs cells slots mcT msT lsA C hP hL T hT X
  exact ⟨t, a1, o, b1, b2, ⟨r, S', c1, c2, h r S' c3⟩, b4⟩
theorem zCx.less {E : zE} {M : zMI} {cc : ByteArray} {lv mc ms mc2 ms2 : Nat} {p : Program} {R : Room} {s : State} {m : MethodId} {meth : Method} {c : Code} {locs : List Loc} {cells slots mcT msT : Nat} (C : zCx E M cc lv mc ms p R s m meth c locs cells slots mcT msT) (h1 : mc2 ≤ mc) (h2 : ms2 ≤ ms) : zCx E M cc lv mc2 ms2 p R s m meth c locs cells slots mcT msT := by
  obtain ⟨c1, c2, c3, c4, c5, c6, c7, c8, c9, c10, ⟨c11, c12⟩, ⟨c13, c14⟩, c15⟩ := C
  exact ⟨c1, c2, c3, c4, c5, c6, c7, c8, c9, c10, ⟨by omega, by omega⟩, ⟨by omega, by omega⟩, c15⟩
theorem zJ.less {E : zE} {lv mc ms mc2 ms2 : Nat} {M : zMI} {cc : ByteArray} {pc : Nat} {ls : List (Option zV)} {st : List zV} {S : zM} {Q : Option zV → zM → Prop} (h1 : mc2 ≤ mc) (h2 : ms2 ≤ ms) (k : zJ E lv mc2 ms2 M cc pc ls st S Q) : zJ E lv mc ms M cc pc ls st S Q := by
  intro p l e R s m args below meth c H locs cells slots mcT msT lsA C hP hL
  exact k p l e R s m args below meth c H locs cells slots mcT msT lsA (C.less h1 h2) hP hL
/-- fewer locals are known -/
theorem zJ.drop {E : zE} {lv mc ms : Nat} {M : zMI} {cc : ByteArray} {pc : Nat} {ls ls' : List (Option zV)} {st : List zV} {S : zM} {Q : Option zV → zM → Prop} (h : ∀ (i : Nat) (v : zV), ls'[i]? = some (some v) → ls[i]? = some (some v)) (k : zJ E lv mc ms M cc pc ls' st S Q) : zJ E lv mc ms M cc pc ls st S Q := by
  intro p l e R s m args below meth c H locs cells slots mcT msT lsA C hP hL
  exact k p l e R s m args below meth c H locs cells slots mcT msT lsA C hP ⟨hL.1, hL.2.1, fun i v q => hL.2.2 i v (h i v q)⟩
theorem zSp.post {E : zE} {lv mc ms : Nat} {M : zMI} {cc : ByteArray} {av : List zV} {S : zM} {Q Q' : Option zV → zM → Prop} (k : zSp E lv mc ms M cc av S Q') (h : ∀ r T, Q' r T → Q r T) : zSp E lv mc ms M cc av S Q := by
  intro l p e ha hc hk s m args below hf hap hP hK
  obtain ⟨t, o, h1, h2, h3, ⟨r, S', c1, c2, c3⟩, h5⟩ := k l p e ha hc hk s m args below hf hap hP hK
  exact ⟨t, o, h1, h2, h3, ⟨r, S', c1, c2, h r S' c3⟩, h5⟩
