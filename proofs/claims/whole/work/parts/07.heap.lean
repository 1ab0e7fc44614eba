def zfk (ty : FieldType) : Bool := match ty with
  | .object _ => true
  | .array _ => true
  | _ => false
section ZHEAP
variable {E : zE} {lv mc ms : Nat} {M : zMI} {cc : ByteArray} {pc : Nat} {ls : List (Option zV)} {st : List zV} {S : zM} {Q : Option zV → zM → Prop}
/-- a field's link: of class t the k-th -/
def zFL (own : String) (i t k : Nat) : Prop := t < 13 ∧ k < zN t ∧ (Cond.fieldLink own i (zC t) (zT t k).2.1 (zT t k).2.2.1 ∈ lw_tbl ∨ ∃ host, Cond.fieldLinkNest own i (zC t) (zT t k).2.1 (zT t k).2.2.1 host ∈ lw_tbl)
theorem zfv_I {ty : FieldType} {a k : Nat} (h : ty = .int ∨ ty = .boolean) : zfv E S a ty k = .int (zgI S a k) := by
  rcases h with rfl | rfl <;> rfl
theorem zrv_ad {b a : Nat} (h : 0 < a) : zrv b a = .ref (b + (a - 1)) := by
  cases a with
  | zero => exact absurd h (Nat.lt_irrefl 0)
  | succ a => rfl
theorem zlays (hZ : ∀ t, t < 13 → ∀ w ∈ u_ws (zC t) (zT t) (zN t), w ∈ lw_tbl) {s : State} (hT : zTb E s) {t : Nat} (ht : t < 13) (a : Array Value) : ∀ w ∈ u_ws (zC t) (zT t) (zN t), w.before a s = true := fun w hw => hT.w (hZ t ht w hw) (by
  obtain ⟨k, -, rfl⟩ := List.mem_map.mp hw
  unfold u_lay
  split <;> rfl) a
theorem j_getf {i t k a : Nat} {v : zV} (hd : decode cc pc = .ok (.getfield i, 3)) (hf : zFL M.1 i t k) (ha : zkd S a = (t + 1, 0)) (hv : ztv E v = zfv E S a (zty t k) k) (kk : zJ E lv mc ms M cc (pc + 3) ls (v :: st) S Q) : zJ E lv mc ms M cc pc ls (zR a :: st) S Q := by
  intro p l e R s m args below meth c H locs cells slots mcT msT lsA C hP hL
  obtain ⟨ht, hk, hlink⟩ := hf
  obtain ⟨a0, cell, q1, q2, q3, q4⟩ := hP.2.2.1 a t 0 ha ht
  have hT := C.2.2.2.2.2.2.2.1
  obtain ⟨hS, hfc, kC, hkC, hkind⟩ := hT.2.1.1 t _ (zcl t ht)
  obtain ⟨cf, kf, fi, f, hi, hsl⟩ := hS k hk
  have hst := (u_facts hfc hkC (u_lays (zlays zlaysIn hT ht args) (fun _ h => h) hk) hi).1
  have hi' : s.fieldFound? (zC t) (zT t k).2.1 (zT t k).2.2.1 = some (cf, kf, fi, f) := by rw [← zown t ht k hk]; exact hi
  have hvv : cell.slots[f.slot]? = some (ztv E v) := by rw [hsl, q4 k hk, hv]
  show W _ _ _ _ _ _ _ _ _ _ _ _ _ _ _ (F0 m pc lsA (zrv (zb E) a :: st.map (ztv E)))
  rw [zrv_ad a0]
  rcases hlink with hl | ⟨host, hl⟩
  · exact W.getf C.1 C.2.1 C.2.2.2.2.2.2.1 (hT.w hl rfl _) hi' hst q1 (by rw [q3]; exact fun h => by cases h) hvv rfl rfl hd (kk p l e R s m args below meth c H locs cells slots mcT msT lsA C hP hL)
  · exact va_Wgetf C.1 C.2.1 C.2.2.2.2.2.2.1 (hT.w hl rfl _) hi' hst q1 (by rw [q3]; exact fun h => by cases h) hvv rfl rfl hd (kk p l e R s m args below meth c H locs cells slots mcT msT lsA C hP hL)
theorem j_getI {i t k a : Nat} (hd : decode cc pc = .ok (.getfield i, 3)) (hf : zFL M.1 i t k) (hy : zty t k = .int ∨ zty t k = .boolean) (ha : zkd S a = (t + 1, 0)) (kk : zJ E lv mc ms M cc (pc + 3) ls (zI (zgI S a k) :: st) S Q) : zJ E lv mc ms M cc pc ls (zR a :: st) S Q := j_getf (v := zI (zgI S a k)) hd hf ha (zfv_I hy).symm kk
theorem j_getL {i t k a : Nat} (hd : decode cc pc = .ok (.getfield i, 3)) (hf : zFL M.1 i t k) (hy : zty t k = .long) (ha : zkd S a = (t + 1, 0)) (kk : zJ E lv mc ms M cc (pc + 3) ls (zL (zgL S a k) :: st) S Q) : zJ E lv mc ms M cc pc ls (zR a :: st) S Q := j_getf (v := zL (zgL S a k)) hd hf ha (by rw [hy]; rfl) kk
theorem j_getP {i t k a : Nat} (hd : decode cc pc = .ok (.getfield i, 3)) (hf : zFL M.1 i t k) (hy : (∃ n, zty t k = .object n) ∨ ∃ n, zty t k = .array n) (ha : zkd S a = (t + 1, 0)) (kk : zJ E lv mc ms M cc (pc + 3) ls (zR (zgP S a k) :: st) S Q) : zJ E lv mc ms M cc pc ls (zR a :: st) S Q := j_getf (v := zR (zgP S a k)) hd hf ha (by rcases hy with ⟨n, h⟩ | ⟨n, h⟩ <;> rw [h] <;> rfl) kk
theorem zput_val {S' : zM} {a k t : Nat} {v : Value} {H : Heap} {cell : Cell} (hc : ∀ ty j, j ≠ k → zfv E S' a ty j = zfv E S a ty j) (hv : zfv E S' a (zty t k) k = v) (hcell : H[zad E a]? = some (cell.setSlot ((zD E).2 t k) v)) (q2 : cell.cls = (zD E).1 t) (q3 : cell.vm = .none) (hset : ∀ j, j < zN t → (cell.setSlot ((zD E).2 t k) v).slots[(zD E).2 t j]? = some (updV (fun k => zfv E S a (zty t k) k) k v j)) : t_OB (zad E a) ((zD E).1 t) (zN t) ((zD E).2 t) H (fun k => zfv E S' a (zty t k) k) := by
  refine ⟨_, hcell, q2, q3, fun j hj => ?_⟩
  rw [hset j hj]
  by_cases e : j = k
  · subst e
    simp [updV, hv]
  · simp [updV, e, hc _ j e]
theorem j_putf {S' : zM} {i t k a : Nat} {v : zV} (hd : decode cc pc = .ok (.putfield i, 3)) (hf : zFL M.1 i t k) (ha : zkd S a = (t + 1, 0)) (hfin : (zT t k).2.2.2 = false) (hn : narrow (zty t k) (ztv E v) = ztv E v) (hfit : fits (zty t k) (ztv E v) = true)
    (hk1 : zkd S' = zkd S) (hn1 : zgn S' = zgn S) (hc1 : ∀ b, b ≠ a → ∀ ty k, zfv E S' b ty k = zfv E S b ty k) (hc2 : ∀ ty j, j ≠ k → zfv E S' a ty j = zfv E S a ty j) (hc3 : zfv E S' a (zty t k) k = ztv E v)
    (kk : zJ E lv mc ms M cc (pc + 3) ls st S' Q) : zJ E lv mc ms M cc pc ls (v :: zR a :: st) S Q := by
  intro p l e R s m args below meth c H locs cells slots mcT msT lsA C hP hL
  obtain ⟨ht, hk, hlink⟩ := hf
  obtain ⟨a0, cell, q1, q2, q3, q4⟩ := hP.2.2.1 a t 0 ha ht
  have hT := C.2.2.2.2.2.2.2.1
  have hts := zlays zlaysIn hT ht args
  obtain ⟨hS, hfc, kC, hkC, hkind⟩ := hT.2.1.1 t _ (zcl t ht)
  obtain ⟨cf, kf, fi, f, hi, hsl⟩ := hS k hk
  have hst := (u_facts hfc hkC (u_lays hts (fun _ h => h) hk) hi).1
  have hi' : s.fieldFound? (zC t) (zT t k).2.1 (zT t k).2.2.1 = some (cf, kf, fi, f) := by rw [← zown t ht k hk]; exact hi
  have hlay := hts _ (u_in_lay hk)
  unfold u_lay at hlay
  rw [if_neg (by rw [hfin]; decide)] at hlay
  have h6 := u_store hfc hkC hkind hlay hi (zty_ok t ht k hk) hn hfit
  have hap := va_apart (own := M.1) hts (fun _ h => h) (zty t) (zty_ok t ht) (znm t ht) hT.2.1 (zcl t ht)
  have hlt : f.slot < cell.slots.size := by rw [hsl]; exact k2_hasslot (q4 k hk)
  have hend : ∀ H' : Heap, H'[zad E a]? = some (cell.setSlot f.slot (ztv E v)) → H'.size = H.size → (∀ q, q ≠ zad E a → H'[q]? = H[q]?) → W p l e R s m args below meth c H' (locs ++ [⟨zad E a, f.slot⟩]) cells slots (MQ below (zQc E Q) args s mcT msT (zfr E)) (F0 m (pc + 3) lsA (st.map (ztv E))) := by
    intro H' e1 e2 e3
    rw [hsl] at e1
    refine kk p l e R s m args below meth c H' _ cells slots mcT msT lsA ?_ (hP.put a0 hk1 hn1 hc1 e2 e3 (fun u n hu hu' => ?_) (fun j n hj hj' => ?_)) hL
    · obtain ⟨c1, c2, c3, c4, c5, c6, c7, c8, c9, c10, c11, c12, c13⟩ := C
      exact ⟨c1, c2, c3, c4, c5, c6, c7, c8, c9, c10, c11, c12, fun q hq => by
        rcases List.mem_append.mp hq with h | h
        · exact c13 q h
        · rw [List.mem_singleton.mp h]; exact Nat.le_add_right _ _⟩
    · have e0 : u = t := by rw [ha] at hu; injection hu with h7 h8; omega
      subst e0
      exact zput_val hc2 hc3 e1 q2 q3 (t_set q4 hap hk (ztv E v))
    · rw [ha] at hj
      injection hj with h7 h8
      omega
  show W _ _ _ _ _ _ _ _ _ _ _ _ _ _ _ (F0 m pc lsA (ztv E v :: zrv (zb E) a :: st.map (ztv E)))
  rw [zrv_ad a0]
  rcases hlink with hl | ⟨host, hl⟩
  · exact W.putK C.1 C.2.1 (f := f) ⟨C.2.2.2.2.2.2.1, hT.w hl rfl _, ⟨_, _, _, hi'⟩, hst⟩ (by rw [q2]; exact h6) q1 q3 hlt rfl rfl hd hend
  · exact va_WputK C.1 C.2.1 (f := f) C.2.2.2.2.2.2.1 (hT.w hl rfl _) hi' hst (by rw [q2]; exact h6) q1 q3 hlt rfl rfl hd hend
theorem j_putF {S' : zM} {i t k a : Nat} {v : zV} (hd : decode cc pc = .ok (.putfield i, 3)) (hf : zFL M.1 i t k) (hin : M.2.1.name = "<init>") (ho : M.1 = zC t) (hpl : Cond.fieldLink M.1 i (zC t) (zT t k).2.1 (zT t k).2.2.1 ∈ lw_tbl) (ha : zkd S a = (t + 1, 0)) (hfin : (zT t k).2.2.2 = true) (hn : narrow (zty t k) (ztv E v) = ztv E v) (hfit : fits (zty t k) (ztv E v) = true)
    (hk1 : zkd S' = zkd S) (hn1 : zgn S' = zgn S) (hc1 : ∀ b, b ≠ a → ∀ ty k, zfv E S' b ty k = zfv E S b ty k) (hc2 : ∀ ty j, j ≠ k → zfv E S' a ty j = zfv E S a ty j) (hc3 : zfv E S' a (zty t k) k = ztv E v)
    (kk : zJ E lv mc ms M cc (pc + 3) ls st S' Q) : zJ E lv mc ms M cc pc ls (v :: zR a :: st) S Q := by
  intro p l e R s m args below meth c H locs cells slots mcT msT lsA C hP hL
  obtain ⟨ht, hk, -⟩ := hf
  obtain ⟨a0, cell, q1, q2, q3, q4⟩ := hP.2.2.1 a t 0 ha ht
  have hT := C.2.2.2.2.2.2.2.1
  have hts := zlays zlaysIn hT ht args
  obtain ⟨hS, hfc, kC, hkC, hkind⟩ := hT.2.1.1 t _ (zcl t ht)
  obtain ⟨cf, kf, fi, f, hi, hsl⟩ := hS k hk
  have hst := (u_facts hfc hkC (u_lays hts (fun _ h => h) hk) hi).1
  have hi' : s.fieldFound? (zC t) (zT t k).2.1 (zT t k).2.2.1 = some (cf, kf, fi, f) := by rw [← zown t ht k hk]; exact hi
  have hlay := hts _ (u_in_lay hk)
  unfold u_lay at hlay
  rw [if_pos hfin] at hlay
  have hcf : m.cls = cf := by
    obtain ⟨_, _, c', _, _, _, -, -, hf', -, -, -, hown2, -⟩ := Cond.laysFinal_spec hlay
    have e1 : c' = cf := by have := hi.symm.trans hf'; simp at this; exact this.1.symm
    rw [zown t ht k hk, ← ho] at hown2
    rw [← e1]; exact Option.some.inj (C.2.2.2.2.2.2.1.symm.trans hown2)
  have h6 := u_fits hfc hkC hkind (Or.inr hlay) hi (zty_ok t ht k hk) hn hfit
  have hap := va_apart (own := M.1) hts (fun _ h => h) (zty t) (zty_ok t ht) (znm t ht) hT.2.1 (zcl t ht)
  have hlt : f.slot < cell.slots.size := by rw [hsl]; exact k2_hasslot (q4 k hk)
  show W _ _ _ _ _ _ _ _ _ _ _ _ _ _ _ (F0 m pc lsA (ztv E v :: zrv (zb E) a :: st.map (ztv E)))
  rw [zrv_ad a0]
  refine W.putFinK C.1 C.2.1 C.2.2.2.2.2.2.1 (hT.w hpl rfl _) hi' hst hcf (C.2.2.2.2.2.1.trans hin) (by rw [q2]; exact h6) q1 q3 hlt rfl rfl hd fun H' e1 e2 e3 => ?_
  rw [hsl] at e1
  refine kk p l e R s m args below meth c H' _ cells slots mcT msT lsA ?_ (hP.put a0 hk1 hn1 hc1 e2 e3 (fun u n hu hu' => ?_) (fun j n hj hj' => ?_)) hL
  · obtain ⟨c1, c2, c3, c4, c5, c6, c7, c8, c9, c10, c11, c12, c13⟩ := C
    exact ⟨c1, c2, c3, c4, c5, c6, c7, c8, c9, c10, c11, c12, fun q hq => by
      rcases List.mem_append.mp hq with h | h
      · exact c13 q h
      · rw [List.mem_singleton.mp h]; exact Nat.le_add_right _ _⟩
  · have e0 : u = t := by rw [ha] at hu; injection hu with h7 h8; omega
    subst e0
    exact zput_val hc2 hc3 e1 q2 q3 (t_set q4 hap hk (ztv E v))
  · rw [ha] at hj
    injection hj with h7 h8
    omega
theorem zwI_o {a k : Nat} {v : Int32} : ∀ b, b ≠ a → ∀ ty j, zfv E (zwI S a k v) b ty j = zfv E S b ty j := by
  intro b hb ty j
  unfold zfv
  split <;> simp [zgI, zgL, zgP, zwI, hb]
theorem zwI_s {a k : Nat} {v : Int32} : ∀ ty j, j ≠ k → zfv E (zwI S a k v) a ty j = zfv E S a ty j := by
  intro ty j hj
  unfold zfv
  split <;> simp [zgI, zgL, zgP, zwI, hj]
theorem zwL_o {a k : Nat} {v : Int64} : ∀ b, b ≠ a → ∀ ty j, zfv E (zwL S a k v) b ty j = zfv E S b ty j := by
  intro b hb ty j
  unfold zfv
  split <;> simp [zgI, zgL, zgP, zwL, hb]
theorem zwL_s {a k : Nat} {v : Int64} : ∀ ty j, j ≠ k → zfv E (zwL S a k v) a ty j = zfv E S a ty j := by
  intro ty j hj
  unfold zfv
  split <;> simp [zgI, zgL, zgP, zwL, hj]
theorem zwP_o {a k v : Nat} : ∀ b, b ≠ a → ∀ ty j, zfv E (zwP S a k v) b ty j = zfv E S b ty j := by
  intro b hb ty j
  unfold zfv
  split <;> simp [zgI, zgL, zgP, zwP, hb]
theorem zwP_s {a k v : Nat} : ∀ ty j, j ≠ k → zfv E (zwP S a k v) a ty j = zfv E S a ty j := by
  intro ty j hj
  unfold zfv
  split <;> simp [zgI, zgL, zgP, zwP, hj]
theorem zgI_self {a k : Nat} {v : Int32} : zgI (zwI S a k v) a k = v := by simp [zgI, zwI]
theorem zgL_self {a k : Nat} {v : Int64} : zgL (zwL S a k v) a k = v := by simp [zgL, zwL]
theorem zgP_self {a k v : Nat} : zgP (zwP S a k v) a k = v := by simp [zgP, zwP]
theorem zfit_ref {b v : Nat} {ty : FieldType} (hy : (∃ n, ty = .object n) ∨ ∃ n, ty = .array n) : narrow ty (zrv b v) = zrv b v ∧ fits ty (zrv b v) = true := by
  rcases hy with ⟨n, rfl⟩ | ⟨n, rfl⟩ <;> cases v <;> exact ⟨rfl, rfl⟩
theorem zfit_bool {x : Int32} (h : x = 0 ∨ x = 1) : narrow .boolean (.int x) = .int x ∧ fits .boolean (.int x) = true := by
  rcases h with rfl | rfl <;> exact ⟨by decide +kernel, by decide +kernel⟩
theorem j_putI {i t k a : Nat} {v : Int32} (hd : decode cc pc = .ok (.putfield i, 3)) (hf : zFL M.1 i t k) (hy : zty t k = .int) (ha : zkd S a = (t + 1, 0)) (hfin : (zT t k).2.2.2 = false) (kk : zJ E lv mc ms M cc (pc + 3) ls st (zwI S a k v) Q) : zJ E lv mc ms M cc pc ls (zI v :: zR a :: st) S Q := j_putf (S' := zwI S a k v) (v := zI v) hd hf ha hfin (by rw [hy]; rfl) (by rw [hy]; rfl) rfl rfl zwI_o zwI_s (by rw [hy]; show Value.int _ = _; rw [zgI_self]; rfl) kk
theorem j_putFI {i t k a : Nat} {v : Int32} (hd : decode cc pc = .ok (.putfield i, 3)) (hf : zFL M.1 i t k) (hy : zty t k = .int) (hin : M.2.1.name = "<init>") (ho : M.1 = zC t) (hpl : Cond.fieldLink M.1 i (zC t) (zT t k).2.1 (zT t k).2.2.1 ∈ lw_tbl) (ha : zkd S a = (t + 1, 0)) (hfin : (zT t k).2.2.2 = true) (kk : zJ E lv mc ms M cc (pc + 3) ls st (zwI S a k v) Q) : zJ E lv mc ms M cc pc ls (zI v :: zR a :: st) S Q := j_putF (S' := zwI S a k v) (v := zI v) hd hf hin ho hpl ha hfin (by rw [hy]; rfl) (by rw [hy]; rfl) rfl rfl zwI_o zwI_s (by rw [hy]; show Value.int _ = _; rw [zgI_self]; rfl) kk
theorem j_putZ {i t k a : Nat} {v : Int32} (hd : decode cc pc = .ok (.putfield i, 3)) (hf : zFL M.1 i t k) (hy : zty t k = .boolean) (hx : v = 0 ∨ v = 1) (ha : zkd S a = (t + 1, 0)) (hfin : (zT t k).2.2.2 = false) (kk : zJ E lv mc ms M cc (pc + 3) ls st (zwI S a k v) Q) : zJ E lv mc ms M cc pc ls (zI v :: zR a :: st) S Q := j_putf (S' := zwI S a k v) (v := zI v) hd hf ha hfin (by rw [hy]; exact (zfit_bool hx).1) (by rw [hy]; exact (zfit_bool hx).2) rfl rfl zwI_o zwI_s (by rw [hy]; show Value.int _ = _; rw [zgI_self]; rfl) kk
theorem j_putFZ {i t k a : Nat} {v : Int32} (hd : decode cc pc = .ok (.putfield i, 3)) (hf : zFL M.1 i t k) (hy : zty t k = .boolean) (hx : v = 0 ∨ v = 1) (hin : M.2.1.name = "<init>") (ho : M.1 = zC t) (hpl : Cond.fieldLink M.1 i (zC t) (zT t k).2.1 (zT t k).2.2.1 ∈ lw_tbl) (ha : zkd S a = (t + 1, 0)) (hfin : (zT t k).2.2.2 = true) (kk : zJ E lv mc ms M cc (pc + 3) ls st (zwI S a k v) Q) : zJ E lv mc ms M cc pc ls (zI v :: zR a :: st) S Q := j_putF (S' := zwI S a k v) (v := zI v) hd hf hin ho hpl ha hfin (by rw [hy]; exact (zfit_bool hx).1) (by rw [hy]; exact (zfit_bool hx).2) rfl rfl zwI_o zwI_s (by rw [hy]; show Value.int _ = _; rw [zgI_self]; rfl) kk
theorem j_putL {i t k a : Nat} {v : Int64} (hd : decode cc pc = .ok (.putfield i, 3)) (hf : zFL M.1 i t k) (hy : zty t k = .long) (ha : zkd S a = (t + 1, 0)) (hfin : (zT t k).2.2.2 = false) (kk : zJ E lv mc ms M cc (pc + 3) ls st (zwL S a k v) Q) : zJ E lv mc ms M cc pc ls (zL v :: zR a :: st) S Q := j_putf (S' := zwL S a k v) (v := zL v) hd hf ha hfin (by rw [hy]; rfl) (by rw [hy]; rfl) rfl rfl zwL_o zwL_s (by rw [hy]; show Value.long _ = _; rw [zgL_self]; rfl) kk
theorem j_putFL {i t k a : Nat} {v : Int64} (hd : decode cc pc = .ok (.putfield i, 3)) (hf : zFL M.1 i t k) (hy : zty t k = .long) (hin : M.2.1.name = "<init>") (ho : M.1 = zC t) (hpl : Cond.fieldLink M.1 i (zC t) (zT t k).2.1 (zT t k).2.2.1 ∈ lw_tbl) (ha : zkd S a = (t + 1, 0)) (hfin : (zT t k).2.2.2 = true) (kk : zJ E lv mc ms M cc (pc + 3) ls st (zwL S a k v) Q) : zJ E lv mc ms M cc pc ls (zL v :: zR a :: st) S Q := j_putF (S' := zwL S a k v) (v := zL v) hd hf hin ho hpl ha hfin (by rw [hy]; rfl) (by rw [hy]; rfl) rfl rfl zwL_o zwL_s (by rw [hy]; show Value.long _ = _; rw [zgL_self]; rfl) kk
theorem j_putP {i t k a : Nat} {v : Nat} (hd : decode cc pc = .ok (.putfield i, 3)) (hf : zFL M.1 i t k) (hy : (∃ n, zty t k = .object n) ∨ ∃ n, zty t k = .array n) (ha : zkd S a = (t + 1, 0)) (hfin : (zT t k).2.2.2 = false) (kk : zJ E lv mc ms M cc (pc + 3) ls st (zwP S a k v) Q) : zJ E lv mc ms M cc pc ls (zR v :: zR a :: st) S Q := j_putf (S' := zwP S a k v) (v := zR v) hd hf ha hfin (zfit_ref hy).1 (zfit_ref hy).2 rfl rfl zwP_o zwP_s (by rcases hy with ⟨n, h⟩ | ⟨n, h⟩ <;> rw [h] <;> show zrv _ _ = _ <;> rw [zgP_self] <;> rfl) kk
theorem j_putFP {i t k a : Nat} {v : Nat} (hd : decode cc pc = .ok (.putfield i, 3)) (hf : zFL M.1 i t k) (hy : (∃ n, zty t k = .object n) ∨ ∃ n, zty t k = .array n) (hin : M.2.1.name = "<init>") (ho : M.1 = zC t) (hpl : Cond.fieldLink M.1 i (zC t) (zT t k).2.1 (zT t k).2.2.1 ∈ lw_tbl) (ha : zkd S a = (t + 1, 0)) (hfin : (zT t k).2.2.2 = true) (kk : zJ E lv mc ms M cc (pc + 3) ls st (zwP S a k v) Q) : zJ E lv mc ms M cc pc ls (zR v :: zR a :: st) S Q := j_putF (S' := zwP S a k v) (v := zR v) hd hf hin ho hpl ha hfin (zfit_ref hy).1 (zfit_ref hy).2 rfl rfl zwP_o zwP_s (by rcases hy with ⟨n, h⟩ | ⟨n, h⟩ <;> rw [h] <;> show zrv _ _ = _ <;> rw [zgP_self] <;> rfl) kk
theorem j_iald {a n : Nat} {x : Int32} (hd : decode cc pc = .ok (.iaload, 1)) (ha : zkd S a = (14, n)) (hin : vp_in x n) (kk : zJ E lv mc ms M cc (pc + 1) ls (zI (zgI S a x.toNatClampNeg) :: st) S Q) : zJ E lv mc ms M cc pc ls (zI x :: zR a :: st) S Q := by
  intro p l e R s m args below meth c H locs cells slots mcT msT lsA C hP hL
  obtain ⟨a0, -, hc⟩ := hP.2.2.2 a 0 n ha (by decide)
  have hlt : x.toNatClampNeg < n := Nat.not_le.mp fun q => hin (Or.inr q)
  show W _ _ _ _ _ _ _ _ _ _ _ _ _ _ _ (F0 m pc lsA (.int x :: zrv (zb E) a :: st.map (ztv E)))
  rw [zrv_ad a0]
  exact W.iald (v := ztv E (zI (zgI S a x.toNatClampNeg))) C.1 C.2.1 hc ((C.2.2.2.2.2.2.2.1.2.1.2 0 _ rfl).1 n _) (fun q => by cases q) (by rw [arrV_size]; exact hin) (by rw [arrV_read _ _ hlt]; rfl) rfl rfl hd (kk p l e R s m args below meth c H locs cells slots mcT msT lsA C hP hL)
theorem j_lald {a n : Nat} {x : Int32} (hd : decode cc pc = .ok (.laload, 1)) (ha : zkd S a = (15, n)) (hin : vp_in x n) (kk : zJ E lv mc ms M cc (pc + 1) ls (zL (zgL S a x.toNatClampNeg) :: st) S Q) : zJ E lv mc ms M cc pc ls (zI x :: zR a :: st) S Q := by
  intro p l e R s m args below meth c H locs cells slots mcT msT lsA C hP hL
  obtain ⟨a0, -, hc⟩ := hP.2.2.2 a 1 n ha (by decide)
  have hlt : x.toNatClampNeg < n := Nat.not_le.mp fun q => hin (Or.inr q)
  show W _ _ _ _ _ _ _ _ _ _ _ _ _ _ _ (F0 m pc lsA (.int x :: zrv (zb E) a :: st.map (ztv E)))
  rw [zrv_ad a0]
  exact W.lald (v := ztv E (zL (zgL S a x.toNatClampNeg))) C.1 C.2.1 hc ((C.2.2.2.2.2.2.2.1.2.1.2 1 _ rfl).1 n _) (fun q => by cases q) (by rw [arrV_size]; exact hin) (by rw [arrV_read _ _ hlt]; rfl) rfl rfl hd (kk p l e R s m args below meth c H locs cells slots mcT msT lsA C hP hL)
theorem j_zald {a n : Nat} {x : Int32} (hd : decode cc pc = .ok (.baload, 1)) (ha : zkd S a = (16, n)) (hin : vp_in x n) (kk : zJ E lv mc ms M cc (pc + 1) ls (zI (zgI S a x.toNatClampNeg) :: st) S Q) : zJ E lv mc ms M cc pc ls (zI x :: zR a :: st) S Q := by
  intro p l e R s m args below meth c H locs cells slots mcT msT lsA C hP hL
  obtain ⟨a0, -, hc⟩ := hP.2.2.2 a 2 n ha (by decide)
  have hlt : x.toNatClampNeg < n := Nat.not_le.mp fun q => hin (Or.inr q)
  show W _ _ _ _ _ _ _ _ _ _ _ _ _ _ _ (F0 m pc lsA (.int x :: zrv (zb E) a :: st.map (ztv E)))
  rw [zrv_ad a0]
  exact W.zald (v := ztv E (zI (zgI S a x.toNatClampNeg))) C.1 C.2.1 hc ((C.2.2.2.2.2.2.2.1.2.1.2 2 _ rfl).1 n _) (fun q => by cases q) (by rw [arrV_size]; exact hin) (by rw [arrV_read _ _ hlt]; rfl) rfl rfl hd (kk p l e R s m args below meth c H locs cells slots mcT msT lsA C hP hL)
theorem j_aald {a n j : Nat} {x : Int32} (hd : decode cc pc = .ok (.aaload, 1)) (ha : zkd S a = (14 + j, n)) (hj : j = 3 ∨ j = 4) (hin : vp_in x n) (kk : zJ E lv mc ms M cc (pc + 1) ls (zR (zgP S a x.toNatClampNeg) :: st) S Q) : zJ E lv mc ms M cc pc ls (zI x :: zR a :: st) S Q := by
  intro p l e R s m args below meth c H locs cells slots mcT msT lsA C hP hL
  obtain ⟨a0, -, hc⟩ := hP.2.2.2 a j n ha (by omega)
  have hlt : x.toNatClampNeg < n := Nat.not_le.mp fun q => hin (Or.inr q)
  show W _ _ _ _ _ _ _ _ _ _ _ _ _ _ _ (F0 m pc lsA (.int x :: zrv (zb E) a :: st.map (ztv E)))
  rw [zrv_ad a0]
  rcases hj with rfl | rfl
  · exact W.aald (v := ztv E (zR (zgP S a x.toNatClampNeg))) (ty := .object RX1) C.1 C.2.1 hc ((C.2.2.2.2.2.2.2.1.2.1.2 3 _ rfl).1 n _) rfl (fun q => by cases q) (by rw [arrV_size]; exact hin) (by rw [arrV_read _ _ hlt]; rfl) rfl rfl hd (kk p l e R s m args below meth c H locs cells slots mcT msT lsA C hP hL)
  · exact W.aald (v := ztv E (zR (zgP S a x.toNatClampNeg))) (ty := .object RX6) C.1 C.2.1 hc ((C.2.2.2.2.2.2.2.1.2.1.2 4 _ rfl).1 n _) rfl (fun q => by cases q) (by rw [arrV_size]; exact hin) (by rw [arrV_read _ _ hlt]; rfl) rfl rfl hd (kk p l e R s m args below meth c H locs cells slots mcT msT lsA C hP hL)
theorem j_alen {a n j : Nat} (hd : decode cc pc = .ok (.arraylength, 1)) (ha : zkd S a = (14 + j, n)) (hj : j < 5) (kk : zJ E lv mc ms M cc (pc + 1) ls (zI (Int32.ofNat n) :: st) S Q) : zJ E lv mc ms M cc pc ls (zR a :: st) S Q := by
  intro p l e R s m args below meth c H locs cells slots mcT msT lsA C hP hL
  obtain ⟨a0, -, hc⟩ := hP.2.2.2 a j n ha hj
  show W _ _ _ _ _ _ _ _ _ _ _ _ _ _ _ (F0 m pc lsA (zrv (zb E) a :: st.map (ztv E)))
  rw [zrv_ad a0]
  have hK := C.2.2.2.2.2.2.2.1.2.1.2
  have hA : ∃ ty, s.isArrayOf (arrV (zA E j) n (zfv E S a (zat j))) ty := by
    match j, hj with
    | 0, _ => exact ⟨_, (hK 0 _ rfl).1 n _⟩
    | 1, _ => exact ⟨_, (hK 1 _ rfl).1 n _⟩
    | 2, _ => exact ⟨_, (hK 2 _ rfl).1 n _⟩
    | 3, _ => exact ⟨_, (hK 3 _ rfl).1 n _⟩
    | 4, _ => exact ⟨_, (hK 4 _ rfl).1 n _⟩
  obtain ⟨ty, hA⟩ := hA
  exact W.alen (n := Int32.ofNat n) C.1 C.2.1 hc hA (by rw [arrV_size] <;> rfl) rfl rfl hd (kk p l e R s m args below meth c H locs cells slots mcT msT lsA C hP hL)
theorem j_iast {a n : Nat} {x : Int32} {v : Int32} (hd : decode cc pc = .ok (.iastore, 1)) (ha : zkd S a = (14, n)) (hin : vp_in x n) (kk : zJ E lv mc ms M cc (pc + 1) ls st (zwI S a x.toNatClampNeg v) Q) : zJ E lv mc ms M cc pc ls (zI v :: zI x :: zR a :: st) S Q := by
  intro p l e R s m args below meth c H locs cells slots mcT msT lsA C hP hL
  obtain ⟨a0, -, hc⟩ := hP.2.2.2 a 0 n ha (by decide)
  show W _ _ _ _ _ _ _ _ _ _ _ _ _ _ _ (F0 m pc lsA (.int v :: .int x :: zrv (zb E) a :: st.map (ztv E)))
  rw [zrv_ad a0]
  refine W.iast C.1 C.2.1 hc ((C.2.2.2.2.2.2.2.1.2.1.2 0 _ rfl).1 n _) (fun q => by cases q) (by rw [arrV_size]; exact hin) rfl rfl hd fun H' e1 e2 e3 => ?_
  refine kk p l e R s m args below meth c H' _ cells slots mcT msT lsA ?_ (hP.put a0 rfl rfl zwI_o e2 e3 (fun u q hu hu' => ?_) (fun i q hi hi' => ?_)) hL
  · obtain ⟨c1, c2, c3, c4, c5, c6, c7, c8, c9, c10, c11, c12, c13⟩ := C
    exact ⟨c1, c2, c3, c4, c5, c6, c7, c8, c9, c10, c11, c12, fun q hq => by
      rcases List.mem_append.mp hq with h | h
      · exact c13 q h
      · rw [List.mem_singleton.mp h]; exact Nat.le_add_right _ _⟩
  · rw [ha] at hu
    injection hu with h7 h8
    omega
  · have e4 : i = 0 ∧ q = n := by rw [ha] at hi; injection hi with h7 h8; omega
    obtain ⟨rfl, rfl⟩ := e4
    rw [e1, arrV_store]
    congr 2
    funext z
    by_cases hz : z = x.toNatClampNeg
    · subst hz
      simp [updV, zfv, zat, zgI_self]
    · simp only [updV, hz, if_false]
      exact (zwI_s _ _ hz).symm
theorem j_last {a n : Nat} {x : Int32} {v : Int64} (hd : decode cc pc = .ok (.lastore, 1)) (ha : zkd S a = (15, n)) (hin : vp_in x n) (kk : zJ E lv mc ms M cc (pc + 1) ls st (zwL S a x.toNatClampNeg v) Q) : zJ E lv mc ms M cc pc ls (zL v :: zI x :: zR a :: st) S Q := by
  intro p l e R s m args below meth c H locs cells slots mcT msT lsA C hP hL
  obtain ⟨a0, -, hc⟩ := hP.2.2.2 a 1 n ha (by decide)
  show W _ _ _ _ _ _ _ _ _ _ _ _ _ _ _ (F0 m pc lsA (.long v :: .int x :: zrv (zb E) a :: st.map (ztv E)))
  rw [zrv_ad a0]
  refine W.last C.1 C.2.1 hc ((C.2.2.2.2.2.2.2.1.2.1.2 1 _ rfl).1 n _) (fun q => by cases q) (by rw [arrV_size]; exact hin) rfl rfl hd fun H' e1 e2 e3 => ?_
  refine kk p l e R s m args below meth c H' _ cells slots mcT msT lsA ?_ (hP.put a0 rfl rfl zwL_o e2 e3 (fun u q hu hu' => ?_) (fun i q hi hi' => ?_)) hL
  · obtain ⟨c1, c2, c3, c4, c5, c6, c7, c8, c9, c10, c11, c12, c13⟩ := C
    exact ⟨c1, c2, c3, c4, c5, c6, c7, c8, c9, c10, c11, c12, fun q hq => by
      rcases List.mem_append.mp hq with h | h
      · exact c13 q h
      · rw [List.mem_singleton.mp h]; exact Nat.le_add_right _ _⟩
  · rw [ha] at hu
    injection hu with h7 h8
    omega
  · have e4 : i = 1 ∧ q = n := by rw [ha] at hi; injection hi with h7 h8; omega
    obtain ⟨rfl, rfl⟩ := e4
    rw [e1, arrV_store]
    congr 2
    funext z
    by_cases hz : z = x.toNatClampNeg
    · subst hz
      simp [updV, zfv, zat, zgL_self]
    · simp only [updV, hz, if_false]
      exact (zwL_s _ _ hz).symm
theorem j_zast {a n : Nat} {x : Int32} {v : Int32} (hd : decode cc pc = .ok (.bastore, 1)) (ha : zkd S a = (16, n)) (hin : vp_in x n) (hx : v = 0 ∨ v = 1) (kk : zJ E lv mc ms M cc (pc + 1) ls st (zwI S a x.toNatClampNeg v) Q) : zJ E lv mc ms M cc pc ls (zI v :: zI x :: zR a :: st) S Q := by
  intro p l e R s m args below meth c H locs cells slots mcT msT lsA C hP hL
  obtain ⟨a0, -, hc⟩ := hP.2.2.2 a 2 n ha (by decide)
  show W _ _ _ _ _ _ _ _ _ _ _ _ _ _ _ (F0 m pc lsA (.int v :: .int x :: zrv (zb E) a :: st.map (ztv E)))
  rw [zrv_ad a0]
  refine W.zast C.1 C.2.1 hc ((C.2.2.2.2.2.2.2.1.2.1.2 2 _ rfl).1 n _) (fun q => by cases q) (by rw [arrV_size]; exact hin) rfl rfl hd fun H' e1 e2 e3 => ?_
  rw [(zfit_bool hx).1] at e1
  refine kk p l e R s m args below meth c H' _ cells slots mcT msT lsA ?_ (hP.put a0 rfl rfl zwI_o e2 e3 (fun u q hu hu' => ?_) (fun i q hi hi' => ?_)) hL
  · obtain ⟨c1, c2, c3, c4, c5, c6, c7, c8, c9, c10, c11, c12, c13⟩ := C
    exact ⟨c1, c2, c3, c4, c5, c6, c7, c8, c9, c10, c11, c12, fun q hq => by
      rcases List.mem_append.mp hq with h | h
      · exact c13 q h
      · rw [List.mem_singleton.mp h]; exact Nat.le_add_right _ _⟩
  · rw [ha] at hu
    injection hu with h7 h8
    omega
  · have e4 : i = 2 ∧ q = n := by rw [ha] at hi; injection hi with h7 h8; omega
    obtain ⟨rfl, rfl⟩ := e4
    rw [e1, arrV_store]
    congr 2
    funext z
    by_cases hz : z = x.toNatClampNeg
    · subst hz
      simp [updV, zfv, zat, zgI_self]
    · simp only [updV, hz, if_false]
      exact (zwI_s _ _ hz).symm
theorem j_aast {a n v j t : Nat} {x : Int32} (hd : decode cc pc = .ok (.aastore, 1)) (ha : zkd S a = (14 + j, n)) (hj : (j = 3 ∧ t = 1) ∨ (j = 4 ∧ t = 6)) (hv : zkd S v = (t + 1, 0)) (hin : vp_in x n) (kk : zJ E lv mc ms M cc (pc + 1) ls st (zwP S a x.toNatClampNeg v) Q) : zJ E lv mc ms M cc pc ls (zR v :: zI x :: zR a :: st) S Q := by
  intro p l e R s m args below meth c H locs cells slots mcT msT lsA C hP hL
  obtain ⟨a0, -, hc⟩ := hP.2.2.2 a j n ha (by omega)
  have ht : t < 13 := by omega
  obtain ⟨v0, cellV, g1, g2, g3, -⟩ := hP.2.2.1 v t 0 hv ht
  have hlt : x.toNatClampNeg < n := Nat.not_le.mp fun q => hin (Or.inr q)
  have h0 : ¬ x < 0 := fun q => hin (Or.inl q)
  have hT := C.2.2.2.2.2.2.2.1
  have hcls := (hT.2.1.1 t _ (zcl t ht)).2
  have hRA : ∃ (kA : Class) (comp : ClassId), s.vm.classes[zA E j]? = some kA ∧ kA.kind = .array comp (.object (zC t)) ∧ s.vm.findClass (zC t) = some comp := by
    rcases hj with ⟨rfl, rfl⟩ | ⟨rfl, rfl⟩
    · obtain ⟨kA, comp, k1, k2, k3, -⟩ := (hT.2.1.2 3 _ rfl).2
      exact ⟨kA, comp, k1, k2, k3⟩
    · obtain ⟨kA, comp, k1, k2, k3, -⟩ := (hT.2.1.2 4 _ rfl).2
      exact ⟨kA, comp, k1, k2, k3⟩
  obtain ⟨kA, comp, k1, k2, k3⟩ := hRA
  have hcomp : comp = (zD E).1 t := Option.some.inj (k3.symm.trans hcls.1)
  subst hcomp
  obtain ⟨kC, hkC, -⟩ := hcls.2
  show W _ _ _ _ _ _ _ _ _ _ _ _ _ _ _ (F0 m pc lsA (zrv (zb E) v :: .int x :: zrv (zb E) a :: st.map (ztv E)))
  rw [zrv_ad a0, zrv_ad v0]
  refine W.aast C.1 C.2.1 hc (fun q h => by cases h) (fun h => by cases h) k1 k2 rfl hkC ⟨h0, by rw [arrV_size]; exact hlt⟩ g1 (fun q h => by rw [g3] at h; cases h) (by rw [g2]; exact hkC) (by rw [g2]; exact va_assign hcls) rfl rfl hd fun H' e1 e2 e3 => ?_
  refine kk p l e R s m args below meth c H' _ cells slots mcT msT lsA ?_ (hP.put a0 rfl rfl zwP_o e2 e3 (fun u q hu hu' => ?_) (fun i q hi hi' => ?_)) hL
  · obtain ⟨c1, c2, c3, c4, c5, c6, c7, c8, c9, c10, c11, c12, c13⟩ := C
    exact ⟨c1, c2, c3, c4, c5, c6, c7, c8, c9, c10, c11, c12, fun q hq => by
      rcases List.mem_append.mp hq with h | h
      · exact c13 q h
      · rw [List.mem_singleton.mp h]; exact Nat.le_add_right _ _⟩
  · rw [ha] at hu
    injection hu with h7 h8
    omega
  · have e4 : i = j ∧ q = n := by rw [ha] at hi; injection hi with h7 h8; omega
    obtain ⟨rfl, rfl⟩ := e4
    rw [e1, arrV_store]
    congr 2
    funext z
    by_cases hz : z = x.toNatClampNeg
    · subst hz
      have hz2 : zfv E (zwP S a x.toNatClampNeg v) a (zat i) x.toNatClampNeg = zrv (zb E) v := by
        rcases hj with ⟨rfl, rfl⟩ | ⟨rfl, rfl⟩ <;> show zrv _ _ = _ <;> rw [zgP_self]
      rw [hz2, zrv_ad v0]
      simp [updV]
    · simp only [updV, hz, if_false]
      exact (zwP_s _ _ hz).symm
theorem znew_def {t n : Nat} (ty : FieldType) (k : Nat) : zfv E (znw S t n) (zgn S + 1) ty k = match ty with | .long => .long 0 | .object _ => .null | .array _ => .null | _ => .int 0 := by
  unfold zfv
  split <;> simp [zgI, zgL, zgP, znw, zrv]
theorem zC_made {p : Program} {R : Room} {s : State} {m : MethodId} {meth : Method} {c : Code} {locs : List Loc} {cells slots mcT msT mc2 ms2 d n : Nat} (C : zCx E M cc lv mc ms p R s m meth c locs cells slots mcT msT) (h1 : mc2 + d ≤ mc) (h2 : ms2 + n ≤ ms) : zCx E M cc lv mc2 ms2 p R s m meth c locs (cells + d) (slots + n) mcT msT := by
  obtain ⟨c1, c2, c3, c4, c5, c6, c7, c8, c9, c10, ⟨c11, c12⟩, ⟨c13, c14⟩, c15⟩ := C
  exact ⟨c1, c2, c3, c4, c5, c6, c7, c8, c9, c10, ⟨by omega, by omega⟩, ⟨by omega, by omega⟩, c15⟩
def zNL (own : String) (i t : Nat) : Prop := t < 13 ∧ Cond.classLink own i (zC t) ∈ lw_tbl ∧ Cond.instantiable (zC t) (zN t) ∈ lw_tbl ∧ Cond.initialized (zC t) ∈ lw_tbl
theorem zdefault : ∀ t, t < 13 → ∀ k, k < zN t → ∀ (E : zE) (S : zM) (u n : Nat), defaultValue (zty t k) = zfv E (znw S u n) (zgn S + 1) (zty t k) k := by
  intro t ht k hk E S u n
  rw [znew_def]
  have h : ∀ t, t < 13 → ∀ k, k < zN t → (zty t k = .int ∨ zty t k = .boolean ∨ zty t k = .long ∨ (zfk (zty t k) = true)) := by decide +kernel
  rcases h t ht k hk with h | h | h | h
  · rw [h]; rfl
  · rw [h]; rfl
  · rw [h]; rfl
  · generalize zty t k = ty at h ⊢
    cases ty <;> simp [zfk] at h <;> rfl
theorem j_new {i t : Nat} {mc2 ms2 : Nat} (hd : decode cc pc = .ok (.new i, 3)) (hf : zNL M.1 i t) (h1 : mc2 + 1 ≤ mc) (h2 : ms2 + zN t ≤ ms) (kk : zJ E lv mc2 ms2 M cc (pc + 3) ls (zR (zgn S + 1) :: st) (znw S (t + 1) 0) Q) : zJ E lv mc ms M cc pc ls st S Q := by
  intro p l e R s m args below meth c H locs cells slots mcT msT lsA C hP hL
  obtain ⟨ht, hl1, hl2, hl3⟩ := hf
  have hT := C.2.2.2.2.2.2.2.1
  have hKn := hT.2.1.1 t _ (zcl t ht)
  obtain ⟨⟨cc1, cc2⟩, -⟩ := C.2.2.2.2.2.2.2.2.2.2
  refine W.newcK C.1 C.2.1 C.2.2.2.2.2.2.1 (hT.w hl1 rfl _) (hT.w hl2 rfl _) (hT.w hl3 rfl _) rfl hd (by omega) (by omega) hKn.2.1 rfl fun H1 kC hkC e1 z1 o1 => ?_
  have hr : zRp E (znw S (t + 1) 0) H1 := hP.new z1 o1 (fun u hu hu' => by
      have e : u = t := by omega
      subst e
      exact (u_born (zty u) (zlays zlaysIn hT ht args) (fun _ h => h) hKn hkC e1 (zty_ok u ht)).to (fun k hk => zdefault u ht k hk E S (u + 1) 0)) (fun j hj hj' => by omega)
  have := kk p l e R s m args below meth c H1 locs (cells + 1) (slots + zN t) mcT msT lsA (zC_made C h1 h2) hr hL
  have ead : zrv (zb E) (zgn S + 1) = .ref H.size := by rw [hP.1]; rfl
  show W _ _ _ _ _ _ _ _ _ _ _ _ _ _ _ (F0 m (pc + 3) lsA (.ref H.size :: st.map (ztv E)))
  rw [← ead]
  exact this
theorem j_newa {j : Nat} {at' : ArrayType} {x : Int32} {n mc2 ms2 : Nat} (hd : decode cc pc = .ok (.newarray at', 2)) (hj : (at' = .int ∧ j = 0) ∨ (at' = .long ∧ j = 1) ∨ (at' = .boolean ∧ j = 2)) (hw : Cond.arrayClass (newarray.typeOf at') ∈ lw_tbl) (hx : ¬ x < 0) (hn : x.toNatClampNeg = n) (hs : n ≤ 65536) (h1 : mc2 + 1 ≤ mc) (h2 : ms2 + n ≤ ms) (kk : zJ E lv mc2 ms2 M cc (pc + 2) ls (zR (zgn S + 1) :: st) (znw S (14 + j) n) Q) : zJ E lv mc ms M cc pc ls (zI x :: st) S Q := by
  intro p l e R s m args below meth c H locs cells slots mcT msT lsA C hP hL
  have hT := C.2.2.2.2.2.2.2.1
  obtain ⟨⟨cc1, cc2⟩, -⟩ := C.2.2.2.2.2.2.2.2.2.2
  refine va_newaK C.1 C.2.1 (hT.w hw rfl _) rfl hd rfl hx hn (by rcases hj with ⟨rfl, -⟩ | ⟨rfl, -⟩ | ⟨rfl, -⟩ <;> simp [componentBytes, newarray.typeOf] <;> omega) (by omega) (by omega) rfl fun H1 cA e1 z1 o1 hAr hNm => ?_
  have hr : zRp E (znw S (14 + j) n) H1 := hP.new z1 o1 (fun u hu hu' => by omega) (fun i hi hi' => by
      have e : i = j := by omega
      subst e
      refine ⟨by omega, ?_⟩
      rcases hj with ⟨rfl, rfl⟩ | ⟨rfl, rfl⟩ | ⟨rfl, rfl⟩
      · rw [e1, show cA = zA E 0 from Option.some.inj (hNm.symm.trans (hT.2.1.2 0 _ rfl).2)]
        congr 2
        funext k
        rw [znew_def]
        rfl
      · rw [e1, show cA = zA E 1 from Option.some.inj (hNm.symm.trans (hT.2.1.2 1 _ rfl).2)]
        congr 2
        funext k
        rw [znew_def]
        rfl
      · rw [e1, show cA = zA E 2 from Option.some.inj (hNm.symm.trans (hT.2.1.2 2 _ rfl).2)]
        congr 2
        funext k
        rw [znew_def]
        rfl)
  have := kk p l e R s m args below meth c H1 locs (cells + 1) (slots + n) mcT msT lsA (zC_made C h1 h2) hr hL
  have ead : zrv (zb E) (zgn S + 1) = .ref H.size := by rw [hP.1]; rfl
  show W _ _ _ _ _ _ _ _ _ _ _ _ _ _ _ (F0 m (pc + 2) lsA (.ref H.size :: st.map (ztv E)))
  rw [← ead]
  exact this
theorem j_anew {i j t : Nat} {x : Int32} {n mc2 ms2 : Nat} (hd : decode cc pc = .ok (.anewarray i, 3)) (hj : (j = 3 ∧ t = 1) ∨ (j = 4 ∧ t = 6)) (hw : Cond.classLink M.1 i (zC t) ∈ lw_tbl) (hx : ¬ x < 0) (hn : x.toNatClampNeg = n) (hs : n ≤ 65536) (h1 : mc2 + 1 ≤ mc) (h2 : ms2 + n ≤ ms) (kk : zJ E lv mc2 ms2 M cc (pc + 3) ls (zR (zgn S + 1) :: st) (znw S (14 + j) n) Q) : zJ E lv mc ms M cc pc ls (zI x :: st) S Q := by
  intro p l e R s m args below meth c H locs cells slots mcT msT lsA C hP hL
  have hT := C.2.2.2.2.2.2.2.1
  obtain ⟨⟨cc1, cc2⟩, -⟩ := C.2.2.2.2.2.2.2.2.2.2
  subst hn
  have hAO : va_AO (zC t) s := by
    rcases hj with ⟨rfl, rfl⟩ | ⟨rfl, rfl⟩
    · exact hT.2.2.1
    · exact hT.2.2.2.1
  refine W.anew C.1 C.2.1 C.2.2.2.2.2.2.1 (hT.w hw rfl _) (va_AO.use hAO) rfl hd rfl hx (by omega) (by omega) (by omega) fun cA kA comp f1 f2 f3 f4 => ?_
  generalize hH1 : H.push ({ cls := cA, slots := Array.replicate x.toNatClampNeg .null, vm := .none } : Cell) = H1
  have z1 : H1.size = H.size + 1 := by rw [← hH1, Array.size_push]
  have e1 : H1[H.size]? = some (arrV cA x.toNatClampNeg (fun _ => .null)) := by rw [← hH1, Array.getElem?_push_size, ← arrV_new]
  have o1 : ∀ q : Nat, q < H.size → H1[q]? = H[q]? := fun q hq => by rw [← hH1, Array.getElem?_push, if_neg (Nat.ne_of_lt hq)]
  have hr : zRp E (znw S (14 + j) x.toNatClampNeg) H1 := hP.new z1 o1 (fun u hu hu' => by omega) (fun i hi hi' => by
      have e : i = j := by omega
      subst e
      refine ⟨by omega, ?_⟩
      rcases hj with ⟨rfl, rfl⟩ | ⟨rfl, rfl⟩
      · obtain ⟨_, _, _, _, _, k4⟩ := (hT.2.1.2 3 _ rfl).2
        rw [e1, show cA = zA E 3 from Option.some.inj (f1.symm.trans k4)]
        congr 2
        funext k
        rw [znew_def]
        rfl
      · obtain ⟨_, _, _, _, _, k4⟩ := (hT.2.1.2 4 _ rfl).2
        rw [e1, show cA = zA E 4 from Option.some.inj (f1.symm.trans k4)]
        congr 2
        funext k
        rw [znew_def]
        rfl)
  have := kk p l e R s m args below meth c H1 locs (cells + 1) (slots + x.toNatClampNeg) mcT msT lsA (zC_made C h1 h2) hr hL
  have ead : zrv (zb E) (zgn S + 1) = .ref H.size := by rw [hP.1]; rfl
  show W _ _ _ _ _ _ _ _ _ _ _ _ _ _ _ (F0 m (pc + 3) lsA (.ref H.size :: st.map (ztv E)))
  rw [← ead]
  exact this
end ZHEAP
