/-! what is always so stays so, call by call -/
theorem zWt.up {n : Nat} {t : zTB} (h : zWt n t) : zWt (n + 1) t := ⟨h.1, h.2.1, h.2.2.1, h.2.2.2.1, h.2.2.2.2.1, ⟨Nat.le_succ_of_le h.2.2.2.2.2.1.1, Nat.le_succ_of_le h.2.2.2.2.2.1.2⟩, h.2.2.2.2.2.2⟩
theorem zWF.up {n : Nat} {s : zST} (h : zWF n s) (hn : n + 1 < 600) : zWF (n + 1) s := by
  obtain ⟨h1, h2, h3, h4⟩ := h
  refine ⟨hn, h2, h3, ?_⟩
  cases ht : sT s with
  | none =>
    rw [ht] at h4
    exact h4
  | some t =>
    rw [ht] at h4
    exact ⟨h4.1.up, h4.2⟩
/-- a state with a table -/
theorem zWF.of {n : Nat} {s : zST} {F : List Nat} {tr : Nat × Nat × Int32} {t : zTB} {P : Option zPGE} {R : Nat → Option zRDR} (h : zWF n s) (hn : n + 1 < 600) (hF : F.length ≤ 900 ∧ ∀ b ∈ F, b < 256) (htr : tr.1 ≤ 8 ∧ tr.2.1 ≤ 5) (ht : zWt (n + 1) t) (hP : ∀ q, P = some q → zWp q) (hR : ∀ r x, R r = some x → zWr t x) : zWF (n + 1) (F, tr, some t, P, R) := ⟨hn, hF, htr, ht, hP, hR⟩
theorem w_fault {n : Nat} {s : zST} (h : zWF n s) (hn : n + 1 < 600)  : zWF (n + 1) (q_fault s ).2 := by
  exact h.up hn
theorem w_where {n : Nat} {s : zST} (h : zWF n s) (hn : n + 1 < 600)  : zWF (n + 1) (q_where s ).2 := by
  exact h.up hn
theorem w_size {n : Nat} {s : zST} (h : zWF n s) (hn : n + 1 < 600) (w : Int32) : zWF (n + 1) (q_size s w).2 := by
  exact h.up hn
theorem w_trouble {n : Nat} {s : zST} (h : zWF n s) (hn : n + 1 < 600)  : zWF (n + 1) (q_trouble s ).2 := by
  exact h.up hn
theorem w_about {n : Nat} {s : zST} (h : zWF n s) (hn : n + 1 < 600) (x : Int32) : zWF (n + 1) (q_about s x).2 := by
  unfold q_about
  (repeat' split) <;> exact (h.up hn).no (by decide)
theorem w_kind {n : Nat} {s : zST} (h : zWF n s) (hn : n + 1 < 600) (x : Int32) : zWF (n + 1) (q_kind s x).2 := by
  unfold q_kind
  (repeat' split) <;> exact (h.up hn).no (by decide)
theorem w_orderAt {n : Nat} {s : zST} (h : zWF n s) (hn : n + 1 < 600) (i w : Int32) : zWF (n + 1) (q_orderAt s i w).2 := by
  unfold q_orderAt
  (repeat' split) <;> exact (h.up hn).no (by decide)
theorem w_value {n : Nat} {s : zST} (h : zWF n s) (hn : n + 1 < 600) (x c : Int32) : zWF (n + 1) (q_value s x c).2 := by
  unfold q_value
  (repeat' split) <;> exact (h.up hn).no (by decide)
theorem w_was {n : Nat} {s : zST} (h : zWF n s) (hn : n + 1 < 600) (v x c : Int32) : zWF (n + 1) (q_was s v x c).2 := by
  unfold q_was
  (repeat' split) <;> exact (h.up hn).no (by decide)
theorem w_keySize {n : Nat} {s : zST} (h : zWF n s) (hn : n + 1 < 600) (x : Int32) : zWF (n + 1) (q_keySize s x).2 := by
  unfold q_keySize
  (repeat' split) <;> exact (h.up hn).no (by decide)
theorem w_rank {n : Nat} {s : zST} (h : zWF n s) (hn : n + 1 < 600) (x : Int32) : zWF (n + 1) (q_rank s x).2 := by
  unfold q_rank
  (repeat' split) <;> exact (h.up hn).no (by decide)
theorem w_ranked {n : Nat} {s : zST} (h : zWF n s) (hn : n + 1 < 600) (k : Int32) : zWF (n + 1) (q_ranked s k).2 := by
  unfold q_ranked
  (repeat' split) <;> exact (h.up hn).no (by decide)
theorem w_differ {n : Nat} {s : zST} (h : zWF n s) (hn : n + 1 < 600) (x y : Int32) : zWF (n + 1) (q_differ s x y).2 := by
  unfold q_differ
  (repeat' split) <;> exact (h.up hn).no (by decide)
theorem w_at {n : Nat} {s : zST} (h : zWF n s) (hn : n + 1 < 600) (i : Int32) : zWF (n + 1) (q_at s i).2 := by
  unfold q_at
  (repeat' split) <;> exact (h.up hn).no (by decide)
theorem w_cell {n : Nat} {s : zST} (h : zWF n s) (hn : n + 1 < 600) (i c : Int32) : zWF (n + 1) (q_cell s i c).2 := by
  unfold q_cell
  (repeat' split) <;> exact (h.up hn).no (by decide)
theorem w_tokenSize {n : Nat} {s : zST} (h : zWF n s) (hn : n + 1 < 600) (w : Int32) : zWF (n + 1) (q_tokenSize s w).2 := by
  unfold q_tokenSize
  (repeat' split) <;> exact (h.up hn).no (by decide)
theorem w_beyond {n : Nat} {s : zST} (h : zWF n s) (hn : n + 1 < 600) (w : Int32) : zWF (n + 1) (q_beyond s w).2 := by
  unfold q_beyond
  (repeat' split) <;> exact (h.up hn).no (by decide)
theorem w_checks {n : Nat} {s : zST} (h : zWF n s) (hn : n + 1 < 600) (x : Int32) : zWF (n + 1) (q_checks s x).2 := by
  unfold q_checks
  (repeat' split) <;> exact (h.up hn).no (by decide)
theorem w_account {n : Nat} {s : zST} (h : zWF n s) (hn : n + 1 < 600) (r w : Int32) : zWF (n + 1) (q_account s r w).2 := by
  unfold q_account
  (repeat' split) <;> exact (h.up hn).no (by decide)
theorem w_seen {n : Nat} {s : zST} (h : zWF n s) (hn : n + 1 < 600) (r i : Int32) : zWF (n + 1) (q_seen s r i).2 := by
  unfold q_seen
  (repeat' split) <;> exact (h.up hn).no (by decide)
theorem w_passes {n : Nat} {s : zST} (h : zWF n s) (hn : n + 1 < 600) (x : Int32) : zWF (n + 1) (q_passes s x).2 := by
  unfold q_passes
  (repeat' split) <;> exact (h.up hn).no (by decide)
theorem w_condition {n : Nat} {s : zST} (h : zWF n s) (hn : n + 1 < 600) (i w : Int32) : zWF (n + 1) (q_condition s i w).2 := by
  unfold q_condition
  (repeat' split) <;> exact (h.up hn).no (by decide)
theorem zWF.rd1 {n : Nat} {s : zST} (h : zWF n s) (hn : n + 1 < 600) (y : Int32) : zWF (n + 1) (zrd s y).2 := (h.up hn).no (by split <;> decide)
theorem w_keyByte {n : Nat} {s : zST} (h : zWF n s) (hn : n + 1 < 600) (x i : Int32) : zWF (n + 1) (q_keyByte s x i).2 := by
  unfold q_keyByte
  split
  · exact (h.up hn).no (by decide)
  · split
    · exact h.rd1 hn _
    · exact (h.up hn).no (by decide)
theorem w_tokenByte {n : Nat} {s : zST} (h : zWF n s) (hn : n + 1 < 600) (x i : Int32) : zWF (n + 1) (q_tokenByte s x i).2 := by
  unfold q_tokenByte
  split
  · exact (h.up hn).no (by decide)
  · split
    · exact h.rd1 hn _
    · exact (h.up hn).no (by decide)
theorem z4_b (x : Int32) : (z4 x).length = 4 ∧ ∀ b ∈ z4 x, b < 256 := by
  refine ⟨rfl, fun b hb => ?_⟩
  simp only [z4, List.mem_cons, List.not_mem_nil, or_false] at hb
  rcases hb with rfl | rfl | rfl | rfl <;> exact zb8_lt _
theorem w_feed {n : Nat} {s : zST} (h : zWF n s) (hn : n + 1 < 600) (a b c d e : Int32) : zWF (n + 1) (q_feed s a b c d e).2 := by
  unfold q_feed
  split
  · exact h.up hn
  · rename_i hl
    obtain ⟨h1, h2, h3, h4⟩ := h.up hn
    refine ⟨h1, ⟨?_, fun x hx => ?_⟩, h3, h4⟩
    · show (sF s ++ z4 a ++ z4 b ++ z4 c ++ z4 d ++ z4 e).length ≤ 900
      simp only [List.length_append, (z4_b _).1]
      omega
    · have hx : x ∈ sF s ++ z4 a ++ z4 b ++ z4 c ++ z4 d ++ z4 e := hx
      simp only [List.mem_append] at hx
      rcases hx with ((((hx | hx) | hx) | hx) | hx) | hx
      · exact h2.2 x hx
      · exact (z4_b _).2 x hx
      · exact (z4_b _).2 x hx
      · exact (z4_b _).2 x hx
      · exact (z4_b _).2 x hx
      · exact (z4_b _).2 x hx
theorem zpage_W {t : zTB} {v f e z st : Nat} (hO : (tO t).length ≤ 4) (hl : (zid (tO t) (tV t) (tH t v) f e).length ≤ 20) : zWp (zpage t v f e z st) := by
  have key : ∀ x, (if f < e then ztok (tn t) z st (zkf (tO t) (tH t v) x) else []).length ≤ 900 ∧ ∀ b ∈ (if f < e then ztok (tn t) z st (zkf (tO t) (tH t v) x) else []), b < 256 := by
    intro x
    split
    · have := zkf_len (O := tO t) (t := tH t v) (id := x) hO
      exact ⟨by rw [ztok_len]; omega, ztok_b zkf_b⟩
    · exact ⟨Nat.zero_le _, fun b hb => absurd hb List.not_mem_nil⟩
  exact ⟨hl, ⟨(key _).1, (key _).1⟩, (key _).2, (key _).2⟩
theorem zWF.show {n : Nat} {s : zST} {t : zTB} {q : zPGE} {F : List Nat} (h : zWF n s) (hn : n + 1 < 600) (ht : sT s = some t) (hq : zWp q) (hF : F.length ≤ 900 ∧ ∀ b ∈ F, b < 256) : zWF (n + 1) (zshow (F, s.2) q).2 := by
  have g := h.t ht
  show zWF (n + 1) (F, (0, s.2.1.2), sT s, some q, sR s)
  rw [ht]
  exact h.of hn hF ⟨Nat.zero_le _, h.2.2.1.2⟩ g.1.up (fun q' e => by cases e; exact hq) g.2.2
theorem zid_le {O : List zOe} {V : List zSe} {t : zRW} {f e : Nat} : (zid O V t f e).length ≤ e - f := by
  unfold zid
  rw [List.length_take]
  omega
theorem w_page {n : Nat} {s : zST} (h : zWF n s) (hn : n + 1 < 600) (z : Int32) (st : Bool) : zWF (n + 1) (q_page s z st).2 := by
  unfold q_page
  split
  · exact (h.up hn).no (by decide)
  · rename_i t ht
    split
    · rename_i hz
      obtain ⟨k, k1, k2, rfl⟩ := zsz_t hz
      have hv := h.v ht
      refine zWF.show (F := sF s) h hn ht (zpage_W hv.2.2.2.1 (Nat.le_trans zid_le ?_)) h.2.1
      rw [zn, nI_clamp (by omega)]
      omega
    · exact (h.up hn).no (by decide)
theorem w_seek {n : Nat} {s : zST} (h : zWF n s) (hn : n + 1 < 600) (z : Int32) (v : Int64) : zWF (n + 1) (q_seek s z v).2 := by
  unfold q_seek
  split
  · exact (h.up hn).no (by decide)
  · rename_i t ht
    split
    · rename_i hz
      obtain ⟨k, k1, k2, rfl⟩ := zsz_t hz.1
      have hv := h.v ht
      refine zWF.show (F := sF s) h hn ht (zpage_W hv.2.2.2.1 (Nat.le_trans zid_le ?_)) h.2.1
      rw [zn, nI_clamp (by omega)]
      omega
    · exact (h.up hn).no (by decide)
theorem w_tok {n : Nat} {s : zST} (h : zWF n s) (hn : n + 1 < 600) (x : Int32) (on : Bool) : zWF (n + 1) (q_tok s x on).2 := by
  unfold q_tok
  split
  · exact (h.up hn).no (by decide)
  · rename_i t ht
    have hv := h.v ht
    split
    · exact (h.up hn).no (by decide)
    · split
      · have h8 := zwt_le t (sF s) (zn x)
        obtain ⟨g1, g2, g3, g4⟩ := h.up hn
        exact ⟨g1, ⟨Nat.zero_le _, fun b hb => absurd hb List.not_mem_nil⟩, ⟨by show zwt t (sF s) (zn x) ≤ 8; omega, g3.2⟩, g4⟩
      · rename_i hw0
        have hz := (zwt_0 (Classical.not_not.mp hw0)).2.2.1
        refine zWF.show (F := []) h hn ht ?_ ⟨Nat.zero_le _, fun b hb => absurd hb List.not_mem_nil⟩
        have hz2 : (sF s).getD 2 0 ≤ 20 := by
          have := zwt_0 (Classical.not_not.mp hw0)
          omega
        have hl := zid_20 (O := tO t) (V := tV t) (t := tH t (zvr t (sF s))) (F := zgk (sF s) (zn x)) (bk := !on) hz2
        rw [Bool.not_not] at hl
        unfold zkeep
        split
        · exact ⟨hl, ⟨by rw [List.length_take]; have := h.2.1.1; omega, by rw [List.length_take]; have := h.2.1.1; omega⟩, fun b hb => h.2.1.2 b (List.mem_of_mem_take hb), fun b hb => h.2.1.2 b (List.mem_of_mem_take hb)⟩
        · exact zpage_W hv.2.2.2.1 hl
theorem w_begin {n : Nat} {s : zST} (h : zWF n s) (hn : n + 1 < 600) (r z : Int32) (st : Bool) : zWF (n + 1) (q_begin s r z st).2 := by
  unfold q_begin
  split
  · exact (h.up hn).no (by decide)
  · rename_i t ht
    split
    · exact (h.up hn).no (by decide)
    · split
      · exact (h.up hn).no (by decide)
      · rename_i hz
        obtain ⟨k, k1, k2, rfl⟩ := zsz_t (Bool.of_not_eq_false hz)
        exact (h.up hn).rd ht ⟨by rw [zn, nI_clamp (by omega)]; exact ⟨k1, k2⟩, Nat.le_refl _, ⟨Nat.zero_le _, fun b hb => absurd hb List.not_mem_nil⟩, fun i => Nat.zero_le _⟩
theorem w_step {n : Nat} {s : zST} (h : zWF n s) (hn : n + 1 < 600) (r : Int32) (on : Bool) : zWF (n + 1) (q_step s r on).2 := by
  unfold q_step
  split
  · exact (h.up hn).no (by decide)
  · rename_i t ht
    have hv := h.v ht
    split
    · exact (h.up hn).no (by decide)
    · split
      · exact (h.up hn).no (by decide)
      · rename_i x hx
        split
        · exact (h.up hn).no (by decide)
        · have hWr := (h.t ht).2.2 _ x hx
          refine (h.up hn).rd ht ⟨hWr.1, hWr.2.1, ?_, fun i => zsa_le (hWr.2.2.2 i)⟩
          show (zRk _ _ _ _ _ _ _).length ≤ 34 ∧ ∀ b ∈ zRk _ _ _ _ _ _ _, b < 256
          unfold zRk
          split
          · exact ⟨zkf_len hv.2.2.2.1, zkf_b⟩
          · exact hWr.2.2.1
theorem w_remove {n : Nat} {s : zST} (h : zWF n s) (hn : n + 1 < 600) (x : Int32) : zWF (n + 1) (q_remove s x).2 := by
  unfold q_remove
  split
  · exact (h.up hn).no (by decide)
  · rename_i t ht
    split
    · exact zWF_act h ht (zWt_rem (h.t ht).1) (Nat.le_succ _) hn
    · exact (h.up hn).no (by decide)
theorem w_change {n : Nat} {s : zST} (h : zWF n s) (hn : n + 1 < 600) (x c : Int32) (v : Int64) : zWF (n + 1) (q_change s x c v).2 := by
  unfold q_change
  split
  · exact (h.up hn).no (by decide)
  · rename_i t ht
    split
    · rename_i hz
      split
      · rename_i hc
        obtain ⟨j, hj, rfl, hjr⟩ : ∃ j, j < 64 ∧ x = nI j ∧ (tW t).1 j = true := by
          obtain ⟨t', j, ht', hj, e, hjr⟩ := zrow_t (s := s) (x := x) (by rw [zrow_s ht]; exact hz.1)
          rw [ht] at ht'
          cases ht'
          exact ⟨j, hj, e, hjr⟩
        have hv := h.v ht
        obtain ⟨k, hk, rfl⟩ := zcl2_t (by omega) hz.2
        rw [zn, zn, nI_clamp (by omega), nI_clamp (by omega)] at *
        exact zWF_act h ht (zWt_chg (h.t ht).1 hjr (gD false hk) hc) (Nat.le_succ _) hn
      · exact (h.up hn).no (by decide)
    · exact (h.up hn).no (by decide)
theorem zWF.turn {n : Nat} {s : zST} {t : zTB} {O : List zOe} {V : List zSe} (h : zWF n s) (hn : n + 1 < 600) (ht : sT s = some t) (hO : 1 ≤ O.length ∧ O.length ≤ 4) (hO2 : (O.map (fun e => e.1)).Nodup) (hO3 : ∀ e ∈ O, (tK t)[e.1]? = some e.2.1) (hV : V.length ≤ 2 ∧ ∀ c ∈ V, (tK t)[c.1]? = some c.2.1 ∧ c.2.2.1 < 5 ∧ (c.2.2.1 < 3 → c.2.2.2 ≠ zMiss ∧ zch c.2.1 c.2.2.2 = true)) : zWF (n + 1) (zturn s t O V) := by
  have g := h.t ht
  have w := g.1
  exact h.of hn h.2.1 ⟨Nat.zero_le _, h.2.2.1.2⟩ ⟨⟨hO.1, hO.2, w.1.2.2⟩, hO2, hO3, hV, w.2.2.2.2.1, ⟨Nat.le_succ_of_le w.2.2.2.2.2.1.1, Nat.succ_le_succ w.2.2.2.2.2.1.2⟩, w.2.2.2.2.2.2⟩ g.2.1 (fun r x e => by cases e)
theorem w_clear {n : Nat} {s : zST} (h : zWF n s) (hn : n + 1 < 600)  : zWF (n + 1) (q_clear s ).2 := by
  unfold q_clear
  split
  · exact (h.up hn).no (by decide)
  · rename_i t ht
    have w := (h.t ht).1
    exact h.turn hn ht ⟨w.1.1, w.1.2.1⟩ w.2.1 w.2.2.1 ⟨Nat.zero_le _, fun c hc => absurd hc List.not_mem_nil⟩
theorem w_sieve {n : Nat} {s : zST} (h : zWF n s) (hn : n + 1 < 600) (c w : Int32) (v : Int64) : zWF (n + 1) (q_sieve s c w v).2 := by
  unfold q_sieve
  split
  · exact (h.up hn).no (by decide)
  · rename_i t ht
    have wt := (h.t ht).1
    have hv := h.v ht
    split
    · exact (h.up hn).no (by decide)
    · rename_i hc
      split
      · exact (h.up hn).no (by decide)
      · rename_i hb
        split
        · exact (h.up hn).no (by decide)
        · rename_i h2
          obtain ⟨k, hk, rfl⟩ := zcl2_t (by omega) (Bool.of_not_eq_false hc)
          obtain ⟨j, hj, rfl⟩ := zcl2_t (by decide) (Bool.of_not_eq_false (fun q => hb (Or.inl q)))
          refine h.turn hn ht ⟨wt.1.1, wt.1.2.1⟩ wt.2.1 wt.2.2.1 ⟨by rw [List.length_append]; show _ + 1 ≤ 2; omega, fun x hx => ?_⟩
          rcases List.mem_append.mp hx with hx | hx
          · exact wt.2.2.2.1.2 x hx
          · rw [List.mem_singleton.mp hx]
            refine ⟨?_, ?_, fun h3 => ?_⟩
            · show (tK t)[zn (nI k)]? = some ((tK t).getD (zn (nI k)) false)
              rw [zn, nI_clamp (by omega)]
              exact gD false hk
            · show zn (nI j) < 5
              rw [zn, nI_clamp (by omega)]
              exact hj
            · have h3 : zn (nI j) < 3 := h3
              rw [zn, nI_clamp (by omega)] at h3
              have h3 := nI_lt (b := 3) h3 (by decide)
              exact ⟨fun q => hb (Or.inr ⟨h3, Or.inl q⟩), Bool.of_not_eq_false (fun q => hb (Or.inr ⟨h3, Or.inr q⟩))⟩
theorem w_turn {n : Nat} {s : zST} (h : zWF n s) (hn : n + 1 < 600) (a b c d : Int32) : zWF (n + 1) (q_turn s a b c d).2 := by
  unfold q_turn
  split
  · exact (h.up hn).no (by decide)
  · rename_i t ht
    have wt := (h.t ht).1
    have hv := h.v ht
    split
    · exact (h.up hn).no (by decide)
    · rename_i hz
      rcases zlo_sp (n := (tK t).length) (by omega) [a, b, c, d] 0 0 0 (by decide) with q | ⟨k, ms, hk, e, -, hnd, hms, hmap, -, -⟩
      · exact absurd q hz
      · have e : zlo (tK t).length [a, b, c, d] 0 0 0 = nI k := by rw [show zlo (tK t).length [a, b, c, d] 0 0 0 = nI (0 + k) from e, Nat.zero_add]
        have hk4 : k ≤ 4 := hk
        rw [e, zn, nI_clamp (by omega)]
        have hkp : 1 ≤ k := Nat.pos_of_ne_zero (fun q => hz (by rw [e, q]; rfl))
        have e1 : (ztO (tK t) ([a, b, c, d].take k)).map (fun e => e.1) = ms := by
          have : (ztO (tK t) ([a, b, c, d].take k)).map (fun e => e.1) = (([a, b, c, d].take k).map zc2).map zn := by
            unfold ztO
            rw [List.map_map, List.map_map]
            rfl
          rw [this, hmap, List.map_map]
          conv => rhs; rw [← List.map_id ms]
          refine List.map_congr_left (fun m hm => ?_)
          have := (hms m hm).1
          show (nI m).toNatClampNeg = m
          exact nI_clamp (by omega)
        have el : (ztO (tK t) ([a, b, c, d].take k)).length = k := by
          unfold ztO
          rw [List.length_map, List.length_take]
          show min k 4 = k
          omega
        refine h.turn hn ht ⟨by omega, by omega⟩ (by rw [e1]; exact hnd) (fun x hx => ?_) wt.2.2.2.1
        have hm : x.1 ∈ ms := by rw [← e1]; exact List.mem_map.mpr ⟨x, hx, rfl⟩
        have hx1 := (hms _ hm).1
        have hx2 : x.2.1 = (tK t).getD x.1 false := by
          unfold ztO at hx
          obtain ⟨y, -, rfl⟩ := List.mem_map.mp hx
          rfl
        rw [hx2]
        exact gD false hx1
theorem w_insert {n : Nat} {s : zST} (h : zWF n s) (hn : n + 1 < 600) (a b0 c d : Int64) : zWF (n + 1) (q_insert s a b0 c d).2 := by
  unfold q_insert
  split
  · exact (h.up hn).no (by decide)
  · rename_i t ht
    have g := h.t ht
    obtain ⟨w1, w2, w3, w4, ⟨w5, w6⟩, ⟨w7, w8⟩, w9⟩ := g.1
    split
    · exact (h.up hn).no (by decide)
    · rename_i ho
      split
      · exact (h.up hn).no (by decide)
      · rename_i hb
        have hoff := Bool.of_not_eq_false ho
        have hG : tG t < 64 := by omega
        have hfil : ∀ u, u ≤ tv t → ∀ i k b, (tH t u).1 i = true → (tK t)[k]? = some b → zch b (zfil t (zin4 a b0 c d) (tH t u).2 i k) = true := by
          intro u hu i k b hi hkb
          unfold zfil
          rw [if_neg (fun q => by rw [q.1, (w6 u hu).1 _ (Nat.le_refl _)] at hi; cases hi)]
          exact (w6 u hu).2.2 i k b hi hkb
        refine h.of hn h.2.1 ⟨Nat.zero_le _, h.2.2.1.2⟩ ⟨w1, w2, w3, w4, ⟨hG, fun u hu => ?_⟩, ⟨Nat.succ_le_succ w7, Nat.le_succ_of_le w8⟩, fun i => Nat.le_succ_of_le (w9 i)⟩ g.2.1 (fun r x hx => (g.2.2 r x hx).mo (Nat.le_succ _))
        have hu : u ≤ tv t + 1 := hu
        by_cases e : u = tv t + 1
        · rw [e, zgrow_W]
          have h6 := w6 (tv t) (Nat.le_refl _)
          refine ⟨fun i hi => ?_, ?_, fun i k b hi hkb => ?_⟩
          · have hi : tG t + 1 ≤ i := hi
            show va_up (tW t).1 (tG t) true i = false
            rw [va_up, if_neg (by omega)]
            exact h6.1 i (by omega)
          · have := fb_ct_upd (tW t).1 true hG
            rw [h6.1 _ (Nat.le_refl _)] at this
            show fb_ct (fun k => if k = tG t then true else (tW t).1 k) 64 ≤ 40
            rw [if_neg Bool.false_ne_true, if_pos rfl] at this
            omega
          · show zch b (zfil t (zin4 a b0 c d) (tW t).2 i k) = true
            by_cases ei : i = tG t
            · have hkb : (tK t)[k]? = some b := hkb
              have hkl := (List.getElem?_eq_some_iff.mp hkb).1
              unfold zfil
              rw [if_pos ⟨ei, hkl⟩]
              have := List.all_eq_true.mp hoff k (List.mem_range.mpr hkl)
              rwa [show (tK t).getD k false = b by rw [List.getD_eq_getElem?_getD, hkb]; rfl] at this
            · have hi : va_up (tW t).1 (tG t) true i = true := hi
              rw [va_up, if_neg ei] at hi
              exact hfil _ (Nat.le_refl _) i k b hi hkb
        · rw [zgrow_o t _ (by omega)]
          exact ⟨fun i hi => (w6 u (by omega)).1 i (Nat.le_of_succ_le hi), (w6 u (by omega)).2.1, hfil u (by omega)⟩
