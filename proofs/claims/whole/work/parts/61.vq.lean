/-! rows that are the same where they are there -/
def zeq (t' t : zRW) : Prop := t'.1 = t.1 ∧ ∀ i j, t.1 i = true → t'.2 i j = t.2 i j
theorem zeq.rf {t : zRW} : zeq t t := ⟨rfl, fun _ _ _ => rfl⟩
theorem zeq.kf {t' t : zRW} (h : zeq t' t) (O : List zOe) {x : Nat} (hx : t.1 x = true) : zkf O t' x = zkf O t x := by
  show zkey O (t'.2 x) x = zkey O (t.2 x) x
  rw [show t'.2 x = t.2 x from funext fun j => h.2 x j hx]
theorem zeq.pf {t' t : zRW} (h : zeq t' t) (V : List zSe) {x : Nat} (hx : t.1 x = true) : zpf V t' x = zpf V t x := by
  show zps V (t'.2 x) = zps V (t.2 x)
  rw [show t'.2 x = t.2 x from funext fun j => h.2 x j hx]
theorem zsr_cong {kf kf' : Nat → List Nat} {th : Nat → Bool} (h : ∀ x, th x = true → kf x = kf' x) : ∀ n, zsr kf th n = zsr kf' th n
  | 0 => rfl
  | n + 1 => by
    rw [zsr, zsr, zsr_cong h n]
    by_cases hn : th n = true
    · rw [if_pos hn, if_pos hn, zins, zins]
      have e : zlow kf (zsr kf' th n) (kf n) = zlow kf' (zsr kf' th n) (kf' n) := by
        unfold zlow
        refine List.countP_congr (fun x hx => ?_)
        rw [h x (zsr_mem.mp hx).2, h n hn]
      rw [e]
    · rw [if_neg hn, if_neg hn]
theorem zeq.A {t' t : zRW} (h : zeq t' t) (O : List zOe) : zsr (zkf O t') t'.1 64 = zsr (zkf O t) t.1 64 := by
  rw [h.1]
  exact zsr_cong (fun x hx => h.kf O hx) 64
theorem zeq.B {t' t : zRW} (h : zeq t' t) (O : List zOe) (V : List zSe) : zBB O V t' = zBB O V t := by
  unfold zBB
  rw [h.A O]
  refine List.filter_congr (fun x hx => ?_)
  exact h.pf V (zsr_mem.mp hx).2
theorem zBB_th {O : List zOe} {V : List zSe} {t : zRW} {x : Nat} (h : x ∈ zBB O V t) : t.1 x = true := (zsr_mem.mp (List.mem_filter.mp h).1).2
theorem tw_cong {p q : Nat → Bool} : ∀ {l : List Nat}, (∀ x ∈ l, p x = q x) → l.takeWhile p = l.takeWhile q
  | [], _ => rfl
  | a :: l, h => by
    rw [List.takeWhile_cons, List.takeWhile_cons, h a List.mem_cons_self, tw_cong (l := l) (fun x hx => h x (List.mem_cons_of_mem _ hx))]
theorem zeq.lf {t' t : zRW} (h : zeq t' t) (O : List zOe) (V : List zSe) (F : List Nat) : ((zBB O V t').takeWhile (fun x => zkl (zkf O t' x) F)) = ((zBB O V t).takeWhile (fun x => zkl (zkf O t x) F)) := by
  rw [h.B O V]
  exact tw_cong (fun x hx => by rw [h.kf O (zBB_th hx)])
theorem zeq.lg {t' t : zRW} (h : zeq t' t) (O : List zOe) (V : List zSe) (F : List Nat) : ((zBB O V t').takeWhile (fun x => !zkl F (zkf O t' x))) = ((zBB O V t).takeWhile (fun x => !zkl F (zkf O t x))) := by
  rw [h.B O V]
  exact tw_cong (fun x hx => by rw [h.kf O (zBB_th hx)])
theorem zeq.bf {t' t : zRW} (h : zeq t' t) (O : List zOe) (V : List zSe) (F : List Nat) (z : Nat) (on : Bool) : zbf O V t' F z on = zbf O V t F z on := by
  unfold zbf
  rw [h.lf O V F, h.lg O V F]
theorem zeq.be {t' t : zRW} (h : zeq t' t) (O : List zOe) (V : List zSe) (F : List Nat) (z : Nat) (on : Bool) : zbe O V t' F z on = zbe O V t F z on := by
  unfold zbe
  rw [h.lf O V F, h.lg O V F, h.B O V]
/-- what the view holds, as far as rows are there -/
def zVQ (S : zM) (O : List zOe) (V : List zSe) (t : zRW) : Prop := ∃ t', zeq t' t ∧ zVC S O V t'
theorem zVC.vq {S : zM} {O : List zOe} {V : List zSe} {t : zRW} (h : zVC S O V t) : zVQ S O V t := ⟨t, zeq.rf, h⟩
theorem zVQ.ag {S T : zM} {O : List zOe} {V : List zSe} {t : zRW} (h : zVQ S O V t) (f : ∀ c, 6 ≤ c → c ≤ 92 → zAg S T c) : zVQ T O V t := by
  obtain ⟨t', e, h⟩ := h
  exact ⟨t', e, h.ag f⟩
theorem zVQ.six {S T : zM} {O : List zOe} {V : List zSe} {t : zRW} (h : zVQ S O V t) (f : zF (fun c => c = 6) S T) (g : ∀ k, k ≠ 6 → k ≠ 7 → zgI T 6 k = zgI S 6 k) : zVQ T O V t := by
  obtain ⟨t', e, h⟩ := h
  exact ⟨t', e, h.six f g⟩
theorem zVQ.len {S : zM} {O : List zOe} {V : List zSe} {t : zRW} (h : zVQ S O V t) : zgI S 6 5 = nI (zBB O V t).length ∧ (zBB O V t).length ≤ 40 := by
  obtain ⟨t', e, h⟩ := h
  have := h.len
  rwa [e.B O V] at this
theorem zVQ.sh {S : zM} {O : List zOe} {V : List zSe} {t : zRW} (h : zVQ S O V t) : zkd S 6 = (11, 0) ∧ zkd S 10 = (14, 40) ∧ zkd S 11 = (17, 40) ∧ zkd S 92 = (14, 40) ∧ zgP S 6 0 = 7 ∧ zgP S 6 1 = 10 ∧ zgP S 6 2 = 11 ∧ zgP S 6 3 = 92 := by
  obtain ⟨t', e, h⟩ := h
  exact h.sh
theorem zVQ.eq {S : zM} {O : List zOe} {V : List zSe} {t u : zRW} (h : zVQ S O V t) (e : zeq t u) : zVQ S O V u := by
  obtain ⟨t', e', h⟩ := h
  exact ⟨t', ⟨e'.1.trans e.1, fun i j hi => (e'.2 i j (by rw [e.1]; exact hi)).trans (e.2 i j hi)⟩, h⟩
theorem zVQ.rows {S : zM} {O : List zOe} {V : List zSe} {t : zRW} (h : zVQ S O V t) : zgP S 6 0 = 7 ∧ ∃ t' g, zeq t' t ∧ zRo S 7 t'.1 t'.2 g := by
  obtain ⟨t', e, h⟩ := h
  obtain ⟨g, hg⟩ := h.ro
  exact ⟨h.sh.2.2.2.2.1, t', g, e, hg⟩
theorem zVQ.v1 {S : zM} {O : List zOe} {V : List zSe} {t : zRW} (h : zVQ S O V t) : ∃ q kf, zV1 S q (zsr (zkf O t) t.1 64) kf := by
  obtain ⟨t', e, q, g, h0, hR, h1, h2⟩ := h
  rw [e.A O] at h1
  exact ⟨q, _, h1⟩
theorem d_place {E : zE} {S : zM} {O : List zOe} {V : List zSe} {t : zRW} (h : zVQ S O V t) {id : Nat} (hid : id < 64) : zSp E 0 0 0 mX10_placeOf cX10_placeOf [zR 6, zI (nI id)] S (fun r T => S = T ∧ r = some (zI (zpo (zsr (zkf O t) t.1 64) id))) := by
  obtain ⟨t', e, q, g, h0, -, h1, -⟩ := h
  have := c_placeOf (E := E) h0 h1 hid
  rwa [e.A O] at this
theorem d_keyAt {E : zE} {S : zM} {O : List zOe} {V : List zSe} {t : zRW} {i x : Nat} (h : zVQ S O V t) (hx : (zsr (zkf O t) t.1 64)[i]? = some x) : zSp E 1 0 0 mX10_keyAt cX10_keyAt [zR 6, zI (nI i)] S (fun r T => S = T ∧ ∃ c, r = some (zR c) ∧ 12 ≤ c ∧ c ≤ 90 ∧ zBy S c (c + 1) 34 (zkf O t x)) := by
  obtain ⟨t', e, h⟩ := h
  rw [← e.A O] at hx
  have := c_keyAt (E := E) h hx
  rw [e.A O] at hx
  rwa [e.kf O (zsr_mem.mp (List.mem_of_getElem? hx)).2] at this
theorem d_countBelow {E : zE} {S : zM} {O : List zOe} {V : List zSe} {t : zRW} {b d cap : Nat} {F : List Nat} (h : zVQ S O V t) (g : zBy S b d cap F) : zSp E 2 0 0 mX10_countBelow cX10_countBelow [zR 6, zR b] S (fun r T => S = T ∧ r = some (zI (nI ((zBB O V t).takeWhile (fun x => zkl (zkf O t x) F)).length))) := by
  obtain ⟨t', e, h⟩ := h
  have := c_countBelow (E := E) h g
  rwa [e.lf O V F] at this
theorem d_chooseFrom {E : zE} {S : zM} {O : List zOe} {V : List zSe} {t : zRW} {f z : Nat} (h : zVQ S O V t) (hf : f < 2 ^ 20) (hz : z < 2 ^ 20) : zSp E 1 0 0 mX10_chooseFrom cX10_chooseFrom [zR 6, zI (nI f), zI (nI z)] S (fun r T => r = none ∧ zFE S T f (min (f + z) (zBB O V t).length)) := by
  obtain ⟨t', e, h⟩ := h
  have := c_chooseFrom (E := E) h hf hz
  rwa [e.B O V] at this
theorem d_chooseBeside {E : zE} {S : zM} {O : List zOe} {V : List zSe} {t : zRW} {b d cap z : Nat} {F : List Nat} (h : zVQ S O V t) (g : zBy S b d cap F) (hz : z < 2 ^ 20) (on : Bool) : zSp E 3 0 0 mX10_chooseBeside cX10_chooseBeside [zR 6, zR b, zI (nI z), zI (zbi on)] S (fun r T => r = none ∧ zFE S T (zbf O V t F z on) (zbe O V t F z on)) := by
  obtain ⟨t', e, h⟩ := h
  have := c_chooseBeside (E := E) h g hz on
  rwa [e.bf O V F z on, e.be O V F z on] at this
theorem zeq.id {t' t : zRW} (h : zeq t' t) (O : List zOe) (V : List zSe) (f e : Nat) : zid O V t' f e = zid O V t f e := by
  unfold zid
  rw [h.B O V]
theorem zid_th {O : List zOe} {V : List zSe} {t : zRW} {f e x : Nat} (h : x ∈ zid O V t f e) : t.1 x = true := zBB_th (List.mem_of_mem_drop (List.mem_of_mem_take h))
theorem d_fill {E : zE} {S : zM} {O : List zOe} {V : List zSe} {t : zRW} {f e tn sz st : Nat} {pt : Bool} {ids : List Nat} {vs : Nat → Nat → Int64} {kb ka kk : List Nat} {ah be : Nat} (h : zVQ S O V t) (hg : zPg S pt ids vs kb ka kk ah be) (hf0 : zgI S 6 6 = nI f) (he0 : zgI S 6 7 = nI e) (htn : zgI S 6 10 = nI tn) (htn2 : tn < 2 ^ 20) (hsz : sz ≤ 20) (hst : st < 65536) (hfe : f ≤ e) (he20 : e ≤ f + 20) (heB : e ≤ (zBB O V t).length) : zSp E 3 0 0 mX4_fill cX4_fill [zR 93, zR 6, zI (nI sz), zI (nI st)] S (fun r T => r = none ∧ ∃ kb' ka' ah' be', zPg T true (zid O V t f e) (fun i j => t.2 ((zid O V t f e).getD i 0) j) kb' ka' [] ah' be' ∧ zpw O V t f e tn sz st kb' ka' ah' be' ∧ zF zXP S T) := by
  obtain ⟨t', q, h⟩ := h
  refine (c_fill (E := E) h hg hf0 he0 htn htn2 hsz hst hfe he20 (by rw [q.B O V]; exact heB)).post (fun r T hq => ?_)
  obtain ⟨hr, kb', ka', ah', be', h1, h2, h3⟩ := hq
  rw [q.id O V f e] at h1
  refine ⟨hr, kb', ka', ah', be', ?_, ?_, h3⟩
  · obtain ⟨a1, a2, a3, a4, a5, a6, a7, a8, a9, a10, a11⟩ := h1
    refine ⟨a1, a2, a3, a4, a5, a6, a7, fun i j hi hj => (a8 i j hi hj).trans (q.2 _ _ ?_), a9, a10, a11⟩
    have : (zid O V t f e)[i]? = some ((zid O V t f e).getD i 0) := by rw [List.getD_eq_getElem?_getD, List.getElem?_eq_getElem hi]; rfl
    exact zid_th (List.mem_of_getElem? this)
  · unfold zpw at h2 ⊢
    rw [q.B O V] at h2
    by_cases g : f < e
    · rw [if_pos g] at h2 ⊢
      exact ⟨fun x hx => by rw [h2.1 x hx, q.kf O (zBB_th (List.mem_of_getElem? hx))], fun x hx => by rw [h2.2.1 x hx, q.kf O (zBB_th (List.mem_of_getElem? hx))], h2.2.2⟩
    · rw [if_neg g] at h2 ⊢
      exact h2
theorem d_take {E : zE} {S : zM} {O : List zOe} {V : List zSe} {t : zRW} {a : Nat} {bg sb en : Bool} {sz vr pg : Nat} {sg sa : Nat → Nat} {L : List Nat} {f e now : Nat} (h0 : zVQ S O V t) (h : zRd S a bg sb en sz vr pg sg sa L) (ha : 93 ≤ a) (hf : zgI S 6 6 = nI f) (he : zgI S 6 7 = nI e) (hfe : f ≤ e) (heB : e ≤ (zBB O V t).length) (on : Bool) : zSp E 2 0 0 mX6_take cX6_take [zR a, zR 6, zI (zbi on), zI (nI now)] S (fun r T => r = none ∧ zRd T a bg sb (zRe f e on en) sz vr (pg + 1) (zsg sg (zseg (zBB O V t) f e)) (zsa sa (zseg (zBB O V t) f e) now) (zRk O t (zBB O V t) f e on L) ∧ zF (zX5 a) S T) := by
  obtain ⟨t', q, h0⟩ := h0
  have := c_take (E := E) (now := now) h0 h ha hf he hfe (by rw [q.B O V]; exact heB) on
  rw [q.B O V] at this
  have ek : zRk O t' (zBB O V t) f e on L = zRk O t (zBB O V t) f e on L := by
    unfold zRk
    by_cases g : f < e
    · rw [if_pos g, if_pos g]
      have hi : (if on then e - 1 else f) < (zBB O V t).length := by split <;> omega
      rw [List.getElem?_eq_getElem hi]
      exact q.kf O (zBB_th (List.getElem_mem hi))
    · rw [if_neg g, if_neg g]
  rwa [ek] at this
theorem d_keepToken {E : zE} {S : zM} {O : List zOe} {V : List zSe} {t : zRW} {tp tp2 cap eg eg2 cap2 n : Nat} {F G : List Nat} {pt : Bool} {ids : List Nat} {vs : Nat → Nat → Int64} {kb ka : List Nat} {ah be : Nat} (h : zVQ S O V t) (hg : zPg S pt ids vs kb ka [] ah be) (g : zBy S tp tp2 cap F) (hn : n ≤ F.length) (hn9 : n ≤ 900) (hd : tp < 93 ∧ tp2 < 93) (e : zBy S eg eg2 cap2 G) (hd2 : eg < 93 ∧ eg2 < 93) : zSp E 3 0 0 mX4_keepToken cX4_keepToken [zR 93, zR tp, zI (nI n), zR 6, zR eg] S (fun r T => r = none ∧ zF zXP S T ∧ if ids.length = 0 then zPg T pt ids vs kb ka (F.take n) ((zBB O V t).takeWhile (fun x => zkl (zkf O t x) G)).length ((zBB O V t).length - ((zBB O V t).takeWhile (fun x => !zkl G (zkf O t x))).length) else T = S) := by
  obtain ⟨t', q, h⟩ := h
  have := c_keepToken (E := E) h hg g hn hn9 hd e hd2
  rwa [q.lf O V G, q.lg O V G, q.B O V] at this
set_option maxRecDepth 20000 in
set_option maxHeartbeats 4000000 in
theorem c_showHit {E : zE} {S : zM} {a w : Nat} (k6 : zkd S 6 = (11, 0)) (ka : zkd S a = (10, 0)) (h1 : zgP S 6 8 = a) (h2 : zgI S 6 9 = nI w) (h3 : zgI S 6 10 = zgI S a 8) : zSp E 4 0 0 mX10_show cX10_show [zR 6, zR a, zI (nI w)] S (fun r T => r = none ∧ T = S) := by
  refine zSp.of (by decide) rfl (Nat.le_of_ble_eq_true rfl) rfl ?_
  refine j_aload_n (pc := 0) dX10_show_0 rfl ?_
  refine j_getP (pc := 1) dX10_show_1 f_X10_47 (Or.inl ⟨_, rfl⟩) (by assumption) ?_
  refine j_aload_n (pc := 4) dX10_show_4 rfl ?_
  refine j_acmp_ne (pc := 5) (tgt := 28) dX10_show_5 (by decide) (fun h5 => absurd h1 h5) (fun h5 => ?_)
  refine j_aload_n (pc := 8) dX10_show_8 rfl ?_
  refine j_getI (pc := 9) dX10_show_9 f_X10_51 (Or.inl rfl) (by assumption) ?_
  refine j_iload_n (pc := 12) dX10_show_12 rfl ?_
  refine j_icmp_ne (pc := 13) (tgt := 28) dX10_show_13 (by decide) (fun h13 => absurd h2 h13) (fun h13 => ?_)
  refine j_aload_n (pc := 16) dX10_show_16 rfl ?_
  refine j_getI (pc := 17) dX10_show_17 f_X10_54 (Or.inl rfl) (by assumption) ?_
  refine j_aload_n (pc := 20) dX10_show_20 rfl ?_
  refine j_getI (pc := 21) dX10_show_21 f_X10_57 (Or.inl rfl) (by assumption) ?_
  refine j_icmp_ne (pc := 24) (tgt := 28) dX10_show_24 (by decide) (fun h24 => absurd h3 h24) (fun h24 => ?_)
  refine j_vret (pc := 27) dX10_show_27 rfl ?_
  exact ⟨rfl, rfl⟩
