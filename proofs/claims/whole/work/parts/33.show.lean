/-! a TABLE as the memory holds it: kinds, order, sieve, rows, acts, when each row was changed, how often it was turned -/
abbrev zRW : Type := (Nat → Bool) × (Nat → Nat → Int64)
def zTA (S : zM) (a : Nat) (K : List Bool) (O : List zOe) (V : List zSe) (t : zRW) (g : Nat) (so si sc : Nat → Nat) (ol : Nat → Int64) (v tn : Nat) (tc : Nat → Nat) : Prop :=
  zTk S a K ∧ (zgP S a 2 = a + 3 ∧ zgP S a 3 = a + 8 ∧ zgP S a 4 = a + 13 ∧ zgP S a 5 = a + 16 ∧ zgP S a 6 = a + 21) ∧ zOr S (a + 3) O ∧ zSv S (a + 8) V ∧ zRo S (a + 13) t.1 t.2 g ∧ zAc S (a + 16) so si sc ol v ∧ (zkd S (a + 21) = (14, 64) ∧ ∀ i, i < 64 → zgI S (a + 21) i = nI (tc i)) ∧ zgI S a 8 = nI tn ∧ tn < 2 ^ 20
theorem zTk.ag {S T : zM} {a : Nat} {K : List Bool} (h : zTk S a K) (f : zAg S T a) (f2 : zAg S T (a + 2)) : zTk T a K := by
  obtain ⟨⟨k1, k2, p1⟩, i1, i2, e1⟩ := h
  exact ⟨⟨f.1.trans k1, f2.1.trans k2, (f.2.2.2 1).trans p1⟩, (f.2.1 7).trans i1, i2, fun i b hb => (f2.2.1 i).trans (e1 i b hb)⟩
theorem zTA.ag {S T : zM} {a : Nat} {K : List Bool} {O : List zOe} {V : List zSe} {t : zRW} {g : Nat} {so si sc : Nat → Nat} {ol : Nat → Int64} {v tn : Nat} {tc : Nat → Nat} (h : zTA S a K O V t g so si sc ol v tn tc) (f : ∀ k, k < 22 → zAg S T (a + k)) : zTA T a K O V t g so si sc ol v tn tc := by
  have f0 := f 0 (by decide)
  obtain ⟨h1, ⟨p1, p2, p3, p4, p5⟩, h3, h4, h5, h6, ⟨h7, h8⟩, h9, h10⟩ := h
  exact ⟨h1.ag f0 (f 2 (by decide)), ⟨(f0.2.2.2 2).trans p1, (f0.2.2.2 3).trans p2, (f0.2.2.2 4).trans p3, (f0.2.2.2 5).trans p4, (f0.2.2.2 6).trans p5⟩, h3.ag (fun k hk => by rw [Nat.add_assoc]; exact f (3 + k) (by omega)), h4.ag (fun k hk => by rw [Nat.add_assoc]; exact f (8 + k) (by omega)), h5.ag (fun k hk => by rw [Nat.add_assoc]; exact f (13 + k) (by omega)), h6.ag (fun k hk => by rw [Nat.add_assoc]; exact f (16 + k) (by omega)), ⟨(f 21 (by decide)).1.trans h7, fun i hi => ((f 21 (by decide)).2.1 i).trans (h8 i hi)⟩, (f0.2.1 8).trans h9, h10⟩
/-- the versions as the remembered acts tell them -/
def zHi (so si sc : Nat → Nat) (ol : Nat → Int64) (v : Nat) (ch : Nat → zRW) : Prop := ∀ u, u < v → v ≤ u + 40 → zinv so si sc ol (u % 40) (ch (u + 1)) = ch u
theorem zHi.bk {so si sc : Nat → Nat} {ol : Nat → Int64} {v : Nat} {ch : Nat → zRW} (h : zHi so si sc ol v ch) : ∀ (n w : Nat), w + n ≤ v → v ≤ w + 40 → zbk so si sc ol n (w + n) (ch (w + n)) = ch w
  | 0, w, _, _ => rfl
  | n + 1, w, h1, h2 => by
    rw [zbk, show w + (n + 1) - 1 = w + n from rfl, show ch (w + (n + 1)) = ch (w + n + 1) from rfl, h (w + n) (by omega) (by omega)]
    exact h.bk n w (by omega) h2
abbrev zkf (O : List zOe) (t : zRW) : Nat → List Nat := fun id => zkey O (t.2 id) id
abbrev zpf (V : List zSe) (t : zRW) : Nat → Bool := fun id => zps V (t.2 id)
def zV2 (S : zM) (A : List Nat) (pf : Nat → Bool) : Prop := zgI S 6 5 = nI (zpi A pf).length ∧ ∀ k i, (zpi A pf)[k]? = some i → zgI S 92 k = nI i
/-- what the view holds -/
def zVC (S : zM) (O : List zOe) (V : List zSe) (t : zRW) : Prop := ∃ (q : Nat → Nat) (g : Nat), zV0 S q ∧ zRo S 7 t.1 t.2 g ∧ zV1 S q (zsr (zkf O t) t.1 64) (zkf O t) ∧ zV2 S (zsr (zkf O t) t.1 64) (zpf V t)
/-- the view is well made, whatever it holds -/
def zVW (S : zM) : Prop := ∃ (q : Nat → Nat) (t : zRW) (g : Nat), zV0 S q ∧ zRo S 7 t.1 t.2 g
abbrev zXV : Nat → Prop := fun c => 6 ≤ c ∧ c ≤ 92
set_option maxRecDepth 20000 in
set_option maxHeartbeats 4000000 in
theorem l_show2 {E : zE} {S : zM} {q : Nat → Nat} {O : List zOe} {V : List zSe} {t : zRW} {A : List Nat} {a w tn gv : Nat} (hA : A = zsr (zkf O t) t.1 64) (ha : 93 ≤ a) (hta : zkd S a = (10, 0)) (hsv0 : zSv S (a + 8) V) (hps0 : zgP S a 3 = a + 8) :
    ∀ (n i : Nat) (T : zM), i + n = A.length → zV0 T q → zRo T 7 t.1 t.2 gv → zV1 T q A (zkf O t) → zgI T 6 5 = nI ((List.range i).filter (fun i => zpf V t (A.getD i 0))).length → (∀ k y, ((List.range i).filter (fun i => zpf V t (A.getD i 0)))[k]? = some y → zgI T 92 k = nI y) → (zgP T 6 8 = a ∧ zgI T 6 9 = nI w ∧ zgI T 6 10 = nI tn) → zG zXV S T → zJ E 4 0 0 mX10_show cX10_show 120 [some (zR 6), some (zR a), some (zI (nI w)), some (zI (nI i))] [] T (fun r T => r = none ∧ zVC T O V t ∧ (zgP T 6 8 = a ∧ zgI T 6 9 = nI w ∧ zgI T 6 10 = nI tn) ∧ zG zXV S T) := by
  have zPQs := fun i => zpi_succ A (zpf V t) i
  obtain ⟨zPQ, hPQ⟩ : ∃ f : Nat → List Nat, f = fun i => (List.range i).filter (fun i => zpf V t (A.getD i 0)) := ⟨_, rfl⟩
  have hPQi : ∀ i, (List.range i).filter (fun i => zpf V t (A.getD i 0)) = zPQ i := fun i => by rw [hPQ]
  have hPQl : ∀ i, (zPQ i).length ≤ i := fun i => by rw [← hPQi]; exact Nat.le_trans (List.length_filter_le _ _) (by rw [List.length_range]; exact Nat.le_refl _)
  simp only [hPQi] at zPQs ⊢
  intro n
  induction n with
  | zero =>
    intro i T hi h0 hR h1 hp5 hp92 hf hG
    have ei : i = A.length := by omega
    subst ei
    have k6 := h0.1.1
    have h40 := h1.2.1
    rw [← hPQi] at hp5 hp92
    subst hA
    refine j_iload_n (pc := 120) dX10_show_120 rfl ?_
    refine j_aload_n (pc := 121) dX10_show_121 rfl ?_
    refine j_getI (pc := 122) dX10_show_122 f_X10_34 (Or.inl rfl) (by assumption) ?_
    rw [h1.1]
    refine j_icmp_ge (pc := 125) (tgt := 174) dX10_show_125 (by decide) (fun h125 => ?_) (fun h125 => ?_)
    · refine j_vret (pc := 174) dX10_show_174 rfl ?_
      exact ⟨rfl, ⟨q, gv, h0, hR, h1, hp5, hp92⟩, hf, hG⟩
    · exact absurd (nI_le (Nat.le_refl _) (by omega)) h125
  | succ n ih =>
    intro i T hi h0 hR h1 hp5 hp92 hf hG
    have k6 := h0.1.1
    have k10 := h0.1.2.1
    have k92 := h0.1.2.2.2.1
    have k7 := hR.1
    have h40 := h1.2.1
    have hlt : i < A.length := by omega
    have hin : vp_in (nI i) 40 := vp_in_nI (by omega) (by decide)
    have hcl : (nI i).toNatClampNeg = i := nI_clamp (by omega)
    have hpl := hPQl i
    have hin2 : vp_in (nI (zPQ i).length) 40 := vp_in_nI (by omega) (by decide)
    have hcl2 : (nI (zPQ i).length).toNatClampNeg = (zPQ i).length := nI_clamp (by omega)
    obtain ⟨x, hx⟩ : ∃ x, A[i]? = some x := ⟨A[i], List.getElem?_eq_getElem hlt⟩
    have hxd : A.getD i 0 = x := by rw [List.getD_eq_getElem?_getD, hx]; rfl
    have hx64 := (h1.2.2 i x hx).2.1
    have ea := hG.2.2 a (by unfold zXV; omega)
    have kta : zkd T a = (10, 0) := ea.1.trans hta
    have hps : zgP T a 3 = a + 8 := (ea.2.2.2 3).trans hps0
    have hsv : zSv T (a + 8) V := hsv0.ag (fun k hk => hG.2.2 _ (by unfold zXV; omega))
    have ksv := hsv.1.1
    refine j_iload_n (pc := 120) dX10_show_120 rfl ?_
    refine j_aload_n (pc := 121) dX10_show_121 rfl ?_
    refine j_getI (pc := 122) dX10_show_122 f_X10_34 (Or.inl rfl) (by assumption) ?_
    rw [h1.1]
    refine j_icmp_ge (pc := 125) (tgt := 174) dX10_show_125 (by decide) (fun h125 => ?_) (fun h125 => ?_)
    · exact absurd h125 (nI_ge (by omega) (by omega))
    · refine j_aload_n (pc := 128) dX10_show_128 rfl ?_
      refine j_getP (pc := 129) dX10_show_129 f_X10_90 (Or.inl ⟨_, rfl⟩) (by assumption) ?_
      rw [hps]
      refine j_aload_n (pc := 132) dX10_show_132 rfl ?_
      refine j_getP (pc := 133) dX10_show_133 f_X10_12 (Or.inl ⟨_, rfl⟩) (by assumption) ?_
      rw [h0.1.2.2.2.2.1]
      refine j_aload_n (pc := 136) dX10_show_136 rfl ?_
      refine j_getP (pc := 137) dX10_show_137 f_X10_18 (Or.inr ⟨_, rfl⟩) (by assumption) ?_
      rw [h0.1.2.2.2.2.2.1]
      refine j_iload_n (pc := 140) dX10_show_140 rfl ?_
      refine j_iald (pc := 141) dX10_show_141 (by assumption) (by assumption) ?_
      rw [hcl, (h1.2.2 i x hx).1]
      refine j_callV (pc := 142) (t := 8) (c_lets hsv hR hx64) dX10_show_142 l_X10_94 mk_X8_lets mv_X8_lets (by decide) rfl (by assumption) (by decide) rfl rfl (Nat.le_of_ble_eq_true rfl) (Nat.le_refl _) (Nat.le_refl _) (fun r T2 h_1 => ?_)
      obtain ⟨rfl, rfl⟩ := h_1
      refine j_if_eq (pc := 145) (tgt := 168) dX10_show_145 (by decide) (fun h145 => ?_) (fun h145 => ?_)
      · refine j_iinc (pc := 168) (v := _ + 1) (ls' := [_, _, _, _]) dX10_show_168 rfl rfl (by decide) rfl rfl ?_
        refine j_goto (pc := 171) (tgt := 120) dX10_show_171 (by decide) ?_
        rw [nI_1]
        have hpx : zpf V t (A.getD i 0) = false := by rw [hxd]; exact zbi_eq0.mp h145
        exact ih (i + 1) T (by omega) h0 hR h1 (by rw [zPQs, if_neg (by rw [hpx]; decide), List.append_nil]; exact hp5) (by rw [zPQs, if_neg (by rw [hpx]; decide), List.append_nil]; exact hp92) hf hG
      · refine j_aload_n (pc := 148) dX10_show_148 rfl ?_
        refine j_getP (pc := 149) dX10_show_149 f_X10_31 (Or.inr ⟨_, rfl⟩) (by assumption) ?_
        rw [h0.1.2.2.2.2.2.2.2]
        refine j_aload_n (pc := 152) dX10_show_152 rfl ?_
        refine j_getI (pc := 153) dX10_show_153 f_X10_38 (Or.inl rfl) (by assumption) ?_
        rw [hp5]
        refine j_iload_n (pc := 156) dX10_show_156 rfl ?_
        refine j_iast (pc := 157) dX10_show_157 (by assumption) (by assumption) ?_
        refine j_aload_n (pc := 158) dX10_show_158 rfl ?_
        refine j_dup (pc := 159) dX10_show_159 rfl ?_
        refine j_getI (pc := 160) dX10_show_160 f_X10_38 (Or.inl rfl) (by assumption) ?_
        rw [hcl2, show zgI (zwI T 92 (zPQ i).length (nI i)) 6 5 = nI (zPQ i).length from (zgI_ne (by decide)).trans hp5]
        refine j_iconst (pc := 163) (v := 1) dX10_show_163 (by decide) ?_
        refine j_iadd (pc := 164) dX10_show_164 ?_
        rw [nI_1]
        refine j_putI (pc := 165) dX10_show_165 f_X10_38 rfl (by assumption) rfl ?_
        refine j_iinc (pc := 168) (v := _ + 1) (ls' := [_, _, _, _]) dX10_show_168 rfl rfl (by decide) rfl rfl ?_
        refine j_goto (pc := 171) (tgt := 120) dX10_show_171 (by decide) ?_
        rw [nI_1]
        have hpx : zpf V t (A.getD i 0) = true := by
          rw [hxd]
          cases z : zpf V t x with
          | true => rfl
          | false => exact absurd (show zbi (zps V (t.2 x)) = 0 from by rw [show zps V (t.2 x) = false from z]; rfl) h145
        have f0 : ∀ c, c ≠ 6 → c ≠ 92 → zAg T (zwI (zwI T 92 (zPQ i).length (nI i)) 6 5 (nI ((zPQ i).length + 1))) c := fun c e1 e2 => ((zF.wI (X := fun c => c = 6 ∨ c = 92) (Or.inr rfl)).tr (zF.wI (Or.inl rfl))).ag (fun z => z.elim e1 e2)
        have q12 : ∀ k, k < 40 → 12 ≤ q k ∧ q k ≤ 90 := fun k hk => by obtain ⟨-, ⟨j, hj, e⟩, -⟩ := h0.2.1 k hk; omega
        refine ih (i + 1) _ (by omega) ⟨h0.1, fun k hk => ⟨(h0.2.1 k hk).1, (h0.2.1 k hk).2.1, ?_⟩, h0.2.2⟩ (hR.ag (fun k hk => f0 _ (by omega) (by omega))) ⟨(zgI_nk (by decide)).trans ((zgI_ne (by decide)).trans h1.1), h1.2.1, fun k y hy => ⟨((f0 10 (by decide) (by decide)).2.1 k).trans (h1.2.2 k y hy).1, (h1.2.2 k y hy).2.1, ?_⟩⟩ ?_ ?_ ⟨hf.1, (zgI_nk (by decide)).trans ((zgI_ne (by decide)).trans hf.2.1), (zgI_nk (by decide)).trans ((zgI_ne (by decide)).trans hf.2.2)⟩ (hG.tr ((zF.wI (by decide)).tr (zF.wI (by decide))).g)
        · obtain ⟨-, -, L, hL⟩ := h0.2.1 k hk
          have := q12 k hk
          exact ⟨L, hL.ag (f0 _ (by omega) (by omega)) (f0 _ (by omega) (by omega))⟩
        · have hk40 : k < 40 := Nat.lt_of_lt_of_le (List.getElem?_eq_some_iff.mp hy).1 h1.2.1
          have := q12 k hk40
          exact (h1.2.2 k y hy).2.2.ag (f0 _ (by omega) (by omega)) (f0 _ (by omega) (by omega))
        · rw [zgI_self, zPQs, if_pos hpx, List.length_append]
          rfl
        · intro k y hy
          rw [zPQs, if_pos hpx] at hy
          rw [zgI_ne (by decide), zgI_wI]
          by_cases e : k = (zPQ i).length
          · rw [e, List.getElem?_concat_length] at hy
            cases hy
            exact if_pos ⟨rfl, e⟩
          · have hk : k < (zPQ i ++ [i]).length := (List.getElem?_eq_some_iff.mp hy).1
            rw [List.length_append, List.length_cons, List.length_nil] at hk
            rw [List.getElem?_append_left (by omega)] at hy
            rw [if_neg (fun z => e z.2)]
            exact hp92 k y hy
