theorem ztw_any {w : Cond} {s : State} {a : Array Value} (ht : ztw w = true) (h : w.before a s = true) : w.before #[] s = true := by
  unfold ztw at ht
  split at ht
  · exact va_Nw.of rfl h
  · exact va_Nw.of rfl h
  · exact word_at (State.WarmedH.refl s) (good_of_word ht) h
theorem lw_arr {ty : FieldType} {s : State} {a : Array Value} (h : (Cond.arrayClass ty).before a s = true) : ∃ cA, ArrOfT s cA ty ∧ s.vm.findClass ("[" ++ ty.toString) = some cA := by
  obtain ⟨cA, kA, comp, h1, h2, h3⟩ := Cond.arrayClass_spec h
  exact ⟨cA, fun n z => ⟨fun k h => (by cases h), kA, h2, comp, h3⟩, h1⟩
theorem lw_arrO {C : String} {s : State} {a : Array Value} (h : (Cond.arrayOver (.object C)).before a s = true) : ∃ cA, ArrOfT s cA (.object C) ∧ va_RA s cA (.object C) := by
  obtain ⟨comp, cA, kA, h1, -, h2, h3, h4⟩ := Cond.arrayOver_spec h
  exact ⟨cA, fun n z => ⟨fun k h => (by cases h), kA, h2, comp, h3⟩, kA, comp, h2, h3, h1, h4⟩
/-- where the law runs -/
theorem lw_E {s : State} {b L : Nat} {xs : Nat → Int32} (hts : ∀ w ∈ lw_tbl, w.before #[Value.ref b] s = true) (hX : va_X b L xs s s.heap) (hbl : b < s.heap.size) (hgv : (Jvm.Cond.and given_1 narrow_1).before #[Value.ref b] s = true) :
    ∃ E : zE, zb E = s.heap.size ∧ zH E = s.heap ∧ zS E 42 = b ∧ zTb E s ∧ zOKE E ∧ zOKX E ∧ zScr E L xs := by
  have hf := flat_of_before _ hgv
  have hA : ∀ a : Nat, a < s.heap.size → ¬ (fun q : Nat => s.heap.size ≤ q) a := fun a h => Nat.not_le.mpr h
  have hkn : ∀ t, ∃ q : ClassId × (Nat → Nat), t < 13 → u_Kn s (zC t) (zT t) (zN t) q.1 q.2 := by
    intro t
    by_cases ht : t < 13
    · obtain ⟨c, i, h⟩ := u_known (C := zC t) (T := zT t) (N := zN t) (n := zN t) hts (zlaysIn t ht) (hts _ (zinst t ht))
      exact ⟨(c, i), fun _ => h⟩
    · exact ⟨(0, fun _ => 0), fun h => absurd h ht⟩
  obtain ⟨kn, hkn⟩ : ∃ kn : Nat → ClassId × (Nat → Nat), ∀ t, t < 13 → u_Kn s (zC t) (zT t) (zN t) (kn t).1 (kn t).2 := ⟨fun t => Classical.choose (hkn t), fun t => Classical.choose_spec (hkn t)⟩
  obtain ⟨a0, r0, n0⟩ := lw_arr (hts _ zac_I)
  obtain ⟨a1, r1, n1⟩ := lw_arr (hts _ zac_L)
  obtain ⟨a2, r2, n2⟩ := lw_arr (hts _ zac_Z)
  obtain ⟨a3, r3, n3⟩ := lw_arrO (hts _ zao_1)
  obtain ⟨a4, r4, n4⟩ := lw_arrO (hts _ zao_6)
  obtain ⟨adK, adV, hST, hev⟩ := vk_Sof (A := fun q : Nat => s.heap.size ≤ q) (N := 9) (tm := ztm) (len := zTl) (byt := zTy) (by decide) (fun i hi => hf _ (zf_ex i hi)) (fun i hi => hf _ (zf_co i hi)) (fun i hi => hf _ (zf_ar i hi)) (fun i hi => hf _ (zf_le i hi)) (fun i hi j hj => hf _ (zf_el i hi j hj)) (fun i j hi hj hij => (zf_ne i hi j hj hij).elim (fun h => Or.inl (hf _ h)) (fun h => Or.inr (hf _ h))) hA
  obtain ⟨aL, _, _, _, hL1, -⟩ := Cond.exactly_spec (hf _ zf_X)
  have hF := va_Zqof (A := fun q : Nat => s.heap.size ≤ q) (hts _ zls_F) (hts _ zin_P) (hf _ zf_F) hA
  obtain ⟨aF, hF⟩ : ∃ aF : Nat, va_Z zSF "SIOOBE_FORMATTER" zSD .null (fun q : Nat => s.heap.size ≤ q) s s.heap ∨ va_Z zSF "SIOOBE_FORMATTER" zSD (.ref aF) (fun q : Nat => s.heap.size ≤ q) s s.heap := by
    rcases hF with h | ⟨t, h⟩
    · exact ⟨0, Or.inl h⟩
    · exact ⟨t, Or.inr h⟩
  have hC := va_Zof (A := fun q : Nat => s.heap.size ≤ q) (hts _ zls_C) (hts _ zin_S) (va_eqi (hf _ zf_C)) hA
  have hU := vx_Zqof (A := fun q : Nat => s.heap.size ≤ q) (hts _ zls_U) (hts _ zin_T) (hf _ zf_U) hA
  have hN := vx_Zqof (A := fun q : Nat => s.heap.size ≤ q) (hts _ zls_N) (hts _ zin_T) (hf _ zf_N) hA
  let sS : Nat → Nat := fun j => if j < 9 then adK j else if j < 25 then adV (j - 16) else if j = 40 then aF else if j = 41 then aL else b
  let E0 : (State → Prop) → zE := fun X => (s.heap.size, s.heap, (fun t => (kn t).1, fun t => (kn t).2), (fun j => match j with | 0 => a0 | 1 => a1 | 2 => a2 | 3 => a3 | _ => a4), sS, X)
  let X0 : State → Prop := fun U => zTx (E0 (fun _ => True)) U ∧ zXx (E0 (fun _ => True)) U ∧ va_X b L xs U s.heap
  have hcl : ∀ s V : State, s.WarmedH V.vm → X0 s → X0 V := fun s V hW h => ⟨h.1.moved hW, h.2.1.moved hW, h.2.2.moved hW.alike⟩
  have hST' : vk_S 9 zTl zTy sS (fun j => sS (16 + j)) (fun q : Nat => s.heap.size ≤ q) s s.heap := by
    refine ⟨fun i hi => ?_, fun i j hi hj e => ?_⟩
    · have e1 : sS i = adK i := if_pos hi
      have e2 : sS (16 + i) = adV i := by
        show (if 16 + i < 9 then _ else if 16 + i < 25 then adV (16 + i - 16) else _) = _
        rw [if_neg (by omega), if_pos (by omega), Nat.add_sub_cancel_left]
      show va_O "java/lang/String" (sS i) _ s s.heap ∧ va_OF "java/lang/String" "coder" "B" (.int 0) (sS i) _ s s.heap ∧ va_OF "java/lang/String" "value" "[B" (.ref (sS (16 + i))) (sS i) _ s s.heap ∧ va_T .byte (sS (16 + i)) _ _ _ s s.heap
      rw [e1, e2]
      exact hST.1 i hi
    · have e1 : sS i = adK i := if_pos hi
      have e2 : sS j = adK j := if_pos hj
      rw [e1, e2] at e
      exact hST.2 i j hi hj e
  have hX0 : X0 s := by
    refine ⟨⟨fun j hj => ?_, hST', hC, hF⟩, ⟨vk_R.of (hts _ zsr_L) hL1, hU, hN, fun w hw => va_Nw.of (zxD_ot w hw) (hts w (zxD_in w hw))⟩, hX⟩
    have e1 : sS j = adK j := if_pos hj
    show vk_R RX12 (zTi.getD j 0) (zTs.getD j "") (sS j) s
    rw [e1]
    exact vk_R.of (hts _ (zsr_9 j hj)) (hev j hj)
  refine ⟨E0 X0, rfl, rfl, rfl, ⟨fun w hw ht => ztw_any ht (hts w hw), ⟨fun c q hq => ?_, fun k q hq => ?_⟩, va_AO.of (hts _ zao_1), va_AO.of (hts _ zao_6), hcl, hX0⟩, fun U h => h.1, fun U h => h.2.1, hbl, fun U h => h.2.2⟩
  · have hc : c < 13 := (List.getElem?_eq_some_iff.mp hq).1
    have e := zcl c hc
    rw [hq] at e
    cases e
    exact hkn c hc
  · match k, hq with
    | 0, hq => cases hq; exact ⟨r0, n0⟩
    | 1, hq => cases hq; exact ⟨r1, n1⟩
    | 2, hq => cases hq; exact ⟨r2, n2⟩
    | 3, hq => cases hq; exact ⟨r3, n3⟩
    | 4, hq => cases hq; exact ⟨r4, n4⟩
    | k + 5, hq => cases hq
