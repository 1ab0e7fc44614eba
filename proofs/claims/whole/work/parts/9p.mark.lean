/-! the mark of a reader -/
set_option maxRecDepth 20000 in
set_option maxHeartbeats 4000000 in
theorem j_stmark {E : zE} {S : zM} {Q : Option zV → zM → Prop} {r u : Nat} {bk : Bool} {K : List Nat} (hM : zMs S) (hr : r < 4) (hK : K.length ≤ 34) (h0 : zgI S 123 38 = nI K.length) (h6 : ∀ k, k < K.length → zgI S 156 (36 * r + k) = nI (K.getD k 0)) (cont : ∀ T, zK zXm S T → mM T K → zJ E 5 0 0 mX12_goesReader cX12_goesReader 103 [some (zR 123), some (zI (nI r)), some (zI (zbi bk)), some (zI (nI u)), some (zI (nI K.length))] [] T Q) : zJ E 5 0 0 mX12_goesReader cX12_goesReader 69 [some (zR 123), some (zI (nI r)), some (zI (zbi bk)), some (zI (nI u)), some (zI (nI 0))] [] S Q := by
  have lp : ∀ (m i : Nat) (T : zM), i + m = K.length → zK zXm S T → zgI T 123 38 = nI K.length → (∀ j, j < i → zgI T 139 j = nI (K.getD j 0)) → zJ E 5 0 0 mX12_goesReader cX12_goesReader 69 [some (zR 123), some (zI (nI r)), some (zI (zbi bk)), some (zI (nI u)), some (zI (nI i))] [] T Q := by
    intro m
    induction m with
    | zero =>
      intro i T hi hk h38 hq
      have mT := hk.ms hM
      refine j_iload (pc := 69) dX12_goesReader_69 rfl ?_
      refine j_aload_n (pc := 71) dX12_goesReader_71 rfl ?_
      refine j_getIv (pc := 72) dX12_goesReader_72 f_X12_348 (Or.inl rfl) mT.1 (h38) ?_
      refine j_icmp_ge (pc := 75) (tgt := 103) dX12_goesReader_75 (by decide) (fun h75 => ?_) (fun h75 => absurd (nI_le (show K.length ≤ i by omega) (by omega)) h75)
      have ei : i = K.length := by omega
      rw [ei]
      exact cont T hk ⟨h38, fun j hj => hq j (by omega)⟩
    | succ m ih =>
      intro i T hi hk h38 hq
      have mT := hk.ms hM
      refine j_iload (pc := 69) dX12_goesReader_69 rfl ?_
      refine j_aload_n (pc := 71) dX12_goesReader_71 rfl ?_
      refine j_getIv (pc := 72) dX12_goesReader_72 f_X12_348 (Or.inl rfl) mT.1 (h38) ?_
      refine j_icmp_ge (pc := 75) (tgt := 103) dX12_goesReader_75 (by decide) (fun h75 => absurd h75 (nI_ge (by omega) (by omega))) (fun h75 => ?_)
      refine j_aload_n (pc := 78) dX12_goesReader_78 rfl ?_
      refine j_getPv (pc := 79) dX12_goesReader_79 f_X12_63 (Or.inr ⟨_, rfl⟩) mT.1 (mp_mark mT) ?_
      refine j_iload (pc := 82) dX12_goesReader_82 rfl ?_
      refine j_aload_n (pc := 84) dX12_goesReader_84 rfl ?_
      refine j_getPv (pc := 85) dX12_goesReader_85 f_X12_114 (Or.inr ⟨_, rfl⟩) mT.1 (mp_stands mT) ?_
      refine j_bipush (pc := 88) (v := 36) dX12_goesReader_88 (by decide) ?_
      refine j_iload_n (pc := 90) dX12_goesReader_90 rfl ?_
      refine j_imul (pc := 91) dX12_goesReader_91 ?_
      rw [show (36 : Int32) * nI r = nI (36 * r) from pk_mul 36 _]
      refine j_iload (pc := 92) dX12_goesReader_92 rfl ?_
      refine j_iadd (pc := 94) dX12_goesReader_94 ?_
      rw [nI_add]
      refine j_ialdn (pc := 95) dX12_goesReader_95 (mk_stands mT) (by omega) (Nat.le_of_ble_eq_true rfl) ((hk.2.2.2.1 _ _ (by unfold zXm; omega)).trans (h6 i (by omega))) ?_
      refine j_iastn (pc := 96) dX12_goesReader_96 (mk_mark mT) (by omega) (Nat.le_of_ble_eq_true rfl) ?_
      refine j_iinc (pc := 97) (v := _ + 1) (ls' := [_, _, _, _, _]) dX12_goesReader_97 rfl rfl (by decide) rfl rfl ?_
      refine j_goto (pc := 100) (tgt := 69) dX12_goesReader_100 (by decide) ?_
      rw [nI_1]
      refine ih (i + 1) _ (by omega) (hk.tr (zK.wI (Or.inl rfl))) h38 (fun j hj => ?_)
      rw [zgI_wI]
      by_cases e : j = i
      · rw [if_pos ⟨rfl, e⟩, e]
      · rw [if_neg (fun q => e q.2)]
        exact hq j (by omega)
  exact lp K.length 0 S (by omega) zK.rf h0 (fun j hj => absurd hj (Nat.not_lt_zero j))
