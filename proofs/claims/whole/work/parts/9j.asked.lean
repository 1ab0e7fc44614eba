/-! a token's key cut to 42 bytes falls where the whole one does -/
theorem zkl_cut : ∀ (K G : List Nat) (n : Nat), K.length < n → zkl K (G.take n) = zkl K G ∧ zkl (G.take n) K = zkl G K
  | K, [], n, _ => by rw [List.take_nil]; exact ⟨rfl, rfl⟩
  | K, g :: G, 0, h => absurd h (Nat.not_lt_zero _)
  | [], g :: G, n + 1, _ => ⟨rfl, rfl⟩
  | a :: K, g :: G, n + 1, h => by
    have ih := zkl_cut K G n (Nat.lt_of_succ_lt_succ h)
    rw [List.take_succ_cons]
    constructor
    · show (decide (a < g) || (decide (a = g) && zkl K (G.take n))) = (decide (a < g) || (decide (a = g) && zkl K G))
      rw [ih.1]
    · show (decide (g < a) || (decide (g = a) && zkl (G.take n) K)) = (decide (g < a) || (decide (g = a) && zkl G K))
      rw [ih.2]
theorem zlf_cut {O : List zOe} {V : List zSe} {t : zRW} {G : List Nat} (hO : O.length ≤ 4) : zlf O V t (G.take 42) = zlf O V t G := congrArg List.length (tw_cong (fun x _ => (zkl_cut _ G 42 (Nat.lt_of_le_of_lt (zkf_len hO) (by decide))).1))
theorem zlg_cut {O : List zOe} {V : List zSe} {t : zRW} {G : List Nat} (hO : O.length ≤ 4) : zlg O V t (G.take 42) = zlg O V t G := congrArg List.length (tw_cong (fun x _ => by rw [(zkl_cut _ G 42 (Nat.lt_of_le_of_lt (zkf_len hO) (by decide))).2]))
theorem zbf_cut {O : List zOe} {V : List zSe} {t : zRW} {G : List Nat} {z : Nat} {on : Bool} (hO : O.length ≤ 4) : zbf O V t (G.take 42) z on = zbf O V t G z on := by
  cases on
  · exact congrArg (fun k => k - z) (zlf_cut hO)
  · exact zlg_cut hO
theorem zbe_cut {O : List zOe} {V : List zSe} {t : zRW} {G : List Nat} {z : Nat} {on : Bool} (hO : O.length ≤ 4) : zbe O V t (G.take 42) z on = zbe O V t G z on := by
  cases on
  · exact zlf_cut hO
  · exact congrArg (fun k => min (k + z) _) (zlg_cut hO)
abbrev zXask (c k : Nat) : Prop := c = 150 ∨ (c = 123 ∧ k = 54) ∨ zXm c k
theorem zXask.s {c k : Nat} (h : zXask c k) : zXs c k := by
  unfold zXask zXm at h
  unfold zXs
  omega
theorem zK.af {S T : zM} (f : zK zXask S T) : zF zMX S T := f.f (fun c k z => by unfold zXask zXm at z; unfold zMX; omega)
theorem zgk_len {F : List Nat} {k : Nat} (h : k ≤ F.length) : ((zgk F k).take 42).length = min 42 (k - 6) := by
  rw [List.length_take, List.length_take, List.length_drop]
  omega
theorem zgk_at {F : List Nat} {k i : Nat} (h1 : i < 42) (h2 : i < k - 6) : ((zgk F k).take 42).getD i 0 = F.getD (5 + i) 0 := by
  rw [List.getD_eq_getElem?_getD, List.getD_eq_getElem?_getD, List.getElem?_take_of_lt h1, List.getElem?_take_of_lt h2, List.getElem?_drop]
theorem ztk_at {F : List Nat} {k i : Nat} (h : i < k) : (F.take k).getD i 0 = F.getD i 0 := by
  rw [List.getD_eq_getElem?_getD, List.getD_eq_getElem?_getD, List.getElem?_take_of_lt h]
set_option maxRecDepth 20000 in
set_option maxHeartbeats 4000000 in
theorem n_laysAsked {E : zE} {S : zM} {F : List Nat} {k : Nat} (hM : zMs S) (hA : mTp S F) (hF9 : F.length ≤ 900) (hk8 : 8 ≤ k) (hk2 : k ≤ F.length) : zSp E 0 0 0 mX12_laysAsked cX12_laysAsked [zR 123, zI (nI k)] S (fun r T => r = none ∧ zK zXask S T ∧ mAs T (F.take k) ∧ mM T ((zgk F k).take 42)) := by
  refine zSp.of (by decide) rfl (Nat.le_of_ble_eq_true rfl) rfl ?_
  have hgl : ((zgk F k).take 42).length = min 42 (k - 6) := zgk_len hk2
  have lp2 : ∀ (m i : Nat) (T : zM), i + m = ((zgk F k).take 42).length → zK zXask S T → mAs T (F.take k) → zgI T 123 38 = nI ((zgk F k).take 42).length → (∀ j, j < i → zgI T 139 j = nI (((zgk F k).take 42).getD j 0)) → zJ E 0 0 0 mX12_laysAsked cX12_laysAsked 54 [some (zR 123), some (zI (nI k)), some (zI (nI i))] [] T (fun r T => r = none ∧ zK zXask S T ∧ mAs T (F.take k) ∧ mM T ((zgk F k).take 42)) := by
    intro m
    induction m with
    | zero =>
      intro i T hi hk has h38 hq
      have mT := hk.ms hM
      refine j_iload_n (pc := 54) dX12_laysAsked_54 rfl ?_
      refine j_aload_n (pc := 55) dX12_laysAsked_55 rfl ?_
      refine j_getIv (pc := 56) dX12_laysAsked_56 f_X12_348 (Or.inl rfl) mT.1 (h38) ?_
      refine j_icmp_ge (pc := 59) (tgt := 82) dX12_laysAsked_59 (by decide) (fun h59 => ?_) (fun h59 => absurd (nI_le (show ((zgk F k).take 42).length ≤ i by omega) (by omega)) h59)
      refine j_vret (pc := 82) dX12_laysAsked_82 rfl ?_
      exact ⟨rfl, hk, has, h38, fun j hj => hq j (by omega)⟩
    | succ m ih =>
      intro i T hi hk has h38 hq
      have mT := hk.ms hM
      have hAT : mTp T F := fun i hi => (hk.2.2.2.1 _ _ (by unfold zXask zXm; omega)).trans (hA i hi)
      refine j_iload_n (pc := 54) dX12_laysAsked_54 rfl ?_
      refine j_aload_n (pc := 55) dX12_laysAsked_55 rfl ?_
      refine j_getIv (pc := 56) dX12_laysAsked_56 f_X12_348 (Or.inl rfl) mT.1 (h38) ?_
      refine j_icmp_ge (pc := 59) (tgt := 82) dX12_laysAsked_59 (by decide) (fun h59 => absurd h59 (nI_ge (by omega) (by omega))) (fun h59 => ?_)
      refine j_aload_n (pc := 62) dX12_laysAsked_62 rfl ?_
      refine j_getPv (pc := 63) dX12_laysAsked_63 f_X12_63 (Or.inr ⟨_, rfl⟩) mT.1 (mp_mark mT) ?_
      refine j_iload_n (pc := 66) dX12_laysAsked_66 rfl ?_
      refine j_aload_n (pc := 67) dX12_laysAsked_67 rfl ?_
      refine j_getPv (pc := 68) dX12_laysAsked_68 f_X12_15 (Or.inr ⟨_, rfl⟩) mT.1 (mp_tape mT) ?_
      refine j_iconst (pc := 71) (v := 5) dX12_laysAsked_71 (by decide) ?_
      refine j_iload_n (pc := 72) dX12_laysAsked_72 rfl ?_
      refine j_iadd (pc := 73) dX12_laysAsked_73 ?_
      rw [show (5 : Int32) + nI i = nI (5 + i) from nI_add 5 _]
      refine j_ialdn (pc := 74) dX12_laysAsked_74 (mk_tape mT) (by omega) (Nat.le_of_ble_eq_true rfl) (hAT (5 + i) (by omega)) ?_
      refine j_iastn (pc := 75) dX12_laysAsked_75 (mk_mark mT) (by omega) (Nat.le_of_ble_eq_true rfl) ?_
      refine j_iinc (pc := 76) (v := _ + 1) (ls' := [_, _, _]) dX12_laysAsked_76 rfl rfl (by decide) rfl rfl ?_
      refine j_goto (pc := 79) (tgt := 54) dX12_laysAsked_79 (by decide) ?_
      rw [nI_1]
      refine ih (i + 1) _ (by omega) (hk.tr (zK.wI (Or.inr (Or.inr (Or.inl rfl))))) has h38 (fun j hj => ?_)
      rw [zgI_wI]
      by_cases e : j = i
      · rw [if_pos ⟨rfl, e⟩, e, zgk_at (by omega) (by omega)]
      · rw [if_neg (fun q => e q.2)]
        exact hq j (by omega)
  have lp : ∀ (m i : Nat) (T : zM), i + m = k → zK zXask S T → zgI T 123 54 = nI k → (∀ j, j < i → zgI T 150 j = nI ((F.take k).getD j 0)) → zJ E 0 0 0 mX12_laysAsked cX12_laysAsked 7 [some (zR 123), some (zI (nI k)), some (zI (nI i))] [] T (fun r T => r = none ∧ zK zXask S T ∧ mAs T (F.take k) ∧ mM T ((zgk F k).take 42)) := by
    intro m
    induction m with
    | zero =>
      intro i T hi hk h54 hq
      have mT := hk.ms hM
      refine j_iload_n (pc := 7) dX12_laysAsked_7 rfl ?_
      refine j_iload_n (pc := 8) dX12_laysAsked_8 rfl ?_
      refine j_icmp_ge (pc := 9) (tgt := 30) dX12_laysAsked_9 (by decide) (fun h9 => ?_) (fun h9 => absurd (nI_le (show k ≤ i by omega) (by omega)) h9)
      refine j_aload_n (pc := 30) dX12_laysAsked_30 rfl ?_
      refine j_iload_n (pc := 31) dX12_laysAsked_31 rfl ?_
      refine j_bipush (pc := 32) (v := 6) dX12_laysAsked_32 (by decide) ?_
      refine j_isub (pc := 34) dX12_laysAsked_34 ?_
      rw [show nI k - 6 = nI (k - 6) from pk_sub (b := 6) (by omega)]
      refine j_bipush (pc := 35) (v := 42) dX12_laysAsked_35 (by decide) ?_
      refine j_icmp_ge (pc := 37) (tgt := 47) dX12_laysAsked_37 (by decide) (fun h37 => ?_) (fun h37 => ?_)
      · refine j_bipush (pc := 47) (v := 42) dX12_laysAsked_47 (by decide) ?_
        refine j_putI (pc := 49) dX12_laysAsked_49 f_X12_348 rfl mT.1 rfl ?_
        refine j_iconst (pc := 52) (v := 0) dX12_laysAsked_52 (by decide) ?_
        refine j_istore_n (pc := 53) (ls' := [_, _, _]) dX12_laysAsked_53 (by decide) rfl rfl ?_
        exact lp2 ((zgk F k).take 42).length 0 _ (by omega) (hk.tr (zK.wI (Or.inr (Or.inr (Or.inr ⟨rfl, rfl⟩))))) ⟨h54.trans (by rw [List.length_take, Nat.min_eq_left hk2]), fun j hj => (hq j (by rw [List.length_take] at hj; omega))⟩ (by rw [zgI_wI, if_pos ⟨rfl, rfl⟩, hgl, Nat.min_eq_left (Nat.le_of_not_lt (fun q => absurd (nI_lt q (by decide)) (Int32.not_lt.mpr h37)))]; rfl) (fun j hj => absurd hj (Nat.not_lt_zero j))
      · refine j_iload_n (pc := 40) dX12_laysAsked_40 rfl ?_
        refine j_bipush (pc := 41) (v := 6) dX12_laysAsked_41 (by decide) ?_
        refine j_isub (pc := 43) dX12_laysAsked_43 ?_
        rw [show nI k - 6 = nI (k - 6) from pk_sub (b := 6) (by omega)]
        refine j_goto (pc := 44) (tgt := 49) dX12_laysAsked_44 (by decide) ?_
        refine j_putI (pc := 49) dX12_laysAsked_49 f_X12_348 rfl mT.1 rfl ?_
        refine j_iconst (pc := 52) (v := 0) dX12_laysAsked_52 (by decide) ?_
        refine j_istore_n (pc := 53) (ls' := [_, _, _]) dX12_laysAsked_53 (by decide) rfl rfl ?_
        exact lp2 ((zgk F k).take 42).length 0 _ (by omega) (hk.tr (zK.wI (Or.inr (Or.inr (Or.inr ⟨rfl, rfl⟩))))) ⟨h54.trans (by rw [List.length_take, Nat.min_eq_left hk2]), fun j hj => (hq j (by rw [List.length_take] at hj; omega))⟩ (by rw [zgI_wI, if_pos ⟨rfl, rfl⟩, hgl, Nat.min_eq_right (Nat.le_of_not_lt (fun q => h37 (nI_le (Nat.le_of_lt q) (by omega))))]) (fun j hj => absurd hj (Nat.not_lt_zero j))
    | succ m ih =>
      intro i T hi hk h54 hq
      have mT := hk.ms hM
      have hAT : mTp T F := fun i hi => (hk.2.2.2.1 _ _ (by unfold zXask zXm; omega)).trans (hA i hi)
      refine j_iload_n (pc := 7) dX12_laysAsked_7 rfl ?_
      refine j_iload_n (pc := 8) dX12_laysAsked_8 rfl ?_
      refine j_icmp_ge (pc := 9) (tgt := 30) dX12_laysAsked_9 (by decide) (fun h9 => absurd h9 (nI_ge (by omega) (by omega))) (fun h9 => ?_)
      refine j_aload_n (pc := 12) dX12_laysAsked_12 rfl ?_
      refine j_getPv (pc := 13) dX12_laysAsked_13 f_X12_96 (Or.inr ⟨_, rfl⟩) mT.1 (mp_asked mT) ?_
      refine j_iload_n (pc := 16) dX12_laysAsked_16 rfl ?_
      refine j_aload_n (pc := 17) dX12_laysAsked_17 rfl ?_
      refine j_getPv (pc := 18) dX12_laysAsked_18 f_X12_15 (Or.inr ⟨_, rfl⟩) mT.1 (mp_tape mT) ?_
      refine j_iload_n (pc := 21) dX12_laysAsked_21 rfl ?_
      refine j_ialdn (pc := 22) dX12_laysAsked_22 (mk_tape mT) (by omega) (Nat.le_of_ble_eq_true rfl) (hAT i (by omega)) ?_
      refine j_iastn (pc := 23) dX12_laysAsked_23 (mk_asked mT) (by omega) (Nat.le_of_ble_eq_true rfl) ?_
      refine j_iinc (pc := 24) (v := _ + 1) (ls' := [_, _, _]) dX12_laysAsked_24 rfl rfl (by decide) rfl rfl ?_
      refine j_goto (pc := 27) (tgt := 7) dX12_laysAsked_27 (by decide) ?_
      rw [nI_1]
      refine ih (i + 1) _ (by omega) (hk.tr (zK.wI (Or.inl rfl))) h54 (fun j hj => ?_)
      rw [zgI_wI]
      by_cases e : j = i
      · rw [if_pos ⟨rfl, e⟩, e, ztk_at (by omega)]
      · rw [if_neg (fun q => e q.2)]
        exact hq j (by omega)
  refine j_aload_n (pc := 0) dX12_laysAsked_0 rfl ?_
  refine j_iload_n (pc := 1) dX12_laysAsked_1 rfl ?_
  refine j_putI (pc := 2) dX12_laysAsked_2 f_X12_409 rfl hM.1 rfl ?_
  refine j_iconst (pc := 5) (v := 0) dX12_laysAsked_5 (by decide) ?_
  refine j_istore_n (pc := 6) (ls' := [_, _, _]) dX12_laysAsked_6 (by decide) rfl rfl ?_
  exact lp k 0 _ (by omega) (zK.wI (Or.inr (Or.inl ⟨rfl, rfl⟩))) rfl (fun j hj => absurd hj (Nat.not_lt_zero j))
