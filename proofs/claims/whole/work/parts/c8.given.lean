/-! what holds as the law begins -/
theorem zinst : ∀ t, t < 13 → Cond.instantiable (zC t) (zN t) ∈ lw_tbl := z_13 (List.mem_of_getElem? (i := 417) (by decide +kernel)) (List.mem_of_getElem? (i := 118) (by decide +kernel)) (List.mem_of_getElem? (i := 494) (by decide +kernel)) (List.mem_of_getElem? (i := 363) (by decide +kernel)) (List.mem_of_getElem? (i := 214) (by decide +kernel)) (List.mem_of_getElem? (i := 488) (by decide +kernel)) (List.mem_of_getElem? (i := 257) (by decide +kernel)) (List.mem_of_getElem? (i := 141) (by decide +kernel)) (List.mem_of_getElem? (i := 390) (by decide +kernel)) (List.mem_of_getElem? (i := 357) (by decide +kernel)) (List.mem_of_getElem? (i := 135) (by decide +kernel)) (List.mem_of_getElem? (i := 110) (by decide +kernel)) (List.mem_of_getElem? (i := 1148) (by decide +kernel))
theorem zac_I : Cond.arrayClass .int ∈ lw_tbl := List.mem_of_getElem? (i := 133) (by decide +kernel)
theorem zac_L : Cond.arrayClass .long ∈ lw_tbl := List.mem_of_getElem? (i := 164) (by decide +kernel)
theorem zac_Z : Cond.arrayClass .boolean ∈ lw_tbl := List.mem_of_getElem? (i := 163) (by decide +kernel)
theorem zao_1 : Cond.arrayOver (.object RX1) ∈ lw_tbl := List.mem_of_getElem? (i := 166) (by decide +kernel)
theorem zao_6 : Cond.arrayOver (.object RX6) ∈ lw_tbl := List.mem_of_getElem? (i := 256) (by decide +kernel)
theorem zls_U : Cond.laysStatic Bundle.tN "UNASSIGNED_STACK" Bundle.steD ∈ lw_tbl := List.mem_of_getElem? (i := 1108) (by decide +kernel)
theorem zls_N : Cond.laysStatic Bundle.tN "SUPPRESSED_SENTINEL" Bundle.listD ∈ lw_tbl := List.mem_of_getElem? (i := 1110) (by decide +kernel)
theorem zls_C : Cond.laysStatic "java/lang/String" "COMPACT_STRINGS" "Z" ∈ lw_tbl := List.mem_of_getElem? (i := 1403) (by decide +kernel)
theorem zls_F : Cond.laysStatic zSF "SIOOBE_FORMATTER" zSD ∈ lw_tbl := List.mem_of_getElem? (i := 1419) (by decide +kernel)
theorem zin_T : Cond.initialized Bundle.tN ∈ lw_tbl := List.mem_of_getElem? (i := 105) (by decide +kernel)
theorem zin_S : Cond.initialized "java/lang/String" ∈ lw_tbl := List.mem_of_getElem? (i := 98) (by decide +kernel)
theorem zin_P : Cond.initialized zSF ∈ lw_tbl := List.mem_of_getElem? (i := 100) (by decide +kernel)
theorem zsr_L : Cond.stringRef RX11 314 zLT ∈ lw_tbl := List.mem_of_getElem? (i := 1120) (by decide +kernel)
theorem zsr_9 : ∀ j, j < 9 → Cond.stringRef RX12 (zTi.getD j 0) (zTs.getD j "") ∈ lw_tbl := by
  intro j hj
  match j, hj with
  | 0, _ => exact List.mem_of_getElem? (i := 1463) (by decide +kernel)
  | 1, _ => exact List.mem_of_getElem? (i := 1464) (by decide +kernel)
  | 2, _ => exact List.mem_of_getElem? (i := 1389) (by decide +kernel)
  | 3, _ => exact List.mem_of_getElem? (i := 1465) (by decide +kernel)
  | 4, _ => exact List.mem_of_getElem? (i := 1477) (by decide +kernel)
  | 5, _ => exact List.mem_of_getElem? (i := 1474) (by decide +kernel)
  | 6, _ => exact List.mem_of_getElem? (i := 1475) (by decide +kernel)
  | 7, _ => exact List.mem_of_getElem? (i := 1476) (by decide +kernel)
  | 8, _ => exact List.mem_of_getElem? (i := 1487) (by decide +kernel)
  | j + 9, h => exact absurd h (by omega)
theorem zxD_in : ∀ w ∈ zxD, w ∈ lw_tbl := zby [1085, 1087, 1089, 1083] (by decide +kernel)
abbrev zflt : List Cond := flatC (Jvm.Cond.and given_1 narrow_1)
abbrev ztm (i : Nat) : Term := .string RX12 (zTi.getD i 0)
theorem zf_ex : ∀ i, i < 9 → Cond.exactly (ztm i) "java/lang/String" ∈ zflt := by decide +kernel
theorem zf_co : ∀ i, i < 9 → Cond.eq (.field (ztm i) "java/lang/String" "coder" "B") (.int 0) ∈ zflt := by decide +kernel
theorem zf_ar : ∀ i, i < 9 → Cond.arrayOf (.field (ztm i) "java/lang/String" "value" "[B") .byte ∈ zflt := by decide +kernel
theorem zf_le : ∀ i, i < 9 → Cond.eq (.length (.field (ztm i) "java/lang/String" "value" "[B")) (.int (Int32.ofNat (zTl.getD i 0))) ∈ zflt := by decide +kernel
theorem zf_el : ∀ i, i < 9 → ∀ j, j < zTl.getD i 0 → Cond.eq (.elem (.field (ztm i) "java/lang/String" "value" "[B") (.int (Int32.ofNat j))) (.int ((zTy.getD i []).getD j 0)) ∈ zflt := by decide +kernel
theorem zf_ne : ∀ i, i < 9 → ∀ j, j < 9 → i ≠ j → Cond.not (Cond.eq (ztm i) (ztm j)) ∈ zflt ∨ Cond.not (Cond.eq (ztm j) (ztm i)) ∈ zflt := by decide +kernel
theorem zf_U : Cond.isRef (.static Bundle.tN "UNASSIGNED_STACK" Bundle.steD) ∈ zflt := by decide +kernel
theorem zf_N : Cond.isRef (.static Bundle.tN "SUPPRESSED_SENTINEL" Bundle.listD) ∈ zflt := by decide +kernel
theorem zf_C : Cond.eq (.static "java/lang/String" "COMPACT_STRINGS" "Z") (.int 1) ∈ zflt := by decide +kernel
theorem zf_F : Cond.isRef (.static zSF "SIOOBE_FORMATTER" zSD) ∈ zflt := by decide +kernel
theorem zf_X : Cond.exactly (.string RX11 314) "java/lang/String" ∈ zflt := by decide +kernel
