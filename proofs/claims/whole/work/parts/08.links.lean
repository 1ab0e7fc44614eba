theorem n_X11_11 : Cond.classLink RX11 11 (zC 1) ∈ lw_tbl := List.mem_of_getElem? (i := 117) (by decide +kernel)
theorem nl_X11_11 : zNL RX11 11 1 := ⟨by decide, n_X11_11, List.mem_of_getElem? (i := 118) (by decide +kernel), List.mem_of_getElem? (i := 86) (by decide +kernel)⟩
theorem f_X1_9 : zFL RX1 9 1 0 := ⟨by decide, by decide, Or.inl (List.mem_of_getElem? (i := 123) (by decide +kernel))⟩
theorem fp_X1_9 : Cond.fieldLink RX1 9 (zC 1) (zT 1 0).2.1 (zT 1 0).2.2.1 ∈ lw_tbl := List.mem_of_getElem? (i := 123) (by decide +kernel)
theorem f_X1_15 : zFL RX1 15 1 1 := ⟨by decide, by decide, Or.inl (List.mem_of_getElem? (i := 124) (by decide +kernel))⟩
theorem f_X11_58 : zFL RX11 58 1 1 := ⟨by decide, by decide, Or.inr ⟨"DriftPages", List.mem_of_getElem? (i := 125) (by decide +kernel)⟩⟩
theorem f_X6_66 : zFL RX6 66 1 1 := ⟨by decide, by decide, Or.inr ⟨"DriftPages", List.mem_of_getElem? (i := 126) (by decide +kernel)⟩⟩
theorem f_X4_104 : zFL RX4 104 1 1 := ⟨by decide, by decide, Or.inr ⟨"DriftPages", List.mem_of_getElem? (i := 127) (by decide +kernel)⟩⟩
theorem n_X11_23 : Cond.classLink RX11 23 (zC 10) ∈ lw_tbl := List.mem_of_getElem? (i := 134) (by decide +kernel)
theorem nl_X11_23 : zNL RX11 23 10 := ⟨by decide, n_X11_23, List.mem_of_getElem? (i := 135) (by decide +kernel), List.mem_of_getElem? (i := 87) (by decide +kernel)⟩
theorem n_X10_9 : Cond.classLink RX10 9 (zC 7) ∈ lw_tbl := List.mem_of_getElem? (i := 140) (by decide +kernel)
theorem nl_X10_9 : zNL RX10 9 7 := ⟨by decide, n_X10_9, List.mem_of_getElem? (i := 141) (by decide +kernel), List.mem_of_getElem? (i := 88) (by decide +kernel)⟩
theorem f_X7_9 : zFL RX7 9 7 0 := ⟨by decide, by decide, Or.inl (List.mem_of_getElem? (i := 146) (by decide +kernel))⟩
theorem fp_X7_9 : Cond.fieldLink RX7 9 (zC 7) (zT 7 0).2.1 (zT 7 0).2.2.1 ∈ lw_tbl := List.mem_of_getElem? (i := 146) (by decide +kernel)
theorem f_X7_15 : zFL RX7 15 7 1 := ⟨by decide, by decide, Or.inl (List.mem_of_getElem? (i := 147) (by decide +kernel))⟩
theorem fp_X7_15 : Cond.fieldLink RX7 15 (zC 7) (zT 7 1).2.1 (zT 7 1).2.2.1 ∈ lw_tbl := List.mem_of_getElem? (i := 147) (by decide +kernel)
theorem f_X7_19 : zFL RX7 19 7 2 := ⟨by decide, by decide, Or.inl (List.mem_of_getElem? (i := 148) (by decide +kernel))⟩
theorem f_X10_75 : zFL RX10 75 7 2 := ⟨by decide, by decide, Or.inr ⟨"DriftPages", List.mem_of_getElem? (i := 149) (by decide +kernel)⟩⟩
theorem f_X11_116 : zFL RX11 116 7 2 := ⟨by decide, by decide, Or.inr ⟨"DriftPages", List.mem_of_getElem? (i := 150) (by decide +kernel)⟩⟩
theorem f_X5_125 : zFL RX5 125 7 2 := ⟨by decide, by decide, Or.inr ⟨"DriftPages", List.mem_of_getElem? (i := 151) (by decide +kernel)⟩⟩
theorem f_X7_23 : zFL RX7 23 7 3 := ⟨by decide, by decide, Or.inl (List.mem_of_getElem? (i := 152) (by decide +kernel))⟩
theorem f_X11_100 : zFL RX11 100 7 3 := ⟨by decide, by decide, Or.inr ⟨"DriftPages", List.mem_of_getElem? (i := 153) (by decide +kernel)⟩⟩
theorem n_X10_22 : Cond.classLink RX10 22 (zC 1) ∈ lw_tbl := List.mem_of_getElem? (i := 165) (by decide +kernel)
theorem nl_X10_22 : zNL RX10 22 1 := ⟨by decide, n_X10_22, List.mem_of_getElem? (i := 118) (by decide +kernel), List.mem_of_getElem? (i := 86) (by decide +kernel)⟩
theorem f_X10_12 : zFL RX10 12 10 0 := ⟨by decide, by decide, Or.inl (List.mem_of_getElem? (i := 168) (by decide +kernel))⟩
theorem fp_X10_12 : Cond.fieldLink RX10 12 (zC 10) (zT 10 0).2.1 (zT 10 0).2.2.1 ∈ lw_tbl := List.mem_of_getElem? (i := 168) (by decide +kernel)
theorem f_X4_60 : zFL RX4 60 10 0 := ⟨by decide, by decide, Or.inr ⟨"DriftPages", List.mem_of_getElem? (i := 169) (by decide +kernel)⟩⟩
theorem f_X11_173 : zFL RX11 173 10 0 := ⟨by decide, by decide, Or.inr ⟨"DriftPages", List.mem_of_getElem? (i := 170) (by decide +kernel)⟩⟩
theorem f_X10_18 : zFL RX10 18 10 1 := ⟨by decide, by decide, Or.inl (List.mem_of_getElem? (i := 171) (by decide +kernel))⟩
theorem fp_X10_18 : Cond.fieldLink RX10 18 (zC 10) (zT 10 1).2.1 (zT 10 1).2.2.1 ∈ lw_tbl := List.mem_of_getElem? (i := 171) (by decide +kernel)
theorem f_X11_190 : zFL RX11 190 10 1 := ⟨by decide, by decide, Or.inr ⟨"DriftPages", List.mem_of_getElem? (i := 172) (by decide +kernel)⟩⟩
theorem f_X10_24 : zFL RX10 24 10 2 := ⟨by decide, by decide, Or.inl (List.mem_of_getElem? (i := 173) (by decide +kernel))⟩
theorem fp_X10_24 : Cond.fieldLink RX10 24 (zC 10) (zT 10 2).2.1 (zT 10 2).2.2.1 ∈ lw_tbl := List.mem_of_getElem? (i := 173) (by decide +kernel)
theorem f_X10_31 : zFL RX10 31 10 3 := ⟨by decide, by decide, Or.inl (List.mem_of_getElem? (i := 174) (by decide +kernel))⟩
theorem fp_X10_31 : Cond.fieldLink RX10 31 (zC 10) (zT 10 3).2.1 (zT 10 3).2.2.1 ∈ lw_tbl := List.mem_of_getElem? (i := 174) (by decide +kernel)
theorem f_X10_34 : zFL RX10 34 10 4 := ⟨by decide, by decide, Or.inl (List.mem_of_getElem? (i := 175) (by decide +kernel))⟩
theorem f_X10_38 : zFL RX10 38 10 5 := ⟨by decide, by decide, Or.inl (List.mem_of_getElem? (i := 176) (by decide +kernel))⟩
theorem f_X4_73 : zFL RX4 73 10 5 := ⟨by decide, by decide, Or.inr ⟨"DriftPages", List.mem_of_getElem? (i := 177) (by decide +kernel)⟩⟩
theorem f_X10_41 : zFL RX10 41 10 6 := ⟨by decide, by decide, Or.inl (List.mem_of_getElem? (i := 178) (by decide +kernel))⟩
theorem f_X6_50 : zFL RX6 50 10 6 := ⟨by decide, by decide, Or.inr ⟨"DriftPages", List.mem_of_getElem? (i := 179) (by decide +kernel)⟩⟩
theorem f_X4_48 : zFL RX4 48 10 6 := ⟨by decide, by decide, Or.inr ⟨"DriftPages", List.mem_of_getElem? (i := 180) (by decide +kernel)⟩⟩
theorem f_X11_376 : zFL RX11 376 10 6 := ⟨by decide, by decide, Or.inr ⟨"DriftPages", List.mem_of_getElem? (i := 181) (by decide +kernel)⟩⟩
theorem f_X10_44 : zFL RX10 44 10 7 := ⟨by decide, by decide, Or.inl (List.mem_of_getElem? (i := 182) (by decide +kernel))⟩
theorem f_X6_55 : zFL RX6 55 10 7 := ⟨by decide, by decide, Or.inr ⟨"DriftPages", List.mem_of_getElem? (i := 183) (by decide +kernel)⟩⟩
theorem f_X4_53 : zFL RX4 53 10 7 := ⟨by decide, by decide, Or.inr ⟨"DriftPages", List.mem_of_getElem? (i := 184) (by decide +kernel)⟩⟩
theorem f_X11_373 : zFL RX11 373 10 7 := ⟨by decide, by decide, Or.inr ⟨"DriftPages", List.mem_of_getElem? (i := 185) (by decide +kernel)⟩⟩
theorem f_X10_47 : zFL RX10 47 10 8 := ⟨by decide, by decide, Or.inl (List.mem_of_getElem? (i := 186) (by decide +kernel))⟩
theorem f_X10_51 : zFL RX10 51 10 9 := ⟨by decide, by decide, Or.inl (List.mem_of_getElem? (i := 187) (by decide +kernel))⟩
theorem f_X10_54 : zFL RX10 54 10 10 := ⟨by decide, by decide, Or.inl (List.mem_of_getElem? (i := 188) (by decide +kernel))⟩
theorem f_X4_98 : zFL RX4 98 10 10 := ⟨by decide, by decide, Or.inr ⟨"DriftPages", List.mem_of_getElem? (i := 189) (by decide +kernel)⟩⟩
theorem n_X11_30 : Cond.classLink RX11 30 (zC 4) ∈ lw_tbl := List.mem_of_getElem? (i := 213) (by decide +kernel)
theorem nl_X11_30 : zNL RX11 30 4 := ⟨by decide, n_X11_30, List.mem_of_getElem? (i := 214) (by decide +kernel), List.mem_of_getElem? (i := 89) (by decide +kernel)⟩
theorem n_X4_19 : Cond.classLink RX4 19 (zC 1) ∈ lw_tbl := List.mem_of_getElem? (i := 219) (by decide +kernel)
theorem nl_X4_19 : zNL RX4 19 1 := ⟨by decide, n_X4_19, List.mem_of_getElem? (i := 118) (by decide +kernel), List.mem_of_getElem? (i := 86) (by decide +kernel)⟩
theorem f_X4_9 : zFL RX4 9 4 0 := ⟨by decide, by decide, Or.inl (List.mem_of_getElem? (i := 221) (by decide +kernel))⟩
theorem fp_X4_9 : Cond.fieldLink RX4 9 (zC 4) (zT 4 0).2.1 (zT 4 0).2.2.1 ∈ lw_tbl := List.mem_of_getElem? (i := 221) (by decide +kernel)
theorem f_X11_222 : zFL RX11 222 4 0 := ⟨by decide, by decide, Or.inr ⟨"DriftPages", List.mem_of_getElem? (i := 222) (by decide +kernel)⟩⟩
theorem f_X4_15 : zFL RX4 15 4 1 := ⟨by decide, by decide, Or.inl (List.mem_of_getElem? (i := 223) (by decide +kernel))⟩
theorem fp_X4_15 : Cond.fieldLink RX4 15 (zC 4) (zT 4 1).2.1 (zT 4 1).2.2.1 ∈ lw_tbl := List.mem_of_getElem? (i := 223) (by decide +kernel)
theorem f_X11_223 : zFL RX11 223 4 1 := ⟨by decide, by decide, Or.inr ⟨"DriftPages", List.mem_of_getElem? (i := 224) (by decide +kernel)⟩⟩
theorem f_X4_24 : zFL RX4 24 4 2 := ⟨by decide, by decide, Or.inl (List.mem_of_getElem? (i := 225) (by decide +kernel))⟩
theorem fp_X4_24 : Cond.fieldLink RX4 24 (zC 4) (zT 4 2).2.1 (zT 4 2).2.2.1 ∈ lw_tbl := List.mem_of_getElem? (i := 225) (by decide +kernel)
theorem f_X4_28 : zFL RX4 28 4 3 := ⟨by decide, by decide, Or.inl (List.mem_of_getElem? (i := 226) (by decide +kernel))⟩
theorem fp_X4_28 : Cond.fieldLink RX4 28 (zC 4) (zT 4 3).2.1 (zT 4 3).2.2.1 ∈ lw_tbl := List.mem_of_getElem? (i := 226) (by decide +kernel)
theorem f_X4_31 : zFL RX4 31 4 4 := ⟨by decide, by decide, Or.inl (List.mem_of_getElem? (i := 227) (by decide +kernel))⟩
theorem fp_X4_31 : Cond.fieldLink RX4 31 (zC 4) (zT 4 4).2.1 (zT 4 4).2.2.1 ∈ lw_tbl := List.mem_of_getElem? (i := 227) (by decide +kernel)
theorem f_X4_34 : zFL RX4 34 4 5 := ⟨by decide, by decide, Or.inl (List.mem_of_getElem? (i := 228) (by decide +kernel))⟩
theorem f_X11_89 : zFL RX11 89 4 5 := ⟨by decide, by decide, Or.inr ⟨"DriftPages", List.mem_of_getElem? (i := 229) (by decide +kernel)⟩⟩
theorem f_X4_38 : zFL RX4 38 4 6 := ⟨by decide, by decide, Or.inl (List.mem_of_getElem? (i := 230) (by decide +kernel))⟩
theorem f_X11_204 : zFL RX11 204 4 6 := ⟨by decide, by decide, Or.inr ⟨"DriftPages", List.mem_of_getElem? (i := 231) (by decide +kernel)⟩⟩
theorem f_X4_42 : zFL RX4 42 4 7 := ⟨by decide, by decide, Or.inl (List.mem_of_getElem? (i := 232) (by decide +kernel))⟩
theorem f_X11_230 : zFL RX11 230 4 7 := ⟨by decide, by decide, Or.inr ⟨"DriftPages", List.mem_of_getElem? (i := 233) (by decide +kernel)⟩⟩
theorem f_X4_45 : zFL RX4 45 4 8 := ⟨by decide, by decide, Or.inl (List.mem_of_getElem? (i := 234) (by decide +kernel))⟩
theorem f_X11_233 : zFL RX11 233 4 8 := ⟨by decide, by decide, Or.inr ⟨"DriftPages", List.mem_of_getElem? (i := 235) (by decide +kernel)⟩⟩
theorem n_X11_37 : Cond.classLink RX11 37 (zC 6) ∈ lw_tbl := List.mem_of_getElem? (i := 255) (by decide +kernel)
theorem nl_X11_37 : zNL RX11 37 6 := ⟨by decide, n_X11_37, List.mem_of_getElem? (i := 257) (by decide +kernel), List.mem_of_getElem? (i := 90) (by decide +kernel)⟩
theorem n_X6_18 : Cond.classLink RX6 18 (zC 1) ∈ lw_tbl := List.mem_of_getElem? (i := 262) (by decide +kernel)
theorem nl_X6_18 : zNL RX6 18 1 := ⟨by decide, n_X6_18, List.mem_of_getElem? (i := 118) (by decide +kernel), List.mem_of_getElem? (i := 86) (by decide +kernel)⟩
theorem f_X6_9 : zFL RX6 9 6 0 := ⟨by decide, by decide, Or.inl (List.mem_of_getElem? (i := 264) (by decide +kernel))⟩
theorem fp_X6_9 : Cond.fieldLink RX6 9 (zC 6) (zT 6 0).2.1 (zT 6 0).2.2.1 ∈ lw_tbl := List.mem_of_getElem? (i := 264) (by decide +kernel)
theorem f_X11_259 : zFL RX11 259 6 0 := ⟨by decide, by decide, Or.inr ⟨"DriftPages", List.mem_of_getElem? (i := 265) (by decide +kernel)⟩⟩
theorem f_X6_15 : zFL RX6 15 6 1 := ⟨by decide, by decide, Or.inl (List.mem_of_getElem? (i := 266) (by decide +kernel))⟩
theorem fp_X6_15 : Cond.fieldLink RX6 15 (zC 6) (zT 6 1).2.1 (zT 6 1).2.2.1 ∈ lw_tbl := List.mem_of_getElem? (i := 266) (by decide +kernel)
theorem f_X6_23 : zFL RX6 23 6 2 := ⟨by decide, by decide, Or.inl (List.mem_of_getElem? (i := 267) (by decide +kernel))⟩
theorem fp_X6_23 : Cond.fieldLink RX6 23 (zC 6) (zT 6 2).2.1 (zT 6 2).2.2.1 ∈ lw_tbl := List.mem_of_getElem? (i := 267) (by decide +kernel)
theorem f_X11_363 : zFL RX11 363 6 2 := ⟨by decide, by decide, Or.inr ⟨"DriftPages", List.mem_of_getElem? (i := 268) (by decide +kernel)⟩⟩
theorem f_X6_27 : zFL RX6 27 6 3 := ⟨by decide, by decide, Or.inl (List.mem_of_getElem? (i := 269) (by decide +kernel))⟩
theorem f_X11_332 : zFL RX11 332 6 3 := ⟨by decide, by decide, Or.inr ⟨"DriftPages", List.mem_of_getElem? (i := 270) (by decide +kernel)⟩⟩
theorem f_X6_31 : zFL RX6 31 6 4 := ⟨by decide, by decide, Or.inl (List.mem_of_getElem? (i := 271) (by decide +kernel))⟩
theorem f_X11_359 : zFL RX11 359 6 4 := ⟨by decide, by decide, Or.inr ⟨"DriftPages", List.mem_of_getElem? (i := 272) (by decide +kernel)⟩⟩
theorem f_X6_34 : zFL RX6 34 6 5 := ⟨by decide, by decide, Or.inl (List.mem_of_getElem? (i := 273) (by decide +kernel))⟩
theorem f_X11_249 : zFL RX11 249 6 5 := ⟨by decide, by decide, Or.inr ⟨"DriftPages", List.mem_of_getElem? (i := 274) (by decide +kernel)⟩⟩
theorem f_X6_37 : zFL RX6 37 6 6 := ⟨by decide, by decide, Or.inl (List.mem_of_getElem? (i := 275) (by decide +kernel))⟩
theorem f_X11_366 : zFL RX11 366 6 6 := ⟨by decide, by decide, Or.inr ⟨"DriftPages", List.mem_of_getElem? (i := 276) (by decide +kernel)⟩⟩
theorem f_X6_41 : zFL RX6 41 6 7 := ⟨by decide, by decide, Or.inl (List.mem_of_getElem? (i := 277) (by decide +kernel))⟩
theorem f_X11_362 : zFL RX11 362 6 7 := ⟨by decide, by decide, Or.inr ⟨"DriftPages", List.mem_of_getElem? (i := 278) (by decide +kernel)⟩⟩
theorem f_X6_44 : zFL RX6 44 6 8 := ⟨by decide, by decide, Or.inl (List.mem_of_getElem? (i := 279) (by decide +kernel))⟩
theorem f_X11_252 : zFL RX11 252 6 8 := ⟨by decide, by decide, Or.inr ⟨"DriftPages", List.mem_of_getElem? (i := 280) (by decide +kernel)⟩⟩
theorem f_X11_16 : zFL RX11 16 11 0 := ⟨by decide, by decide, Or.inl (List.mem_of_getElem? (i := 300) (by decide +kernel))⟩
theorem fp_X11_16 : Cond.fieldLink RX11 16 (zC 11) (zT 11 0).2.1 (zT 11 0).2.2.1 ∈ lw_tbl := List.mem_of_getElem? (i := 300) (by decide +kernel)
theorem f_X11_20 : zFL RX11 20 11 1 := ⟨by decide, by decide, Or.inl (List.mem_of_getElem? (i := 301) (by decide +kernel))⟩
theorem fp_X11_20 : Cond.fieldLink RX11 20 (zC 11) (zT 11 1).2.1 (zT 11 1).2.2.1 ∈ lw_tbl := List.mem_of_getElem? (i := 301) (by decide +kernel)
theorem f_X11_26 : zFL RX11 26 11 2 := ⟨by decide, by decide, Or.inl (List.mem_of_getElem? (i := 302) (by decide +kernel))⟩
theorem fp_X11_26 : Cond.fieldLink RX11 26 (zC 11) (zT 11 2).2.1 (zT 11 2).2.2.1 ∈ lw_tbl := List.mem_of_getElem? (i := 302) (by decide +kernel)
theorem f_X11_33 : zFL RX11 33 11 3 := ⟨by decide, by decide, Or.inl (List.mem_of_getElem? (i := 303) (by decide +kernel))⟩
theorem fp_X11_33 : Cond.fieldLink RX11 33 (zC 11) (zT 11 3).2.1 (zT 11 3).2.2.1 ∈ lw_tbl := List.mem_of_getElem? (i := 303) (by decide +kernel)
theorem f_X11_39 : zFL RX11 39 11 4 := ⟨by decide, by decide, Or.inl (List.mem_of_getElem? (i := 304) (by decide +kernel))⟩
theorem fp_X11_39 : Cond.fieldLink RX11 39 (zC 11) (zT 11 4).2.1 (zT 11 4).2.2.1 ∈ lw_tbl := List.mem_of_getElem? (i := 304) (by decide +kernel)
theorem f_X11_44 : zFL RX11 44 11 5 := ⟨by decide, by decide, Or.inl (List.mem_of_getElem? (i := 305) (by decide +kernel))⟩
theorem f_X11_48 : zFL RX11 48 11 6 := ⟨by decide, by decide, Or.inl (List.mem_of_getElem? (i := 306) (by decide +kernel))⟩
theorem f_X11_52 : zFL RX11 52 11 7 := ⟨by decide, by decide, Or.inl (List.mem_of_getElem? (i := 307) (by decide +kernel))⟩
theorem f_X11_55 : zFL RX11 55 11 8 := ⟨by decide, by decide, Or.inl (List.mem_of_getElem? (i := 308) (by decide +kernel))⟩
theorem n_X11_72 : Cond.classLink RX11 72 (zC 9) ∈ lw_tbl := List.mem_of_getElem? (i := 356) (by decide +kernel)
theorem nl_X11_72 : zNL RX11 72 9 := ⟨by decide, n_X11_72, List.mem_of_getElem? (i := 357) (by decide +kernel), List.mem_of_getElem? (i := 92) (by decide +kernel)⟩
theorem n_X9_19 : Cond.classLink RX9 19 (zC 3) ∈ lw_tbl := List.mem_of_getElem? (i := 362) (by decide +kernel)
theorem nl_X9_19 : zNL RX9 19 3 := ⟨by decide, n_X9_19, List.mem_of_getElem? (i := 363) (by decide +kernel), List.mem_of_getElem? (i := 93) (by decide +kernel)⟩
theorem f_X3_9 : zFL RX3 9 3 0 := ⟨by decide, by decide, Or.inl (List.mem_of_getElem? (i := 368) (by decide +kernel))⟩
theorem fp_X3_9 : Cond.fieldLink RX3 9 (zC 3) (zT 3 0).2.1 (zT 3 0).2.2.1 ∈ lw_tbl := List.mem_of_getElem? (i := 368) (by decide +kernel)
theorem f_X11_142 : zFL RX11 142 3 0 := ⟨by decide, by decide, Or.inr ⟨"DriftPages", List.mem_of_getElem? (i := 369) (by decide +kernel)⟩⟩
theorem f_X3_15 : zFL RX3 15 3 1 := ⟨by decide, by decide, Or.inl (List.mem_of_getElem? (i := 370) (by decide +kernel))⟩
theorem fp_X3_15 : Cond.fieldLink RX3 15 (zC 3) (zT 3 1).2.1 (zT 3 1).2.2.1 ∈ lw_tbl := List.mem_of_getElem? (i := 370) (by decide +kernel)
theorem f_X3_18 : zFL RX3 18 3 2 := ⟨by decide, by decide, Or.inl (List.mem_of_getElem? (i := 371) (by decide +kernel))⟩
theorem fp_X3_18 : Cond.fieldLink RX3 18 (zC 3) (zT 3 2).2.1 (zT 3 2).2.2.1 ∈ lw_tbl := List.mem_of_getElem? (i := 371) (by decide +kernel)
theorem f_X11_144 : zFL RX11 144 3 2 := ⟨by decide, by decide, Or.inr ⟨"DriftPages", List.mem_of_getElem? (i := 372) (by decide +kernel)⟩⟩
theorem f_X3_22 : zFL RX3 22 3 3 := ⟨by decide, by decide, Or.inl (List.mem_of_getElem? (i := 373) (by decide +kernel))⟩
theorem fp_X3_22 : Cond.fieldLink RX3 22 (zC 3) (zT 3 3).2.1 (zT 3 3).2.2.1 ∈ lw_tbl := List.mem_of_getElem? (i := 373) (by decide +kernel)
theorem f_X11_148 : zFL RX11 148 3 3 := ⟨by decide, by decide, Or.inr ⟨"DriftPages", List.mem_of_getElem? (i := 374) (by decide +kernel)⟩⟩
theorem f_X3_25 : zFL RX3 25 3 4 := ⟨by decide, by decide, Or.inl (List.mem_of_getElem? (i := 375) (by decide +kernel))⟩
theorem f_X5_67 : zFL RX5 67 3 4 := ⟨by decide, by decide, Or.inr ⟨"DriftPages", List.mem_of_getElem? (i := 376) (by decide +kernel)⟩⟩
theorem f_X11_113 : zFL RX11 113 3 4 := ⟨by decide, by decide, Or.inr ⟨"DriftPages", List.mem_of_getElem? (i := 377) (by decide +kernel)⟩⟩
theorem n_X9_26 : Cond.classLink RX9 26 (zC 8) ∈ lw_tbl := List.mem_of_getElem? (i := 389) (by decide +kernel)
theorem nl_X9_26 : zNL RX9 26 8 := ⟨by decide, n_X9_26, List.mem_of_getElem? (i := 390) (by decide +kernel), List.mem_of_getElem? (i := 94) (by decide +kernel)⟩
theorem f_X8_9 : zFL RX8 9 8 0 := ⟨by decide, by decide, Or.inl (List.mem_of_getElem? (i := 395) (by decide +kernel))⟩
theorem fp_X8_9 : Cond.fieldLink RX8 9 (zC 8) (zT 8 0).2.1 (zT 8 0).2.2.1 ∈ lw_tbl := List.mem_of_getElem? (i := 395) (by decide +kernel)
theorem f_X11_305 : zFL RX11 305 8 0 := ⟨by decide, by decide, Or.inr ⟨"DriftPages", List.mem_of_getElem? (i := 396) (by decide +kernel)⟩⟩
theorem f_X8_15 : zFL RX8 15 8 1 := ⟨by decide, by decide, Or.inl (List.mem_of_getElem? (i := 397) (by decide +kernel))⟩
theorem fp_X8_15 : Cond.fieldLink RX8 15 (zC 8) (zT 8 1).2.1 (zT 8 1).2.2.1 ∈ lw_tbl := List.mem_of_getElem? (i := 397) (by decide +kernel)
theorem f_X8_18 : zFL RX8 18 8 2 := ⟨by decide, by decide, Or.inl (List.mem_of_getElem? (i := 398) (by decide +kernel))⟩
theorem fp_X8_18 : Cond.fieldLink RX8 18 (zC 8) (zT 8 2).2.1 (zT 8 2).2.2.1 ∈ lw_tbl := List.mem_of_getElem? (i := 398) (by decide +kernel)
theorem f_X11_306 : zFL RX11 306 8 2 := ⟨by decide, by decide, Or.inr ⟨"DriftPages", List.mem_of_getElem? (i := 399) (by decide +kernel)⟩⟩
theorem f_X8_21 : zFL RX8 21 8 3 := ⟨by decide, by decide, Or.inl (List.mem_of_getElem? (i := 400) (by decide +kernel))⟩
theorem fp_X8_21 : Cond.fieldLink RX8 21 (zC 8) (zT 8 3).2.1 (zT 8 3).2.2.1 ∈ lw_tbl := List.mem_of_getElem? (i := 400) (by decide +kernel)
theorem f_X8_25 : zFL RX8 25 8 4 := ⟨by decide, by decide, Or.inl (List.mem_of_getElem? (i := 401) (by decide +kernel))⟩
theorem f_X11_298 : zFL RX11 298 8 4 := ⟨by decide, by decide, Or.inr ⟨"DriftPages", List.mem_of_getElem? (i := 402) (by decide +kernel)⟩⟩
theorem n_X9_33 : Cond.classLink RX9 33 (zC 7) ∈ lw_tbl := List.mem_of_getElem? (i := 414) (by decide +kernel)
theorem nl_X9_33 : zNL RX9 33 7 := ⟨by decide, n_X9_33, List.mem_of_getElem? (i := 141) (by decide +kernel), List.mem_of_getElem? (i := 88) (by decide +kernel)⟩
theorem n_X9_40 : Cond.classLink RX9 40 (zC 0) ∈ lw_tbl := List.mem_of_getElem? (i := 416) (by decide +kernel)
theorem nl_X9_40 : zNL RX9 40 0 := ⟨by decide, n_X9_40, List.mem_of_getElem? (i := 417) (by decide +kernel), List.mem_of_getElem? (i := 95) (by decide +kernel)⟩
theorem f_X0_9 : zFL RX0 9 0 0 := ⟨by decide, by decide, Or.inl (List.mem_of_getElem? (i := 422) (by decide +kernel))⟩
theorem fp_X0_9 : Cond.fieldLink RX0 9 (zC 0) (zT 0 0).2.1 (zT 0 0).2.2.1 ∈ lw_tbl := List.mem_of_getElem? (i := 422) (by decide +kernel)
theorem f_X0_15 : zFL RX0 15 0 1 := ⟨by decide, by decide, Or.inl (List.mem_of_getElem? (i := 423) (by decide +kernel))⟩
theorem fp_X0_15 : Cond.fieldLink RX0 15 (zC 0) (zT 0 1).2.1 (zT 0 1).2.2.1 ∈ lw_tbl := List.mem_of_getElem? (i := 423) (by decide +kernel)
theorem f_X0_18 : zFL RX0 18 0 2 := ⟨by decide, by decide, Or.inl (List.mem_of_getElem? (i := 424) (by decide +kernel))⟩
theorem fp_X0_18 : Cond.fieldLink RX0 18 (zC 0) (zT 0 2).2.1 (zT 0 2).2.2.1 ∈ lw_tbl := List.mem_of_getElem? (i := 424) (by decide +kernel)
theorem f_X0_21 : zFL RX0 21 0 3 := ⟨by decide, by decide, Or.inl (List.mem_of_getElem? (i := 425) (by decide +kernel))⟩
theorem fp_X0_21 : Cond.fieldLink RX0 21 (zC 0) (zT 0 3).2.1 (zT 0 3).2.2.1 ∈ lw_tbl := List.mem_of_getElem? (i := 425) (by decide +kernel)
theorem f_X0_25 : zFL RX0 25 0 4 := ⟨by decide, by decide, Or.inl (List.mem_of_getElem? (i := 426) (by decide +kernel))⟩
theorem f_X11_123 : zFL RX11 123 0 4 := ⟨by decide, by decide, Or.inr ⟨"DriftPages", List.mem_of_getElem? (i := 427) (by decide +kernel)⟩⟩
theorem f_X9_9 : zFL RX9 9 9 0 := ⟨by decide, by decide, Or.inl (List.mem_of_getElem? (i := 439) (by decide +kernel))⟩
theorem fp_X9_9 : Cond.fieldLink RX9 9 (zC 9) (zT 9 0).2.1 (zT 9 0).2.2.1 ∈ lw_tbl := List.mem_of_getElem? (i := 439) (by decide +kernel)
theorem f_X9_15 : zFL RX9 15 9 1 := ⟨by decide, by decide, Or.inl (List.mem_of_getElem? (i := 440) (by decide +kernel))⟩
theorem fp_X9_15 : Cond.fieldLink RX9 15 (zC 9) (zT 9 1).2.1 (zT 9 1).2.2.1 ∈ lw_tbl := List.mem_of_getElem? (i := 440) (by decide +kernel)
theorem f_X11_138 : zFL RX11 138 9 1 := ⟨by decide, by decide, Or.inr ⟨"DriftPages", List.mem_of_getElem? (i := 441) (by decide +kernel)⟩⟩
theorem f_X5_113 : zFL RX5 113 9 1 := ⟨by decide, by decide, Or.inr ⟨"DriftPages", List.mem_of_getElem? (i := 442) (by decide +kernel)⟩⟩
theorem f_X9_22 : zFL RX9 22 9 2 := ⟨by decide, by decide, Or.inl (List.mem_of_getElem? (i := 443) (by decide +kernel))⟩
theorem fp_X9_22 : Cond.fieldLink RX9 22 (zC 9) (zT 9 2).2.1 (zT 9 2).2.2.1 ∈ lw_tbl := List.mem_of_getElem? (i := 443) (by decide +kernel)
theorem f_X5_61 : zFL RX5 61 9 2 := ⟨by decide, by decide, Or.inr ⟨"DriftPages", List.mem_of_getElem? (i := 444) (by decide +kernel)⟩⟩
theorem f_X10_82 : zFL RX10 82 9 2 := ⟨by decide, by decide, Or.inr ⟨"DriftPages", List.mem_of_getElem? (i := 445) (by decide +kernel)⟩⟩
theorem f_X11_109 : zFL RX11 109 9 2 := ⟨by decide, by decide, Or.inr ⟨"DriftPages", List.mem_of_getElem? (i := 446) (by decide +kernel)⟩⟩
theorem f_X9_29 : zFL RX9 29 9 3 := ⟨by decide, by decide, Or.inl (List.mem_of_getElem? (i := 447) (by decide +kernel))⟩
theorem fp_X9_29 : Cond.fieldLink RX9 29 (zC 9) (zT 9 3).2.1 (zT 9 3).2.2.1 ∈ lw_tbl := List.mem_of_getElem? (i := 447) (by decide +kernel)
theorem f_X10_90 : zFL RX10 90 9 3 := ⟨by decide, by decide, Or.inr ⟨"DriftPages", List.mem_of_getElem? (i := 448) (by decide +kernel)⟩⟩
theorem f_X6_85 : zFL RX6 85 9 3 := ⟨by decide, by decide, Or.inr ⟨"DriftPages", List.mem_of_getElem? (i := 449) (by decide +kernel)⟩⟩
theorem f_X11_294 : zFL RX11 294 9 3 := ⟨by decide, by decide, Or.inr ⟨"DriftPages", List.mem_of_getElem? (i := 450) (by decide +kernel)⟩⟩
theorem f_X9_36 : zFL RX9 36 9 4 := ⟨by decide, by decide, Or.inl (List.mem_of_getElem? (i := 451) (by decide +kernel))⟩
theorem fp_X9_36 : Cond.fieldLink RX9 36 (zC 9) (zT 9 4).2.1 (zT 9 4).2.2.1 ∈ lw_tbl := List.mem_of_getElem? (i := 451) (by decide +kernel)
theorem f_X10_60 : zFL RX10 60 9 4 := ⟨by decide, by decide, Or.inr ⟨"DriftPages", List.mem_of_getElem? (i := 452) (by decide +kernel)⟩⟩
theorem f_X11_96 : zFL RX11 96 9 4 := ⟨by decide, by decide, Or.inr ⟨"DriftPages", List.mem_of_getElem? (i := 453) (by decide +kernel)⟩⟩
theorem f_X6_73 : zFL RX6 73 9 4 := ⟨by decide, by decide, Or.inr ⟨"DriftPages", List.mem_of_getElem? (i := 454) (by decide +kernel)⟩⟩
theorem f_X5_121 : zFL RX5 121 9 4 := ⟨by decide, by decide, Or.inr ⟨"DriftPages", List.mem_of_getElem? (i := 455) (by decide +kernel)⟩⟩
theorem f_X9_43 : zFL RX9 43 9 5 := ⟨by decide, by decide, Or.inl (List.mem_of_getElem? (i := 456) (by decide +kernel))⟩
theorem fp_X9_43 : Cond.fieldLink RX9 43 (zC 9) (zT 9 5).2.1 (zT 9 5).2.2.1 ∈ lw_tbl := List.mem_of_getElem? (i := 456) (by decide +kernel)
theorem f_X10_65 : zFL RX10 65 9 5 := ⟨by decide, by decide, Or.inr ⟨"DriftPages", List.mem_of_getElem? (i := 457) (by decide +kernel)⟩⟩
theorem f_X11_119 : zFL RX11 119 9 5 := ⟨by decide, by decide, Or.inr ⟨"DriftPages", List.mem_of_getElem? (i := 458) (by decide +kernel)⟩⟩
theorem f_X9_47 : zFL RX9 47 9 6 := ⟨by decide, by decide, Or.inl (List.mem_of_getElem? (i := 459) (by decide +kernel))⟩
theorem fp_X9_47 : Cond.fieldLink RX9 47 (zC 9) (zT 9 6).2.1 (zT 9 6).2.2.1 ∈ lw_tbl := List.mem_of_getElem? (i := 459) (by decide +kernel)
theorem f_X6_95 : zFL RX6 95 9 6 := ⟨by decide, by decide, Or.inr ⟨"DriftPages", List.mem_of_getElem? (i := 460) (by decide +kernel)⟩⟩
theorem f_X11_277 : zFL RX11 277 9 6 := ⟨by decide, by decide, Or.inr ⟨"DriftPages", List.mem_of_getElem? (i := 461) (by decide +kernel)⟩⟩
theorem f_X9_50 : zFL RX9 50 9 7 := ⟨by decide, by decide, Or.inl (List.mem_of_getElem? (i := 462) (by decide +kernel))⟩
theorem f_X5_79 : zFL RX5 79 9 7 := ⟨by decide, by decide, Or.inr ⟨"DriftPages", List.mem_of_getElem? (i := 463) (by decide +kernel)⟩⟩
theorem f_X11_106 : zFL RX11 106 9 7 := ⟨by decide, by decide, Or.inr ⟨"DriftPages", List.mem_of_getElem? (i := 464) (by decide +kernel)⟩⟩
theorem f_X9_54 : zFL RX9 54 9 8 := ⟨by decide, by decide, Or.inl (List.mem_of_getElem? (i := 465) (by decide +kernel))⟩
theorem f_X10_57 : zFL RX10 57 9 8 := ⟨by decide, by decide, Or.inr ⟨"DriftPages", List.mem_of_getElem? (i := 466) (by decide +kernel)⟩⟩
theorem f_X11_128 : zFL RX11 128 9 8 := ⟨by decide, by decide, Or.inr ⟨"DriftPages", List.mem_of_getElem? (i := 467) (by decide +kernel)⟩⟩
theorem n_X11_75 : Cond.classLink RX11 75 (zC 5) ∈ lw_tbl := List.mem_of_getElem? (i := 487) (by decide +kernel)
theorem nl_X11_75 : zNL RX11 75 5 := ⟨by decide, n_X11_75, List.mem_of_getElem? (i := 488) (by decide +kernel), List.mem_of_getElem? (i := 96) (by decide +kernel)⟩
theorem n_X5_9 : Cond.classLink RX5 9 (zC 2) ∈ lw_tbl := List.mem_of_getElem? (i := 493) (by decide +kernel)
theorem nl_X5_9 : zNL RX5 9 2 := ⟨by decide, n_X5_9, List.mem_of_getElem? (i := 494) (by decide +kernel), List.mem_of_getElem? (i := 97) (by decide +kernel)⟩
theorem f_X2_9 : zFL RX2 9 2 0 := ⟨by decide, by decide, Or.inl (List.mem_of_getElem? (i := 499) (by decide +kernel))⟩
theorem fp_X2_9 : Cond.fieldLink RX2 9 (zC 2) (zT 2 0).2.1 (zT 2 0).2.2.1 ∈ lw_tbl := List.mem_of_getElem? (i := 499) (by decide +kernel)
theorem f_X2_15 : zFL RX2 15 2 1 := ⟨by decide, by decide, Or.inl (List.mem_of_getElem? (i := 500) (by decide +kernel))⟩
theorem fp_X2_15 : Cond.fieldLink RX2 15 (zC 2) (zT 2 1).2.1 (zT 2 1).2.2.1 ∈ lw_tbl := List.mem_of_getElem? (i := 500) (by decide +kernel)
theorem f_X2_19 : zFL RX2 19 2 2 := ⟨by decide, by decide, Or.inl (List.mem_of_getElem? (i := 501) (by decide +kernel))⟩
theorem f_X2_22 : zFL RX2 22 2 3 := ⟨by decide, by decide, Or.inl (List.mem_of_getElem? (i := 502) (by decide +kernel))⟩
theorem f_X5_58 : zFL RX5 58 2 3 := ⟨by decide, by decide, Or.inr ⟨"DriftPages", List.mem_of_getElem? (i := 503) (by decide +kernel)⟩⟩
theorem f_X2_25 : zFL RX2 25 2 4 := ⟨by decide, by decide, Or.inl (List.mem_of_getElem? (i := 504) (by decide +kernel))⟩
theorem f_X5_76 : zFL RX5 76 2 4 := ⟨by decide, by decide, Or.inr ⟨"DriftPages", List.mem_of_getElem? (i := 505) (by decide +kernel)⟩⟩
theorem f_X2_28 : zFL RX2 28 2 5 := ⟨by decide, by decide, Or.inl (List.mem_of_getElem? (i := 506) (by decide +kernel))⟩
theorem f_X5_85 : zFL RX5 85 2 5 := ⟨by decide, by decide, Or.inr ⟨"DriftPages", List.mem_of_getElem? (i := 507) (by decide +kernel)⟩⟩
theorem f_X5_14 : zFL RX5 14 5 0 := ⟨by decide, by decide, Or.inl (List.mem_of_getElem? (i := 521) (by decide +kernel))⟩
theorem fp_X5_14 : Cond.fieldLink RX5 14 (zC 5) (zT 5 0).2.1 (zT 5 0).2.2.1 ∈ lw_tbl := List.mem_of_getElem? (i := 521) (by decide +kernel)
theorem f_X5_20 : zFL RX5 20 5 1 := ⟨by decide, by decide, Or.inl (List.mem_of_getElem? (i := 522) (by decide +kernel))⟩
theorem fp_X5_20 : Cond.fieldLink RX5 20 (zC 5) (zT 5 1).2.1 (zT 5 1).2.2.1 ∈ lw_tbl := List.mem_of_getElem? (i := 522) (by decide +kernel)
theorem f_X5_24 : zFL RX5 24 5 2 := ⟨by decide, by decide, Or.inl (List.mem_of_getElem? (i := 523) (by decide +kernel))⟩
theorem f_X11_87 : zFL RX11 87 5 2 := ⟨by decide, by decide, Or.inr ⟨"DriftPages", List.mem_of_getElem? (i := 524) (by decide +kernel)⟩⟩
theorem f_X5_28 : zFL RX5 28 5 3 := ⟨by decide, by decide, Or.inl (List.mem_of_getElem? (i := 525) (by decide +kernel))⟩
theorem f_X11_88 : zFL RX11 88 5 3 := ⟨by decide, by decide, Or.inr ⟨"DriftPages", List.mem_of_getElem? (i := 526) (by decide +kernel)⟩⟩
theorem k_X2_51 : Cond.constantLong RX2 51 (10) ∈ lw_tbl := List.mem_of_getElem? (i := 562) (by decide +kernel)
theorem k_X2_53 : Cond.constantLong RX2 53 (48) ∈ lw_tbl := List.mem_of_getElem? (i := 563) (by decide +kernel)
theorem k_X5_34 : Cond.constantLong RX5 34 (499850046565) ∈ lw_tbl := List.mem_of_getElem? (i := 564) (by decide +kernel)
theorem k_X5_93 : Cond.constantLong RX5 93 (121450625394034) ∈ lw_tbl := List.mem_of_getElem? (i := 585) (by decide +kernel)
theorem k_X5_95 : Cond.constantLong RX5 95 (2003792484) ∈ lw_tbl := List.mem_of_getElem? (i := 586) (by decide +kernel)
theorem k_X5_44 : Cond.constantLong RX5 44 (478660552050) ∈ lw_tbl := List.mem_of_getElem? (i := 595) (by decide +kernel)
theorem k_X5_107 : Cond.constantLong RX5 107 (30064) ∈ lw_tbl := List.mem_of_getElem? (i := 608) (by decide +kernel)
theorem k_X5_109 : Cond.constantLong RX5 109 (1685026670) ∈ lw_tbl := List.mem_of_getElem? (i := 609) (by decide +kernel)
theorem k_X5_111 : Cond.constantLong RX5 111 (439855772532) ∈ lw_tbl := List.mem_of_getElem? (i := 610) (by decide +kernel)
theorem k_X5_49 : Cond.constantLong RX5 49 (7499639) ∈ lw_tbl := List.mem_of_getElem? (i := 615) (by decide +kernel)
theorem k_X5_137 : Cond.constantLong RX5 137 (1852796517) ∈ lw_tbl := List.mem_of_getElem? (i := 632) (by decide +kernel)
theorem k_X5_139 : Cond.constantLong RX5 139 (-9223372036854775808) ∈ lw_tbl := List.mem_of_getElem? (i := 633) (by decide +kernel)
theorem k_X11_292 : Cond.constantLong RX11 292 (-9223372036854775808) ∈ lw_tbl := List.mem_of_getElem? (i := 700) (by decide +kernel)
theorem k_X7_34 : Cond.constantLong RX7 34 (-9223372036854775808) ∈ lw_tbl := List.mem_of_getElem? (i := 705) (by decide +kernel)
theorem k_X3_48 : Cond.constantLong RX3 48 (-9223372036854775808) ∈ lw_tbl := List.mem_of_getElem? (i := 754) (by decide +kernel)
theorem k_X3_53 : Cond.constant RX3 53 (32768) ∈ lw_tbl := List.mem_of_getElem? (i := 756) (by decide +kernel)
theorem k_X8_39 : Cond.constantLong RX8 39 (-9223372036854775808) ∈ lw_tbl := List.mem_of_getElem? (i := 773) (by decide +kernel)
theorem k_X11_330 : Cond.constantLong RX11 330 (1099511627776) ∈ lw_tbl := List.mem_of_getElem? (i := 780) (by decide +kernel)
theorem k_X9_57 : Cond.constantLong RX9 57 (-9223372036854775808) ∈ lw_tbl := List.mem_of_getElem? (i := 914) (by decide +kernel)
theorem k_X11_322 : Cond.constantLong RX11 322 (281474976710656) ∈ lw_tbl := List.mem_of_getElem? (i := 918) (by decide +kernel)
theorem k_X11_324 : Cond.constantLong RX11 324 (255) ∈ lw_tbl := List.mem_of_getElem? (i := 919) (by decide +kernel)
theorem k_X11_326 : Cond.constantLong RX11 326 (97) ∈ lw_tbl := List.mem_of_getElem? (i := 920) (by decide +kernel)
theorem k_X11_328 : Cond.constantLong RX11 328 (122) ∈ lw_tbl := List.mem_of_getElem? (i := 921) (by decide +kernel)
theorem k_X9_63 : Cond.constantLong RX9 63 (-9999) ∈ lw_tbl := List.mem_of_getElem? (i := 922) (by decide +kernel)
theorem k_X9_65 : Cond.constantLong RX9 65 (9999) ∈ lw_tbl := List.mem_of_getElem? (i := 923) (by decide +kernel)
theorem f_X12_126 : zFL RX12 126 12 0 := ⟨by decide, by decide, Or.inl (List.mem_of_getElem? (i := 1153) (by decide +kernel))⟩
theorem f_X12_129 : zFL RX12 129 12 1 := ⟨by decide, by decide, Or.inl (List.mem_of_getElem? (i := 1154) (by decide +kernel))⟩
theorem f_X12_259 : zFL RX12 259 12 2 := ⟨by decide, by decide, Or.inl (List.mem_of_getElem? (i := 1155) (by decide +kernel))⟩
theorem f_X12_11 : zFL RX12 11 12 3 := ⟨by decide, by decide, Or.inl (List.mem_of_getElem? (i := 1156) (by decide +kernel))⟩
theorem f_X12_15 : zFL RX12 15 12 4 := ⟨by decide, by decide, Or.inl (List.mem_of_getElem? (i := 1157) (by decide +kernel))⟩
theorem fp_X12_15 : Cond.fieldLink RX12 15 (zC 12) (zT 12 4).2.1 (zT 12 4).2.2.1 ∈ lw_tbl := List.mem_of_getElem? (i := 1157) (by decide +kernel)
theorem f_X12_132 : zFL RX12 132 12 5 := ⟨by decide, by decide, Or.inl (List.mem_of_getElem? (i := 1158) (by decide +kernel))⟩
theorem f_X12_271 : zFL RX12 271 12 6 := ⟨by decide, by decide, Or.inl (List.mem_of_getElem? (i := 1159) (by decide +kernel))⟩
theorem f_X12_19 : zFL RX12 19 12 7 := ⟨by decide, by decide, Or.inl (List.mem_of_getElem? (i := 1160) (by decide +kernel))⟩
theorem fp_X12_19 : Cond.fieldLink RX12 19 (zC 12) (zT 12 7).2.1 (zT 12 7).2.2.1 ∈ lw_tbl := List.mem_of_getElem? (i := 1160) (by decide +kernel)
theorem f_X12_274 : zFL RX12 274 12 8 := ⟨by decide, by decide, Or.inl (List.mem_of_getElem? (i := 1161) (by decide +kernel))⟩
theorem f_X12_23 : zFL RX12 23 12 9 := ⟨by decide, by decide, Or.inl (List.mem_of_getElem? (i := 1162) (by decide +kernel))⟩
theorem fp_X12_23 : Cond.fieldLink RX12 23 (zC 12) (zT 12 9).2.1 (zT 12 9).2.2.1 ∈ lw_tbl := List.mem_of_getElem? (i := 1162) (by decide +kernel)
theorem f_X12_26 : zFL RX12 26 12 10 := ⟨by decide, by decide, Or.inl (List.mem_of_getElem? (i := 1163) (by decide +kernel))⟩
theorem fp_X12_26 : Cond.fieldLink RX12 26 (zC 12) (zT 12 10).2.1 (zT 12 10).2.2.1 ∈ lw_tbl := List.mem_of_getElem? (i := 1163) (by decide +kernel)
theorem f_X12_29 : zFL RX12 29 12 11 := ⟨by decide, by decide, Or.inl (List.mem_of_getElem? (i := 1164) (by decide +kernel))⟩
theorem fp_X12_29 : Cond.fieldLink RX12 29 (zC 12) (zT 12 11).2.1 (zT 12 11).2.2.1 ∈ lw_tbl := List.mem_of_getElem? (i := 1164) (by decide +kernel)
theorem f_X12_296 : zFL RX12 296 12 12 := ⟨by decide, by decide, Or.inl (List.mem_of_getElem? (i := 1165) (by decide +kernel))⟩
theorem f_X12_188 : zFL RX12 188 12 13 := ⟨by decide, by decide, Or.inl (List.mem_of_getElem? (i := 1166) (by decide +kernel))⟩
theorem f_X12_32 : zFL RX12 32 12 14 := ⟨by decide, by decide, Or.inl (List.mem_of_getElem? (i := 1167) (by decide +kernel))⟩
theorem fp_X12_32 : Cond.fieldLink RX12 32 (zC 12) (zT 12 14).2.1 (zT 12 14).2.2.1 ∈ lw_tbl := List.mem_of_getElem? (i := 1167) (by decide +kernel)
theorem f_X12_36 : zFL RX12 36 12 15 := ⟨by decide, by decide, Or.inl (List.mem_of_getElem? (i := 1168) (by decide +kernel))⟩
theorem fp_X12_36 : Cond.fieldLink RX12 36 (zC 12) (zT 12 15).2.1 (zT 12 15).2.2.1 ∈ lw_tbl := List.mem_of_getElem? (i := 1168) (by decide +kernel)
theorem f_X12_217 : zFL RX12 217 12 16 := ⟨by decide, by decide, Or.inl (List.mem_of_getElem? (i := 1169) (by decide +kernel))⟩
theorem f_X12_39 : zFL RX12 39 12 17 := ⟨by decide, by decide, Or.inl (List.mem_of_getElem? (i := 1170) (by decide +kernel))⟩
theorem fp_X12_39 : Cond.fieldLink RX12 39 (zC 12) (zT 12 17).2.1 (zT 12 17).2.2.1 ∈ lw_tbl := List.mem_of_getElem? (i := 1170) (by decide +kernel)
theorem f_X12_42 : zFL RX12 42 12 18 := ⟨by decide, by decide, Or.inl (List.mem_of_getElem? (i := 1171) (by decide +kernel))⟩
theorem fp_X12_42 : Cond.fieldLink RX12 42 (zC 12) (zT 12 18).2.1 (zT 12 18).2.2.1 ∈ lw_tbl := List.mem_of_getElem? (i := 1171) (by decide +kernel)
theorem f_X12_45 : zFL RX12 45 12 19 := ⟨by decide, by decide, Or.inl (List.mem_of_getElem? (i := 1172) (by decide +kernel))⟩
theorem fp_X12_45 : Cond.fieldLink RX12 45 (zC 12) (zT 12 19).2.1 (zT 12 19).2.2.1 ∈ lw_tbl := List.mem_of_getElem? (i := 1172) (by decide +kernel)
theorem f_X12_233 : zFL RX12 233 12 20 := ⟨by decide, by decide, Or.inl (List.mem_of_getElem? (i := 1173) (by decide +kernel))⟩
theorem f_X12_48 : zFL RX12 48 12 21 := ⟨by decide, by decide, Or.inl (List.mem_of_getElem? (i := 1174) (by decide +kernel))⟩
theorem fp_X12_48 : Cond.fieldLink RX12 48 (zC 12) (zT 12 21).2.1 (zT 12 21).2.2.1 ∈ lw_tbl := List.mem_of_getElem? (i := 1174) (by decide +kernel)
theorem f_X12_139 : zFL RX12 139 12 22 := ⟨by decide, by decide, Or.inl (List.mem_of_getElem? (i := 1175) (by decide +kernel))⟩
theorem f_X12_149 : zFL RX12 149 12 23 := ⟨by decide, by decide, Or.inl (List.mem_of_getElem? (i := 1176) (by decide +kernel))⟩
theorem f_X12_142 : zFL RX12 142 12 24 := ⟨by decide, by decide, Or.inl (List.mem_of_getElem? (i := 1177) (by decide +kernel))⟩
theorem f_X12_152 : zFL RX12 152 12 25 := ⟨by decide, by decide, Or.inl (List.mem_of_getElem? (i := 1178) (by decide +kernel))⟩
theorem f_X12_167 : zFL RX12 167 12 26 := ⟨by decide, by decide, Or.inl (List.mem_of_getElem? (i := 1179) (by decide +kernel))⟩
theorem f_X12_180 : zFL RX12 180 12 27 := ⟨by decide, by decide, Or.inl (List.mem_of_getElem? (i := 1180) (by decide +kernel))⟩
theorem f_X12_183 : zFL RX12 183 12 28 := ⟨by decide, by decide, Or.inl (List.mem_of_getElem? (i := 1181) (by decide +kernel))⟩
theorem f_X12_277 : zFL RX12 277 12 29 := ⟨by decide, by decide, Or.inl (List.mem_of_getElem? (i := 1182) (by decide +kernel))⟩
theorem f_X12_280 : zFL RX12 280 12 30 := ⟨by decide, by decide, Or.inl (List.mem_of_getElem? (i := 1183) (by decide +kernel))⟩
theorem f_X12_283 : zFL RX12 283 12 31 := ⟨by decide, by decide, Or.inl (List.mem_of_getElem? (i := 1184) (by decide +kernel))⟩
theorem f_X12_51 : zFL RX12 51 12 32 := ⟨by decide, by decide, Or.inl (List.mem_of_getElem? (i := 1185) (by decide +kernel))⟩
theorem fp_X12_51 : Cond.fieldLink RX12 51 (zC 12) (zT 12 32).2.1 (zT 12 32).2.2.1 ∈ lw_tbl := List.mem_of_getElem? (i := 1185) (by decide +kernel)
theorem f_X12_54 : zFL RX12 54 12 33 := ⟨by decide, by decide, Or.inl (List.mem_of_getElem? (i := 1186) (by decide +kernel))⟩
theorem fp_X12_54 : Cond.fieldLink RX12 54 (zC 12) (zT 12 33).2.1 (zT 12 33).2.2.1 ∈ lw_tbl := List.mem_of_getElem? (i := 1186) (by decide +kernel)
theorem f_X12_57 : zFL RX12 57 12 34 := ⟨by decide, by decide, Or.inl (List.mem_of_getElem? (i := 1187) (by decide +kernel))⟩
theorem fp_X12_57 : Cond.fieldLink RX12 57 (zC 12) (zT 12 34).2.1 (zT 12 34).2.2.1 ∈ lw_tbl := List.mem_of_getElem? (i := 1187) (by decide +kernel)
theorem f_X12_60 : zFL RX12 60 12 35 := ⟨by decide, by decide, Or.inl (List.mem_of_getElem? (i := 1188) (by decide +kernel))⟩
theorem fp_X12_60 : Cond.fieldLink RX12 60 (zC 12) (zT 12 35).2.1 (zT 12 35).2.2.1 ∈ lw_tbl := List.mem_of_getElem? (i := 1188) (by decide +kernel)
theorem f_X12_334 : zFL RX12 334 12 36 := ⟨by decide, by decide, Or.inl (List.mem_of_getElem? (i := 1189) (by decide +kernel))⟩
theorem f_X12_63 : zFL RX12 63 12 37 := ⟨by decide, by decide, Or.inl (List.mem_of_getElem? (i := 1190) (by decide +kernel))⟩
theorem fp_X12_63 : Cond.fieldLink RX12 63 (zC 12) (zT 12 37).2.1 (zT 12 37).2.2.1 ∈ lw_tbl := List.mem_of_getElem? (i := 1190) (by decide +kernel)
theorem f_X12_348 : zFL RX12 348 12 38 := ⟨by decide, by decide, Or.inl (List.mem_of_getElem? (i := 1191) (by decide +kernel))⟩
theorem f_X12_286 : zFL RX12 286 12 39 := ⟨by decide, by decide, Or.inl (List.mem_of_getElem? (i := 1192) (by decide +kernel))⟩
theorem f_X12_66 : zFL RX12 66 12 40 := ⟨by decide, by decide, Or.inl (List.mem_of_getElem? (i := 1193) (by decide +kernel))⟩
theorem fp_X12_66 : Cond.fieldLink RX12 66 (zC 12) (zT 12 40).2.1 (zT 12 40).2.2.1 ∈ lw_tbl := List.mem_of_getElem? (i := 1193) (by decide +kernel)
theorem f_X12_69 : zFL RX12 69 12 41 := ⟨by decide, by decide, Or.inl (List.mem_of_getElem? (i := 1194) (by decide +kernel))⟩
theorem fp_X12_69 : Cond.fieldLink RX12 69 (zC 12) (zT 12 41).2.1 (zT 12 41).2.2.1 ∈ lw_tbl := List.mem_of_getElem? (i := 1194) (by decide +kernel)
theorem f_X12_72 : zFL RX12 72 12 42 := ⟨by decide, by decide, Or.inl (List.mem_of_getElem? (i := 1195) (by decide +kernel))⟩
theorem fp_X12_72 : Cond.fieldLink RX12 72 (zC 12) (zT 12 42).2.1 (zT 12 42).2.2.1 ∈ lw_tbl := List.mem_of_getElem? (i := 1195) (by decide +kernel)
theorem f_X12_75 : zFL RX12 75 12 43 := ⟨by decide, by decide, Or.inl (List.mem_of_getElem? (i := 1196) (by decide +kernel))⟩
theorem fp_X12_75 : Cond.fieldLink RX12 75 (zC 12) (zT 12 43).2.1 (zT 12 43).2.2.1 ∈ lw_tbl := List.mem_of_getElem? (i := 1196) (by decide +kernel)
theorem f_X12_392 : zFL RX12 392 12 44 := ⟨by decide, by decide, Or.inl (List.mem_of_getElem? (i := 1197) (by decide +kernel))⟩
theorem f_X12_78 : zFL RX12 78 12 45 := ⟨by decide, by decide, Or.inl (List.mem_of_getElem? (i := 1198) (by decide +kernel))⟩
theorem fp_X12_78 : Cond.fieldLink RX12 78 (zC 12) (zT 12 45).2.1 (zT 12 45).2.2.1 ∈ lw_tbl := List.mem_of_getElem? (i := 1198) (by decide +kernel)
theorem f_X12_289 : zFL RX12 289 12 46 := ⟨by decide, by decide, Or.inl (List.mem_of_getElem? (i := 1199) (by decide +kernel))⟩
theorem f_X12_399 : zFL RX12 399 12 47 := ⟨by decide, by decide, Or.inl (List.mem_of_getElem? (i := 1200) (by decide +kernel))⟩
theorem f_X12_81 : zFL RX12 81 12 48 := ⟨by decide, by decide, Or.inl (List.mem_of_getElem? (i := 1201) (by decide +kernel))⟩
theorem fp_X12_81 : Cond.fieldLink RX12 81 (zC 12) (zT 12 48).2.1 (zT 12 48).2.2.1 ∈ lw_tbl := List.mem_of_getElem? (i := 1201) (by decide +kernel)
theorem f_X12_84 : zFL RX12 84 12 49 := ⟨by decide, by decide, Or.inl (List.mem_of_getElem? (i := 1202) (by decide +kernel))⟩
theorem fp_X12_84 : Cond.fieldLink RX12 84 (zC 12) (zT 12 49).2.1 (zT 12 49).2.2.1 ∈ lw_tbl := List.mem_of_getElem? (i := 1202) (by decide +kernel)
theorem f_X12_87 : zFL RX12 87 12 50 := ⟨by decide, by decide, Or.inl (List.mem_of_getElem? (i := 1203) (by decide +kernel))⟩
theorem fp_X12_87 : Cond.fieldLink RX12 87 (zC 12) (zT 12 50).2.1 (zT 12 50).2.2.1 ∈ lw_tbl := List.mem_of_getElem? (i := 1203) (by decide +kernel)
theorem f_X12_90 : zFL RX12 90 12 51 := ⟨by decide, by decide, Or.inl (List.mem_of_getElem? (i := 1204) (by decide +kernel))⟩
theorem fp_X12_90 : Cond.fieldLink RX12 90 (zC 12) (zT 12 51).2.1 (zT 12 51).2.2.1 ∈ lw_tbl := List.mem_of_getElem? (i := 1204) (by decide +kernel)
theorem f_X12_93 : zFL RX12 93 12 52 := ⟨by decide, by decide, Or.inl (List.mem_of_getElem? (i := 1205) (by decide +kernel))⟩
theorem fp_X12_93 : Cond.fieldLink RX12 93 (zC 12) (zT 12 52).2.1 (zT 12 52).2.2.1 ∈ lw_tbl := List.mem_of_getElem? (i := 1205) (by decide +kernel)
theorem f_X12_96 : zFL RX12 96 12 53 := ⟨by decide, by decide, Or.inl (List.mem_of_getElem? (i := 1206) (by decide +kernel))⟩
theorem fp_X12_96 : Cond.fieldLink RX12 96 (zC 12) (zT 12 53).2.1 (zT 12 53).2.2.1 ∈ lw_tbl := List.mem_of_getElem? (i := 1206) (by decide +kernel)
theorem f_X12_409 : zFL RX12 409 12 54 := ⟨by decide, by decide, Or.inl (List.mem_of_getElem? (i := 1207) (by decide +kernel))⟩
theorem f_X12_99 : zFL RX12 99 12 55 := ⟨by decide, by decide, Or.inl (List.mem_of_getElem? (i := 1208) (by decide +kernel))⟩
theorem fp_X12_99 : Cond.fieldLink RX12 99 (zC 12) (zT 12 55).2.1 (zT 12 55).2.2.1 ∈ lw_tbl := List.mem_of_getElem? (i := 1208) (by decide +kernel)
theorem f_X12_102 : zFL RX12 102 12 56 := ⟨by decide, by decide, Or.inl (List.mem_of_getElem? (i := 1209) (by decide +kernel))⟩
theorem fp_X12_102 : Cond.fieldLink RX12 102 (zC 12) (zT 12 56).2.1 (zT 12 56).2.2.1 ∈ lw_tbl := List.mem_of_getElem? (i := 1209) (by decide +kernel)
theorem f_X12_105 : zFL RX12 105 12 57 := ⟨by decide, by decide, Or.inl (List.mem_of_getElem? (i := 1210) (by decide +kernel))⟩
theorem fp_X12_105 : Cond.fieldLink RX12 105 (zC 12) (zT 12 57).2.1 (zT 12 57).2.2.1 ∈ lw_tbl := List.mem_of_getElem? (i := 1210) (by decide +kernel)
theorem f_X12_108 : zFL RX12 108 12 58 := ⟨by decide, by decide, Or.inl (List.mem_of_getElem? (i := 1211) (by decide +kernel))⟩
theorem fp_X12_108 : Cond.fieldLink RX12 108 (zC 12) (zT 12 58).2.1 (zT 12 58).2.2.1 ∈ lw_tbl := List.mem_of_getElem? (i := 1211) (by decide +kernel)
theorem f_X12_111 : zFL RX12 111 12 59 := ⟨by decide, by decide, Or.inl (List.mem_of_getElem? (i := 1212) (by decide +kernel))⟩
theorem fp_X12_111 : Cond.fieldLink RX12 111 (zC 12) (zT 12 59).2.1 (zT 12 59).2.2.1 ∈ lw_tbl := List.mem_of_getElem? (i := 1212) (by decide +kernel)
theorem f_X12_114 : zFL RX12 114 12 60 := ⟨by decide, by decide, Or.inl (List.mem_of_getElem? (i := 1213) (by decide +kernel))⟩
theorem fp_X12_114 : Cond.fieldLink RX12 114 (zC 12) (zT 12 60).2.1 (zT 12 60).2.2.1 ∈ lw_tbl := List.mem_of_getElem? (i := 1213) (by decide +kernel)
theorem f_X12_117 : zFL RX12 117 12 61 := ⟨by decide, by decide, Or.inl (List.mem_of_getElem? (i := 1214) (by decide +kernel))⟩
theorem fp_X12_117 : Cond.fieldLink RX12 117 (zC 12) (zT 12 61).2.1 (zT 12 61).2.2.1 ∈ lw_tbl := List.mem_of_getElem? (i := 1214) (by decide +kernel)
theorem f_X12_120 : zFL RX12 120 12 62 := ⟨by decide, by decide, Or.inl (List.mem_of_getElem? (i := 1215) (by decide +kernel))⟩
theorem fp_X12_120 : Cond.fieldLink RX12 120 (zC 12) (zT 12 62).2.1 (zT 12 62).2.2.1 ∈ lw_tbl := List.mem_of_getElem? (i := 1215) (by decide +kernel)
theorem f_X12_123 : zFL RX12 123 12 63 := ⟨by decide, by decide, Or.inl (List.mem_of_getElem? (i := 1216) (by decide +kernel))⟩
theorem fp_X12_123 : Cond.fieldLink RX12 123 (zC 12) (zT 12 63).2.1 (zT 12 63).2.2.1 ∈ lw_tbl := List.mem_of_getElem? (i := 1216) (by decide +kernel)
theorem k_X12_155 : Cond.constantLong RX12 155 (97) ∈ lw_tbl := List.mem_of_getElem? (i := 1381) (by decide +kernel)
theorem k_X12_157 : Cond.constantLong RX12 157 (122) ∈ lw_tbl := List.mem_of_getElem? (i := 1382) (by decide +kernel)
theorem k_X12_163 : Cond.constantLong RX12 163 (48) ∈ lw_tbl := List.mem_of_getElem? (i := 1383) (by decide +kernel)
theorem k_X12_165 : Cond.constantLong RX12 165 (57) ∈ lw_tbl := List.mem_of_getElem? (i := 1384) (by decide +kernel)
theorem k_X12_186 : Cond.constantLong RX12 186 (256) ∈ lw_tbl := List.mem_of_getElem? (i := 1462) (by decide +kernel)
theorem k_X12_229 : Cond.constantLong RX12 229 (-9223372036854775808) ∈ lw_tbl := List.mem_of_getElem? (i := 1486) (by decide +kernel)
theorem k_X12_299 : Cond.constantLong RX12 299 (63) ∈ lw_tbl := List.mem_of_getElem? (i := 1523) (by decide +kernel)
theorem k_X12_322 : Cond.constantLong RX12 322 (2) ∈ lw_tbl := List.mem_of_getElem? (i := 1543) (by decide +kernel)
theorem k_X12_341 : Cond.constant RX12 341 (32768) ∈ lw_tbl := List.mem_of_getElem? (i := 1580) (by decide +kernel)
theorem k_X12_342 : Cond.constantLong RX12 342 (255) ∈ lw_tbl := List.mem_of_getElem? (i := 1581) (by decide +kernel)
theorem k_X12_376 : Cond.constantLong RX12 376 (4) ∈ lw_tbl := List.mem_of_getElem? (i := 1614) (by decide +kernel)
theorem k_X12_372 : Cond.constantLong RX12 372 (-9999) ∈ lw_tbl := List.mem_of_getElem? (i := 1619) (by decide +kernel)
theorem k_X12_374 : Cond.constantLong RX12 374 (9999) ∈ lw_tbl := List.mem_of_getElem? (i := 1620) (by decide +kernel)
theorem k_X12_412 : Cond.constantLong RX12 412 (20) ∈ lw_tbl := List.mem_of_getElem? (i := 1652) (by decide +kernel)
theorem k_X12_437 : Cond.constantLong RX12 437 (3) ∈ lw_tbl := List.mem_of_getElem? (i := 1737) (by decide +kernel)
theorem k_X12_445 : Cond.constantLong RX12 445 (6) ∈ lw_tbl := List.mem_of_getElem? (i := 1758) (by decide +kernel)
theorem ac_int : Cond.arrayClass (newarray.typeOf .int) ∈ lw_tbl := List.mem_of_getElem? (i := 133) (by decide +kernel)
theorem ac_long : Cond.arrayClass (newarray.typeOf .long) ∈ lw_tbl := List.mem_of_getElem? (i := 164) (by decide +kernel)
theorem ac_boolean : Cond.arrayClass (newarray.typeOf .boolean) ∈ lw_tbl := List.mem_of_getElem? (i := 163) (by decide +kernel)
