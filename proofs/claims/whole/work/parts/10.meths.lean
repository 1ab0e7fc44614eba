abbrev mX0_init : zMI := (RX0, yX0_init, 1, none)
theorem mk_X0_init : zMK mX0_init cX0_init 0 := ⟨List.mem_of_getElem? (i := 420) (by decide +kernel), List.mem_of_getElem? (i := 95) (by decide +kernel), ⟨by decide +kernel, by decide +kernel, by decide +kernel⟩, by decide⟩
theorem mi_X0_init : Cond.instanceMethod yX0_init ∈ lw_tbl := List.mem_of_getElem? (i := 419) (by decide +kernel)
abbrev mX0_earliest : zMI := (RX0, yX0_earliest, 1, (some .int))
theorem mk_X0_earliest : zMK mX0_earliest cX0_earliest 0 := ⟨List.mem_of_getElem? (i := 668) (by decide +kernel), List.mem_of_getElem? (i := 95) (by decide +kernel), ⟨by decide +kernel, by decide +kernel, by decide +kernel⟩, by decide⟩
theorem mi_X0_earliest : Cond.instanceMethod yX0_earliest ∈ lw_tbl := List.mem_of_getElem? (i := 666) (by decide +kernel)
theorem mv_X0_earliest : zMV yX0_earliest := ⟨mi_X0_earliest, List.mem_of_getElem? (i := 667) (by decide +kernel)⟩
abbrev mX0_canView : zMI := (RX0, yX0_canView, 2, (some .boolean))
theorem mk_X0_canView : zMK mX0_canView cX0_canView 1 := ⟨List.mem_of_getElem? (i := 717) (by decide +kernel), List.mem_of_getElem? (i := 95) (by decide +kernel), ⟨by decide +kernel, by decide +kernel, by decide +kernel⟩, by decide⟩
theorem mi_X0_canView : Cond.instanceMethod yX0_canView ∈ lw_tbl := List.mem_of_getElem? (i := 715) (by decide +kernel)
theorem mv_X0_canView : zMV yX0_canView := ⟨mi_X0_canView, List.mem_of_getElem? (i := 716) (by decide +kernel)⟩
abbrev mX0_note : zMI := (RX0, yX0_note, 7, none)
theorem mk_X0_note : zMK mX0_note cX0_note 4 := ⟨List.mem_of_getElem? (i := 1013) (by decide +kernel), List.mem_of_getElem? (i := 95) (by decide +kernel), ⟨by decide +kernel, by decide +kernel, by decide +kernel⟩, by decide⟩
theorem mi_X0_note : Cond.instanceMethod yX0_note ∈ lw_tbl := List.mem_of_getElem? (i := 1011) (by decide +kernel)
theorem mv_X0_note : zMV yX0_note := ⟨mi_X0_note, List.mem_of_getElem? (i := 1012) (by decide +kernel)⟩
abbrev mX0_takeBack : zMI := (RX0, yX0_takeBack, 5, none)
theorem mk_X0_takeBack : zMK mX0_takeBack cX0_takeBack 2 := ⟨List.mem_of_getElem? (i := 733) (by decide +kernel), List.mem_of_getElem? (i := 95) (by decide +kernel), ⟨by decide +kernel, by decide +kernel, by decide +kernel⟩, by decide⟩
theorem mi_X0_takeBack : Cond.instanceMethod yX0_takeBack ∈ lw_tbl := List.mem_of_getElem? (i := 731) (by decide +kernel)
theorem mv_X0_takeBack : zMV yX0_takeBack := ⟨mi_X0_takeBack, List.mem_of_getElem? (i := 732) (by decide +kernel)⟩
abbrev mX1_init : zMI := (RX1, yX1_init, 2, none)
theorem mk_X1_init : zMK mX1_init cX1_init 1 := ⟨List.mem_of_getElem? (i := 121) (by decide +kernel), List.mem_of_getElem? (i := 86) (by decide +kernel), ⟨by decide +kernel, by decide +kernel, by decide +kernel⟩, by decide⟩
theorem mi_X1_init : Cond.instanceMethod yX1_init ∈ lw_tbl := List.mem_of_getElem? (i := 120) (by decide +kernel)
abbrev mX1_empty : zMI := (RX1, yX1_empty, 1, none)
theorem mk_X1_empty : zMK mX1_empty cX1_empty 0 := ⟨List.mem_of_getElem? (i := 644) (by decide +kernel), List.mem_of_getElem? (i := 86) (by decide +kernel), ⟨by decide +kernel, by decide +kernel, by decide +kernel⟩, by decide⟩
theorem mi_X1_empty : Cond.instanceMethod yX1_empty ∈ lw_tbl := List.mem_of_getElem? (i := 642) (by decide +kernel)
theorem mv_X1_empty : zMV yX1_empty := ⟨mi_X1_empty, List.mem_of_getElem? (i := 643) (by decide +kernel)⟩
abbrev mX1_put : zMI := (RX1, yX1_put, 2, none)
theorem mk_X1_put : zMK mX1_put cX1_put 1 := ⟨List.mem_of_getElem? (i := 343) (by decide +kernel), List.mem_of_getElem? (i := 86) (by decide +kernel), ⟨by decide +kernel, by decide +kernel, by decide +kernel⟩, by decide⟩
theorem mi_X1_put : Cond.instanceMethod yX1_put ∈ lw_tbl := List.mem_of_getElem? (i := 341) (by decide +kernel)
theorem mv_X1_put : zMV yX1_put := ⟨mi_X1_put, List.mem_of_getElem? (i := 342) (by decide +kernel)⟩
abbrev mX1_putTwo : zMI := (RX1, yX1_putTwo, 2, none)
theorem mk_X1_putTwo : zMK mX1_putTwo cX1_putTwo 1 := ⟨List.mem_of_getElem? (i := 339) (by decide +kernel), List.mem_of_getElem? (i := 86) (by decide +kernel), ⟨by decide +kernel, by decide +kernel, by decide +kernel⟩, by decide⟩
theorem mi_X1_putTwo : Cond.instanceMethod yX1_putTwo ∈ lw_tbl := List.mem_of_getElem? (i := 337) (by decide +kernel)
theorem mv_X1_putTwo : zMV yX1_putTwo := ⟨mi_X1_putTwo, List.mem_of_getElem? (i := 338) (by decide +kernel)⟩
abbrev mX1_putFour : zMI := (RX1, yX1_putFour, 2, none)
theorem mk_X1_putFour : zMK mX1_putFour cX1_putFour 1 := ⟨List.mem_of_getElem? (i := 335) (by decide +kernel), List.mem_of_getElem? (i := 86) (by decide +kernel), ⟨by decide +kernel, by decide +kernel, by decide +kernel⟩, by decide⟩
theorem mi_X1_putFour : Cond.instanceMethod yX1_putFour ∈ lw_tbl := List.mem_of_getElem? (i := 333) (by decide +kernel)
theorem mv_X1_putFour : zMV yX1_putFour := ⟨mi_X1_putFour, List.mem_of_getElem? (i := 334) (by decide +kernel)⟩
abbrev mX1_get : zMI := (RX1, yX1_get, 2, (some .int))
theorem mk_X1_get : zMK mX1_get cX1_get 1 := ⟨List.mem_of_getElem? (i := 547) (by decide +kernel), List.mem_of_getElem? (i := 86) (by decide +kernel), ⟨by decide +kernel, by decide +kernel, by decide +kernel⟩, by decide⟩
theorem mi_X1_get : Cond.instanceMethod yX1_get ∈ lw_tbl := List.mem_of_getElem? (i := 545) (by decide +kernel)
theorem mv_X1_get : zMV yX1_get := ⟨mi_X1_get, List.mem_of_getElem? (i := 546) (by decide +kernel)⟩
abbrev mX1_getTwo : zMI := (RX1, yX1_getTwo, 2, (some .int))
theorem mk_X1_getTwo : zMK mX1_getTwo cX1_getTwo 1 := ⟨List.mem_of_getElem? (i := 880) (by decide +kernel), List.mem_of_getElem? (i := 86) (by decide +kernel), ⟨by decide +kernel, by decide +kernel, by decide +kernel⟩, by decide⟩
theorem mi_X1_getTwo : Cond.instanceMethod yX1_getTwo ∈ lw_tbl := List.mem_of_getElem? (i := 878) (by decide +kernel)
theorem mv_X1_getTwo : zMV yX1_getTwo := ⟨mi_X1_getTwo, List.mem_of_getElem? (i := 879) (by decide +kernel)⟩
abbrev mX1_append : zMI := (RX1, yX1_append, 5, none)
theorem mk_X1_append : zMK mX1_append cX1_append 3 := ⟨List.mem_of_getElem? (i := 859) (by decide +kernel), List.mem_of_getElem? (i := 86) (by decide +kernel), ⟨by decide +kernel, by decide +kernel, by decide +kernel⟩, by decide⟩
theorem mi_X1_append : Cond.instanceMethod yX1_append ∈ lw_tbl := List.mem_of_getElem? (i := 857) (by decide +kernel)
theorem mv_X1_append : zMV yX1_append := ⟨mi_X1_append, List.mem_of_getElem? (i := 858) (by decide +kernel)⟩
abbrev mX1_against : zMI := (RX1, yX1_against, 6, (some .int))
theorem mk_X1_against : zMK mX1_against cX1_against 1 := ⟨List.mem_of_getElem? (i := 761) (by decide +kernel), List.mem_of_getElem? (i := 86) (by decide +kernel), ⟨by decide +kernel, by decide +kernel, by decide +kernel⟩, by decide⟩
theorem mi_X1_against : Cond.instanceMethod yX1_against ∈ lw_tbl := List.mem_of_getElem? (i := 759) (by decide +kernel)
theorem mv_X1_against : zMV yX1_against := ⟨mi_X1_against, List.mem_of_getElem? (i := 760) (by decide +kernel)⟩
abbrev mX1_checkOf : zMI := (RX1, yX1_checkOf, 4, (some .int))
theorem mk_X1_checkOf : zMK mX1_checkOf cX1_checkOf 1 := ⟨List.mem_of_getElem? (i := 863) (by decide +kernel), List.mem_of_getElem? (i := 86) (by decide +kernel), ⟨by decide +kernel, by decide +kernel, by decide +kernel⟩, by decide⟩
theorem mi_X1_checkOf : Cond.instanceMethod yX1_checkOf ∈ lw_tbl := List.mem_of_getElem? (i := 861) (by decide +kernel)
theorem mv_X1_checkOf : zMV yX1_checkOf := ⟨mi_X1_checkOf, List.mem_of_getElem? (i := 862) (by decide +kernel)⟩
abbrev mX2_init : zMI := (RX2, yX2_init, 3, none)
theorem mk_X2_init : zMK mX2_init cX2_init 2 := ⟨List.mem_of_getElem? (i := 497) (by decide +kernel), List.mem_of_getElem? (i := 97) (by decide +kernel), ⟨by decide +kernel, by decide +kernel, by decide +kernel⟩, by decide⟩
theorem mi_X2_init : Cond.instanceMethod yX2_init ∈ lw_tbl := List.mem_of_getElem? (i := 496) (by decide +kernel)
abbrev mX2_advance : zMI := (RX2, yX2_advance, 2, none)
theorem mk_X2_advance : zMK mX2_advance cX2_advance 0 := ⟨List.mem_of_getElem? (i := 543) (by decide +kernel), List.mem_of_getElem? (i := 97) (by decide +kernel), ⟨by decide +kernel, by decide +kernel, by decide +kernel⟩, by decide⟩
theorem mi_X2_advance : Cond.instanceMethod yX2_advance ∈ lw_tbl := List.mem_of_getElem? (i := 541) (by decide +kernel)
theorem mv_X2_advance : zMV yX2_advance := ⟨mi_X2_advance, List.mem_of_getElem? (i := 542) (by decide +kernel)⟩
abbrev mX2_takeLetters : zMI := (RX2, yX2_takeLetters, 1, none)
theorem mk_X2_takeLetters : zMK mX2_takeLetters cX2_takeLetters 0 := ⟨List.mem_of_getElem? (i := 554) (by decide +kernel), List.mem_of_getElem? (i := 97) (by decide +kernel), ⟨by decide +kernel, by decide +kernel, by decide +kernel⟩, by decide⟩
theorem mi_X2_takeLetters : Cond.instanceMethod yX2_takeLetters ∈ lw_tbl := List.mem_of_getElem? (i := 553) (by decide +kernel)
theorem mv_X2_takeLetters : zMV yX2_takeLetters := ⟨mi_X2_takeLetters, List.mem_of_getElem? (i := 2) (by decide +kernel)⟩
abbrev mX2_takeDigits : zMI := (RX2, yX2_takeDigits, 1, none)
theorem mk_X2_takeDigits : zMK mX2_takeDigits cX2_takeDigits 0 := ⟨List.mem_of_getElem? (i := 561) (by decide +kernel), List.mem_of_getElem? (i := 97) (by decide +kernel), ⟨by decide +kernel, by decide +kernel, by decide +kernel⟩, by decide⟩
theorem mi_X2_takeDigits : Cond.instanceMethod yX2_takeDigits ∈ lw_tbl := List.mem_of_getElem? (i := 560) (by decide +kernel)
theorem mv_X2_takeDigits : zMV yX2_takeDigits := ⟨mi_X2_takeDigits, List.mem_of_getElem? (i := 3) (by decide +kernel)⟩
abbrev mX2_isSign : zMI := (RX2, yX2_isSign, 2, (some .boolean))
theorem mk_X2_isSign : zMK mX2_isSign cX2_isSign 1 := ⟨List.mem_of_getElem? (i := 594) (by decide +kernel), List.mem_of_getElem? (i := 97) (by decide +kernel), ⟨by decide +kernel, by decide +kernel, by decide +kernel⟩, by decide⟩
theorem mi_X2_isSign : Cond.instanceMethod yX2_isSign ∈ lw_tbl := List.mem_of_getElem? (i := 592) (by decide +kernel)
theorem mv_X2_isSign : zMV yX2_isSign := ⟨mi_X2_isSign, List.mem_of_getElem? (i := 593) (by decide +kernel)⟩
abbrev mX2_isWord : zMI := (RX2, yX2_isWord, 3, (some .boolean))
theorem mk_X2_isWord : zMK mX2_isWord cX2_isWord 1 := ⟨List.mem_of_getElem? (i := 568) (by decide +kernel), List.mem_of_getElem? (i := 97) (by decide +kernel), ⟨by decide +kernel, by decide +kernel, by decide +kernel⟩, by decide⟩
theorem mi_X2_isWord : Cond.instanceMethod yX2_isWord ∈ lw_tbl := List.mem_of_getElem? (i := 566) (by decide +kernel)
theorem mv_X2_isWord : zMV yX2_isWord := ⟨mi_X2_isWord, List.mem_of_getElem? (i := 567) (by decide +kernel)⟩
abbrev mX2_isLetter : zMI := (RX2, yX2_isLetter, 1, (some .boolean))
theorem mk_X2_isLetter : zMK mX2_isLetter cX2_isLetter 1 := ⟨List.mem_of_getElem? (i := 550) (by decide +kernel), List.mem_of_getElem? (i := 97) (by decide +kernel), ⟨by decide +kernel, by decide +kernel, by decide +kernel⟩, by decide⟩
theorem ms_X2_isLetter : Cond.static yX2_isLetter ∈ lw_tbl := List.mem_of_getElem? (i := 549) (by decide +kernel)
abbrev mX2_isDigit : zMI := (RX2, yX2_isDigit, 1, (some .boolean))
theorem mk_X2_isDigit : zMK mX2_isDigit cX2_isDigit 1 := ⟨List.mem_of_getElem? (i := 557) (by decide +kernel), List.mem_of_getElem? (i := 97) (by decide +kernel), ⟨by decide +kernel, by decide +kernel, by decide +kernel⟩, by decide⟩
theorem ms_X2_isDigit : Cond.static yX2_isDigit ∈ lw_tbl := List.mem_of_getElem? (i := 556) (by decide +kernel)
abbrev mX3_init : zMI := (RX3, yX3_init, 1, none)
theorem mk_X3_init : zMK mX3_init cX3_init 0 := ⟨List.mem_of_getElem? (i := 366) (by decide +kernel), List.mem_of_getElem? (i := 93) (by decide +kernel), ⟨by decide +kernel, by decide +kernel, by decide +kernel⟩, by decide⟩
theorem mi_X3_init : Cond.instanceMethod yX3_init ∈ lw_tbl := List.mem_of_getElem? (i := 365) (by decide +kernel)
abbrev mX3_add : zMI := (RX3, yX3_add, 5, none)
theorem mk_X3_add : zMK mX3_add cX3_add 4 := ⟨List.mem_of_getElem? (i := 614) (by decide +kernel), List.mem_of_getElem? (i := 93) (by decide +kernel), ⟨by decide +kernel, by decide +kernel, by decide +kernel⟩, by decide⟩
theorem mi_X3_add : Cond.instanceMethod yX3_add ∈ lw_tbl := List.mem_of_getElem? (i := 612) (by decide +kernel)
theorem mv_X3_add : zMV yX3_add := ⟨mi_X3_add, List.mem_of_getElem? (i := 613) (by decide +kernel)⟩
abbrev mX3_has : zMI := (RX3, yX3_has, 3, (some .boolean))
theorem mk_X3_has : zMK mX3_has cX3_has 1 := ⟨List.mem_of_getElem? (i := 607) (by decide +kernel), List.mem_of_getElem? (i := 93) (by decide +kernel), ⟨by decide +kernel, by decide +kernel, by decide +kernel⟩, by decide⟩
theorem mi_X3_has : Cond.instanceMethod yX3_has ∈ lw_tbl := List.mem_of_getElem? (i := 605) (by decide +kernel)
theorem mv_X3_has : zMV yX3_has := ⟨mi_X3_has, List.mem_of_getElem? (i := 606) (by decide +kernel)⟩
abbrev mX3_lengthOf : zMI := (RX3, yX3_lengthOf, 10, (some .int))
theorem mk_X3_lengthOf : zMK mX3_lengthOf cX3_lengthOf 2 := ⟨List.mem_of_getElem? (i := 1029) (by decide +kernel), List.mem_of_getElem? (i := 93) (by decide +kernel), ⟨by decide +kernel, by decide +kernel, by decide +kernel⟩, by decide⟩
theorem ms_X3_lengthOf : Cond.static yX3_lengthOf ∈ lw_tbl := List.mem_of_getElem? (i := 1028) (by decide +kernel)
abbrev mX3_writeKey : zMI := (RX3, yX3_writeKey, 5, none)
theorem mk_X3_writeKey : zMK mX3_writeKey cX3_writeKey 3 := ⟨List.mem_of_getElem? (i := 747) (by decide +kernel), List.mem_of_getElem? (i := 93) (by decide +kernel), ⟨by decide +kernel, by decide +kernel, by decide +kernel⟩, by decide⟩
theorem mi_X3_writeKey : Cond.instanceMethod yX3_writeKey ∈ lw_tbl := List.mem_of_getElem? (i := 745) (by decide +kernel)
theorem mv_X3_writeKey : zMV yX3_writeKey := ⟨mi_X3_writeKey, List.mem_of_getElem? (i := 746) (by decide +kernel)⟩
abbrev mX3_writePart : zMI := (RX3, yX3_writePart, 7, none)
theorem mk_X3_writePart : zMK mX3_writePart cX3_writePart 3 := ⟨List.mem_of_getElem? (i := 753) (by decide +kernel), List.mem_of_getElem? (i := 93) (by decide +kernel), ⟨by decide +kernel, by decide +kernel, by decide +kernel⟩, by decide⟩
theorem mi_X3_writePart : Cond.instanceMethod yX3_writePart ∈ lw_tbl := List.mem_of_getElem? (i := 751) (by decide +kernel)
theorem mv_X3_writePart : zMV yX3_writePart := ⟨mi_X3_writePart, List.mem_of_getElem? (i := 752) (by decide +kernel)⟩
abbrev mX4_init : zMI := (RX4, yX4_init, 1, none)
theorem mk_X4_init : zMK mX4_init cX4_init 0 := ⟨List.mem_of_getElem? (i := 217) (by decide +kernel), List.mem_of_getElem? (i := 89) (by decide +kernel), ⟨by decide +kernel, by decide +kernel, by decide +kernel⟩, by decide⟩
theorem mi_X4_init : Cond.instanceMethod yX4_init ∈ lw_tbl := List.mem_of_getElem? (i := 216) (by decide +kernel)
abbrev mX4_has : zMI := (RX4, yX4_has, 2, (some .boolean))
theorem mk_X4_has : zMK mX4_has cX4_has 1 := ⟨List.mem_of_getElem? (i := 933) (by decide +kernel), List.mem_of_getElem? (i := 89) (by decide +kernel), ⟨by decide +kernel, by decide +kernel, by decide +kernel⟩, by decide⟩
theorem mi_X4_has : Cond.instanceMethod yX4_has ∈ lw_tbl := List.mem_of_getElem? (i := 931) (by decide +kernel)
theorem mv_X4_has : zMV yX4_has := ⟨mi_X4_has, List.mem_of_getElem? (i := 932) (by decide +kernel)⟩
abbrev mX4_tokenOf : zMI := (RX4, yX4_tokenOf, 2, (some (.object "DriftPages$Bytes")))
theorem mk_X4_tokenOf : zMK mX4_tokenOf cX4_tokenOf 1 := ⟨List.mem_of_getElem? (i := 945) (by decide +kernel), List.mem_of_getElem? (i := 89) (by decide +kernel), ⟨by decide +kernel, by decide +kernel, by decide +kernel⟩, by decide⟩
theorem mi_X4_tokenOf : Cond.instanceMethod yX4_tokenOf ∈ lw_tbl := List.mem_of_getElem? (i := 943) (by decide +kernel)
theorem mv_X4_tokenOf : zMV yX4_tokenOf := ⟨mi_X4_tokenOf, List.mem_of_getElem? (i := 944) (by decide +kernel)⟩
abbrev mX4_fill : zMI := (RX4, yX4_fill, 7, none)
theorem mk_X4_fill : zMK mX4_fill cX4_fill 3 := ⟨List.mem_of_getElem? (i := 840) (by decide +kernel), List.mem_of_getElem? (i := 89) (by decide +kernel), ⟨by decide +kernel, by decide +kernel, by decide +kernel⟩, by decide⟩
theorem mi_X4_fill : Cond.instanceMethod yX4_fill ∈ lw_tbl := List.mem_of_getElem? (i := 838) (by decide +kernel)
theorem mv_X4_fill : zMV yX4_fill := ⟨mi_X4_fill, List.mem_of_getElem? (i := 839) (by decide +kernel)⟩
abbrev mX4_keepToken : zMI := (RX4, yX4_keepToken, 5, none)
theorem mk_X4_keepToken : zMK mX4_keepToken cX4_keepToken 4 := ⟨List.mem_of_getElem? (i := 899) (by decide +kernel), List.mem_of_getElem? (i := 89) (by decide +kernel), ⟨by decide +kernel, by decide +kernel, by decide +kernel⟩, by decide⟩
theorem mi_X4_keepToken : Cond.instanceMethod yX4_keepToken ∈ lw_tbl := List.mem_of_getElem? (i := 897) (by decide +kernel)
theorem mv_X4_keepToken : zMV yX4_keepToken := ⟨mi_X4_keepToken, List.mem_of_getElem? (i := 898) (by decide +kernel)⟩
abbrev mX4_writeToken : zMI := (RX4, yX4_writeToken, 6, none)
theorem mk_X4_writeToken : zMK mX4_writeToken cX4_writeToken 5 := ⟨List.mem_of_getElem? (i := 849) (by decide +kernel), List.mem_of_getElem? (i := 89) (by decide +kernel), ⟨by decide +kernel, by decide +kernel, by decide +kernel⟩, by decide⟩
theorem ms_X4_writeToken : Cond.static yX4_writeToken ∈ lw_tbl := List.mem_of_getElem? (i := 848) (by decide +kernel)
abbrev mX5_init : zMI := (RX5, yX5_init, 4, none)
theorem mk_X5_init : zMK mX5_init cX5_init 3 := ⟨List.mem_of_getElem? (i := 491) (by decide +kernel), List.mem_of_getElem? (i := 96) (by decide +kernel), ⟨by decide +kernel, by decide +kernel, by decide +kernel⟩, by decide⟩
theorem mi_X5_init : Cond.instanceMethod yX5_init ∈ lw_tbl := List.mem_of_getElem? (i := 490) (by decide +kernel)
abbrev mX5_readTable : zMI := (RX5, yX5_readTable, 3, (some .boolean))
theorem mk_X5_readTable : zMK mX5_readTable cX5_readTable 0 := ⟨List.mem_of_getElem? (i := 539) (by decide +kernel), List.mem_of_getElem? (i := 96) (by decide +kernel), ⟨by decide +kernel, by decide +kernel, by decide +kernel⟩, by decide⟩
theorem mi_X5_readTable : Cond.instanceMethod yX5_readTable ∈ lw_tbl := List.mem_of_getElem? (i := 537) (by decide +kernel)
theorem mv_X5_readTable : zMV yX5_readTable := ⟨mi_X5_readTable, List.mem_of_getElem? (i := 538) (by decide +kernel)⟩
abbrev mX5_fails : zMI := (RX5, yX5_fails, 2, (some .boolean))
theorem mk_X5_fails : zMK mX5_fails cX5_fails 1 := ⟨List.mem_of_getElem? (i := 576) (by decide +kernel), List.mem_of_getElem? (i := 96) (by decide +kernel), ⟨by decide +kernel, by decide +kernel, by decide +kernel⟩, by decide⟩
theorem mi_X5_fails : Cond.instanceMethod yX5_fails ∈ lw_tbl := List.mem_of_getElem? (i := 575) (by decide +kernel)
theorem mv_X5_fails : zMV yX5_fails := ⟨mi_X5_fails, List.mem_of_getElem? (i := 5) (by decide +kernel)⟩
abbrev mX5_readColumns : zMI := (RX5, yX5_readColumns, 2, (some .boolean))
theorem mk_X5_readColumns : zMK mX5_readColumns cX5_readColumns 0 := ⟨List.mem_of_getElem? (i := 572) (by decide +kernel), List.mem_of_getElem? (i := 96) (by decide +kernel), ⟨by decide +kernel, by decide +kernel, by decide +kernel⟩, by decide⟩
theorem mi_X5_readColumns : Cond.instanceMethod yX5_readColumns ∈ lw_tbl := List.mem_of_getElem? (i := 571) (by decide +kernel)
theorem mv_X5_readColumns : zMV yX5_readColumns := ⟨mi_X5_readColumns, List.mem_of_getElem? (i := 4) (by decide +kernel)⟩
abbrev mX5_readColumn : zMI := (RX5, yX5_readColumn, 3, (some .boolean))
theorem mk_X5_readColumn : zMK mX5_readColumn cX5_readColumn 0 := ⟨List.mem_of_getElem? (i := 580) (by decide +kernel), List.mem_of_getElem? (i := 96) (by decide +kernel), ⟨by decide +kernel, by decide +kernel, by decide +kernel⟩, by decide⟩
theorem mi_X5_readColumn : Cond.instanceMethod yX5_readColumn ∈ lw_tbl := List.mem_of_getElem? (i := 579) (by decide +kernel)
theorem mv_X5_readColumn : zMV yX5_readColumn := ⟨mi_X5_readColumn, List.mem_of_getElem? (i := 6) (by decide +kernel)⟩
abbrev mX5_readOrder : zMI := (RX5, yX5_readOrder, 2, (some .boolean))
theorem mk_X5_readOrder : zMK mX5_readOrder cX5_readOrder 0 := ⟨List.mem_of_getElem? (i := 599) (by decide +kernel), List.mem_of_getElem? (i := 96) (by decide +kernel), ⟨by decide +kernel, by decide +kernel, by decide +kernel⟩, by decide⟩
theorem mi_X5_readOrder : Cond.instanceMethod yX5_readOrder ∈ lw_tbl := List.mem_of_getElem? (i := 598) (by decide +kernel)
theorem mv_X5_readOrder : zMV yX5_readOrder := ⟨mi_X5_readOrder, List.mem_of_getElem? (i := 7) (by decide +kernel)⟩
abbrev mX5_readOrdered : zMI := (RX5, yX5_readOrdered, 4, (some .boolean))
theorem mk_X5_readOrdered : zMK mX5_readOrdered cX5_readOrdered 0 := ⟨List.mem_of_getElem? (i := 603) (by decide +kernel), List.mem_of_getElem? (i := 96) (by decide +kernel), ⟨by decide +kernel, by decide +kernel, by decide +kernel⟩, by decide⟩
theorem mi_X5_readOrdered : Cond.instanceMethod yX5_readOrdered ∈ lw_tbl := List.mem_of_getElem? (i := 602) (by decide +kernel)
theorem mv_X5_readOrdered : zMV yX5_readOrdered := ⟨mi_X5_readOrdered, List.mem_of_getElem? (i := 8) (by decide +kernel)⟩
abbrev mX5_readRow : zMI := (RX5, yX5_readRow, 3, (some .boolean))
theorem mk_X5_readRow : zMK mX5_readRow cX5_readRow 0 := ⟨List.mem_of_getElem? (i := 619) (by decide +kernel), List.mem_of_getElem? (i := 96) (by decide +kernel), ⟨by decide +kernel, by decide +kernel, by decide +kernel⟩, by decide⟩
theorem mi_X5_readRow : Cond.instanceMethod yX5_readRow ∈ lw_tbl := List.mem_of_getElem? (i := 618) (by decide +kernel)
theorem mv_X5_readRow : zMV yX5_readRow := ⟨mi_X5_readRow, List.mem_of_getElem? (i := 9) (by decide +kernel)⟩
abbrev mX5_readValue : zMI := (RX5, yX5_readValue, 8, (some .boolean))
theorem mk_X5_readValue : zMK mX5_readValue cX5_readValue 2 := ⟨List.mem_of_getElem? (i := 631) (by decide +kernel), List.mem_of_getElem? (i := 96) (by decide +kernel), ⟨by decide +kernel, by decide +kernel, by decide +kernel⟩, by decide⟩
theorem mi_X5_readValue : Cond.instanceMethod yX5_readValue ∈ lw_tbl := List.mem_of_getElem? (i := 630) (by decide +kernel)
theorem mv_X5_readValue : zMV yX5_readValue := ⟨mi_X5_readValue, List.mem_of_getElem? (i := 10) (by decide +kernel)⟩
abbrev mX6_init : zMI := (RX6, yX6_init, 1, none)
theorem mk_X6_init : zMK mX6_init cX6_init 0 := ⟨List.mem_of_getElem? (i := 260) (by decide +kernel), List.mem_of_getElem? (i := 90) (by decide +kernel), ⟨by decide +kernel, by decide +kernel, by decide +kernel⟩, by decide⟩
theorem mi_X6_init : Cond.instanceMethod yX6_init ∈ lw_tbl := List.mem_of_getElem? (i := 259) (by decide +kernel)
abbrev mX6_start : zMI := (RX6, yX6_start, 5, none)
theorem mk_X6_start : zMK mX6_start cX6_start 3 := ⟨List.mem_of_getElem? (i := 965) (by decide +kernel), List.mem_of_getElem? (i := 90) (by decide +kernel), ⟨by decide +kernel, by decide +kernel, by decide +kernel⟩, by decide⟩
theorem mi_X6_start : Cond.instanceMethod yX6_start ∈ lw_tbl := List.mem_of_getElem? (i := 963) (by decide +kernel)
theorem mv_X6_start : zMV yX6_start := ⟨mi_X6_start, List.mem_of_getElem? (i := 964) (by decide +kernel)⟩
abbrev mX6_take : zMI := (RX6, yX6_take, 6, none)
theorem mk_X6_take : zMK mX6_take cX6_take 3 := ⟨List.mem_of_getElem? (i := 982) (by decide +kernel), List.mem_of_getElem? (i := 90) (by decide +kernel), ⟨by decide +kernel, by decide +kernel, by decide +kernel⟩, by decide⟩
theorem mi_X6_take : Cond.instanceMethod yX6_take ∈ lw_tbl := List.mem_of_getElem? (i := 980) (by decide +kernel)
theorem mv_X6_take : zMV yX6_take := ⟨mi_X6_take, List.mem_of_getElem? (i := 981) (by decide +kernel)⟩
abbrev mX6_counts : zMI := (RX6, yX6_counts, 5, (some .boolean))
theorem mk_X6_counts : zMK mX6_counts cX6_counts 3 := ⟨List.mem_of_getElem? (i := 997) (by decide +kernel), List.mem_of_getElem? (i := 90) (by decide +kernel), ⟨by decide +kernel, by decide +kernel, by decide +kernel⟩, by decide⟩
theorem mi_X6_counts : Cond.instanceMethod yX6_counts ∈ lw_tbl := List.mem_of_getElem? (i := 995) (by decide +kernel)
theorem mv_X6_counts : zMV yX6_counts := ⟨mi_X6_counts, List.mem_of_getElem? (i := 996) (by decide +kernel)⟩
abbrev mX7_init : zMI := (RX7, yX7_init, 1, none)
theorem mk_X7_init : zMK mX7_init cX7_init 0 := ⟨List.mem_of_getElem? (i := 144) (by decide +kernel), List.mem_of_getElem? (i := 88) (by decide +kernel), ⟨by decide +kernel, by decide +kernel, by decide +kernel⟩, by decide⟩
theorem mi_X7_init : Cond.instanceMethod yX7_init ∈ lw_tbl := List.mem_of_getElem? (i := 143) (by decide +kernel)
abbrev mX7_has : zMI := (RX7, yX7_has, 2, (some .boolean))
theorem mk_X7_has : zMK mX7_has cX7_has 1 := ⟨List.mem_of_getElem? (i := 695) (by decide +kernel), List.mem_of_getElem? (i := 88) (by decide +kernel), ⟨by decide +kernel, by decide +kernel, by decide +kernel⟩, by decide⟩
theorem mi_X7_has : Cond.instanceMethod yX7_has ∈ lw_tbl := List.mem_of_getElem? (i := 693) (by decide +kernel)
theorem mv_X7_has : zMV yX7_has := ⟨mi_X7_has, List.mem_of_getElem? (i := 694) (by decide +kernel)⟩
abbrev mX7_add : zMI := (RX7, yX7_add, 2, (some .int))
theorem mk_X7_add : zMK mX7_add cX7_add 0 := ⟨List.mem_of_getElem? (i := 623) (by decide +kernel), List.mem_of_getElem? (i := 88) (by decide +kernel), ⟨by decide +kernel, by decide +kernel, by decide +kernel⟩, by decide⟩
theorem mi_X7_add : Cond.instanceMethod yX7_add ∈ lw_tbl := List.mem_of_getElem? (i := 621) (by decide +kernel)
theorem mv_X7_add : zMV yX7_add := ⟨mi_X7_add, List.mem_of_getElem? (i := 622) (by decide +kernel)⟩
abbrev mX7_set : zMI := (RX7, yX7_set, 3, none)
theorem mk_X7_set : zMK mX7_set cX7_set 2 := ⟨List.mem_of_getElem? (i := 627) (by decide +kernel), List.mem_of_getElem? (i := 88) (by decide +kernel), ⟨by decide +kernel, by decide +kernel, by decide +kernel⟩, by decide⟩
theorem mi_X7_set : Cond.instanceMethod yX7_set ∈ lw_tbl := List.mem_of_getElem? (i := 625) (by decide +kernel)
theorem mv_X7_set : zMV yX7_set := ⟨mi_X7_set, List.mem_of_getElem? (i := 626) (by decide +kernel)⟩
abbrev mX7_isCell : zMI := (RX7, yX7_isCell, 2, (some .boolean))
theorem mk_X7_isCell : zMK mX7_isCell cX7_isCell 2 := ⟨List.mem_of_getElem? (i := 640) (by decide +kernel), List.mem_of_getElem? (i := 88) (by decide +kernel), ⟨by decide +kernel, by decide +kernel, by decide +kernel⟩, by decide⟩
theorem ms_X7_isCell : Cond.static yX7_isCell ∈ lw_tbl := List.mem_of_getElem? (i := 639) (by decide +kernel)
abbrev mX7_read : zMI := (RX7, yX7_read, 3, (some .long))
theorem mk_X7_read : zMK mX7_read cX7_read 2 := ⟨List.mem_of_getElem? (i := 704) (by decide +kernel), List.mem_of_getElem? (i := 88) (by decide +kernel), ⟨by decide +kernel, by decide +kernel, by decide +kernel⟩, by decide⟩
theorem mi_X7_read : Cond.instanceMethod yX7_read ∈ lw_tbl := List.mem_of_getElem? (i := 702) (by decide +kernel)
theorem mv_X7_read : zMV yX7_read := ⟨mi_X7_read, List.mem_of_getElem? (i := 703) (by decide +kernel)⟩
abbrev mX7_write : zMI := (RX7, yX7_write, 5, none)
theorem mk_X7_write : zMK mX7_write cX7_write 3 := ⟨List.mem_of_getElem? (i := 637) (by decide +kernel), List.mem_of_getElem? (i := 88) (by decide +kernel), ⟨by decide +kernel, by decide +kernel, by decide +kernel⟩, by decide⟩
theorem mi_X7_write : Cond.instanceMethod yX7_write ∈ lw_tbl := List.mem_of_getElem? (i := 635) (by decide +kernel)
theorem mv_X7_write : zMV yX7_write := ⟨mi_X7_write, List.mem_of_getElem? (i := 636) (by decide +kernel)⟩
abbrev mX7_copy : zMI := (RX7, yX7_copy, 3, none)
theorem mk_X7_copy : zMK mX7_copy cX7_copy 1 := ⟨List.mem_of_getElem? (i := 726) (by decide +kernel), List.mem_of_getElem? (i := 88) (by decide +kernel), ⟨by decide +kernel, by decide +kernel, by decide +kernel⟩, by decide⟩
theorem mi_X7_copy : Cond.instanceMethod yX7_copy ∈ lw_tbl := List.mem_of_getElem? (i := 724) (by decide +kernel)
theorem mv_X7_copy : zMV yX7_copy := ⟨mi_X7_copy, List.mem_of_getElem? (i := 725) (by decide +kernel)⟩
abbrev mX8_init : zMI := (RX8, yX8_init, 1, none)
theorem mk_X8_init : zMK mX8_init cX8_init 0 := ⟨List.mem_of_getElem? (i := 393) (by decide +kernel), List.mem_of_getElem? (i := 94) (by decide +kernel), ⟨by decide +kernel, by decide +kernel, by decide +kernel⟩, by decide⟩
theorem mi_X8_init : Cond.instanceMethod yX8_init ∈ lw_tbl := List.mem_of_getElem? (i := 392) (by decide +kernel)
abbrev mX8_add : zMI := (RX8, yX8_add, 6, none)
theorem mk_X8_add : zMK mX8_add cX8_add 4 := ⟨List.mem_of_getElem? (i := 1042) (by decide +kernel), List.mem_of_getElem? (i := 94) (by decide +kernel), ⟨by decide +kernel, by decide +kernel, by decide +kernel⟩, by decide⟩
theorem mi_X8_add : Cond.instanceMethod yX8_add ∈ lw_tbl := List.mem_of_getElem? (i := 1040) (by decide +kernel)
theorem mv_X8_add : zMV yX8_add := ⟨mi_X8_add, List.mem_of_getElem? (i := 1041) (by decide +kernel)⟩
abbrev mX8_lets : zMI := (RX8, yX8_lets, 4, (some .boolean))
theorem mk_X8_lets : zMK mX8_lets cX8_lets 2 := ⟨List.mem_of_getElem? (i := 767) (by decide +kernel), List.mem_of_getElem? (i := 94) (by decide +kernel), ⟨by decide +kernel, by decide +kernel, by decide +kernel⟩, by decide⟩
theorem mi_X8_lets : Cond.instanceMethod yX8_lets ∈ lw_tbl := List.mem_of_getElem? (i := 765) (by decide +kernel)
theorem mv_X8_lets : zMV yX8_lets := ⟨mi_X8_lets, List.mem_of_getElem? (i := 766) (by decide +kernel)⟩
abbrev mX8_meets : zMI := (RX8, yX8_meets, 6, (some .boolean))
theorem mk_X8_meets : zMK mX8_meets cX8_meets 2 := ⟨List.mem_of_getElem? (i := 772) (by decide +kernel), List.mem_of_getElem? (i := 94) (by decide +kernel), ⟨by decide +kernel, by decide +kernel, by decide +kernel⟩, by decide⟩
theorem mi_X8_meets : Cond.instanceMethod yX8_meets ∈ lw_tbl := List.mem_of_getElem? (i := 771) (by decide +kernel)
theorem mv_X8_meets : zMV yX8_meets := ⟨mi_X8_meets, List.mem_of_getElem? (i := 18) (by decide +kernel)⟩
abbrev mX9_init : zMI := (RX9, yX9_init, 1, none)
theorem mk_X9_init : zMK mX9_init cX9_init 0 := ⟨List.mem_of_getElem? (i := 360) (by decide +kernel), List.mem_of_getElem? (i := 92) (by decide +kernel), ⟨by decide +kernel, by decide +kernel, by decide +kernel⟩, by decide⟩
theorem mi_X9_init : Cond.instanceMethod yX9_init ∈ lw_tbl := List.mem_of_getElem? (i := 359) (by decide +kernel)
abbrev mX9_addColumn : zMI := (RX9, yX9_addColumn, 4, none)
theorem mk_X9_addColumn : zMK mX9_addColumn cX9_addColumn 2 := ⟨List.mem_of_getElem? (i := 590) (by decide +kernel), List.mem_of_getElem? (i := 92) (by decide +kernel), ⟨by decide +kernel, by decide +kernel, by decide +kernel⟩, by decide⟩
theorem mi_X9_addColumn : Cond.instanceMethod yX9_addColumn ∈ lw_tbl := List.mem_of_getElem? (i := 588) (by decide +kernel)
theorem mv_X9_addColumn : zMV yX9_addColumn := ⟨mi_X9_addColumn, List.mem_of_getElem? (i := 589) (by decide +kernel)⟩
abbrev mX9_columnOf : zMI := (RX9, yX9_columnOf, 4, (some .int))
theorem mk_X9_columnOf : zMK mX9_columnOf cX9_columnOf 1 := ⟨List.mem_of_getElem? (i := 584) (by decide +kernel), List.mem_of_getElem? (i := 92) (by decide +kernel), ⟨by decide +kernel, by decide +kernel, by decide +kernel⟩, by decide⟩
theorem mi_X9_columnOf : Cond.instanceMethod yX9_columnOf ∈ lw_tbl := List.mem_of_getElem? (i := 582) (by decide +kernel)
theorem mv_X9_columnOf : zMV yX9_columnOf := ⟨mi_X9_columnOf, List.mem_of_getElem? (i := 583) (by decide +kernel)⟩
abbrev mX9_canHold : zMI := (RX9, yX9_canHold, 4, (some .boolean))
theorem mk_X9_canHold : zMK mX9_canHold cX9_canHold 2 := ⟨List.mem_of_getElem? (i := 913) (by decide +kernel), List.mem_of_getElem? (i := 92) (by decide +kernel), ⟨by decide +kernel, by decide +kernel, by decide +kernel⟩, by decide⟩
theorem mi_X9_canHold : Cond.instanceMethod yX9_canHold ∈ lw_tbl := List.mem_of_getElem? (i := 911) (by decide +kernel)
theorem mv_X9_canHold : zMV yX9_canHold := ⟨mi_X9_canHold, List.mem_of_getElem? (i := 912) (by decide +kernel)⟩
abbrev mX9_lacksValue : zMI := (RX9, yX9_lacksValue, 3, (some .boolean))
theorem mk_X9_lacksValue : zMK mX9_lacksValue cX9_lacksValue 1 := ⟨List.mem_of_getElem? (i := 1079) (by decide +kernel), List.mem_of_getElem? (i := 92) (by decide +kernel), ⟨by decide +kernel, by decide +kernel, by decide +kernel⟩, by decide⟩
theorem mi_X9_lacksValue : Cond.instanceMethod yX9_lacksValue ∈ lw_tbl := List.mem_of_getElem? (i := 1077) (by decide +kernel)
theorem mv_X9_lacksValue : zMV yX9_lacksValue := ⟨mi_X9_lacksValue, List.mem_of_getElem? (i := 1078) (by decide +kernel)⟩
abbrev mX10_init : zMI := (RX10, yX10_init, 2, none)
theorem mk_X10_init : zMK mX10_init cX10_init 0 := ⟨List.mem_of_getElem? (i := 138) (by decide +kernel), List.mem_of_getElem? (i := 87) (by decide +kernel), ⟨by decide +kernel, by decide +kernel, by decide +kernel⟩, by decide⟩
theorem mi_X10_init : Cond.instanceMethod yX10_init ∈ lw_tbl := List.mem_of_getElem? (i := 137) (by decide +kernel)
abbrev mX10_show : zMI := (RX10, yX10_show, 4, none)
theorem mk_X10_show : zMK mX10_show cX10_show 2 := ⟨List.mem_of_getElem? (i := 722) (by decide +kernel), List.mem_of_getElem? (i := 87) (by decide +kernel), ⟨by decide +kernel, by decide +kernel, by decide +kernel⟩, by decide⟩
theorem mi_X10_show : Cond.instanceMethod yX10_show ∈ lw_tbl := List.mem_of_getElem? (i := 720) (by decide +kernel)
theorem mv_X10_show : zMV yX10_show := ⟨mi_X10_show, List.mem_of_getElem? (i := 721) (by decide +kernel)⟩
abbrev mX10_enter : zMI := (RX10, yX10_enter, 7, none)
theorem mk_X10_enter : zMK mX10_enter cX10_enter 2 := ⟨List.mem_of_getElem? (i := 743) (by decide +kernel), List.mem_of_getElem? (i := 87) (by decide +kernel), ⟨by decide +kernel, by decide +kernel, by decide +kernel⟩, by decide⟩
theorem mi_X10_enter : Cond.instanceMethod yX10_enter ∈ lw_tbl := List.mem_of_getElem? (i := 742) (by decide +kernel)
theorem mv_X10_enter : zMV yX10_enter := ⟨mi_X10_enter, List.mem_of_getElem? (i := 17) (by decide +kernel)⟩
abbrev mX10_placeOf : zMI := (RX10, yX10_placeOf, 3, (some .int))
theorem mk_X10_placeOf : zMK mX10_placeOf cX10_placeOf 1 := ⟨List.mem_of_getElem? (i := 792) (by decide +kernel), List.mem_of_getElem? (i := 87) (by decide +kernel), ⟨by decide +kernel, by decide +kernel, by decide +kernel⟩, by decide⟩
theorem mi_X10_placeOf : Cond.instanceMethod yX10_placeOf ∈ lw_tbl := List.mem_of_getElem? (i := 790) (by decide +kernel)
theorem mv_X10_placeOf : zMV yX10_placeOf := ⟨mi_X10_placeOf, List.mem_of_getElem? (i := 791) (by decide +kernel)⟩
abbrev mX10_keyAt : zMI := (RX10, yX10_keyAt, 2, (some (.object "DriftPages$Bytes")))
theorem mk_X10_keyAt : zMK mX10_keyAt cX10_keyAt 1 := ⟨List.mem_of_getElem? (i := 796) (by decide +kernel), List.mem_of_getElem? (i := 87) (by decide +kernel), ⟨by decide +kernel, by decide +kernel, by decide +kernel⟩, by decide⟩
theorem mi_X10_keyAt : Cond.instanceMethod yX10_keyAt ∈ lw_tbl := List.mem_of_getElem? (i := 794) (by decide +kernel)
theorem mv_X10_keyAt : zMV yX10_keyAt := ⟨mi_X10_keyAt, List.mem_of_getElem? (i := 795) (by decide +kernel)⟩
abbrev mX10_idPassing : zMI := (RX10, yX10_idPassing, 2, (some .int))
theorem mk_X10_idPassing : zMK mX10_idPassing cX10_idPassing 1 := ⟨List.mem_of_getElem? (i := 844) (by decide +kernel), List.mem_of_getElem? (i := 87) (by decide +kernel), ⟨by decide +kernel, by decide +kernel, by decide +kernel⟩, by decide⟩
theorem mi_X10_idPassing : Cond.instanceMethod yX10_idPassing ∈ lw_tbl := List.mem_of_getElem? (i := 842) (by decide +kernel)
theorem mv_X10_idPassing : zMV yX10_idPassing := ⟨mi_X10_idPassing, List.mem_of_getElem? (i := 843) (by decide +kernel)⟩
abbrev mX10_keyPassing : zMI := (RX10, yX10_keyPassing, 2, (some (.object "DriftPages$Bytes")))
theorem mk_X10_keyPassing : zMK mX10_keyPassing cX10_keyPassing 1 := ⟨List.mem_of_getElem? (i := 853) (by decide +kernel), List.mem_of_getElem? (i := 87) (by decide +kernel), ⟨by decide +kernel, by decide +kernel, by decide +kernel⟩, by decide⟩
theorem mi_X10_keyPassing : Cond.instanceMethod yX10_keyPassing ∈ lw_tbl := List.mem_of_getElem? (i := 851) (by decide +kernel)
theorem mv_X10_keyPassing : zMV yX10_keyPassing := ⟨mi_X10_keyPassing, List.mem_of_getElem? (i := 852) (by decide +kernel)⟩
abbrev mX10_countBelow : zMI := (RX10, yX10_countBelow, 3, (some .int))
theorem mk_X10_countBelow : zMK mX10_countBelow cX10_countBelow 1 := ⟨List.mem_of_getElem? (i := 895) (by decide +kernel), List.mem_of_getElem? (i := 87) (by decide +kernel), ⟨by decide +kernel, by decide +kernel, by decide +kernel⟩, by decide⟩
theorem mi_X10_countBelow : Cond.instanceMethod yX10_countBelow ∈ lw_tbl := List.mem_of_getElem? (i := 893) (by decide +kernel)
theorem mv_X10_countBelow : zMV yX10_countBelow := ⟨mi_X10_countBelow, List.mem_of_getElem? (i := 894) (by decide +kernel)⟩
abbrev mX10_countNotAbove : zMI := (RX10, yX10_countNotAbove, 3, (some .int))
theorem mk_X10_countNotAbove : zMK mX10_countNotAbove cX10_countNotAbove 1 := ⟨List.mem_of_getElem? (i := 889) (by decide +kernel), List.mem_of_getElem? (i := 87) (by decide +kernel), ⟨by decide +kernel, by decide +kernel, by decide +kernel⟩, by decide⟩
theorem mi_X10_countNotAbove : Cond.instanceMethod yX10_countNotAbove ∈ lw_tbl := List.mem_of_getElem? (i := 887) (by decide +kernel)
theorem mv_X10_countNotAbove : zMV yX10_countNotAbove := ⟨mi_X10_countNotAbove, List.mem_of_getElem? (i := 888) (by decide +kernel)⟩
abbrev mX10_chooseFrom : zMI := (RX10, yX10_chooseFrom, 3, none)
theorem mk_X10_chooseFrom : zMK mX10_chooseFrom cX10_chooseFrom 2 := ⟨List.mem_of_getElem? (i := 836) (by decide +kernel), List.mem_of_getElem? (i := 87) (by decide +kernel), ⟨by decide +kernel, by decide +kernel, by decide +kernel⟩, by decide⟩
theorem mi_X10_chooseFrom : Cond.instanceMethod yX10_chooseFrom ∈ lw_tbl := List.mem_of_getElem? (i := 834) (by decide +kernel)
theorem mv_X10_chooseFrom : zMV yX10_chooseFrom := ⟨mi_X10_chooseFrom, List.mem_of_getElem? (i := 835) (by decide +kernel)⟩
abbrev mX10_chooseBeside : zMI := (RX10, yX10_chooseBeside, 4, none)
theorem mk_X10_chooseBeside : zMK mX10_chooseBeside cX10_chooseBeside 3 := ⟨List.mem_of_getElem? (i := 885) (by decide +kernel), List.mem_of_getElem? (i := 87) (by decide +kernel), ⟨by decide +kernel, by decide +kernel, by decide +kernel⟩, by decide⟩
theorem mi_X10_chooseBeside : Cond.instanceMethod yX10_chooseBeside ∈ lw_tbl := List.mem_of_getElem? (i := 883) (by decide +kernel)
theorem mv_X10_chooseBeside : zMV yX10_chooseBeside := ⟨mi_X10_chooseBeside, List.mem_of_getElem? (i := 884) (by decide +kernel)⟩
abbrev mX11_init : zMI := (RX11, yX11_init, 2, none)
theorem mk_X11_init : zMK mX11_init cX11_init 0 := ⟨List.mem_of_getElem? (i := 113) (by decide +kernel), List.mem_of_getElem? (i := 85) (by decide +kernel), ⟨by decide +kernel, by decide +kernel, by decide +kernel⟩, by decide⟩
theorem mi_X11_init : Cond.instanceMethod yX11_init ∈ lw_tbl := List.mem_of_getElem? (i := 112) (by decide +kernel)
abbrev mX11_feed : zMI := (RX11, yX11_feed, 6, (some .int))
theorem mk_X11_feed : zMK mX11_feed cX11_feed 5 := ⟨List.mem_of_getElem? (i := 331) (by decide +kernel), List.mem_of_getElem? (i := 85) (by decide +kernel), ⟨by decide +kernel, by decide +kernel, by decide +kernel⟩, by decide⟩
theorem mi_X11_feed : Cond.instanceMethod yX11_feed ∈ lw_tbl := List.mem_of_getElem? (i := 329) (by decide +kernel)
theorem mv_X11_feed : zMV yX11_feed := ⟨mi_X11_feed, List.mem_of_getElem? (i := 330) (by decide +kernel)⟩
abbrev mX11_table : zMI := (RX11, yX11_table, 5, (some .int))
theorem mk_X11_table : zMK mX11_table cX11_table 1 := ⟨List.mem_of_getElem? (i := 347) (by decide +kernel), List.mem_of_getElem? (i := 85) (by decide +kernel), ⟨by decide +kernel, by decide +kernel, by decide +kernel⟩, by decide⟩
theorem mi_X11_table : Cond.instanceMethod yX11_table ∈ lw_tbl := List.mem_of_getElem? (i := 345) (by decide +kernel)
theorem mv_X11_table : zMV yX11_table := ⟨mi_X11_table, List.mem_of_getElem? (i := 346) (by decide +kernel)⟩
abbrev mX11_fault : zMI := (RX11, yX11_fault, 1, (some .int))
theorem mk_X11_fault : zMK mX11_fault cX11_fault 0 := ⟨List.mem_of_getElem? (i := 656) (by decide +kernel), List.mem_of_getElem? (i := 85) (by decide +kernel), ⟨by decide +kernel, by decide +kernel, by decide +kernel⟩, by decide⟩
theorem mi_X11_fault : Cond.instanceMethod yX11_fault ∈ lw_tbl := List.mem_of_getElem? (i := 654) (by decide +kernel)
theorem mv_X11_fault : zMV yX11_fault := ⟨mi_X11_fault, List.mem_of_getElem? (i := 655) (by decide +kernel)⟩
abbrev mX11_where : zMI := (RX11, yX11_where, 1, (some .int))
theorem mk_X11_where : zMK mX11_where cX11_where 0 := ⟨List.mem_of_getElem? (i := 660) (by decide +kernel), List.mem_of_getElem? (i := 85) (by decide +kernel), ⟨by decide +kernel, by decide +kernel, by decide +kernel⟩, by decide⟩
theorem mi_X11_where : Cond.instanceMethod yX11_where ∈ lw_tbl := List.mem_of_getElem? (i := 658) (by decide +kernel)
theorem mv_X11_where : zMV yX11_where := ⟨mi_X11_where, List.mem_of_getElem? (i := 659) (by decide +kernel)⟩
abbrev mX11_about : zMI := (RX11, yX11_about, 2, (some .int))
theorem mk_X11_about : zMK mX11_about cX11_about 1 := ⟨List.mem_of_getElem? (i := 664) (by decide +kernel), List.mem_of_getElem? (i := 85) (by decide +kernel), ⟨by decide +kernel, by decide +kernel, by decide +kernel⟩, by decide⟩
theorem mi_X11_about : Cond.instanceMethod yX11_about ∈ lw_tbl := List.mem_of_getElem? (i := 662) (by decide +kernel)
theorem mv_X11_about : zMV yX11_about := ⟨mi_X11_about, List.mem_of_getElem? (i := 663) (by decide +kernel)⟩
abbrev mX11_kind : zMI := (RX11, yX11_kind, 2, (some .int))
theorem mk_X11_kind : zMK mX11_kind cX11_kind 1 := ⟨List.mem_of_getElem? (i := 675) (by decide +kernel), List.mem_of_getElem? (i := 85) (by decide +kernel), ⟨by decide +kernel, by decide +kernel, by decide +kernel⟩, by decide⟩
theorem mi_X11_kind : Cond.instanceMethod yX11_kind ∈ lw_tbl := List.mem_of_getElem? (i := 673) (by decide +kernel)
theorem mv_X11_kind : zMV yX11_kind := ⟨mi_X11_kind, List.mem_of_getElem? (i := 674) (by decide +kernel)⟩
abbrev mX11_orderAt : zMI := (RX11, yX11_orderAt, 4, (some .int))
theorem mk_X11_orderAt : zMK mX11_orderAt cX11_orderAt 2 := ⟨List.mem_of_getElem? (i := 683) (by decide +kernel), List.mem_of_getElem? (i := 85) (by decide +kernel), ⟨by decide +kernel, by decide +kernel, by decide +kernel⟩, by decide⟩
theorem mi_X11_orderAt : Cond.instanceMethod yX11_orderAt ∈ lw_tbl := List.mem_of_getElem? (i := 681) (by decide +kernel)
theorem mv_X11_orderAt : zMV yX11_orderAt := ⟨mi_X11_orderAt, List.mem_of_getElem? (i := 682) (by decide +kernel)⟩
abbrev mX11_value : zMI := (RX11, yX11_value, 3, (some .long))
theorem mk_X11_value : zMK mX11_value cX11_value 2 := ⟨List.mem_of_getElem? (i := 687) (by decide +kernel), List.mem_of_getElem? (i := 85) (by decide +kernel), ⟨by decide +kernel, by decide +kernel, by decide +kernel⟩, by decide⟩
theorem mi_X11_value : Cond.instanceMethod yX11_value ∈ lw_tbl := List.mem_of_getElem? (i := 685) (by decide +kernel)
theorem mv_X11_value : zMV yX11_value := ⟨mi_X11_value, List.mem_of_getElem? (i := 686) (by decide +kernel)⟩
abbrev mX11_was : zMI := (RX11, yX11_was, 4, (some .long))
theorem mk_X11_was : zMK mX11_was cX11_was 3 := ⟨List.mem_of_getElem? (i := 713) (by decide +kernel), List.mem_of_getElem? (i := 85) (by decide +kernel), ⟨by decide +kernel, by decide +kernel, by decide +kernel⟩, by decide⟩
theorem mi_X11_was : Cond.instanceMethod yX11_was ∈ lw_tbl := List.mem_of_getElem? (i := 711) (by decide +kernel)
theorem mv_X11_was : zMV yX11_was := ⟨mi_X11_was, List.mem_of_getElem? (i := 712) (by decide +kernel)⟩
abbrev mX11_keySize : zMI := (RX11, yX11_keySize, 2, (some .int))
theorem mk_X11_keySize : zMK mX11_keySize cX11_keySize 1 := ⟨List.mem_of_getElem? (i := 784) (by decide +kernel), List.mem_of_getElem? (i := 85) (by decide +kernel), ⟨by decide +kernel, by decide +kernel, by decide +kernel⟩, by decide⟩
theorem mi_X11_keySize : Cond.instanceMethod yX11_keySize ∈ lw_tbl := List.mem_of_getElem? (i := 782) (by decide +kernel)
theorem mv_X11_keySize : zMV yX11_keySize := ⟨mi_X11_keySize, List.mem_of_getElem? (i := 783) (by decide +kernel)⟩
abbrev mX11_keyByte : zMI := (RX11, yX11_keyByte, 3, (some .int))
theorem mk_X11_keyByte : zMK mX11_keyByte cX11_keyByte 2 := ⟨List.mem_of_getElem? (i := 804) (by decide +kernel), List.mem_of_getElem? (i := 85) (by decide +kernel), ⟨by decide +kernel, by decide +kernel, by decide +kernel⟩, by decide⟩
theorem mi_X11_keyByte : Cond.instanceMethod yX11_keyByte ∈ lw_tbl := List.mem_of_getElem? (i := 802) (by decide +kernel)
theorem mv_X11_keyByte : zMV yX11_keyByte := ⟨mi_X11_keyByte, List.mem_of_getElem? (i := 803) (by decide +kernel)⟩
abbrev mX11_rank : zMI := (RX11, yX11_rank, 2, (some .int))
theorem mk_X11_rank : zMK mX11_rank cX11_rank 1 := ⟨List.mem_of_getElem? (i := 813) (by decide +kernel), List.mem_of_getElem? (i := 85) (by decide +kernel), ⟨by decide +kernel, by decide +kernel, by decide +kernel⟩, by decide⟩
theorem mi_X11_rank : Cond.instanceMethod yX11_rank ∈ lw_tbl := List.mem_of_getElem? (i := 811) (by decide +kernel)
theorem mv_X11_rank : zMV yX11_rank := ⟨mi_X11_rank, List.mem_of_getElem? (i := 812) (by decide +kernel)⟩
abbrev mX11_ranked : zMI := (RX11, yX11_ranked, 2, (some .int))
theorem mk_X11_ranked : zMK mX11_ranked cX11_ranked 1 := ⟨List.mem_of_getElem? (i := 821) (by decide +kernel), List.mem_of_getElem? (i := 85) (by decide +kernel), ⟨by decide +kernel, by decide +kernel, by decide +kernel⟩, by decide⟩
theorem mi_X11_ranked : Cond.instanceMethod yX11_ranked ∈ lw_tbl := List.mem_of_getElem? (i := 819) (by decide +kernel)
theorem mv_X11_ranked : zMV yX11_ranked := ⟨mi_X11_ranked, List.mem_of_getElem? (i := 820) (by decide +kernel)⟩
abbrev mX11_differ : zMI := (RX11, yX11_differ, 5, (some .int))
theorem mk_X11_differ : zMK mX11_differ cX11_differ 2 := ⟨List.mem_of_getElem? (i := 825) (by decide +kernel), List.mem_of_getElem? (i := 85) (by decide +kernel), ⟨by decide +kernel, by decide +kernel, by decide +kernel⟩, by decide⟩
theorem mi_X11_differ : Cond.instanceMethod yX11_differ ∈ lw_tbl := List.mem_of_getElem? (i := 823) (by decide +kernel)
theorem mv_X11_differ : zMV yX11_differ := ⟨mi_X11_differ, List.mem_of_getElem? (i := 824) (by decide +kernel)⟩
abbrev mX11_page : zMI := (RX11, yX11_page, 3, (some .int))
theorem mk_X11_page : zMK mX11_page cX11_page 2 := ⟨List.mem_of_getElem? (i := 829) (by decide +kernel), List.mem_of_getElem? (i := 85) (by decide +kernel), ⟨by decide +kernel, by decide +kernel, by decide +kernel⟩, by decide⟩
theorem mi_X11_page : Cond.instanceMethod yX11_page ∈ lw_tbl := List.mem_of_getElem? (i := 827) (by decide +kernel)
theorem mv_X11_page : zMV yX11_page := ⟨mi_X11_page, List.mem_of_getElem? (i := 828) (by decide +kernel)⟩
abbrev mX11_next : zMI := (RX11, yX11_next, 2, (some .int))
theorem mk_X11_next : zMK mX11_next cX11_next 1 := ⟨List.mem_of_getElem? (i := 867) (by decide +kernel), List.mem_of_getElem? (i := 85) (by decide +kernel), ⟨by decide +kernel, by decide +kernel, by decide +kernel⟩, by decide⟩
theorem mi_X11_next : Cond.instanceMethod yX11_next ∈ lw_tbl := List.mem_of_getElem? (i := 865) (by decide +kernel)
theorem mv_X11_next : zMV yX11_next := ⟨mi_X11_next, List.mem_of_getElem? (i := 866) (by decide +kernel)⟩
abbrev mX11_previous : zMI := (RX11, yX11_previous, 2, (some .int))
theorem mk_X11_previous : zMK mX11_previous cX11_previous 1 := ⟨List.mem_of_getElem? (i := 905) (by decide +kernel), List.mem_of_getElem? (i := 85) (by decide +kernel), ⟨by decide +kernel, by decide +kernel, by decide +kernel⟩, by decide⟩
theorem mi_X11_previous : Cond.instanceMethod yX11_previous ∈ lw_tbl := List.mem_of_getElem? (i := 903) (by decide +kernel)
theorem mv_X11_previous : zMV yX11_previous := ⟨mi_X11_previous, List.mem_of_getElem? (i := 904) (by decide +kernel)⟩
abbrev mX11_seek : zMI := (RX11, yX11_seek, 4, (some .int))
theorem mk_X11_seek : zMK mX11_seek cX11_seek 2 := ⟨List.mem_of_getElem? (i := 909) (by decide +kernel), List.mem_of_getElem? (i := 85) (by decide +kernel), ⟨by decide +kernel, by decide +kernel, by decide +kernel⟩, by decide⟩
theorem mi_X11_seek : Cond.instanceMethod yX11_seek ∈ lw_tbl := List.mem_of_getElem? (i := 907) (by decide +kernel)
theorem mv_X11_seek : zMV yX11_seek := ⟨mi_X11_seek, List.mem_of_getElem? (i := 908) (by decide +kernel)⟩
abbrev mX11_at : zMI := (RX11, yX11_at, 2, (some .int))
theorem mk_X11_at : zMK mX11_at cX11_at 1 := ⟨List.mem_of_getElem? (i := 929) (by decide +kernel), List.mem_of_getElem? (i := 85) (by decide +kernel), ⟨by decide +kernel, by decide +kernel, by decide +kernel⟩, by decide⟩
theorem mi_X11_at : Cond.instanceMethod yX11_at ∈ lw_tbl := List.mem_of_getElem? (i := 927) (by decide +kernel)
theorem mv_X11_at : zMV yX11_at := ⟨mi_X11_at, List.mem_of_getElem? (i := 928) (by decide +kernel)⟩
abbrev mX11_cell : zMI := (RX11, yX11_cell, 3, (some .long))
theorem mk_X11_cell : zMK mX11_cell cX11_cell 2 := ⟨List.mem_of_getElem? (i := 937) (by decide +kernel), List.mem_of_getElem? (i := 85) (by decide +kernel), ⟨by decide +kernel, by decide +kernel, by decide +kernel⟩, by decide⟩
theorem mi_X11_cell : Cond.instanceMethod yX11_cell ∈ lw_tbl := List.mem_of_getElem? (i := 935) (by decide +kernel)
theorem mv_X11_cell : zMV yX11_cell := ⟨mi_X11_cell, List.mem_of_getElem? (i := 936) (by decide +kernel)⟩
abbrev mX11_tokenSize : zMI := (RX11, yX11_tokenSize, 2, (some .int))
theorem mk_X11_tokenSize : zMK mX11_tokenSize cX11_tokenSize 1 := ⟨List.mem_of_getElem? (i := 941) (by decide +kernel), List.mem_of_getElem? (i := 85) (by decide +kernel), ⟨by decide +kernel, by decide +kernel, by decide +kernel⟩, by decide⟩
theorem mi_X11_tokenSize : Cond.instanceMethod yX11_tokenSize ∈ lw_tbl := List.mem_of_getElem? (i := 939) (by decide +kernel)
theorem mv_X11_tokenSize : zMV yX11_tokenSize := ⟨mi_X11_tokenSize, List.mem_of_getElem? (i := 940) (by decide +kernel)⟩
abbrev mX11_tokenByte : zMI := (RX11, yX11_tokenByte, 3, (some .int))
theorem mk_X11_tokenByte : zMK mX11_tokenByte cX11_tokenByte 2 := ⟨List.mem_of_getElem? (i := 949) (by decide +kernel), List.mem_of_getElem? (i := 85) (by decide +kernel), ⟨by decide +kernel, by decide +kernel, by decide +kernel⟩, by decide⟩
theorem mi_X11_tokenByte : Cond.instanceMethod yX11_tokenByte ∈ lw_tbl := List.mem_of_getElem? (i := 947) (by decide +kernel)
theorem mv_X11_tokenByte : zMV yX11_tokenByte := ⟨mi_X11_tokenByte, List.mem_of_getElem? (i := 948) (by decide +kernel)⟩
abbrev mX11_beyond : zMI := (RX11, yX11_beyond, 2, (some .int))
theorem mk_X11_beyond : zMK mX11_beyond cX11_beyond 1 := ⟨List.mem_of_getElem? (i := 953) (by decide +kernel), List.mem_of_getElem? (i := 85) (by decide +kernel), ⟨by decide +kernel, by decide +kernel, by decide +kernel⟩, by decide⟩
theorem mi_X11_beyond : Cond.instanceMethod yX11_beyond ∈ lw_tbl := List.mem_of_getElem? (i := 951) (by decide +kernel)
theorem mv_X11_beyond : zMV yX11_beyond := ⟨mi_X11_beyond, List.mem_of_getElem? (i := 952) (by decide +kernel)⟩
abbrev mX11_checks : zMI := (RX11, yX11_checks, 2, (some .int))
theorem mk_X11_checks : zMK mX11_checks cX11_checks 1 := ⟨List.mem_of_getElem? (i := 957) (by decide +kernel), List.mem_of_getElem? (i := 85) (by decide +kernel), ⟨by decide +kernel, by decide +kernel, by decide +kernel⟩, by decide⟩
theorem mi_X11_checks : Cond.instanceMethod yX11_checks ∈ lw_tbl := List.mem_of_getElem? (i := 955) (by decide +kernel)
theorem mv_X11_checks : zMV yX11_checks := ⟨mi_X11_checks, List.mem_of_getElem? (i := 956) (by decide +kernel)⟩
abbrev mX11_begin : zMI := (RX11, yX11_begin, 4, (some .boolean))
theorem mk_X11_begin : zMK mX11_begin cX11_begin 3 := ⟨List.mem_of_getElem? (i := 961) (by decide +kernel), List.mem_of_getElem? (i := 85) (by decide +kernel), ⟨by decide +kernel, by decide +kernel, by decide +kernel⟩, by decide⟩
theorem mi_X11_begin : Cond.instanceMethod yX11_begin ∈ lw_tbl := List.mem_of_getElem? (i := 959) (by decide +kernel)
theorem mv_X11_begin : zMV yX11_begin := ⟨mi_X11_begin, List.mem_of_getElem? (i := 960) (by decide +kernel)⟩
abbrev mX11_on : zMI := (RX11, yX11_on, 2, (some .int))
theorem mk_X11_on : zMK mX11_on cX11_on 1 := ⟨List.mem_of_getElem? (i := 970) (by decide +kernel), List.mem_of_getElem? (i := 85) (by decide +kernel), ⟨by decide +kernel, by decide +kernel, by decide +kernel⟩, by decide⟩
theorem mi_X11_on : Cond.instanceMethod yX11_on ∈ lw_tbl := List.mem_of_getElem? (i := 968) (by decide +kernel)
theorem mv_X11_on : zMV yX11_on := ⟨mi_X11_on, List.mem_of_getElem? (i := 969) (by decide +kernel)⟩
abbrev mX11_back : zMI := (RX11, yX11_back, 2, (some .int))
theorem mk_X11_back : zMK mX11_back cX11_back 1 := ⟨List.mem_of_getElem? (i := 989) (by decide +kernel), List.mem_of_getElem? (i := 85) (by decide +kernel), ⟨by decide +kernel, by decide +kernel, by decide +kernel⟩, by decide⟩
theorem mi_X11_back : Cond.instanceMethod yX11_back ∈ lw_tbl := List.mem_of_getElem? (i := 987) (by decide +kernel)
theorem mv_X11_back : zMV yX11_back := ⟨mi_X11_back, List.mem_of_getElem? (i := 988) (by decide +kernel)⟩
abbrev mX11_account : zMI := (RX11, yX11_account, 6, (some .int))
theorem mk_X11_account : zMK mX11_account cX11_account 2 := ⟨List.mem_of_getElem? (i := 993) (by decide +kernel), List.mem_of_getElem? (i := 85) (by decide +kernel), ⟨by decide +kernel, by decide +kernel, by decide +kernel⟩, by decide⟩
theorem mi_X11_account : Cond.instanceMethod yX11_account ∈ lw_tbl := List.mem_of_getElem? (i := 991) (by decide +kernel)
theorem mv_X11_account : zMV yX11_account := ⟨mi_X11_account, List.mem_of_getElem? (i := 992) (by decide +kernel)⟩
abbrev mX11_seen : zMI := (RX11, yX11_seen, 3, (some .int))
theorem mk_X11_seen : zMK mX11_seen cX11_seen 2 := ⟨List.mem_of_getElem? (i := 1003) (by decide +kernel), List.mem_of_getElem? (i := 85) (by decide +kernel), ⟨by decide +kernel, by decide +kernel, by decide +kernel⟩, by decide⟩
theorem mi_X11_seen : Cond.instanceMethod yX11_seen ∈ lw_tbl := List.mem_of_getElem? (i := 1001) (by decide +kernel)
theorem mv_X11_seen : zMV yX11_seen := ⟨mi_X11_seen, List.mem_of_getElem? (i := 1002) (by decide +kernel)⟩
abbrev mX11_insert : zMI := (RX11, yX11_insert, 12, (some .int))
theorem mk_X11_insert : zMK mX11_insert cX11_insert 4 := ⟨List.mem_of_getElem? (i := 1007) (by decide +kernel), List.mem_of_getElem? (i := 85) (by decide +kernel), ⟨by decide +kernel, by decide +kernel, by decide +kernel⟩, by decide⟩
theorem mi_X11_insert : Cond.instanceMethod yX11_insert ∈ lw_tbl := List.mem_of_getElem? (i := 1005) (by decide +kernel)
theorem mv_X11_insert : zMV yX11_insert := ⟨mi_X11_insert, List.mem_of_getElem? (i := 1006) (by decide +kernel)⟩
abbrev mX11_remove : zMI := (RX11, yX11_remove, 2, (some .int))
theorem mk_X11_remove : zMK mX11_remove cX11_remove 1 := ⟨List.mem_of_getElem? (i := 1017) (by decide +kernel), List.mem_of_getElem? (i := 85) (by decide +kernel), ⟨by decide +kernel, by decide +kernel, by decide +kernel⟩, by decide⟩
theorem mi_X11_remove : Cond.instanceMethod yX11_remove ∈ lw_tbl := List.mem_of_getElem? (i := 1015) (by decide +kernel)
theorem mv_X11_remove : zMV yX11_remove := ⟨mi_X11_remove, List.mem_of_getElem? (i := 1016) (by decide +kernel)⟩
abbrev mX11_change : zMI := (RX11, yX11_change, 5, (some .int))
theorem mk_X11_change : zMK mX11_change cX11_change 3 := ⟨List.mem_of_getElem? (i := 1022) (by decide +kernel), List.mem_of_getElem? (i := 85) (by decide +kernel), ⟨by decide +kernel, by decide +kernel, by decide +kernel⟩, by decide⟩
theorem mi_X11_change : Cond.instanceMethod yX11_change ∈ lw_tbl := List.mem_of_getElem? (i := 1020) (by decide +kernel)
theorem mv_X11_change : zMV yX11_change := ⟨mi_X11_change, List.mem_of_getElem? (i := 1021) (by decide +kernel)⟩
abbrev mX11_turn : zMI := (RX11, yX11_turn, 9, (some .int))
theorem mk_X11_turn : zMK mX11_turn cX11_turn 4 := ⟨List.mem_of_getElem? (i := 1026) (by decide +kernel), List.mem_of_getElem? (i := 85) (by decide +kernel), ⟨by decide +kernel, by decide +kernel, by decide +kernel⟩, by decide⟩
theorem mi_X11_turn : Cond.instanceMethod yX11_turn ∈ lw_tbl := List.mem_of_getElem? (i := 1024) (by decide +kernel)
theorem mv_X11_turn : zMV yX11_turn := ⟨mi_X11_turn, List.mem_of_getElem? (i := 1025) (by decide +kernel)⟩
abbrev mX11_sieve : zMI := (RX11, yX11_sieve, 5, (some .int))
theorem mk_X11_sieve : zMK mX11_sieve cX11_sieve 3 := ⟨List.mem_of_getElem? (i := 1038) (by decide +kernel), List.mem_of_getElem? (i := 85) (by decide +kernel), ⟨by decide +kernel, by decide +kernel, by decide +kernel⟩, by decide⟩
theorem mi_X11_sieve : Cond.instanceMethod yX11_sieve ∈ lw_tbl := List.mem_of_getElem? (i := 1036) (by decide +kernel)
theorem mv_X11_sieve : zMV yX11_sieve := ⟨mi_X11_sieve, List.mem_of_getElem? (i := 1037) (by decide +kernel)⟩
abbrev mX11_clear : zMI := (RX11, yX11_clear, 2, (some .int))
theorem mk_X11_clear : zMK mX11_clear cX11_clear 0 := ⟨List.mem_of_getElem? (i := 1046) (by decide +kernel), List.mem_of_getElem? (i := 85) (by decide +kernel), ⟨by decide +kernel, by decide +kernel, by decide +kernel⟩, by decide⟩
theorem mi_X11_clear : Cond.instanceMethod yX11_clear ∈ lw_tbl := List.mem_of_getElem? (i := 1044) (by decide +kernel)
theorem mv_X11_clear : zMV yX11_clear := ⟨mi_X11_clear, List.mem_of_getElem? (i := 1045) (by decide +kernel)⟩
abbrev mX11_passes : zMI := (RX11, yX11_passes, 2, (some .int))
theorem mk_X11_passes : zMK mX11_passes cX11_passes 1 := ⟨List.mem_of_getElem? (i := 1050) (by decide +kernel), List.mem_of_getElem? (i := 85) (by decide +kernel), ⟨by decide +kernel, by decide +kernel, by decide +kernel⟩, by decide⟩
theorem mi_X11_passes : Cond.instanceMethod yX11_passes ∈ lw_tbl := List.mem_of_getElem? (i := 1048) (by decide +kernel)
theorem mv_X11_passes : zMV yX11_passes := ⟨mi_X11_passes, List.mem_of_getElem? (i := 1049) (by decide +kernel)⟩
abbrev mX11_condition : zMI := (RX11, yX11_condition, 3, (some .int))
theorem mk_X11_condition : zMK mX11_condition cX11_condition 2 := ⟨List.mem_of_getElem? (i := 1055) (by decide +kernel), List.mem_of_getElem? (i := 85) (by decide +kernel), ⟨by decide +kernel, by decide +kernel, by decide +kernel⟩, by decide⟩
theorem mi_X11_condition : Cond.instanceMethod yX11_condition ∈ lw_tbl := List.mem_of_getElem? (i := 1053) (by decide +kernel)
theorem mv_X11_condition : zMV yX11_condition := ⟨mi_X11_condition, List.mem_of_getElem? (i := 1054) (by decide +kernel)⟩
abbrev mX11_lacking : zMI := (RX11, yX11_lacking, 5, (some .int))
theorem mk_X11_lacking : zMK mX11_lacking cX11_lacking 1 := ⟨List.mem_of_getElem? (i := 1075) (by decide +kernel), List.mem_of_getElem? (i := 85) (by decide +kernel), ⟨by decide +kernel, by decide +kernel, by decide +kernel⟩, by decide⟩
theorem mi_X11_lacking : Cond.instanceMethod yX11_lacking ∈ lw_tbl := List.mem_of_getElem? (i := 1073) (by decide +kernel)
theorem mv_X11_lacking : zMV yX11_lacking := ⟨mi_X11_lacking, List.mem_of_getElem? (i := 1074) (by decide +kernel)⟩
abbrev mX11_size : zMI := (RX11, yX11_size, 2, (some .int))
theorem mk_X11_size : zMK mX11_size cX11_size 1 := ⟨List.mem_of_getElem? (i := 1059) (by decide +kernel), List.mem_of_getElem? (i := 85) (by decide +kernel), ⟨by decide +kernel, by decide +kernel, by decide +kernel⟩, by decide⟩
theorem mi_X11_size : Cond.instanceMethod yX11_size ∈ lw_tbl := List.mem_of_getElem? (i := 1057) (by decide +kernel)
theorem mv_X11_size : zMV yX11_size := ⟨mi_X11_size, List.mem_of_getElem? (i := 1058) (by decide +kernel)⟩
abbrev mX11_trouble : zMI := (RX11, yX11_trouble, 1, (some .int))
theorem mk_X11_trouble : zMK mX11_trouble cX11_trouble 0 := ⟨List.mem_of_getElem? (i := 1067) (by decide +kernel), List.mem_of_getElem? (i := 85) (by decide +kernel), ⟨by decide +kernel, by decide +kernel, by decide +kernel⟩, by decide⟩
theorem mi_X11_trouble : Cond.instanceMethod yX11_trouble ∈ lw_tbl := List.mem_of_getElem? (i := 1065) (by decide +kernel)
theorem mv_X11_trouble : zMV yX11_trouble := ⟨mi_X11_trouble, List.mem_of_getElem? (i := 1066) (by decide +kernel)⟩
abbrev mX11_refused : zMI := (RX11, yX11_refused, 2, (some .int))
theorem mk_X11_refused : zMK mX11_refused cX11_refused 1 := ⟨List.mem_of_getElem? (i := 355) (by decide +kernel), List.mem_of_getElem? (i := 85) (by decide +kernel), ⟨by decide +kernel, by decide +kernel, by decide +kernel⟩, by decide⟩
theorem mi_X11_refused : Cond.instanceMethod yX11_refused ∈ lw_tbl := List.mem_of_getElem? (i := 354) (by decide +kernel)
theorem mv_X11_refused : zMV yX11_refused := ⟨mi_X11_refused, List.mem_of_getElem? (i := 1) (by decide +kernel)⟩
abbrev mX11_refusedValue : zMI := (RX11, yX11_refusedValue, 2, (some .long))
theorem mk_X11_refusedValue : zMK mX11_refusedValue cX11_refusedValue 1 := ⟨List.mem_of_getElem? (i := 699) (by decide +kernel), List.mem_of_getElem? (i := 85) (by decide +kernel), ⟨by decide +kernel, by decide +kernel, by decide +kernel⟩, by decide⟩
theorem mi_X11_refusedValue : Cond.instanceMethod yX11_refusedValue ∈ lw_tbl := List.mem_of_getElem? (i := 698) (by decide +kernel)
theorem mv_X11_refusedValue : zMV yX11_refusedValue := ⟨mi_X11_refusedValue, List.mem_of_getElem? (i := 15) (by decide +kernel)⟩
abbrev mX11_answered : zMI := (RX11, yX11_answered, 2, (some .int))
theorem mk_X11_answered : zMK mX11_answered cX11_answered 1 := ⟨List.mem_of_getElem? (i := 652) (by decide +kernel), List.mem_of_getElem? (i := 85) (by decide +kernel), ⟨by decide +kernel, by decide +kernel, by decide +kernel⟩, by decide⟩
theorem mi_X11_answered : Cond.instanceMethod yX11_answered ∈ lw_tbl := List.mem_of_getElem? (i := 651) (by decide +kernel)
theorem mv_X11_answered : zMV yX11_answered := ⟨mi_X11_answered, List.mem_of_getElem? (i := 12) (by decide +kernel)⟩
abbrev mX11_answeredValue : zMI := (RX11, yX11_answeredValue, 3, (some .long))
theorem mk_X11_answeredValue : zMK mX11_answeredValue cX11_answeredValue 1 := ⟨List.mem_of_getElem? (i := 709) (by decide +kernel), List.mem_of_getElem? (i := 85) (by decide +kernel), ⟨by decide +kernel, by decide +kernel, by decide +kernel⟩, by decide⟩
theorem mi_X11_answeredValue : Cond.instanceMethod yX11_answeredValue ∈ lw_tbl := List.mem_of_getElem? (i := 708) (by decide +kernel)
theorem mv_X11_answeredValue : zMV yX11_answeredValue := ⟨mi_X11_answeredValue, List.mem_of_getElem? (i := 16) (by decide +kernel)⟩
abbrev mX11_answeredOrNone : zMI := (RX11, yX11_answeredOrNone, 2, (some .int))
theorem mk_X11_answeredOrNone : zMK mX11_answeredOrNone cX11_answeredOrNone 1 := ⟨List.mem_of_getElem? (i := 809) (by decide +kernel), List.mem_of_getElem? (i := 85) (by decide +kernel), ⟨by decide +kernel, by decide +kernel, by decide +kernel⟩, by decide⟩
theorem mi_X11_answeredOrNone : Cond.instanceMethod yX11_answeredOrNone ∈ lw_tbl := List.mem_of_getElem? (i := 808) (by decide +kernel)
theorem mv_X11_answeredOrNone : zMV yX11_answeredOrNone := ⟨mi_X11_answeredOrNone, List.mem_of_getElem? (i := 20) (by decide +kernel)⟩
abbrev mX11_isOnTape : zMI := (RX11, yX11_isOnTape, 2, (some .boolean))
theorem mk_X11_isOnTape : zMK mX11_isOnTape cX11_isOnTape 1 := ⟨List.mem_of_getElem? (i := 351) (by decide +kernel), List.mem_of_getElem? (i := 85) (by decide +kernel), ⟨by decide +kernel, by decide +kernel, by decide +kernel⟩, by decide⟩
theorem mi_X11_isOnTape : Cond.instanceMethod yX11_isOnTape ∈ lw_tbl := List.mem_of_getElem? (i := 350) (by decide +kernel)
theorem mv_X11_isOnTape : zMV yX11_isOnTape := ⟨mi_X11_isOnTape, List.mem_of_getElem? (i := 0) (by decide +kernel)⟩
abbrev mX11_isColumn : zMI := (RX11, yX11_isColumn, 2, (some .boolean))
theorem mk_X11_isColumn : zMK mX11_isColumn cX11_isColumn 1 := ⟨List.mem_of_getElem? (i := 679) (by decide +kernel), List.mem_of_getElem? (i := 85) (by decide +kernel), ⟨by decide +kernel, by decide +kernel, by decide +kernel⟩, by decide⟩
theorem mi_X11_isColumn : Cond.instanceMethod yX11_isColumn ∈ lw_tbl := List.mem_of_getElem? (i := 678) (by decide +kernel)
theorem mv_X11_isColumn : zMV yX11_isColumn := ⟨mi_X11_isColumn, List.mem_of_getElem? (i := 13) (by decide +kernel)⟩
abbrev mX11_isRow : zMI := (RX11, yX11_isRow, 2, (some .boolean))
theorem mk_X11_isRow : zMK mX11_isRow cX11_isRow 1 := ⟨List.mem_of_getElem? (i := 691) (by decide +kernel), List.mem_of_getElem? (i := 85) (by decide +kernel), ⟨by decide +kernel, by decide +kernel, by decide +kernel⟩, by decide⟩
theorem mi_X11_isRow : Cond.instanceMethod yX11_isRow ∈ lw_tbl := List.mem_of_getElem? (i := 690) (by decide +kernel)
theorem mv_X11_isRow : zMV yX11_isRow := ⟨mi_X11_isRow, List.mem_of_getElem? (i := 14) (by decide +kernel)⟩
abbrev mX11_isPageSize : zMI := (RX11, yX11_isPageSize, 1, (some .boolean))
theorem mk_X11_isPageSize : zMK mX11_isPageSize cX11_isPageSize 1 := ⟨List.mem_of_getElem? (i := 832) (by decide +kernel), List.mem_of_getElem? (i := 85) (by decide +kernel), ⟨by decide +kernel, by decide +kernel, by decide +kernel⟩, by decide⟩
theorem ms_X11_isPageSize : Cond.static yX11_isPageSize ∈ lw_tbl := List.mem_of_getElem? (i := 831) (by decide +kernel)
abbrev mX11_isWordValue : zMI := (RX11, yX11_isWordValue, 5, (some .boolean))
theorem mk_X11_isWordValue : zMK mX11_isWordValue cX11_isWordValue 1 := ⟨List.mem_of_getElem? (i := 917) (by decide +kernel), List.mem_of_getElem? (i := 85) (by decide +kernel), ⟨by decide +kernel, by decide +kernel, by decide +kernel⟩, by decide⟩
theorem ms_X11_isWordValue : Cond.static yX11_isWordValue ∈ lw_tbl := List.mem_of_getElem? (i := 916) (by decide +kernel)
abbrev mX11_raisedWord : zMI := (RX11, yX11_raisedWord, 5, (some .long))
theorem mk_X11_raisedWord : zMK mX11_raisedWord cX11_raisedWord 1 := ⟨List.mem_of_getElem? (i := 779) (by decide +kernel), List.mem_of_getElem? (i := 85) (by decide +kernel), ⟨by decide +kernel, by decide +kernel, by decide +kernel⟩, by decide⟩
theorem ms_X11_raisedWord : Cond.static yX11_raisedWord ∈ lw_tbl := List.mem_of_getElem? (i := 778) (by decide +kernel)
abbrev mX11_hasBegun : zMI := (RX11, yX11_hasBegun, 2, (some .boolean))
theorem mk_X11_hasBegun : zMK mX11_hasBegun cX11_hasBegun 1 := ⟨List.mem_of_getElem? (i := 978) (by decide +kernel), List.mem_of_getElem? (i := 85) (by decide +kernel), ⟨by decide +kernel, by decide +kernel, by decide +kernel⟩, by decide⟩
theorem mi_X11_hasBegun : Cond.instanceMethod yX11_hasBegun ∈ lw_tbl := List.mem_of_getElem? (i := 977) (by decide +kernel)
theorem mv_X11_hasBegun : zMV yX11_hasBegun := ⟨mi_X11_hasBegun, List.mem_of_getElem? (i := 25) (by decide +kernel)⟩
abbrev mX11_rankNow : zMI := (RX11, yX11_rankNow, 2, (some .int))
theorem mk_X11_rankNow : zMK mX11_rankNow cX11_rankNow 1 := ⟨List.mem_of_getElem? (i := 817) (by decide +kernel), List.mem_of_getElem? (i := 85) (by decide +kernel), ⟨by decide +kernel, by decide +kernel, by decide +kernel⟩, by decide⟩
theorem mi_X11_rankNow : Cond.instanceMethod yX11_rankNow ∈ lw_tbl := List.mem_of_getElem? (i := 816) (by decide +kernel)
theorem mv_X11_rankNow : zMV yX11_rankNow := ⟨mi_X11_rankNow, List.mem_of_getElem? (i := 21) (by decide +kernel)⟩
abbrev mX11_keyNow : zMI := (RX11, yX11_keyNow, 2, (some (.object "DriftPages$Bytes")))
theorem mk_X11_keyNow : zMK mX11_keyNow cX11_keyNow 1 := ⟨List.mem_of_getElem? (i := 788) (by decide +kernel), List.mem_of_getElem? (i := 85) (by decide +kernel), ⟨by decide +kernel, by decide +kernel, by decide +kernel⟩, by decide⟩
theorem mi_X11_keyNow : Cond.instanceMethod yX11_keyNow ∈ lw_tbl := List.mem_of_getElem? (i := 787) (by decide +kernel)
theorem mv_X11_keyNow : zMV yX11_keyNow := ⟨mi_X11_keyNow, List.mem_of_getElem? (i := 19) (by decide +kernel)⟩
abbrev mX11_pageByToken : zMI := (RX11, yX11_pageByToken, 6, (some .int))
theorem mk_X11_pageByToken : zMK mX11_pageByToken cX11_pageByToken 2 := ⟨List.mem_of_getElem? (i := 871) (by decide +kernel), List.mem_of_getElem? (i := 85) (by decide +kernel), ⟨by decide +kernel, by decide +kernel, by decide +kernel⟩, by decide⟩
theorem mi_X11_pageByToken : Cond.instanceMethod yX11_pageByToken ∈ lw_tbl := List.mem_of_getElem? (i := 870) (by decide +kernel)
theorem mv_X11_pageByToken : zMV yX11_pageByToken := ⟨mi_X11_pageByToken, List.mem_of_getElem? (i := 22) (by decide +kernel)⟩
abbrev mX11_troubleOfToken : zMI := (RX11, yX11_troubleOfToken, 3, (some .int))
theorem mk_X11_troubleOfToken : zMK mX11_troubleOfToken cX11_troubleOfToken 1 := ⟨List.mem_of_getElem? (i := 875) (by decide +kernel), List.mem_of_getElem? (i := 85) (by decide +kernel), ⟨by decide +kernel, by decide +kernel, by decide +kernel⟩, by decide⟩
theorem mi_X11_troubleOfToken : Cond.instanceMethod yX11_troubleOfToken ∈ lw_tbl := List.mem_of_getElem? (i := 874) (by decide +kernel)
theorem mv_X11_troubleOfToken : zMV yX11_troubleOfToken := ⟨mi_X11_troubleOfToken, List.mem_of_getElem? (i := 23) (by decide +kernel)⟩
abbrev mX11_stepReader : zMI := (RX11, yX11_stepReader, 5, (some .int))
theorem mk_X11_stepReader : zMK mX11_stepReader cX11_stepReader 2 := ⟨List.mem_of_getElem? (i := 974) (by decide +kernel), List.mem_of_getElem? (i := 85) (by decide +kernel), ⟨by decide +kernel, by decide +kernel, by decide +kernel⟩, by decide⟩
theorem mi_X11_stepReader : Cond.instanceMethod yX11_stepReader ∈ lw_tbl := List.mem_of_getElem? (i := 973) (by decide +kernel)
theorem mv_X11_stepReader : zMV yX11_stepReader := ⟨mi_X11_stepReader, List.mem_of_getElem? (i := 24) (by decide +kernel)⟩
abbrev mX11_turned : zMI := (RX11, yX11_turned, 1, none)
theorem mk_X11_turned : zMK mX11_turned cX11_turned 0 := ⟨List.mem_of_getElem? (i := 1034) (by decide +kernel), List.mem_of_getElem? (i := 85) (by decide +kernel), ⟨by decide +kernel, by decide +kernel, by decide +kernel⟩, by decide⟩
theorem mi_X11_turned : Cond.instanceMethod yX11_turned ∈ lw_tbl := List.mem_of_getElem? (i := 1033) (by decide +kernel)
theorem mv_X11_turned : zMV yX11_turned := ⟨mi_X11_turned, List.mem_of_getElem? (i := 26) (by decide +kernel)⟩
abbrev mX11_dismissReaders : zMI := (RX11, yX11_dismissReaders, 2, none)
theorem mk_X11_dismissReaders : zMK mX11_dismissReaders cX11_dismissReaders 0 := ⟨List.mem_of_getElem? (i := 648) (by decide +kernel), List.mem_of_getElem? (i := 85) (by decide +kernel), ⟨by decide +kernel, by decide +kernel, by decide +kernel⟩, by decide⟩
theorem mi_X11_dismissReaders : Cond.instanceMethod yX11_dismissReaders ∈ lw_tbl := List.mem_of_getElem? (i := 647) (by decide +kernel)
theorem mv_X11_dismissReaders : zMV yX11_dismissReaders := ⟨mi_X11_dismissReaders, List.mem_of_getElem? (i := 11) (by decide +kernel)⟩
abbrev mX11_countReaders : zMI := (RX11, yX11_countReaders, 3, (some .int))
theorem mk_X11_countReaders : zMK mX11_countReaders cX11_countReaders 0 := ⟨List.mem_of_getElem? (i := 1063) (by decide +kernel), List.mem_of_getElem? (i := 85) (by decide +kernel), ⟨by decide +kernel, by decide +kernel, by decide +kernel⟩, by decide⟩
theorem mi_X11_countReaders : Cond.instanceMethod yX11_countReaders ∈ lw_tbl := List.mem_of_getElem? (i := 1062) (by decide +kernel)
theorem mv_X11_countReaders : zMV yX11_countReaders := ⟨mi_X11_countReaders, List.mem_of_getElem? (i := 27) (by decide +kernel)⟩
abbrev mX12_init : zMI := (RX12, yX12_init, 1, none)
theorem mk_X12_init : zMK mX12_init cX12_init 0 := ⟨List.mem_of_getElem? (i := 1151) (by decide +kernel), List.mem_of_getElem? (i := 91) (by decide +kernel), ⟨by decide +kernel, by decide +kernel, by decide +kernel⟩, by decide⟩
theorem mi_X12_init : Cond.instanceMethod yX12_init ∈ lw_tbl := List.mem_of_getElem? (i := 1150) (by decide +kernel)
abbrev mX12_thrown : zMI := (RX12, yX12_thrown, 1, (some .int))
theorem mk_X12_thrown : zMK mX12_thrown cX12_thrown 0 := ⟨List.mem_of_getElem? (i := 1349) (by decide +kernel), List.mem_of_getElem? (i := 91) (by decide +kernel), ⟨by decide +kernel, by decide +kernel, by decide +kernel⟩, by decide⟩
theorem mi_X12_thrown : Cond.instanceMethod yX12_thrown ∈ lw_tbl := List.mem_of_getElem? (i := 1347) (by decide +kernel)
theorem mv_X12_thrown : zMV yX12_thrown := ⟨mi_X12_thrown, List.mem_of_getElem? (i := 1348) (by decide +kernel)⟩
abbrev mX12_in : zMI := (RX12, yX12_in, 6, (some .boolean))
theorem mk_X12_in : zMK mX12_in cX12_in 3 := ⟨List.mem_of_getElem? (i := 1364) (by decide +kernel), List.mem_of_getElem? (i := 91) (by decide +kernel), ⟨by decide +kernel, by decide +kernel, by decide +kernel⟩, by decide⟩
theorem ms_X12_in : Cond.static yX12_in ∈ lw_tbl := List.mem_of_getElem? (i := 1363) (by decide +kernel)
abbrev mX12_no : zMI := (RX12, yX12_no, 2, (some .int))
theorem mk_X12_no : zMK mX12_no cX12_no 1 := ⟨List.mem_of_getElem? (i := 1491) (by decide +kernel), List.mem_of_getElem? (i := 91) (by decide +kernel), ⟨by decide +kernel, by decide +kernel, by decide +kernel⟩, by decide⟩
theorem mi_X12_no : Cond.instanceMethod yX12_no ∈ lw_tbl := List.mem_of_getElem? (i := 1490) (by decide +kernel)
theorem mv_X12_no : zMV yX12_no := ⟨mi_X12_no, List.mem_of_getElem? (i := 45) (by decide +kernel)⟩
abbrev mX12_isRefused : zMI := (RX12, yX12_isRefused, 2, (some .boolean))
theorem mk_X12_isRefused : zMK mX12_isRefused cX12_isRefused 1 := ⟨List.mem_of_getElem? (i := 1368) (by decide +kernel), List.mem_of_getElem? (i := 91) (by decide +kernel), ⟨by decide +kernel, by decide +kernel, by decide +kernel⟩, by decide⟩
theorem mi_X12_isRefused : Cond.instanceMethod yX12_isRefused ∈ lw_tbl := List.mem_of_getElem? (i := 1367) (by decide +kernel)
theorem mv_X12_isRefused : zMV yX12_isRefused := ⟨mi_X12_isRefused, List.mem_of_getElem? (i := 30) (by decide +kernel)⟩
abbrev mX12_unless : zMI := (RX12, yX12_unless, 1, (some .int))
theorem mk_X12_unless : zMK mX12_unless cX12_unless 1 := ⟨List.mem_of_getElem? (i := 1514) (by decide +kernel), List.mem_of_getElem? (i := 91) (by decide +kernel), ⟨by decide +kernel, by decide +kernel, by decide +kernel⟩, by decide⟩
theorem ms_X12_unless : Cond.static yX12_unless ∈ lw_tbl := List.mem_of_getElem? (i := 1513) (by decide +kernel)
abbrev mX12_feed : zMI := (RX12, yX12_feed, 6, (some .int))
theorem mk_X12_feed : zMK mX12_feed cX12_feed 5 := ⟨List.mem_of_getElem? (i := 1353) (by decide +kernel), List.mem_of_getElem? (i := 91) (by decide +kernel), ⟨by decide +kernel, by decide +kernel, by decide +kernel⟩, by decide⟩
theorem mi_X12_feed : Cond.instanceMethod yX12_feed ∈ lw_tbl := List.mem_of_getElem? (i := 1351) (by decide +kernel)
theorem mv_X12_feed : zMV yX12_feed := ⟨mi_X12_feed, List.mem_of_getElem? (i := 1352) (by decide +kernel)⟩
abbrev mX12_laysWord : zMI := (RX12, yX12_laysWord, 3, none)
theorem mk_X12_laysWord : zMK mX12_laysWord cX12_laysWord 1 := ⟨List.mem_of_getElem? (i := 1357) (by decide +kernel), List.mem_of_getElem? (i := 91) (by decide +kernel), ⟨by decide +kernel, by decide +kernel, by decide +kernel⟩, by decide⟩
theorem mi_X12_laysWord : Cond.instanceMethod yX12_laysWord ∈ lw_tbl := List.mem_of_getElem? (i := 1356) (by decide +kernel)
theorem mv_X12_laysWord : zMV yX12_laysWord := ⟨mi_X12_laysWord, List.mem_of_getElem? (i := 29) (by decide +kernel)⟩
abbrev mX12_see : zMI := (RX12, yX12_see, 2, (some .int))
theorem mk_X12_see : zMK mX12_see cX12_see 1 := ⟨List.mem_of_getElem? (i := 1380) (by decide +kernel), List.mem_of_getElem? (i := 91) (by decide +kernel), ⟨by decide +kernel, by decide +kernel, by decide +kernel⟩, by decide⟩
theorem mi_X12_see : Cond.instanceMethod yX12_see ∈ lw_tbl := List.mem_of_getElem? (i := 1379) (by decide +kernel)
theorem mv_X12_see : zMV yX12_see := ⟨mi_X12_see, List.mem_of_getElem? (i := 33) (by decide +kernel)⟩
abbrev mX12_goesOn : zMI := (RX12, yX12_goesOn, 2, none)
theorem mk_X12_goesOn : zMK mX12_goesOn cX12_goesOn 0 := ⟨List.mem_of_getElem? (i := 1376) (by decide +kernel), List.mem_of_getElem? (i := 91) (by decide +kernel), ⟨by decide +kernel, by decide +kernel, by decide +kernel⟩, by decide⟩
theorem mi_X12_goesOn : Cond.instanceMethod yX12_goesOn ∈ lw_tbl := List.mem_of_getElem? (i := 1375) (by decide +kernel)
theorem mv_X12_goesOn : zMV yX12_goesOn := ⟨mi_X12_goesOn, List.mem_of_getElem? (i := 32) (by decide +kernel)⟩
abbrev mX12_isWord : zMI := (RX12, yX12_isWord, 3, (some .boolean))
theorem mk_X12_isWord : zMK mX12_isWord cX12_isWord 1 := ⟨List.mem_of_getElem? (i := 1393) (by decide +kernel), List.mem_of_getElem? (i := 91) (by decide +kernel), ⟨by decide +kernel, by decide +kernel, by decide +kernel⟩, by decide⟩
theorem mi_X12_isWord : Cond.instanceMethod yX12_isWord ∈ lw_tbl := List.mem_of_getElem? (i := 1392) (by decide +kernel)
theorem mv_X12_isWord : zMV yX12_isWord := ⟨mi_X12_isWord, List.mem_of_getElem? (i := 35) (by decide +kernel)⟩
abbrev mX12_errs : zMI := (RX12, yX12_errs, 2, (some .boolean))
theorem mk_X12_errs : zMK mX12_errs cX12_errs 1 := ⟨List.mem_of_getElem? (i := 1449) (by decide +kernel), List.mem_of_getElem? (i := 91) (by decide +kernel), ⟨by decide +kernel, by decide +kernel, by decide +kernel⟩, by decide⟩
theorem mi_X12_errs : Cond.instanceMethod yX12_errs ∈ lw_tbl := List.mem_of_getElem? (i := 1448) (by decide +kernel)
theorem mv_X12_errs : zMV yX12_errs := ⟨mi_X12_errs, List.mem_of_getElem? (i := 37) (by decide +kernel)⟩
abbrev mX12_spelt : zMI := (RX12, yX12_spelt, 4, (some .long))
theorem mk_X12_spelt : zMK mX12_spelt cX12_spelt 0 := ⟨List.mem_of_getElem? (i := 1461) (by decide +kernel), List.mem_of_getElem? (i := 91) (by decide +kernel), ⟨by decide +kernel, by decide +kernel, by decide +kernel⟩, by decide⟩
theorem mi_X12_spelt : Cond.instanceMethod yX12_spelt ∈ lw_tbl := List.mem_of_getElem? (i := 1460) (by decide +kernel)
theorem mv_X12_spelt : zMV yX12_spelt := ⟨mi_X12_spelt, List.mem_of_getElem? (i := 40) (by decide +kernel)⟩
abbrev mX12_columnHere : zMI := (RX12, yX12_columnHere, 2, (some .int))
theorem mk_X12_columnHere : zMK mX12_columnHere cX12_columnHere 0 := ⟨List.mem_of_getElem? (i := 1457) (by decide +kernel), List.mem_of_getElem? (i := 91) (by decide +kernel), ⟨by decide +kernel, by decide +kernel, by decide +kernel⟩, by decide⟩
theorem mi_X12_columnHere : Cond.instanceMethod yX12_columnHere ∈ lw_tbl := List.mem_of_getElem? (i := 1456) (by decide +kernel)
theorem mv_X12_columnHere : zMV yX12_columnHere := ⟨mi_X12_columnHere, List.mem_of_getElem? (i := 39) (by decide +kernel)⟩
abbrev mX12_readColumn : zMI := (RX12, yX12_readColumn, 1, (some .boolean))
theorem mk_X12_readColumn : zMK mX12_readColumn cX12_readColumn 0 := ⟨List.mem_of_getElem? (i := 1453) (by decide +kernel), List.mem_of_getElem? (i := 91) (by decide +kernel), ⟨by decide +kernel, by decide +kernel, by decide +kernel⟩, by decide⟩
theorem mi_X12_readColumn : Cond.instanceMethod yX12_readColumn ∈ lw_tbl := List.mem_of_getElem? (i := 1452) (by decide +kernel)
theorem mv_X12_readColumn : zMV yX12_readColumn := ⟨mi_X12_readColumn, List.mem_of_getElem? (i := 38) (by decide +kernel)⟩
abbrev mX12_readTable : zMI := (RX12, yX12_readTable, 1, (some .boolean))
theorem mk_X12_readTable : zMK mX12_readTable cX12_readTable 0 := ⟨List.mem_of_getElem? (i := 1445) (by decide +kernel), List.mem_of_getElem? (i := 91) (by decide +kernel), ⟨by decide +kernel, by decide +kernel, by decide +kernel⟩, by decide⟩
theorem mi_X12_readTable : Cond.instanceMethod yX12_readTable ∈ lw_tbl := List.mem_of_getElem? (i := 1444) (by decide +kernel)
theorem mv_X12_readTable : zMV yX12_readTable := ⟨mi_X12_readTable, List.mem_of_getElem? (i := 36) (by decide +kernel)⟩
abbrev mX12_readOne : zMI := (RX12, yX12_readOne, 3, (some .boolean))
theorem mk_X12_readOne : zMK mX12_readOne cX12_readOne 0 := ⟨List.mem_of_getElem? (i := 1473) (by decide +kernel), List.mem_of_getElem? (i := 91) (by decide +kernel), ⟨by decide +kernel, by decide +kernel, by decide +kernel⟩, by decide⟩
theorem mi_X12_readOne : Cond.instanceMethod yX12_readOne ∈ lw_tbl := List.mem_of_getElem? (i := 1472) (by decide +kernel)
theorem mv_X12_readOne : zMV yX12_readOne := ⟨mi_X12_readOne, List.mem_of_getElem? (i := 42) (by decide +kernel)⟩
abbrev mX12_readOrders : zMI := (RX12, yX12_readOrders, 1, (some .boolean))
theorem mk_X12_readOrders : zMK mX12_readOrders cX12_readOrders 0 := ⟨List.mem_of_getElem? (i := 1469) (by decide +kernel), List.mem_of_getElem? (i := 91) (by decide +kernel), ⟨by decide +kernel, by decide +kernel, by decide +kernel⟩, by decide⟩
theorem mi_X12_readOrders : Cond.instanceMethod yX12_readOrders ∈ lw_tbl := List.mem_of_getElem? (i := 1468) (by decide +kernel)
theorem mv_X12_readOrders : zMV yX12_readOrders := ⟨mi_X12_readOrders, List.mem_of_getElem? (i := 41) (by decide +kernel)⟩
abbrev mX12_readValue : zMI := (RX12, yX12_readValue, 5, (some .boolean))
theorem mk_X12_readValue : zMK mX12_readValue cX12_readValue 1 := ⟨List.mem_of_getElem? (i := 1485) (by decide +kernel), List.mem_of_getElem? (i := 91) (by decide +kernel), ⟨by decide +kernel, by decide +kernel, by decide +kernel⟩, by decide⟩
theorem mi_X12_readValue : Cond.instanceMethod yX12_readValue ∈ lw_tbl := List.mem_of_getElem? (i := 1484) (by decide +kernel)
theorem mv_X12_readValue : zMV yX12_readValue := ⟨mi_X12_readValue, List.mem_of_getElem? (i := 44) (by decide +kernel)⟩
abbrev mX12_readRow : zMI := (RX12, yX12_readRow, 2, (some .boolean))
theorem mk_X12_readRow : zMK mX12_readRow cX12_readRow 0 := ⟨List.mem_of_getElem? (i := 1481) (by decide +kernel), List.mem_of_getElem? (i := 91) (by decide +kernel), ⟨by decide +kernel, by decide +kernel, by decide +kernel⟩, by decide⟩
theorem mi_X12_readRow : Cond.instanceMethod yX12_readRow ∈ lw_tbl := List.mem_of_getElem? (i := 1480) (by decide +kernel)
theorem mv_X12_readRow : zMV yX12_readRow := ⟨mi_X12_readRow, List.mem_of_getElem? (i := 43) (by decide +kernel)⟩
abbrev mX12_readLine : zMI := (RX12, yX12_readLine, 1, (some .boolean))
theorem mk_X12_readLine : zMK mX12_readLine cX12_readLine 0 := ⟨List.mem_of_getElem? (i := 1388) (by decide +kernel), List.mem_of_getElem? (i := 91) (by decide +kernel), ⟨by decide +kernel, by decide +kernel, by decide +kernel⟩, by decide⟩
theorem mi_X12_readLine : Cond.instanceMethod yX12_readLine ∈ lw_tbl := List.mem_of_getElem? (i := 1387) (by decide +kernel)
theorem mv_X12_readLine : zMV yX12_readLine := ⟨mi_X12_readLine, List.mem_of_getElem? (i := 34) (by decide +kernel)⟩
abbrev mX12_readAll : zMI := (RX12, yX12_readAll, 2, (some .boolean))
theorem mk_X12_readAll : zMK mX12_readAll cX12_readAll 1 := ⟨List.mem_of_getElem? (i := 1372) (by decide +kernel), List.mem_of_getElem? (i := 91) (by decide +kernel), ⟨by decide +kernel, by decide +kernel, by decide +kernel⟩, by decide⟩
theorem mi_X12_readAll : Cond.instanceMethod yX12_readAll ∈ lw_tbl := List.mem_of_getElem? (i := 1371) (by decide +kernel)
theorem mv_X12_readAll : zMV yX12_readAll := ⟨mi_X12_readAll, List.mem_of_getElem? (i := 31) (by decide +kernel)⟩
abbrev mX12_table : zMI := (RX12, yX12_table, 2, (some .int))
theorem mk_X12_table : zMK mX12_table cX12_table 1 := ⟨List.mem_of_getElem? (i := 1361) (by decide +kernel), List.mem_of_getElem? (i := 91) (by decide +kernel), ⟨by decide +kernel, by decide +kernel, by decide +kernel⟩, by decide⟩
theorem mi_X12_table : Cond.instanceMethod yX12_table ∈ lw_tbl := List.mem_of_getElem? (i := 1359) (by decide +kernel)
theorem mv_X12_table : zMV yX12_table := ⟨mi_X12_table, List.mem_of_getElem? (i := 1360) (by decide +kernel)⟩
abbrev mX12_begins : zMI := (RX12, yX12_begins, 3, none)
theorem mk_X12_begins : zMK mX12_begins cX12_begins 0 := ⟨List.mem_of_getElem? (i := 1495) (by decide +kernel), List.mem_of_getElem? (i := 91) (by decide +kernel), ⟨by decide +kernel, by decide +kernel, by decide +kernel⟩, by decide⟩
theorem mi_X12_begins : Cond.instanceMethod yX12_begins ∈ lw_tbl := List.mem_of_getElem? (i := 1494) (by decide +kernel)
theorem mv_X12_begins : zMV yX12_begins := ⟨mi_X12_begins, List.mem_of_getElem? (i := 46) (by decide +kernel)⟩
abbrev mX12_fault : zMI := (RX12, yX12_fault, 1, (some .int))
theorem mk_X12_fault : zMK mX12_fault cX12_fault 0 := ⟨List.mem_of_getElem? (i := 1503) (by decide +kernel), List.mem_of_getElem? (i := 91) (by decide +kernel), ⟨by decide +kernel, by decide +kernel, by decide +kernel⟩, by decide⟩
theorem mi_X12_fault : Cond.instanceMethod yX12_fault ∈ lw_tbl := List.mem_of_getElem? (i := 1501) (by decide +kernel)
theorem mv_X12_fault : zMV yX12_fault := ⟨mi_X12_fault, List.mem_of_getElem? (i := 1502) (by decide +kernel)⟩
abbrev mX12_where : zMI := (RX12, yX12_where, 1, (some .int))
theorem mk_X12_where : zMK mX12_where cX12_where 0 := ⟨List.mem_of_getElem? (i := 1507) (by decide +kernel), List.mem_of_getElem? (i := 91) (by decide +kernel), ⟨by decide +kernel, by decide +kernel, by decide +kernel⟩, by decide⟩
theorem mi_X12_where : Cond.instanceMethod yX12_where ∈ lw_tbl := List.mem_of_getElem? (i := 1505) (by decide +kernel)
theorem mv_X12_where : zMV yX12_where := ⟨mi_X12_where, List.mem_of_getElem? (i := 1506) (by decide +kernel)⟩
abbrev mX12_rowAt : zMI := (RX12, yX12_rowAt, 2, (some .int))
theorem mk_X12_rowAt : zMK mX12_rowAt cX12_rowAt 2 := ⟨List.mem_of_getElem? (i := 1526) (by decide +kernel), List.mem_of_getElem? (i := 91) (by decide +kernel), ⟨by decide +kernel, by decide +kernel, by decide +kernel⟩, by decide⟩
theorem ms_X12_rowAt : Cond.static yX12_rowAt ∈ lw_tbl := List.mem_of_getElem? (i := 1525) (by decide +kernel)
abbrev mX12_isThen : zMI := (RX12, yX12_isThen, 3, (some .boolean))
theorem mk_X12_isThen : zMK mX12_isThen cX12_isThen 2 := ⟨List.mem_of_getElem? (i := 1522) (by decide +kernel), List.mem_of_getElem? (i := 91) (by decide +kernel), ⟨by decide +kernel, by decide +kernel, by decide +kernel⟩, by decide⟩
theorem mi_X12_isThen : Cond.instanceMethod yX12_isThen ∈ lw_tbl := List.mem_of_getElem? (i := 1521) (by decide +kernel)
theorem mv_X12_isThen : zMV yX12_isThen := ⟨mi_X12_isThen, List.mem_of_getElem? (i := 49) (by decide +kernel)⟩
abbrev mX12_isNow : zMI := (RX12, yX12_isNow, 2, (some .boolean))
theorem mk_X12_isNow : zMK mX12_isNow cX12_isNow 1 := ⟨List.mem_of_getElem? (i := 1551) (by decide +kernel), List.mem_of_getElem? (i := 91) (by decide +kernel), ⟨by decide +kernel, by decide +kernel, by decide +kernel⟩, by decide⟩
theorem mi_X12_isNow : Cond.instanceMethod yX12_isNow ∈ lw_tbl := List.mem_of_getElem? (i := 1550) (by decide +kernel)
theorem mv_X12_isNow : zMV yX12_isNow := ⟨mi_X12_isNow, List.mem_of_getElem? (i := 52) (by decide +kernel)⟩
abbrev mX12_valueThen : zMI := (RX12, yX12_valueThen, 4, (some .long))
theorem mk_X12_valueThen : zMK mX12_valueThen cX12_valueThen 3 := ⟨List.mem_of_getElem? (i := 1555) (by decide +kernel), List.mem_of_getElem? (i := 91) (by decide +kernel), ⟨by decide +kernel, by decide +kernel, by decide +kernel⟩, by decide⟩
theorem mi_X12_valueThen : Cond.instanceMethod yX12_valueThen ∈ lw_tbl := List.mem_of_getElem? (i := 1554) (by decide +kernel)
theorem mv_X12_valueThen : zMV yX12_valueThen := ⟨mi_X12_valueThen, List.mem_of_getElem? (i := 53) (by decide +kernel)⟩
abbrev mX12_earliest : zMI := (RX12, yX12_earliest, 1, (some .int))
theorem mk_X12_earliest : zMK mX12_earliest cX12_earliest 0 := ⟨List.mem_of_getElem? (i := 1530) (by decide +kernel), List.mem_of_getElem? (i := 91) (by decide +kernel), ⟨by decide +kernel, by decide +kernel, by decide +kernel⟩, by decide⟩
theorem mi_X12_earliest : Cond.instanceMethod yX12_earliest ∈ lw_tbl := List.mem_of_getElem? (i := 1529) (by decide +kernel)
theorem mv_X12_earliest : zMV yX12_earliest := ⟨mi_X12_earliest, List.mem_of_getElem? (i := 50) (by decide +kernel)⟩
abbrev mX12_canView : zMI := (RX12, yX12_canView, 2, (some .boolean))
theorem mk_X12_canView : zMK mX12_canView cX12_canView 1 := ⟨List.mem_of_getElem? (i := 1563) (by decide +kernel), List.mem_of_getElem? (i := 91) (by decide +kernel), ⟨by decide +kernel, by decide +kernel, by decide +kernel⟩, by decide⟩
theorem mi_X12_canView : Cond.instanceMethod yX12_canView ∈ lw_tbl := List.mem_of_getElem? (i := 1562) (by decide +kernel)
theorem mv_X12_canView : zMV yX12_canView := ⟨mi_X12_canView, List.mem_of_getElem? (i := 54) (by decide +kernel)⟩
abbrev mX12_acts : zMI := (RX12, yX12_acts, 3, none)
theorem mk_X12_acts : zMK mX12_acts cX12_acts 0 := ⟨List.mem_of_getElem? (i := 1778) (by decide +kernel), List.mem_of_getElem? (i := 91) (by decide +kernel), ⟨by decide +kernel, by decide +kernel, by decide +kernel⟩, by decide⟩
theorem mi_X12_acts : Cond.instanceMethod yX12_acts ∈ lw_tbl := List.mem_of_getElem? (i := 1777) (by decide +kernel)
theorem mv_X12_acts : zMV yX12_acts := ⟨mi_X12_acts, List.mem_of_getElem? (i := 80) (by decide +kernel)⟩
abbrev mX12_thereMany : zMI := (RX12, yX12_thereMany, 3, (some .int))
theorem mk_X12_thereMany : zMK mX12_thereMany cX12_thereMany 0 := ⟨List.mem_of_getElem? (i := 1518) (by decide +kernel), List.mem_of_getElem? (i := 91) (by decide +kernel), ⟨by decide +kernel, by decide +kernel, by decide +kernel⟩, by decide⟩
theorem mi_X12_thereMany : Cond.instanceMethod yX12_thereMany ∈ lw_tbl := List.mem_of_getElem? (i := 1517) (by decide +kernel)
theorem mv_X12_thereMany : zMV yX12_thereMany := ⟨mi_X12_thereMany, List.mem_of_getElem? (i := 48) (by decide +kernel)⟩
abbrev mX12_isColumn : zMI := (RX12, yX12_isColumn, 2, (some .boolean))
theorem mk_X12_isColumn : zMK mX12_isColumn cX12_isColumn 1 := ⟨List.mem_of_getElem? (i := 1538) (by decide +kernel), List.mem_of_getElem? (i := 91) (by decide +kernel), ⟨by decide +kernel, by decide +kernel, by decide +kernel⟩, by decide⟩
theorem mi_X12_isColumn : Cond.instanceMethod yX12_isColumn ∈ lw_tbl := List.mem_of_getElem? (i := 1537) (by decide +kernel)
theorem mv_X12_isColumn : zMV yX12_isColumn := ⟨mi_X12_isColumn, List.mem_of_getElem? (i := 51) (by decide +kernel)⟩
abbrev mX12_about : zMI := (RX12, yX12_about, 2, (some .int))
theorem mk_X12_about : zMK mX12_about cX12_about 1 := ⟨List.mem_of_getElem? (i := 1511) (by decide +kernel), List.mem_of_getElem? (i := 91) (by decide +kernel), ⟨by decide +kernel, by decide +kernel, by decide +kernel⟩, by decide⟩
theorem mi_X12_about : Cond.instanceMethod yX12_about ∈ lw_tbl := List.mem_of_getElem? (i := 1509) (by decide +kernel)
theorem mv_X12_about : zMV yX12_about := ⟨mi_X12_about, List.mem_of_getElem? (i := 1510) (by decide +kernel)⟩
abbrev mX12_kind : zMI := (RX12, yX12_kind, 2, (some .int))
theorem mk_X12_kind : zMK mX12_kind cX12_kind 1 := ⟨List.mem_of_getElem? (i := 1534) (by decide +kernel), List.mem_of_getElem? (i := 91) (by decide +kernel), ⟨by decide +kernel, by decide +kernel, by decide +kernel⟩, by decide⟩
theorem mi_X12_kind : Cond.instanceMethod yX12_kind ∈ lw_tbl := List.mem_of_getElem? (i := 1532) (by decide +kernel)
theorem mv_X12_kind : zMV yX12_kind := ⟨mi_X12_kind, List.mem_of_getElem? (i := 1533) (by decide +kernel)⟩
abbrev mX12_orderAt : zMI := (RX12, yX12_orderAt, 3, (some .int))
theorem mk_X12_orderAt : zMK mX12_orderAt cX12_orderAt 2 := ⟨List.mem_of_getElem? (i := 1542) (by decide +kernel), List.mem_of_getElem? (i := 91) (by decide +kernel), ⟨by decide +kernel, by decide +kernel, by decide +kernel⟩, by decide⟩
theorem mi_X12_orderAt : Cond.instanceMethod yX12_orderAt ∈ lw_tbl := List.mem_of_getElem? (i := 1540) (by decide +kernel)
theorem mv_X12_orderAt : zMV yX12_orderAt := ⟨mi_X12_orderAt, List.mem_of_getElem? (i := 1541) (by decide +kernel)⟩
abbrev mX12_value : zMI := (RX12, yX12_value, 3, (some .long))
theorem mk_X12_value : zMK mX12_value cX12_value 2 := ⟨List.mem_of_getElem? (i := 1547) (by decide +kernel), List.mem_of_getElem? (i := 91) (by decide +kernel), ⟨by decide +kernel, by decide +kernel, by decide +kernel⟩, by decide⟩
theorem mi_X12_value : Cond.instanceMethod yX12_value ∈ lw_tbl := List.mem_of_getElem? (i := 1545) (by decide +kernel)
theorem mv_X12_value : zMV yX12_value := ⟨mi_X12_value, List.mem_of_getElem? (i := 1546) (by decide +kernel)⟩
abbrev mX12_was : zMI := (RX12, yX12_was, 4, (some .long))
theorem mk_X12_was : zMK mX12_was cX12_was 3 := ⟨List.mem_of_getElem? (i := 1559) (by decide +kernel), List.mem_of_getElem? (i := 91) (by decide +kernel), ⟨by decide +kernel, by decide +kernel, by decide +kernel⟩, by decide⟩
theorem mi_X12_was : Cond.instanceMethod yX12_was ∈ lw_tbl := List.mem_of_getElem? (i := 1557) (by decide +kernel)
theorem mv_X12_was : zMV yX12_was := ⟨mi_X12_was, List.mem_of_getElem? (i := 1558) (by decide +kernel)⟩
abbrev mX12_laysByte : zMI := (RX12, yX12_laysByte, 3, none)
theorem mk_X12_laysByte : zMK mX12_laysByte cX12_laysByte 2 := ⟨List.mem_of_getElem? (i := 1579) (by decide +kernel), List.mem_of_getElem? (i := 91) (by decide +kernel), ⟨by decide +kernel, by decide +kernel, by decide +kernel⟩, by decide⟩
theorem mi_X12_laysByte : Cond.instanceMethod yX12_laysByte ∈ lw_tbl := List.mem_of_getElem? (i := 1578) (by decide +kernel)
theorem mv_X12_laysByte : zMV yX12_laysByte := ⟨mi_X12_laysByte, List.mem_of_getElem? (i := 57) (by decide +kernel)⟩
abbrev mX12_laysPart : zMI := (RX12, yX12_laysPart, 6, none)
theorem mk_X12_laysPart : zMK mX12_laysPart cX12_laysPart 2 := ⟨List.mem_of_getElem? (i := 1575) (by decide +kernel), List.mem_of_getElem? (i := 91) (by decide +kernel), ⟨by decide +kernel, by decide +kernel, by decide +kernel⟩, by decide⟩
theorem mi_X12_laysPart : Cond.instanceMethod yX12_laysPart ∈ lw_tbl := List.mem_of_getElem? (i := 1574) (by decide +kernel)
theorem mv_X12_laysPart : zMV yX12_laysPart := ⟨mi_X12_laysPart, List.mem_of_getElem? (i := 56) (by decide +kernel)⟩
abbrev mX12_laysKey : zMI := (RX12, yX12_laysKey, 4, none)
theorem mk_X12_laysKey : zMK mX12_laysKey cX12_laysKey 2 := ⟨List.mem_of_getElem? (i := 1571) (by decide +kernel), List.mem_of_getElem? (i := 91) (by decide +kernel), ⟨by decide +kernel, by decide +kernel, by decide +kernel⟩, by decide⟩
theorem mi_X12_laysKey : Cond.instanceMethod yX12_laysKey ∈ lw_tbl := List.mem_of_getElem? (i := 1570) (by decide +kernel)
theorem mv_X12_laysKey : zMV yX12_laysKey := ⟨mi_X12_laysKey, List.mem_of_getElem? (i := 55) (by decide +kernel)⟩
abbrev mX12_marks : zMI := (RX12, yX12_marks, 2, none)
theorem mk_X12_marks : zMK mX12_marks cX12_marks 0 := ⟨List.mem_of_getElem? (i := 1597) (by decide +kernel), List.mem_of_getElem? (i := 91) (by decide +kernel), ⟨by decide +kernel, by decide +kernel, by decide +kernel⟩, by decide⟩
theorem mi_X12_marks : Cond.instanceMethod yX12_marks ∈ lw_tbl := List.mem_of_getElem? (i := 1596) (by decide +kernel)
theorem mv_X12_marks : zMV yX12_marks := ⟨mi_X12_marks, List.mem_of_getElem? (i := 59) (by decide +kernel)⟩
abbrev mX12_compared : zMI := (RX12, yX12_compared, 2, (some .int))
theorem mk_X12_compared : zMK mX12_compared cX12_compared 0 := ⟨List.mem_of_getElem? (i := 1601) (by decide +kernel), List.mem_of_getElem? (i := 91) (by decide +kernel), ⟨by decide +kernel, by decide +kernel, by decide +kernel⟩, by decide⟩
theorem mi_X12_compared : Cond.instanceMethod yX12_compared ∈ lw_tbl := List.mem_of_getElem? (i := 1600) (by decide +kernel)
theorem mv_X12_compared : zMV yX12_compared := ⟨mi_X12_compared, List.mem_of_getElem? (i := 60) (by decide +kernel)⟩
abbrev mX12_keySize : zMI := (RX12, yX12_keySize, 2, (some .int))
theorem mk_X12_keySize : zMK mX12_keySize cX12_keySize 1 := ⟨List.mem_of_getElem? (i := 1567) (by decide +kernel), List.mem_of_getElem? (i := 91) (by decide +kernel), ⟨by decide +kernel, by decide +kernel, by decide +kernel⟩, by decide⟩
theorem mi_X12_keySize : Cond.instanceMethod yX12_keySize ∈ lw_tbl := List.mem_of_getElem? (i := 1565) (by decide +kernel)
theorem mv_X12_keySize : zMV yX12_keySize := ⟨mi_X12_keySize, List.mem_of_getElem? (i := 1566) (by decide +kernel)⟩
abbrev mX12_keyByte : zMI := (RX12, yX12_keyByte, 3, (some .int))
theorem mk_X12_keyByte : zMK mX12_keyByte cX12_keyByte 2 := ⟨List.mem_of_getElem? (i := 1585) (by decide +kernel), List.mem_of_getElem? (i := 91) (by decide +kernel), ⟨by decide +kernel, by decide +kernel, by decide +kernel⟩, by decide⟩
theorem mi_X12_keyByte : Cond.instanceMethod yX12_keyByte ∈ lw_tbl := List.mem_of_getElem? (i := 1583) (by decide +kernel)
theorem mv_X12_keyByte : zMV yX12_keyByte := ⟨mi_X12_keyByte, List.mem_of_getElem? (i := 1584) (by decide +kernel)⟩
abbrev mX12_aheadOf : zMI := (RX12, yX12_aheadOf, 4, (some .int))
theorem mk_X12_aheadOf : zMK mX12_aheadOf cX12_aheadOf 1 := ⟨List.mem_of_getElem? (i := 1593) (by decide +kernel), List.mem_of_getElem? (i := 91) (by decide +kernel), ⟨by decide +kernel, by decide +kernel, by decide +kernel⟩, by decide⟩
theorem mi_X12_aheadOf : Cond.instanceMethod yX12_aheadOf ∈ lw_tbl := List.mem_of_getElem? (i := 1592) (by decide +kernel)
theorem mv_X12_aheadOf : zMV yX12_aheadOf := ⟨mi_X12_aheadOf, List.mem_of_getElem? (i := 58) (by decide +kernel)⟩
abbrev mX12_rank : zMI := (RX12, yX12_rank, 2, (some .int))
theorem mk_X12_rank : zMK mX12_rank cX12_rank 1 := ⟨List.mem_of_getElem? (i := 1589) (by decide +kernel), List.mem_of_getElem? (i := 91) (by decide +kernel), ⟨by decide +kernel, by decide +kernel, by decide +kernel⟩, by decide⟩
theorem mi_X12_rank : Cond.instanceMethod yX12_rank ∈ lw_tbl := List.mem_of_getElem? (i := 1587) (by decide +kernel)
theorem mv_X12_rank : zMV yX12_rank := ⟨mi_X12_rank, List.mem_of_getElem? (i := 1588) (by decide +kernel)⟩
abbrev mX12_ranked : zMI := (RX12, yX12_ranked, 3, (some .int))
theorem mk_X12_ranked : zMK mX12_ranked cX12_ranked 1 := ⟨List.mem_of_getElem? (i := 1605) (by decide +kernel), List.mem_of_getElem? (i := 91) (by decide +kernel), ⟨by decide +kernel, by decide +kernel, by decide +kernel⟩, by decide⟩
theorem mi_X12_ranked : Cond.instanceMethod yX12_ranked ∈ lw_tbl := List.mem_of_getElem? (i := 1603) (by decide +kernel)
theorem mv_X12_ranked : zMV yX12_ranked := ⟨mi_X12_ranked, List.mem_of_getElem? (i := 1604) (by decide +kernel)⟩
abbrev mX12_differ : zMI := (RX12, yX12_differ, 4, (some .int))
theorem mk_X12_differ : zMK mX12_differ cX12_differ 2 := ⟨List.mem_of_getElem? (i := 1609) (by decide +kernel), List.mem_of_getElem? (i := 91) (by decide +kernel), ⟨by decide +kernel, by decide +kernel, by decide +kernel⟩, by decide⟩
theorem mi_X12_differ : Cond.instanceMethod yX12_differ ∈ lw_tbl := List.mem_of_getElem? (i := 1607) (by decide +kernel)
theorem mv_X12_differ : zMV yX12_differ := ⟨mi_X12_differ, List.mem_of_getElem? (i := 1608) (by decide +kernel)⟩
abbrev mX12_spread : zMI := (RX12, yX12_spread, 4, (some .long))
theorem mk_X12_spread : zMK mX12_spread cX12_spread 1 := ⟨List.mem_of_getElem? (i := 1643) (by decide +kernel), List.mem_of_getElem? (i := 91) (by decide +kernel), ⟨by decide +kernel, by decide +kernel, by decide +kernel⟩, by decide⟩
theorem ms_X12_spread : Cond.static yX12_spread ∈ lw_tbl := List.mem_of_getElem? (i := 1642) (by decide +kernel)
abbrev mX12_meets : zMI := (RX12, yX12_meets, 9, (some .boolean))
theorem mk_X12_meets : zMK mX12_meets cX12_meets 2 := ⟨List.mem_of_getElem? (i := 1640) (by decide +kernel), List.mem_of_getElem? (i := 91) (by decide +kernel), ⟨by decide +kernel, by decide +kernel, by decide +kernel⟩, by decide⟩
theorem mi_X12_meets : Cond.instanceMethod yX12_meets ∈ lw_tbl := List.mem_of_getElem? (i := 1639) (by decide +kernel)
theorem mv_X12_meets : zMV yX12_meets := ⟨mi_X12_meets, List.mem_of_getElem? (i := 64) (by decide +kernel)⟩
abbrev mX12_doesPass : zMI := (RX12, yX12_doesPass, 4, (some .boolean))
theorem mk_X12_doesPass : zMK mX12_doesPass cX12_doesPass 2 := ⟨List.mem_of_getElem? (i := 1636) (by decide +kernel), List.mem_of_getElem? (i := 91) (by decide +kernel), ⟨by decide +kernel, by decide +kernel, by decide +kernel⟩, by decide⟩
theorem mi_X12_doesPass : Cond.instanceMethod yX12_doesPass ∈ lw_tbl := List.mem_of_getElem? (i := 1635) (by decide +kernel)
theorem mv_X12_doesPass : zMV yX12_doesPass := ⟨mi_X12_doesPass, List.mem_of_getElem? (i := 63) (by decide +kernel)⟩
abbrev mX12_canHave : zMI := (RX12, yX12_canHave, 7, (some .boolean))
theorem mk_X12_canHave : zMK mX12_canHave cX12_canHave 3 := ⟨List.mem_of_getElem? (i := 1618) (by decide +kernel), List.mem_of_getElem? (i := 91) (by decide +kernel), ⟨by decide +kernel, by decide +kernel, by decide +kernel⟩, by decide⟩
theorem mi_X12_canHave : Cond.instanceMethod yX12_canHave ∈ lw_tbl := List.mem_of_getElem? (i := 1617) (by decide +kernel)
theorem mv_X12_canHave : zMV yX12_canHave := ⟨mi_X12_canHave, List.mem_of_getElem? (i := 61) (by decide +kernel)⟩
abbrev mX12_turned : zMI := (RX12, yX12_turned, 1, none)
theorem mk_X12_turned : zMK mX12_turned cX12_turned 0 := ⟨List.mem_of_getElem? (i := 1624) (by decide +kernel), List.mem_of_getElem? (i := 91) (by decide +kernel), ⟨by decide +kernel, by decide +kernel, by decide +kernel⟩, by decide⟩
theorem mi_X12_turned : Cond.instanceMethod yX12_turned ∈ lw_tbl := List.mem_of_getElem? (i := 1623) (by decide +kernel)
theorem mv_X12_turned : zMV yX12_turned := ⟨mi_X12_turned, List.mem_of_getElem? (i := 62) (by decide +kernel)⟩
abbrev mX12_sieve : zMI := (RX12, yX12_sieve, 5, (some .int))
theorem mk_X12_sieve : zMK mX12_sieve cX12_sieve 3 := ⟨List.mem_of_getElem? (i := 1613) (by decide +kernel), List.mem_of_getElem? (i := 91) (by decide +kernel), ⟨by decide +kernel, by decide +kernel, by decide +kernel⟩, by decide⟩
theorem mi_X12_sieve : Cond.instanceMethod yX12_sieve ∈ lw_tbl := List.mem_of_getElem? (i := 1611) (by decide +kernel)
theorem mv_X12_sieve : zMV yX12_sieve := ⟨mi_X12_sieve, List.mem_of_getElem? (i := 1612) (by decide +kernel)⟩
abbrev mX12_clear : zMI := (RX12, yX12_clear, 2, (some .int))
theorem mk_X12_clear : zMK mX12_clear cX12_clear 0 := ⟨List.mem_of_getElem? (i := 1628) (by decide +kernel), List.mem_of_getElem? (i := 91) (by decide +kernel), ⟨by decide +kernel, by decide +kernel, by decide +kernel⟩, by decide⟩
theorem mi_X12_clear : Cond.instanceMethod yX12_clear ∈ lw_tbl := List.mem_of_getElem? (i := 1626) (by decide +kernel)
theorem mv_X12_clear : zMV yX12_clear := ⟨mi_X12_clear, List.mem_of_getElem? (i := 1627) (by decide +kernel)⟩
abbrev mX12_passes : zMI := (RX12, yX12_passes, 2, (some .int))
theorem mk_X12_passes : zMK mX12_passes cX12_passes 1 := ⟨List.mem_of_getElem? (i := 1632) (by decide +kernel), List.mem_of_getElem? (i := 91) (by decide +kernel), ⟨by decide +kernel, by decide +kernel, by decide +kernel⟩, by decide⟩
theorem mi_X12_passes : Cond.instanceMethod yX12_passes ∈ lw_tbl := List.mem_of_getElem? (i := 1630) (by decide +kernel)
theorem mv_X12_passes : zMV yX12_passes := ⟨mi_X12_passes, List.mem_of_getElem? (i := 1631) (by decide +kernel)⟩
abbrev mX12_condition : zMI := (RX12, yX12_condition, 3, (some .int))
theorem mk_X12_condition : zMK mX12_condition cX12_condition 2 := ⟨List.mem_of_getElem? (i := 1647) (by decide +kernel), List.mem_of_getElem? (i := 91) (by decide +kernel), ⟨by decide +kernel, by decide +kernel, by decide +kernel⟩, by decide⟩
theorem mi_X12_condition : Cond.instanceMethod yX12_condition ∈ lw_tbl := List.mem_of_getElem? (i := 1645) (by decide +kernel)
theorem mv_X12_condition : zMV yX12_condition := ⟨mi_X12_condition, List.mem_of_getElem? (i := 1646) (by decide +kernel)⟩
abbrev mX12_nextRow : zMI := (RX12, yX12_nextRow, 9, (some .int))
theorem mk_X12_nextRow : zMK mX12_nextRow cX12_nextRow 2 := ⟨List.mem_of_getElem? (i := 1664) (by decide +kernel), List.mem_of_getElem? (i := 91) (by decide +kernel), ⟨by decide +kernel, by decide +kernel, by decide +kernel⟩, by decide⟩
theorem mi_X12_nextRow : Cond.instanceMethod yX12_nextRow ∈ lw_tbl := List.mem_of_getElem? (i := 1663) (by decide +kernel)
theorem mv_X12_nextRow : zMV yX12_nextRow := ⟨mi_X12_nextRow, List.mem_of_getElem? (i := 67) (by decide +kernel)⟩
abbrev mX12_isKept : zMI := (RX12, yX12_isKept, 6, (some .boolean))
theorem mk_X12_isKept : zMK mX12_isKept cX12_isKept 3 := ⟨List.mem_of_getElem? (i := 1668) (by decide +kernel), List.mem_of_getElem? (i := 91) (by decide +kernel), ⟨by decide +kernel, by decide +kernel, by decide +kernel⟩, by decide⟩
theorem mi_X12_isKept : Cond.instanceMethod yX12_isKept ∈ lw_tbl := List.mem_of_getElem? (i := 1667) (by decide +kernel)
theorem mv_X12_isKept : zMV yX12_isKept := ⟨mi_X12_isKept, List.mem_of_getElem? (i := 68) (by decide +kernel)⟩
abbrev mX12_finds : zMI := (RX12, yX12_finds, 7, none)
theorem mk_X12_finds : zMK mX12_finds cX12_finds 3 := ⟨List.mem_of_getElem? (i := 1660) (by decide +kernel), List.mem_of_getElem? (i := 91) (by decide +kernel), ⟨by decide +kernel, by decide +kernel, by decide +kernel⟩, by decide⟩
theorem mi_X12_finds : Cond.instanceMethod yX12_finds ∈ lw_tbl := List.mem_of_getElem? (i := 1659) (by decide +kernel)
theorem mv_X12_finds : zMV yX12_finds := ⟨mi_X12_finds, List.mem_of_getElem? (i := 66) (by decide +kernel)⟩
abbrev mX12_countAhead : zMI := (RX12, yX12_countAhead, 5, (some .int))
theorem mk_X12_countAhead : zMK mX12_countAhead cX12_countAhead 2 := ⟨List.mem_of_getElem? (i := 1680) (by decide +kernel), List.mem_of_getElem? (i := 91) (by decide +kernel), ⟨by decide +kernel, by decide +kernel, by decide +kernel⟩, by decide⟩
theorem mi_X12_countAhead : Cond.instanceMethod yX12_countAhead ∈ lw_tbl := List.mem_of_getElem? (i := 1679) (by decide +kernel)
theorem mv_X12_countAhead : zMV yX12_countAhead := ⟨mi_X12_countAhead, List.mem_of_getElem? (i := 71) (by decide +kernel)⟩
abbrev mX12_laysToken : zMI := (RX12, yX12_laysToken, 10, none)
theorem mk_X12_laysToken : zMK mX12_laysToken cX12_laysToken 5 := ⟨List.mem_of_getElem? (i := 1676) (by decide +kernel), List.mem_of_getElem? (i := 91) (by decide +kernel), ⟨by decide +kernel, by decide +kernel, by decide +kernel⟩, by decide⟩
theorem mi_X12_laysToken : Cond.instanceMethod yX12_laysToken ∈ lw_tbl := List.mem_of_getElem? (i := 1675) (by decide +kernel)
theorem mv_X12_laysToken : zMV yX12_laysToken := ⟨mi_X12_laysToken, List.mem_of_getElem? (i := 70) (by decide +kernel)⟩
abbrev mX12_pages : zMI := (RX12, yX12_pages, 6, (some .int))
theorem mk_X12_pages : zMK mX12_pages cX12_pages 3 := ⟨List.mem_of_getElem? (i := 1672) (by decide +kernel), List.mem_of_getElem? (i := 91) (by decide +kernel), ⟨by decide +kernel, by decide +kernel, by decide +kernel⟩, by decide⟩
theorem mi_X12_pages : Cond.instanceMethod yX12_pages ∈ lw_tbl := List.mem_of_getElem? (i := 1671) (by decide +kernel)
theorem mv_X12_pages : zMV yX12_pages := ⟨mi_X12_pages, List.mem_of_getElem? (i := 69) (by decide +kernel)⟩
abbrev mX12_marksNothing : zMI := (RX12, yX12_marksNothing, 1, none)
theorem mk_X12_marksNothing : zMK mX12_marksNothing cX12_marksNothing 0 := ⟨List.mem_of_getElem? (i := 1656) (by decide +kernel), List.mem_of_getElem? (i := 91) (by decide +kernel), ⟨by decide +kernel, by decide +kernel, by decide +kernel⟩, by decide⟩
theorem mi_X12_marksNothing : Cond.instanceMethod yX12_marksNothing ∈ lw_tbl := List.mem_of_getElem? (i := 1655) (by decide +kernel)
theorem mv_X12_marksNothing : zMV yX12_marksNothing := ⟨mi_X12_marksNothing, List.mem_of_getElem? (i := 65) (by decide +kernel)⟩
abbrev mX12_page : zMI := (RX12, yX12_page, 3, (some .int))
theorem mk_X12_page : zMK mX12_page cX12_page 2 := ⟨List.mem_of_getElem? (i := 1651) (by decide +kernel), List.mem_of_getElem? (i := 91) (by decide +kernel), ⟨by decide +kernel, by decide +kernel, by decide +kernel⟩, by decide⟩
theorem mi_X12_page : Cond.instanceMethod yX12_page ∈ lw_tbl := List.mem_of_getElem? (i := 1649) (by decide +kernel)
theorem mv_X12_page : zMV yX12_page := ⟨mi_X12_page, List.mem_of_getElem? (i := 1650) (by decide +kernel)⟩
abbrev mX12_checkOf : zMI := (RX12, yX12_checkOf, 4, (some .int))
theorem mk_X12_checkOf : zMK mX12_checkOf cX12_checkOf 1 := ⟨List.mem_of_getElem? (i := 1696) (by decide +kernel), List.mem_of_getElem? (i := 91) (by decide +kernel), ⟨by decide +kernel, by decide +kernel, by decide +kernel⟩, by decide⟩
theorem mi_X12_checkOf : Cond.instanceMethod yX12_checkOf ∈ lw_tbl := List.mem_of_getElem? (i := 1695) (by decide +kernel)
theorem mv_X12_checkOf : zMV yX12_checkOf := ⟨mi_X12_checkOf, List.mem_of_getElem? (i := 74) (by decide +kernel)⟩
abbrev mX12_wrongToken : zMI := (RX12, yX12_wrongToken, 3, (some .int))
theorem mk_X12_wrongToken : zMK mX12_wrongToken cX12_wrongToken 1 := ⟨List.mem_of_getElem? (i := 1692) (by decide +kernel), List.mem_of_getElem? (i := 91) (by decide +kernel), ⟨by decide +kernel, by decide +kernel, by decide +kernel⟩, by decide⟩
theorem mi_X12_wrongToken : Cond.instanceMethod yX12_wrongToken ∈ lw_tbl := List.mem_of_getElem? (i := 1691) (by decide +kernel)
theorem mv_X12_wrongToken : zMV yX12_wrongToken := ⟨mi_X12_wrongToken, List.mem_of_getElem? (i := 73) (by decide +kernel)⟩
abbrev mX12_goesBy : zMI := (RX12, yX12_goesBy, 7, (some .int))
theorem mk_X12_goesBy : zMK mX12_goesBy cX12_goesBy 2 := ⟨List.mem_of_getElem? (i := 1688) (by decide +kernel), List.mem_of_getElem? (i := 91) (by decide +kernel), ⟨by decide +kernel, by decide +kernel, by decide +kernel⟩, by decide⟩
theorem mi_X12_goesBy : Cond.instanceMethod yX12_goesBy ∈ lw_tbl := List.mem_of_getElem? (i := 1687) (by decide +kernel)
theorem mv_X12_goesBy : zMV yX12_goesBy := ⟨mi_X12_goesBy, List.mem_of_getElem? (i := 72) (by decide +kernel)⟩
abbrev mX12_laysAsked : zMI := (RX12, yX12_laysAsked, 3, none)
theorem mk_X12_laysAsked : zMK mX12_laysAsked cX12_laysAsked 1 := ⟨List.mem_of_getElem? (i := 1700) (by decide +kernel), List.mem_of_getElem? (i := 91) (by decide +kernel), ⟨by decide +kernel, by decide +kernel, by decide +kernel⟩, by decide⟩
theorem mi_X12_laysAsked : Cond.instanceMethod yX12_laysAsked ∈ lw_tbl := List.mem_of_getElem? (i := 1699) (by decide +kernel)
theorem mv_X12_laysAsked : zMV yX12_laysAsked := ⟨mi_X12_laysAsked, List.mem_of_getElem? (i := 75) (by decide +kernel)⟩
abbrev mX12_next : zMI := (RX12, yX12_next, 2, (some .int))
theorem mk_X12_next : zMK mX12_next cX12_next 1 := ⟨List.mem_of_getElem? (i := 1684) (by decide +kernel), List.mem_of_getElem? (i := 91) (by decide +kernel), ⟨by decide +kernel, by decide +kernel, by decide +kernel⟩, by decide⟩
theorem mi_X12_next : Cond.instanceMethod yX12_next ∈ lw_tbl := List.mem_of_getElem? (i := 1682) (by decide +kernel)
theorem mv_X12_next : zMV yX12_next := ⟨mi_X12_next, List.mem_of_getElem? (i := 1683) (by decide +kernel)⟩
abbrev mX12_previous : zMI := (RX12, yX12_previous, 2, (some .int))
theorem mk_X12_previous : zMK mX12_previous cX12_previous 1 := ⟨List.mem_of_getElem? (i := 1704) (by decide +kernel), List.mem_of_getElem? (i := 91) (by decide +kernel), ⟨by decide +kernel, by decide +kernel, by decide +kernel⟩, by decide⟩
theorem mi_X12_previous : Cond.instanceMethod yX12_previous ∈ lw_tbl := List.mem_of_getElem? (i := 1702) (by decide +kernel)
theorem mv_X12_previous : zMV yX12_previous := ⟨mi_X12_previous, List.mem_of_getElem? (i := 1703) (by decide +kernel)⟩
abbrev mX12_seek : zMI := (RX12, yX12_seek, 4, (some .int))
theorem mk_X12_seek : zMK mX12_seek cX12_seek 2 := ⟨List.mem_of_getElem? (i := 1708) (by decide +kernel), List.mem_of_getElem? (i := 91) (by decide +kernel), ⟨by decide +kernel, by decide +kernel, by decide +kernel⟩, by decide⟩
theorem mi_X12_seek : Cond.instanceMethod yX12_seek ∈ lw_tbl := List.mem_of_getElem? (i := 1706) (by decide +kernel)
theorem mv_X12_seek : zMV yX12_seek := ⟨mi_X12_seek, List.mem_of_getElem? (i := 1707) (by decide +kernel)⟩
abbrev mX12_at : zMI := (RX12, yX12_at, 2, (some .int))
theorem mk_X12_at : zMK mX12_at cX12_at 1 := ⟨List.mem_of_getElem? (i := 1712) (by decide +kernel), List.mem_of_getElem? (i := 91) (by decide +kernel), ⟨by decide +kernel, by decide +kernel, by decide +kernel⟩, by decide⟩
theorem mi_X12_at : Cond.instanceMethod yX12_at ∈ lw_tbl := List.mem_of_getElem? (i := 1710) (by decide +kernel)
theorem mv_X12_at : zMV yX12_at := ⟨mi_X12_at, List.mem_of_getElem? (i := 1711) (by decide +kernel)⟩
abbrev mX12_cell : zMI := (RX12, yX12_cell, 3, (some .long))
theorem mk_X12_cell : zMK mX12_cell cX12_cell 2 := ⟨List.mem_of_getElem? (i := 1716) (by decide +kernel), List.mem_of_getElem? (i := 91) (by decide +kernel), ⟨by decide +kernel, by decide +kernel, by decide +kernel⟩, by decide⟩
theorem mi_X12_cell : Cond.instanceMethod yX12_cell ∈ lw_tbl := List.mem_of_getElem? (i := 1714) (by decide +kernel)
theorem mv_X12_cell : zMV yX12_cell := ⟨mi_X12_cell, List.mem_of_getElem? (i := 1715) (by decide +kernel)⟩
abbrev mX12_tokenSize : zMI := (RX12, yX12_tokenSize, 2, (some .int))
theorem mk_X12_tokenSize : zMK mX12_tokenSize cX12_tokenSize 1 := ⟨List.mem_of_getElem? (i := 1720) (by decide +kernel), List.mem_of_getElem? (i := 91) (by decide +kernel), ⟨by decide +kernel, by decide +kernel, by decide +kernel⟩, by decide⟩
theorem mi_X12_tokenSize : Cond.instanceMethod yX12_tokenSize ∈ lw_tbl := List.mem_of_getElem? (i := 1718) (by decide +kernel)
theorem mv_X12_tokenSize : zMV yX12_tokenSize := ⟨mi_X12_tokenSize, List.mem_of_getElem? (i := 1719) (by decide +kernel)⟩
abbrev mX12_tokenByte : zMI := (RX12, yX12_tokenByte, 3, (some .int))
theorem mk_X12_tokenByte : zMK mX12_tokenByte cX12_tokenByte 2 := ⟨List.mem_of_getElem? (i := 1724) (by decide +kernel), List.mem_of_getElem? (i := 91) (by decide +kernel), ⟨by decide +kernel, by decide +kernel, by decide +kernel⟩, by decide⟩
theorem mi_X12_tokenByte : Cond.instanceMethod yX12_tokenByte ∈ lw_tbl := List.mem_of_getElem? (i := 1722) (by decide +kernel)
theorem mv_X12_tokenByte : zMV yX12_tokenByte := ⟨mi_X12_tokenByte, List.mem_of_getElem? (i := 1723) (by decide +kernel)⟩
abbrev mX12_beyond : zMI := (RX12, yX12_beyond, 2, (some .int))
theorem mk_X12_beyond : zMK mX12_beyond cX12_beyond 1 := ⟨List.mem_of_getElem? (i := 1728) (by decide +kernel), List.mem_of_getElem? (i := 91) (by decide +kernel), ⟨by decide +kernel, by decide +kernel, by decide +kernel⟩, by decide⟩
theorem mi_X12_beyond : Cond.instanceMethod yX12_beyond ∈ lw_tbl := List.mem_of_getElem? (i := 1726) (by decide +kernel)
theorem mv_X12_beyond : zMV yX12_beyond := ⟨mi_X12_beyond, List.mem_of_getElem? (i := 1727) (by decide +kernel)⟩
abbrev mX12_checks : zMI := (RX12, yX12_checks, 2, (some .int))
theorem mk_X12_checks : zMK mX12_checks cX12_checks 1 := ⟨List.mem_of_getElem? (i := 1732) (by decide +kernel), List.mem_of_getElem? (i := 91) (by decide +kernel), ⟨by decide +kernel, by decide +kernel, by decide +kernel⟩, by decide⟩
theorem mi_X12_checks : Cond.instanceMethod yX12_checks ∈ lw_tbl := List.mem_of_getElem? (i := 1730) (by decide +kernel)
theorem mv_X12_checks : zMV yX12_checks := ⟨mi_X12_checks, List.mem_of_getElem? (i := 1731) (by decide +kernel)⟩
abbrev mX12_nobodyReads : zMI := (RX12, yX12_nobodyReads, 2, none)
theorem mk_X12_nobodyReads : zMK mX12_nobodyReads cX12_nobodyReads 0 := ⟨List.mem_of_getElem? (i := 1499) (by decide +kernel), List.mem_of_getElem? (i := 91) (by decide +kernel), ⟨by decide +kernel, by decide +kernel, by decide +kernel⟩, by decide⟩
theorem mi_X12_nobodyReads : Cond.instanceMethod yX12_nobodyReads ∈ lw_tbl := List.mem_of_getElem? (i := 1498) (by decide +kernel)
theorem mv_X12_nobodyReads : zMV yX12_nobodyReads := ⟨mi_X12_nobodyReads, List.mem_of_getElem? (i := 47) (by decide +kernel)⟩
abbrev mX12_isReader : zMI := (RX12, yX12_isReader, 2, (some .boolean))
theorem mk_X12_isReader : zMK mX12_isReader cX12_isReader 1 := ⟨List.mem_of_getElem? (i := 1749) (by decide +kernel), List.mem_of_getElem? (i := 91) (by decide +kernel), ⟨by decide +kernel, by decide +kernel, by decide +kernel⟩, by decide⟩
theorem mi_X12_isReader : Cond.instanceMethod yX12_isReader ∈ lw_tbl := List.mem_of_getElem? (i := 1748) (by decide +kernel)
theorem mv_X12_isReader : zMV yX12_isReader := ⟨mi_X12_isReader, List.mem_of_getElem? (i := 77) (by decide +kernel)⟩
abbrev mX12_begin : zMI := (RX12, yX12_begin, 5, (some .boolean))
theorem mk_X12_begin : zMK mX12_begin cX12_begin 3 := ⟨List.mem_of_getElem? (i := 1736) (by decide +kernel), List.mem_of_getElem? (i := 91) (by decide +kernel), ⟨by decide +kernel, by decide +kernel, by decide +kernel⟩, by decide⟩
theorem mi_X12_begin : Cond.instanceMethod yX12_begin ∈ lw_tbl := List.mem_of_getElem? (i := 1734) (by decide +kernel)
theorem mv_X12_begin : zMV yX12_begin := ⟨mi_X12_begin, List.mem_of_getElem? (i := 1735) (by decide +kernel)⟩
abbrev mX12_goesReader : zMI := (RX12, yX12_goesReader, 5, (some .int))
theorem mk_X12_goesReader : zMK mX12_goesReader cX12_goesReader 2 := ⟨List.mem_of_getElem? (i := 1745) (by decide +kernel), List.mem_of_getElem? (i := 91) (by decide +kernel), ⟨by decide +kernel, by decide +kernel, by decide +kernel⟩, by decide⟩
theorem mi_X12_goesReader : Cond.instanceMethod yX12_goesReader ∈ lw_tbl := List.mem_of_getElem? (i := 1744) (by decide +kernel)
theorem mv_X12_goesReader : zMV yX12_goesReader := ⟨mi_X12_goesReader, List.mem_of_getElem? (i := 76) (by decide +kernel)⟩
abbrev mX12_on : zMI := (RX12, yX12_on, 2, (some .int))
theorem mk_X12_on : zMK mX12_on cX12_on 1 := ⟨List.mem_of_getElem? (i := 1741) (by decide +kernel), List.mem_of_getElem? (i := 91) (by decide +kernel), ⟨by decide +kernel, by decide +kernel, by decide +kernel⟩, by decide⟩
theorem mi_X12_on : Cond.instanceMethod yX12_on ∈ lw_tbl := List.mem_of_getElem? (i := 1739) (by decide +kernel)
theorem mv_X12_on : zMV yX12_on := ⟨mi_X12_on, List.mem_of_getElem? (i := 1740) (by decide +kernel)⟩
abbrev mX12_back : zMI := (RX12, yX12_back, 2, (some .int))
theorem mk_X12_back : zMK mX12_back cX12_back 1 := ⟨List.mem_of_getElem? (i := 1753) (by decide +kernel), List.mem_of_getElem? (i := 91) (by decide +kernel), ⟨by decide +kernel, by decide +kernel, by decide +kernel⟩, by decide⟩
theorem mi_X12_back : Cond.instanceMethod yX12_back ∈ lw_tbl := List.mem_of_getElem? (i := 1751) (by decide +kernel)
theorem mv_X12_back : zMV yX12_back := ⟨mi_X12_back, List.mem_of_getElem? (i := 1752) (by decide +kernel)⟩
abbrev mX12_isCounted : zMI := (RX12, yX12_isCounted, 5, (some .boolean))
theorem mk_X12_isCounted : zMK mX12_isCounted cX12_isCounted 3 := ⟨List.mem_of_getElem? (i := 1762) (by decide +kernel), List.mem_of_getElem? (i := 91) (by decide +kernel), ⟨by decide +kernel, by decide +kernel, by decide +kernel⟩, by decide⟩
theorem mi_X12_isCounted : Cond.instanceMethod yX12_isCounted ∈ lw_tbl := List.mem_of_getElem? (i := 1761) (by decide +kernel)
theorem mv_X12_isCounted : zMV yX12_isCounted := ⟨mi_X12_isCounted, List.mem_of_getElem? (i := 78) (by decide +kernel)⟩
abbrev mX12_account : zMI := (RX12, yX12_account, 5, (some .int))
theorem mk_X12_account : zMK mX12_account cX12_account 2 := ⟨List.mem_of_getElem? (i := 1757) (by decide +kernel), List.mem_of_getElem? (i := 91) (by decide +kernel), ⟨by decide +kernel, by decide +kernel, by decide +kernel⟩, by decide⟩
theorem mi_X12_account : Cond.instanceMethod yX12_account ∈ lw_tbl := List.mem_of_getElem? (i := 1755) (by decide +kernel)
theorem mv_X12_account : zMV yX12_account := ⟨mi_X12_account, List.mem_of_getElem? (i := 1756) (by decide +kernel)⟩
abbrev mX12_seen : zMI := (RX12, yX12_seen, 3, (some .int))
theorem mk_X12_seen : zMK mX12_seen cX12_seen 2 := ⟨List.mem_of_getElem? (i := 1766) (by decide +kernel), List.mem_of_getElem? (i := 91) (by decide +kernel), ⟨by decide +kernel, by decide +kernel, by decide +kernel⟩, by decide⟩
theorem mi_X12_seen : Cond.instanceMethod yX12_seen ∈ lw_tbl := List.mem_of_getElem? (i := 1764) (by decide +kernel)
theorem mv_X12_seen : zMV yX12_seen := ⟨mi_X12_seen, List.mem_of_getElem? (i := 1765) (by decide +kernel)⟩
abbrev mX12_offered : zMI := (RX12, yX12_offered, 10, (some .long))
theorem mk_X12_offered : zMK mX12_offered cX12_offered 5 := ⟨List.mem_of_getElem? (i := 1774) (by decide +kernel), List.mem_of_getElem? (i := 91) (by decide +kernel), ⟨by decide +kernel, by decide +kernel, by decide +kernel⟩, by decide⟩
theorem mi_X12_offered : Cond.instanceMethod yX12_offered ∈ lw_tbl := List.mem_of_getElem? (i := 1773) (by decide +kernel)
theorem mv_X12_offered : zMV yX12_offered := ⟨mi_X12_offered, List.mem_of_getElem? (i := 79) (by decide +kernel)⟩
abbrev mX12_insert : zMI := (RX12, yX12_insert, 11, (some .int))
theorem mk_X12_insert : zMK mX12_insert cX12_insert 4 := ⟨List.mem_of_getElem? (i := 1770) (by decide +kernel), List.mem_of_getElem? (i := 91) (by decide +kernel), ⟨by decide +kernel, by decide +kernel, by decide +kernel⟩, by decide⟩
theorem mi_X12_insert : Cond.instanceMethod yX12_insert ∈ lw_tbl := List.mem_of_getElem? (i := 1768) (by decide +kernel)
theorem mv_X12_insert : zMV yX12_insert := ⟨mi_X12_insert, List.mem_of_getElem? (i := 1769) (by decide +kernel)⟩
abbrev mX12_remove : zMI := (RX12, yX12_remove, 2, (some .int))
theorem mk_X12_remove : zMK mX12_remove cX12_remove 1 := ⟨List.mem_of_getElem? (i := 1782) (by decide +kernel), List.mem_of_getElem? (i := 91) (by decide +kernel), ⟨by decide +kernel, by decide +kernel, by decide +kernel⟩, by decide⟩
theorem mi_X12_remove : Cond.instanceMethod yX12_remove ∈ lw_tbl := List.mem_of_getElem? (i := 1780) (by decide +kernel)
theorem mv_X12_remove : zMV yX12_remove := ⟨mi_X12_remove, List.mem_of_getElem? (i := 1781) (by decide +kernel)⟩
abbrev mX12_change : zMI := (RX12, yX12_change, 5, (some .int))
theorem mk_X12_change : zMK mX12_change cX12_change 3 := ⟨List.mem_of_getElem? (i := 1786) (by decide +kernel), List.mem_of_getElem? (i := 91) (by decide +kernel), ⟨by decide +kernel, by decide +kernel, by decide +kernel⟩, by decide⟩
theorem mi_X12_change : Cond.instanceMethod yX12_change ∈ lw_tbl := List.mem_of_getElem? (i := 1784) (by decide +kernel)
theorem mv_X12_change : zMV yX12_change := ⟨mi_X12_change, List.mem_of_getElem? (i := 1785) (by decide +kernel)⟩
abbrev mX12_turnMany : zMI := (RX12, yX12_turnMany, 4, (some .int))
theorem mk_X12_turnMany : zMK mX12_turnMany cX12_turnMany 0 := ⟨List.mem_of_getElem? (i := 1794) (by decide +kernel), List.mem_of_getElem? (i := 91) (by decide +kernel), ⟨by decide +kernel, by decide +kernel, by decide +kernel⟩, by decide⟩
theorem mi_X12_turnMany : Cond.instanceMethod yX12_turnMany ∈ lw_tbl := List.mem_of_getElem? (i := 1793) (by decide +kernel)
theorem mv_X12_turnMany : zMV yX12_turnMany := ⟨mi_X12_turnMany, List.mem_of_getElem? (i := 81) (by decide +kernel)⟩
abbrev mX12_turn : zMI := (RX12, yX12_turn, 7, (some .int))
theorem mk_X12_turn : zMK mX12_turn cX12_turn 4 := ⟨List.mem_of_getElem? (i := 1790) (by decide +kernel), List.mem_of_getElem? (i := 91) (by decide +kernel), ⟨by decide +kernel, by decide +kernel, by decide +kernel⟩, by decide⟩
theorem mi_X12_turn : Cond.instanceMethod yX12_turn ∈ lw_tbl := List.mem_of_getElem? (i := 1788) (by decide +kernel)
theorem mv_X12_turn : zMV yX12_turn := ⟨mi_X12_turn, List.mem_of_getElem? (i := 1789) (by decide +kernel)⟩
abbrev mX12_isLacking : zMI := (RX12, yX12_isLacking, 3, (some .boolean))
theorem mk_X12_isLacking : zMK mX12_isLacking cX12_isLacking 1 := ⟨List.mem_of_getElem? (i := 1802) (by decide +kernel), List.mem_of_getElem? (i := 91) (by decide +kernel), ⟨by decide +kernel, by decide +kernel, by decide +kernel⟩, by decide⟩
theorem mi_X12_isLacking : Cond.instanceMethod yX12_isLacking ∈ lw_tbl := List.mem_of_getElem? (i := 1801) (by decide +kernel)
theorem mv_X12_isLacking : zMV yX12_isLacking := ⟨mi_X12_isLacking, List.mem_of_getElem? (i := 82) (by decide +kernel)⟩
abbrev mX12_lacking : zMI := (RX12, yX12_lacking, 4, (some .int))
theorem mk_X12_lacking : zMK mX12_lacking cX12_lacking 1 := ⟨List.mem_of_getElem? (i := 1798) (by decide +kernel), List.mem_of_getElem? (i := 91) (by decide +kernel), ⟨by decide +kernel, by decide +kernel, by decide +kernel⟩, by decide⟩
theorem mi_X12_lacking : Cond.instanceMethod yX12_lacking ∈ lw_tbl := List.mem_of_getElem? (i := 1796) (by decide +kernel)
theorem mv_X12_lacking : zMV yX12_lacking := ⟨mi_X12_lacking, List.mem_of_getElem? (i := 1797) (by decide +kernel)⟩
abbrev mX12_readerMany : zMI := (RX12, yX12_readerMany, 3, (some .int))
theorem mk_X12_readerMany : zMK mX12_readerMany cX12_readerMany 0 := ⟨List.mem_of_getElem? (i := 1810) (by decide +kernel), List.mem_of_getElem? (i := 91) (by decide +kernel), ⟨by decide +kernel, by decide +kernel, by decide +kernel⟩, by decide⟩
theorem mi_X12_readerMany : Cond.instanceMethod yX12_readerMany ∈ lw_tbl := List.mem_of_getElem? (i := 1809) (by decide +kernel)
theorem mv_X12_readerMany : zMV yX12_readerMany := ⟨mi_X12_readerMany, List.mem_of_getElem? (i := 83) (by decide +kernel)⟩
abbrev mX12_size : zMI := (RX12, yX12_size, 2, (some .int))
theorem mk_X12_size : zMK mX12_size cX12_size 1 := ⟨List.mem_of_getElem? (i := 1806) (by decide +kernel), List.mem_of_getElem? (i := 91) (by decide +kernel), ⟨by decide +kernel, by decide +kernel, by decide +kernel⟩, by decide⟩
theorem mi_X12_size : Cond.instanceMethod yX12_size ∈ lw_tbl := List.mem_of_getElem? (i := 1804) (by decide +kernel)
theorem mv_X12_size : zMV yX12_size := ⟨mi_X12_size, List.mem_of_getElem? (i := 1805) (by decide +kernel)⟩
abbrev mX12_trouble : zMI := (RX12, yX12_trouble, 1, (some .int))
theorem mk_X12_trouble : zMK mX12_trouble cX12_trouble 0 := ⟨List.mem_of_getElem? (i := 1814) (by decide +kernel), List.mem_of_getElem? (i := 91) (by decide +kernel), ⟨by decide +kernel, by decide +kernel, by decide +kernel⟩, by decide⟩
theorem mi_X12_trouble : Cond.instanceMethod yX12_trouble ∈ lw_tbl := List.mem_of_getElem? (i := 1812) (by decide +kernel)
theorem mv_X12_trouble : zMV yX12_trouble := ⟨mi_X12_trouble, List.mem_of_getElem? (i := 1813) (by decide +kernel)⟩
abbrev mJ13_compare_74951 : zMI := (RJ13, yJ13_compare_74951, 4, (some .int))
theorem mk_J13_compare_74951 : zMK mJ13_compare_74951 cJ13_compare_74951 2 := ⟨List.mem_of_getElem? (i := 776) (by decide +kernel), List.mem_of_getElem? (i := 104) (by decide +kernel), ⟨by decide +kernel, by decide +kernel, by decide +kernel⟩, by decide⟩
theorem ms_J13_compare_74951 : Cond.static yJ13_compare_74951 ∈ lw_tbl := List.mem_of_getElem? (i := 775) (by decide +kernel)
abbrev mJ9_floorMod_7cf53 : zMI := (RJ9, yJ9_floorMod_7cf53, 3, (some .int))
theorem mk_J9_floorMod_7cf53 : zMK mJ9_floorMod_7cf53 cJ9_floorMod_7cf53 2 := ⟨List.mem_of_getElem? (i := 736) (by decide +kernel), List.mem_of_getElem? (i := 102) (by decide +kernel), ⟨by decide +kernel, by decide +kernel, by decide +kernel⟩, by decide⟩
theorem ms_J9_floorMod_7cf53 : Cond.static yJ9_floorMod_7cf53 ∈ lw_tbl := List.mem_of_getElem? (i := 735) (by decide +kernel)
abbrev mJ9_max_7cf53 : zMI := (RJ9, yJ9_max_7cf53, 2, (some .int))
theorem mk_J9_max_7cf53 : zMK mJ9_max_7cf53 cJ9_max_7cf53 2 := ⟨List.mem_of_getElem? (i := 671) (by decide +kernel), List.mem_of_getElem? (i := 102) (by decide +kernel), ⟨by decide +kernel, by decide +kernel, by decide +kernel⟩, by decide⟩
theorem ms_J9_max_7cf53 : Cond.static yJ9_max_7cf53 ∈ lw_tbl := List.mem_of_getElem? (i := 670) (by decide +kernel)
abbrev mJ9_min_7cf53 : zMI := (RJ9, yJ9_min_7cf53, 2, (some .int))
theorem mk_J9_min_7cf53 : zMK mJ9_min_7cf53 cJ9_min_7cf53 2 := ⟨List.mem_of_getElem? (i := 799) (by decide +kernel), List.mem_of_getElem? (i := 102) (by decide +kernel), ⟨by decide +kernel, by decide +kernel, by decide +kernel⟩, by decide⟩
theorem ms_J9_min_7cf53 : Cond.static yJ9_min_7cf53 ∈ lw_tbl := List.mem_of_getElem? (i := 798) (by decide +kernel)
theorem l_L_15 : Cond.methodLink RL 15 yX11_init ∈ lw_tbl := List.mem_of_getElem? (i := 111) (by decide +kernel)
theorem oi_X11_5 : zOI RX11 5 := ⟨List.mem_of_getElem? (i := 114) (by decide +kernel), List.mem_of_getElem? (i := 115) (by decide +kernel), List.mem_of_getElem? (i := 116) (by decide +kernel)⟩
theorem l_X11_13 : Cond.methodLink RX11 13 yX1_init ∈ lw_tbl := List.mem_of_getElem? (i := 119) (by decide +kernel)
theorem oi_X1_3 : zOI RX1 3 := ⟨List.mem_of_getElem? (i := 122) (by decide +kernel), List.mem_of_getElem? (i := 115) (by decide +kernel), List.mem_of_getElem? (i := 116) (by decide +kernel)⟩
theorem l_X11_25 : Cond.methodLink RX11 25 yX10_init ∈ lw_tbl := List.mem_of_getElem? (i := 136) (by decide +kernel)
theorem oi_X10_3 : zOI RX10 3 := ⟨List.mem_of_getElem? (i := 139) (by decide +kernel), List.mem_of_getElem? (i := 115) (by decide +kernel), List.mem_of_getElem? (i := 116) (by decide +kernel)⟩
theorem l_X10_11 : Cond.methodLink RX10 11 yX7_init ∈ lw_tbl := List.mem_of_getElem? (i := 142) (by decide +kernel)
theorem oi_X7_3 : zOI RX7 3 := ⟨List.mem_of_getElem? (i := 145) (by decide +kernel), List.mem_of_getElem? (i := 115) (by decide +kernel), List.mem_of_getElem? (i := 116) (by decide +kernel)⟩
theorem l_X10_28 : Cond.methodLink RX10 28 yX1_init ∈ lw_tbl := List.mem_of_getElem? (i := 167) (by decide +kernel)
theorem l_X11_32 : Cond.methodLink RX11 32 yX4_init ∈ lw_tbl := List.mem_of_getElem? (i := 215) (by decide +kernel)
theorem oi_X4_3 : zOI RX4 3 := ⟨List.mem_of_getElem? (i := 218) (by decide +kernel), List.mem_of_getElem? (i := 115) (by decide +kernel), List.mem_of_getElem? (i := 116) (by decide +kernel)⟩
theorem l_X4_21 : Cond.methodLink RX4 21 yX1_init ∈ lw_tbl := List.mem_of_getElem? (i := 220) (by decide +kernel)
theorem l_X11_43 : Cond.methodLink RX11 43 yX6_init ∈ lw_tbl := List.mem_of_getElem? (i := 258) (by decide +kernel)
theorem oi_X6_3 : zOI RX6 3 := ⟨List.mem_of_getElem? (i := 261) (by decide +kernel), List.mem_of_getElem? (i := 115) (by decide +kernel), List.mem_of_getElem? (i := 116) (by decide +kernel)⟩
theorem l_X6_20 : Cond.methodLink RX6 20 yX1_init ∈ lw_tbl := List.mem_of_getElem? (i := 263) (by decide +kernel)
theorem l_L_19 : Cond.methodLink RL 19 yX11_feed ∈ lw_tbl := List.mem_of_getElem? (i := 328) (by decide +kernel)
theorem l_X11_61 : Cond.methodLink RX11 61 yX1_putFour ∈ lw_tbl := List.mem_of_getElem? (i := 332) (by decide +kernel)
theorem l_X1_23 : Cond.methodLink RX1 23 yX1_putTwo ∈ lw_tbl := List.mem_of_getElem? (i := 336) (by decide +kernel)
theorem l_X1_19 : Cond.methodLink RX1 19 yX1_put ∈ lw_tbl := List.mem_of_getElem? (i := 340) (by decide +kernel)
theorem l_L_24 : Cond.methodLink RL 24 yX11_table ∈ lw_tbl := List.mem_of_getElem? (i := 344) (by decide +kernel)
theorem l_X11_64 : Cond.methodLink RX11 64 yX11_isOnTape ∈ lw_tbl := List.mem_of_getElem? (i := 348) (by decide +kernel)
theorem l_X11_68 : Cond.methodLink RX11 68 yX11_refused ∈ lw_tbl := List.mem_of_getElem? (i := 352) (by decide +kernel)
theorem l_X11_74 : Cond.methodLink RX11 74 yX9_init ∈ lw_tbl := List.mem_of_getElem? (i := 358) (by decide +kernel)
theorem oi_X9_3 : zOI RX9 3 := ⟨List.mem_of_getElem? (i := 361) (by decide +kernel), List.mem_of_getElem? (i := 115) (by decide +kernel), List.mem_of_getElem? (i := 116) (by decide +kernel)⟩
theorem l_X9_21 : Cond.methodLink RX9 21 yX3_init ∈ lw_tbl := List.mem_of_getElem? (i := 364) (by decide +kernel)
theorem oi_X3_3 : zOI RX3 3 := ⟨List.mem_of_getElem? (i := 367) (by decide +kernel), List.mem_of_getElem? (i := 115) (by decide +kernel), List.mem_of_getElem? (i := 116) (by decide +kernel)⟩
theorem l_X9_28 : Cond.methodLink RX9 28 yX8_init ∈ lw_tbl := List.mem_of_getElem? (i := 391) (by decide +kernel)
theorem oi_X8_3 : zOI RX8 3 := ⟨List.mem_of_getElem? (i := 394) (by decide +kernel), List.mem_of_getElem? (i := 115) (by decide +kernel), List.mem_of_getElem? (i := 116) (by decide +kernel)⟩
theorem l_X9_35 : Cond.methodLink RX9 35 yX7_init ∈ lw_tbl := List.mem_of_getElem? (i := 415) (by decide +kernel)
theorem l_X9_42 : Cond.methodLink RX9 42 yX0_init ∈ lw_tbl := List.mem_of_getElem? (i := 418) (by decide +kernel)
theorem oi_X0_3 : zOI RX0 3 := ⟨List.mem_of_getElem? (i := 421) (by decide +kernel), List.mem_of_getElem? (i := 115) (by decide +kernel), List.mem_of_getElem? (i := 116) (by decide +kernel)⟩
theorem l_X11_77 : Cond.methodLink RX11 77 yX5_init ∈ lw_tbl := List.mem_of_getElem? (i := 489) (by decide +kernel)
theorem oi_X5_3 : zOI RX5 3 := ⟨List.mem_of_getElem? (i := 492) (by decide +kernel), List.mem_of_getElem? (i := 115) (by decide +kernel), List.mem_of_getElem? (i := 116) (by decide +kernel)⟩
theorem l_X5_11 : Cond.methodLink RX5 11 yX2_init ∈ lw_tbl := List.mem_of_getElem? (i := 495) (by decide +kernel)
theorem oi_X2_3 : zOI RX2 3 := ⟨List.mem_of_getElem? (i := 498) (by decide +kernel), List.mem_of_getElem? (i := 115) (by decide +kernel), List.mem_of_getElem? (i := 116) (by decide +kernel)⟩
theorem l_X11_80 : Cond.methodLink RX11 80 yX5_readTable ∈ lw_tbl := List.mem_of_getElem? (i := 536) (by decide +kernel)
theorem l_X5_31 : Cond.methodLink RX5 31 yX2_advance ∈ lw_tbl := List.mem_of_getElem? (i := 540) (by decide +kernel)
theorem l_X2_32 : Cond.methodLink RX2 32 yX1_get ∈ lw_tbl := List.mem_of_getElem? (i := 544) (by decide +kernel)
theorem l_X2_38 : Cond.methodLink RX2 38 yX2_isLetter ∈ lw_tbl := List.mem_of_getElem? (i := 548) (by decide +kernel)
theorem l_X2_42 : Cond.methodLink RX2 42 yX2_takeLetters ∈ lw_tbl := List.mem_of_getElem? (i := 551) (by decide +kernel)
theorem l_X2_45 : Cond.methodLink RX2 45 yX2_isDigit ∈ lw_tbl := List.mem_of_getElem? (i := 555) (by decide +kernel)
theorem l_X2_48 : Cond.methodLink RX2 48 yX2_takeDigits ∈ lw_tbl := List.mem_of_getElem? (i := 558) (by decide +kernel)
theorem l_X5_36 : Cond.methodLink RX5 36 yX2_isWord ∈ lw_tbl := List.mem_of_getElem? (i := 565) (by decide +kernel)
theorem l_X5_40 : Cond.methodLink RX5 40 yX5_readColumns ∈ lw_tbl := List.mem_of_getElem? (i := 569) (by decide +kernel)
theorem l_X5_54 : Cond.methodLink RX5 54 yX5_fails ∈ lw_tbl := List.mem_of_getElem? (i := 573) (by decide +kernel)
theorem l_X5_82 : Cond.methodLink RX5 82 yX5_readColumn ∈ lw_tbl := List.mem_of_getElem? (i := 577) (by decide +kernel)
theorem l_X5_89 : Cond.methodLink RX5 89 yX9_columnOf ∈ lw_tbl := List.mem_of_getElem? (i := 581) (by decide +kernel)
theorem l_X5_97 : Cond.methodLink RX5 97 yX9_addColumn ∈ lw_tbl := List.mem_of_getElem? (i := 587) (by decide +kernel)
theorem l_X5_72 : Cond.methodLink RX5 72 yX2_isSign ∈ lw_tbl := List.mem_of_getElem? (i := 591) (by decide +kernel)
theorem l_X5_46 : Cond.methodLink RX5 46 yX5_readOrder ∈ lw_tbl := List.mem_of_getElem? (i := 596) (by decide +kernel)
theorem l_X5_101 : Cond.methodLink RX5 101 yX5_readOrdered ∈ lw_tbl := List.mem_of_getElem? (i := 600) (by decide +kernel)
theorem l_X5_104 : Cond.methodLink RX5 104 yX3_has ∈ lw_tbl := List.mem_of_getElem? (i := 604) (by decide +kernel)
theorem l_X5_117 : Cond.methodLink RX5 117 yX3_add ∈ lw_tbl := List.mem_of_getElem? (i := 611) (by decide +kernel)
theorem l_X5_51 : Cond.methodLink RX5 51 yX5_readRow ∈ lw_tbl := List.mem_of_getElem? (i := 616) (by decide +kernel)
theorem l_X5_130 : Cond.methodLink RX5 130 yX7_add ∈ lw_tbl := List.mem_of_getElem? (i := 620) (by decide +kernel)
theorem l_X7_26 : Cond.methodLink RX7 26 yX7_set ∈ lw_tbl := List.mem_of_getElem? (i := 624) (by decide +kernel)
theorem l_X5_133 : Cond.methodLink RX5 133 yX5_readValue ∈ lw_tbl := List.mem_of_getElem? (i := 628) (by decide +kernel)
theorem l_X5_141 : Cond.methodLink RX5 141 yX7_write ∈ lw_tbl := List.mem_of_getElem? (i := 634) (by decide +kernel)
theorem l_X7_30 : Cond.methodLink RX7 30 yX7_isCell ∈ lw_tbl := List.mem_of_getElem? (i := 638) (by decide +kernel)
theorem l_X11_84 : Cond.methodLink RX11 84 yX1_empty ∈ lw_tbl := List.mem_of_getElem? (i := 641) (by decide +kernel)
theorem l_X11_93 : Cond.methodLink RX11 93 yX11_dismissReaders ∈ lw_tbl := List.mem_of_getElem? (i := 645) (by decide +kernel)
theorem l_X11_103 : Cond.methodLink RX11 103 yX11_answered ∈ lw_tbl := List.mem_of_getElem? (i := 649) (by decide +kernel)
theorem l_L_28 : Cond.methodLink RL 28 yX11_fault ∈ lw_tbl := List.mem_of_getElem? (i := 653) (by decide +kernel)
theorem l_L_33 : Cond.methodLink RL 33 yX11_where ∈ lw_tbl := List.mem_of_getElem? (i := 657) (by decide +kernel)
theorem l_L_37 : Cond.methodLink RL 37 yX11_about ∈ lw_tbl := List.mem_of_getElem? (i := 661) (by decide +kernel)
theorem l_X11_131 : Cond.methodLink RX11 131 yX0_earliest ∈ lw_tbl := List.mem_of_getElem? (i := 665) (by decide +kernel)
theorem l_X0_29 : Cond.methodLink RX0 29 yJ9_max_7cf53 ∈ lw_tbl := List.mem_of_getElem? (i := 669) (by decide +kernel)
theorem l_L_41 : Cond.methodLink RL 41 yX11_kind ∈ lw_tbl := List.mem_of_getElem? (i := 672) (by decide +kernel)
theorem l_X11_135 : Cond.methodLink RX11 135 yX11_isColumn ∈ lw_tbl := List.mem_of_getElem? (i := 676) (by decide +kernel)
theorem l_L_45 : Cond.methodLink RL 45 yX11_orderAt ∈ lw_tbl := List.mem_of_getElem? (i := 680) (by decide +kernel)
theorem l_L_50 : Cond.methodLink RL 50 yX11_value ∈ lw_tbl := List.mem_of_getElem? (i := 684) (by decide +kernel)
theorem l_X11_151 : Cond.methodLink RX11 151 yX11_isRow ∈ lw_tbl := List.mem_of_getElem? (i := 688) (by decide +kernel)
theorem l_X11_174 : Cond.methodLink RX11 174 yX7_has ∈ lw_tbl := List.mem_of_getElem? (i := 692) (by decide +kernel)
theorem l_X11_154 : Cond.methodLink RX11 154 yX11_refusedValue ∈ lw_tbl := List.mem_of_getElem? (i := 696) (by decide +kernel)
theorem l_X11_158 : Cond.methodLink RX11 158 yX7_read ∈ lw_tbl := List.mem_of_getElem? (i := 701) (by decide +kernel)
theorem l_X11_162 : Cond.methodLink RX11 162 yX11_answeredValue ∈ lw_tbl := List.mem_of_getElem? (i := 706) (by decide +kernel)
theorem l_L_55 : Cond.methodLink RL 55 yX11_was ∈ lw_tbl := List.mem_of_getElem? (i := 710) (by decide +kernel)
theorem l_X11_166 : Cond.methodLink RX11 166 yX0_canView ∈ lw_tbl := List.mem_of_getElem? (i := 714) (by decide +kernel)
theorem l_X0_35 : Cond.methodLink RX0 35 yX0_earliest ∈ lw_tbl := List.mem_of_getElem? (i := 718) (by decide +kernel)
theorem l_X11_169 : Cond.methodLink RX11 169 yX10_show ∈ lw_tbl := List.mem_of_getElem? (i := 719) (by decide +kernel)
theorem l_X10_61 : Cond.methodLink RX10 61 yX7_copy ∈ lw_tbl := List.mem_of_getElem? (i := 723) (by decide +kernel)
theorem l_X10_69 : Cond.methodLink RX10 69 yX0_takeBack ∈ lw_tbl := List.mem_of_getElem? (i := 730) (by decide +kernel)
theorem l_X0_39 : Cond.methodLink RX0 39 yJ9_floorMod_7cf53 ∈ lw_tbl := List.mem_of_getElem? (i := 734) (by decide +kernel)
theorem l_X0_42 : Cond.methodLink RX0 42 yX7_write ∈ lw_tbl := List.mem_of_getElem? (i := 737) (by decide +kernel)
theorem l_X0_48 : Cond.methodLink RX0 48 yX7_set ∈ lw_tbl := List.mem_of_getElem? (i := 738) (by decide +kernel)
theorem l_X10_78 : Cond.methodLink RX10 78 yX7_has ∈ lw_tbl := List.mem_of_getElem? (i := 739) (by decide +kernel)
theorem l_X10_86 : Cond.methodLink RX10 86 yX10_enter ∈ lw_tbl := List.mem_of_getElem? (i := 740) (by decide +kernel)
theorem l_X10_100 : Cond.methodLink RX10 100 yX3_writeKey ∈ lw_tbl := List.mem_of_getElem? (i := 744) (by decide +kernel)
theorem l_X3_29 : Cond.methodLink RX3 29 yX1_empty ∈ lw_tbl := List.mem_of_getElem? (i := 748) (by decide +kernel)
theorem l_X3_34 : Cond.methodLink RX3 34 yX7_read ∈ lw_tbl := List.mem_of_getElem? (i := 749) (by decide +kernel)
theorem l_X3_40 : Cond.methodLink RX3 40 yX3_writePart ∈ lw_tbl := List.mem_of_getElem? (i := 750) (by decide +kernel)
theorem l_X3_50 : Cond.methodLink RX3 50 yX1_put ∈ lw_tbl := List.mem_of_getElem? (i := 755) (by decide +kernel)
theorem l_X3_44 : Cond.methodLink RX3 44 yX1_putTwo ∈ lw_tbl := List.mem_of_getElem? (i := 757) (by decide +kernel)
theorem l_X10_106 : Cond.methodLink RX10 106 yX1_against ∈ lw_tbl := List.mem_of_getElem? (i := 758) (by decide +kernel)
theorem l_X1_30 : Cond.methodLink RX1 30 yJ9_max_7cf53 ∈ lw_tbl := List.mem_of_getElem? (i := 762) (by decide +kernel)
theorem l_X1_26 : Cond.methodLink RX1 26 yX1_get ∈ lw_tbl := List.mem_of_getElem? (i := 763) (by decide +kernel)
theorem l_X10_94 : Cond.methodLink RX10 94 yX8_lets ∈ lw_tbl := List.mem_of_getElem? (i := 764) (by decide +kernel)
theorem l_X8_29 : Cond.methodLink RX8 29 yX7_read ∈ lw_tbl := List.mem_of_getElem? (i := 768) (by decide +kernel)
theorem l_X8_35 : Cond.methodLink RX8 35 yX8_meets ∈ lw_tbl := List.mem_of_getElem? (i := 769) (by decide +kernel)
theorem l_X8_41 : Cond.methodLink RX8 41 yJ13_compare_74951 ∈ lw_tbl := List.mem_of_getElem? (i := 774) (by decide +kernel)
theorem l_X8_47 : Cond.methodLinkNest RX8 47 yX11_raisedWord "DriftPages" ∈ lw_tbl := List.mem_of_getElem? (i := 777) (by decide +kernel)
theorem l_L_60 : Cond.methodLink RL 60 yX11_keySize ∈ lw_tbl := List.mem_of_getElem? (i := 781) (by decide +kernel)
theorem l_X11_177 : Cond.methodLink RX11 177 yX11_keyNow ∈ lw_tbl := List.mem_of_getElem? (i := 785) (by decide +kernel)
theorem l_X11_335 : Cond.methodLink RX11 335 yX10_placeOf ∈ lw_tbl := List.mem_of_getElem? (i := 789) (by decide +kernel)
theorem l_X11_338 : Cond.methodLink RX11 338 yX10_keyAt ∈ lw_tbl := List.mem_of_getElem? (i := 793) (by decide +kernel)
theorem l_X10_110 : Cond.methodLink RX10 110 yJ9_min_7cf53 ∈ lw_tbl := List.mem_of_getElem? (i := 797) (by decide +kernel)
theorem l_X10_116 : Cond.methodLink RX10 116 yJ9_max_7cf53 ∈ lw_tbl := List.mem_of_getElem? (i := 800) (by decide +kernel)
theorem l_L_64 : Cond.methodLink RL 64 yX11_keyByte ∈ lw_tbl := List.mem_of_getElem? (i := 801) (by decide +kernel)
theorem l_X11_181 : Cond.methodLink RX11 181 yX1_get ∈ lw_tbl := List.mem_of_getElem? (i := 805) (by decide +kernel)
theorem l_X11_184 : Cond.methodLink RX11 184 yX11_answeredOrNone ∈ lw_tbl := List.mem_of_getElem? (i := 806) (by decide +kernel)
theorem l_L_68 : Cond.methodLink RL 68 yX11_rank ∈ lw_tbl := List.mem_of_getElem? (i := 810) (by decide +kernel)
theorem l_X11_187 : Cond.methodLink RX11 187 yX11_rankNow ∈ lw_tbl := List.mem_of_getElem? (i := 814) (by decide +kernel)
theorem l_L_72 : Cond.methodLink RL 72 yX11_ranked ∈ lw_tbl := List.mem_of_getElem? (i := 818) (by decide +kernel)
theorem l_L_76 : Cond.methodLink RL 76 yX11_differ ∈ lw_tbl := List.mem_of_getElem? (i := 822) (by decide +kernel)
theorem l_L_80 : Cond.methodLink RL 80 yX11_page ∈ lw_tbl := List.mem_of_getElem? (i := 826) (by decide +kernel)
theorem l_X11_193 : Cond.methodLink RX11 193 yX11_isPageSize ∈ lw_tbl := List.mem_of_getElem? (i := 830) (by decide +kernel)
theorem l_X11_196 : Cond.methodLink RX11 196 yX10_chooseFrom ∈ lw_tbl := List.mem_of_getElem? (i := 833) (by decide +kernel)
theorem l_X11_200 : Cond.methodLink RX11 200 yX4_fill ∈ lw_tbl := List.mem_of_getElem? (i := 837) (by decide +kernel)
theorem l_X4_56 : Cond.methodLink RX4 56 yX10_idPassing ∈ lw_tbl := List.mem_of_getElem? (i := 841) (by decide +kernel)
theorem l_X4_64 : Cond.methodLink RX4 64 yX7_read ∈ lw_tbl := List.mem_of_getElem? (i := 845) (by decide +kernel)
theorem l_X4_70 : Cond.methodLink RX4 70 yX1_empty ∈ lw_tbl := List.mem_of_getElem? (i := 846) (by decide +kernel)
theorem l_X4_76 : Cond.methodLink RX4 76 yX4_writeToken ∈ lw_tbl := List.mem_of_getElem? (i := 847) (by decide +kernel)
theorem l_X4_91 : Cond.methodLink RX4 91 yX10_keyPassing ∈ lw_tbl := List.mem_of_getElem? (i := 850) (by decide +kernel)
theorem l_X4_95 : Cond.methodLink RX4 95 yX1_put ∈ lw_tbl := List.mem_of_getElem? (i := 854) (by decide +kernel)
theorem l_X4_101 : Cond.methodLink RX4 101 yX1_putTwo ∈ lw_tbl := List.mem_of_getElem? (i := 855) (by decide +kernel)
theorem l_X4_80 : Cond.methodLink RX4 80 yX1_append ∈ lw_tbl := List.mem_of_getElem? (i := 856) (by decide +kernel)
theorem l_X4_105 : Cond.methodLink RX4 105 yX1_checkOf ∈ lw_tbl := List.mem_of_getElem? (i := 860) (by decide +kernel)
theorem l_L_85 : Cond.methodLink RL 85 yX11_next ∈ lw_tbl := List.mem_of_getElem? (i := 864) (by decide +kernel)
theorem l_X11_205 : Cond.methodLink RX11 205 yX11_pageByToken ∈ lw_tbl := List.mem_of_getElem? (i := 868) (by decide +kernel)
theorem l_X11_236 : Cond.methodLink RX11 236 yX11_troubleOfToken ∈ lw_tbl := List.mem_of_getElem? (i := 872) (by decide +kernel)
theorem l_X11_356 : Cond.methodLink RX11 356 yX1_checkOf ∈ lw_tbl := List.mem_of_getElem? (i := 876) (by decide +kernel)
theorem l_X11_341 : Cond.methodLink RX11 341 yX1_getTwo ∈ lw_tbl := List.mem_of_getElem? (i := 877) (by decide +kernel)
theorem l_X11_344 : Cond.methodLink RX11 344 yX1_append ∈ lw_tbl := List.mem_of_getElem? (i := 881) (by decide +kernel)
theorem l_X11_348 : Cond.methodLink RX11 348 yX10_chooseBeside ∈ lw_tbl := List.mem_of_getElem? (i := 882) (by decide +kernel)
theorem l_X10_123 : Cond.methodLink RX10 123 yX10_countNotAbove ∈ lw_tbl := List.mem_of_getElem? (i := 886) (by decide +kernel)
theorem l_X10_119 : Cond.methodLink RX10 119 yX10_keyPassing ∈ lw_tbl := List.mem_of_getElem? (i := 890) (by decide +kernel)
theorem l_X10_126 : Cond.methodLink RX10 126 yX10_chooseFrom ∈ lw_tbl := List.mem_of_getElem? (i := 891) (by decide +kernel)
theorem l_X10_130 : Cond.methodLink RX10 130 yX10_countBelow ∈ lw_tbl := List.mem_of_getElem? (i := 892) (by decide +kernel)
theorem l_X11_352 : Cond.methodLink RX11 352 yX4_keepToken ∈ lw_tbl := List.mem_of_getElem? (i := 896) (by decide +kernel)
theorem l_X4_84 : Cond.methodLink RX4 84 yX10_countBelow ∈ lw_tbl := List.mem_of_getElem? (i := 900) (by decide +kernel)
theorem l_X4_88 : Cond.methodLink RX4 88 yX10_countNotAbove ∈ lw_tbl := List.mem_of_getElem? (i := 901) (by decide +kernel)
theorem l_L_89 : Cond.methodLink RL 89 yX11_previous ∈ lw_tbl := List.mem_of_getElem? (i := 902) (by decide +kernel)
theorem l_L_95 : Cond.methodLink RL 95 yX11_seek ∈ lw_tbl := List.mem_of_getElem? (i := 906) (by decide +kernel)
theorem l_X11_209 : Cond.methodLink RX11 209 yX9_canHold ∈ lw_tbl := List.mem_of_getElem? (i := 910) (by decide +kernel)
theorem l_X9_59 : Cond.methodLinkNest RX9 59 yX11_isWordValue "DriftPages" ∈ lw_tbl := List.mem_of_getElem? (i := 915) (by decide +kernel)
theorem l_X11_213 : Cond.methodLink RX11 213 yX3_writePart ∈ lw_tbl := List.mem_of_getElem? (i := 924) (by decide +kernel)
theorem l_X11_217 : Cond.methodLink RX11 217 yX10_countBelow ∈ lw_tbl := List.mem_of_getElem? (i := 925) (by decide +kernel)
theorem l_L_100 : Cond.methodLink RL 100 yX11_at ∈ lw_tbl := List.mem_of_getElem? (i := 926) (by decide +kernel)
theorem l_X11_221 : Cond.methodLink RX11 221 yX4_has ∈ lw_tbl := List.mem_of_getElem? (i := 930) (by decide +kernel)
theorem l_L_104 : Cond.methodLink RL 104 yX11_cell ∈ lw_tbl := List.mem_of_getElem? (i := 934) (by decide +kernel)
theorem l_L_108 : Cond.methodLink RL 108 yX11_tokenSize ∈ lw_tbl := List.mem_of_getElem? (i := 938) (by decide +kernel)
theorem l_X11_227 : Cond.methodLink RX11 227 yX4_tokenOf ∈ lw_tbl := List.mem_of_getElem? (i := 942) (by decide +kernel)
theorem l_L_112 : Cond.methodLink RL 112 yX11_tokenByte ∈ lw_tbl := List.mem_of_getElem? (i := 946) (by decide +kernel)
theorem l_L_116 : Cond.methodLink RL 116 yX11_beyond ∈ lw_tbl := List.mem_of_getElem? (i := 950) (by decide +kernel)
theorem l_L_120 : Cond.methodLink RL 120 yX11_checks ∈ lw_tbl := List.mem_of_getElem? (i := 954) (by decide +kernel)
theorem l_L_124 : Cond.methodLink RL 124 yX11_begin ∈ lw_tbl := List.mem_of_getElem? (i := 958) (by decide +kernel)
theorem l_X11_239 : Cond.methodLink RX11 239 yX6_start ∈ lw_tbl := List.mem_of_getElem? (i := 962) (by decide +kernel)
theorem l_X6_47 : Cond.methodLink RX6 47 yX1_empty ∈ lw_tbl := List.mem_of_getElem? (i := 966) (by decide +kernel)
theorem l_L_129 : Cond.methodLink RL 129 yX11_on ∈ lw_tbl := List.mem_of_getElem? (i := 967) (by decide +kernel)
theorem l_X11_243 : Cond.methodLink RX11 243 yX11_stepReader ∈ lw_tbl := List.mem_of_getElem? (i := 971) (by decide +kernel)
theorem l_X11_246 : Cond.methodLink RX11 246 yX11_hasBegun ∈ lw_tbl := List.mem_of_getElem? (i := 975) (by decide +kernel)
theorem l_X11_369 : Cond.methodLink RX11 369 yX6_take ∈ lw_tbl := List.mem_of_getElem? (i := 979) (by decide +kernel)
theorem l_X6_58 : Cond.methodLink RX6 58 yX10_idPassing ∈ lw_tbl := List.mem_of_getElem? (i := 983) (by decide +kernel)
theorem l_X6_62 : Cond.methodLink RX6 62 yX10_keyPassing ∈ lw_tbl := List.mem_of_getElem? (i := 984) (by decide +kernel)
theorem l_X6_69 : Cond.methodLink RX6 69 yX1_append ∈ lw_tbl := List.mem_of_getElem? (i := 985) (by decide +kernel)
theorem l_L_133 : Cond.methodLink RL 133 yX11_back ∈ lw_tbl := List.mem_of_getElem? (i := 986) (by decide +kernel)
theorem l_L_137 : Cond.methodLink RL 137 yX11_account ∈ lw_tbl := List.mem_of_getElem? (i := 990) (by decide +kernel)
theorem l_X11_255 : Cond.methodLink RX11 255 yX6_counts ∈ lw_tbl := List.mem_of_getElem? (i := 994) (by decide +kernel)
theorem l_X6_79 : Cond.methodLink RX6 79 yX7_has ∈ lw_tbl := List.mem_of_getElem? (i := 998) (by decide +kernel)
theorem l_X6_89 : Cond.methodLink RX6 89 yX8_lets ∈ lw_tbl := List.mem_of_getElem? (i := 999) (by decide +kernel)
theorem l_L_141 : Cond.methodLink RL 141 yX11_seen ∈ lw_tbl := List.mem_of_getElem? (i := 1000) (by decide +kernel)
theorem l_L_145 : Cond.methodLink RL 145 yX11_insert ∈ lw_tbl := List.mem_of_getElem? (i := 1004) (by decide +kernel)
theorem l_X11_262 : Cond.methodLink RX11 262 yX7_add ∈ lw_tbl := List.mem_of_getElem? (i := 1008) (by decide +kernel)
theorem l_X11_265 : Cond.methodLink RX11 265 yX7_write ∈ lw_tbl := List.mem_of_getElem? (i := 1009) (by decide +kernel)
theorem l_X11_269 : Cond.methodLink RX11 269 yX0_note ∈ lw_tbl := List.mem_of_getElem? (i := 1010) (by decide +kernel)
theorem l_L_150 : Cond.methodLink RL 150 yX11_remove ∈ lw_tbl := List.mem_of_getElem? (i := 1014) (by decide +kernel)
theorem l_X11_273 : Cond.methodLink RX11 273 yX7_set ∈ lw_tbl := List.mem_of_getElem? (i := 1018) (by decide +kernel)
theorem l_L_154 : Cond.methodLink RL 154 yX11_change ∈ lw_tbl := List.mem_of_getElem? (i := 1019) (by decide +kernel)
theorem l_L_159 : Cond.methodLink RL 159 yX11_turn ∈ lw_tbl := List.mem_of_getElem? (i := 1023) (by decide +kernel)
theorem l_X11_280 : Cond.methodLink RX11 280 yX3_lengthOf ∈ lw_tbl := List.mem_of_getElem? (i := 1027) (by decide +kernel)
theorem l_X11_284 : Cond.methodLink RX11 284 yX3_add ∈ lw_tbl := List.mem_of_getElem? (i := 1030) (by decide +kernel)
theorem l_X11_287 : Cond.methodLink RX11 287 yX11_turned ∈ lw_tbl := List.mem_of_getElem? (i := 1031) (by decide +kernel)
theorem l_L_164 : Cond.methodLink RL 164 yX11_sieve ∈ lw_tbl := List.mem_of_getElem? (i := 1035) (by decide +kernel)
theorem l_X11_299 : Cond.methodLink RX11 299 yX8_add ∈ lw_tbl := List.mem_of_getElem? (i := 1039) (by decide +kernel)
theorem l_L_168 : Cond.methodLink RL 168 yX11_clear ∈ lw_tbl := List.mem_of_getElem? (i := 1043) (by decide +kernel)
theorem l_L_172 : Cond.methodLink RL 172 yX11_passes ∈ lw_tbl := List.mem_of_getElem? (i := 1047) (by decide +kernel)
theorem l_X11_301 : Cond.methodLink RX11 301 yX8_lets ∈ lw_tbl := List.mem_of_getElem? (i := 1051) (by decide +kernel)
theorem l_L_176 : Cond.methodLink RL 176 yX11_condition ∈ lw_tbl := List.mem_of_getElem? (i := 1052) (by decide +kernel)
theorem l_L_189 : Cond.methodLink RL 189 yX11_size ∈ lw_tbl := List.mem_of_getElem? (i := 1056) (by decide +kernel)
theorem l_X11_319 : Cond.methodLink RX11 319 yX11_countReaders ∈ lw_tbl := List.mem_of_getElem? (i := 1060) (by decide +kernel)
theorem l_L_193 : Cond.methodLink RL 193 yX11_trouble ∈ lw_tbl := List.mem_of_getElem? (i := 1064) (by decide +kernel)
theorem l_L_7 : Cond.methodLink RL 7 yX11_lacking ∈ lw_tbl := List.mem_of_getElem? (i := 1072) (by decide +kernel)
theorem l_X11_309 : Cond.methodLink RX11 309 yX9_lacksValue ∈ lw_tbl := List.mem_of_getElem? (i := 1076) (by decide +kernel)
theorem l_X9_67 : Cond.methodLink RX9 67 yX7_read ∈ lw_tbl := List.mem_of_getElem? (i := 1080) (by decide +kernel)
theorem l_L_18 : Cond.methodLink RL 18 yX12_init ∈ lw_tbl := List.mem_of_getElem? (i := 1149) (by decide +kernel)
theorem oi_X12_3 : zOI RX12 3 := ⟨List.mem_of_getElem? (i := 1152) (by decide +kernel), List.mem_of_getElem? (i := 115) (by decide +kernel), List.mem_of_getElem? (i := 116) (by decide +kernel)⟩
theorem l_L_186 : Cond.methodLink RL 186 yX12_thrown ∈ lw_tbl := List.mem_of_getElem? (i := 1346) (by decide +kernel)
theorem l_L_23 : Cond.methodLink RL 23 yX12_feed ∈ lw_tbl := List.mem_of_getElem? (i := 1350) (by decide +kernel)
theorem l_X12_135 : Cond.methodLink RX12 135 yX12_laysWord ∈ lw_tbl := List.mem_of_getElem? (i := 1354) (by decide +kernel)
theorem l_L_27 : Cond.methodLink RL 27 yX12_table ∈ lw_tbl := List.mem_of_getElem? (i := 1358) (by decide +kernel)
theorem l_X12_159 : Cond.methodLink RX12 159 yX12_in ∈ lw_tbl := List.mem_of_getElem? (i := 1362) (by decide +kernel)
theorem l_X12_256 : Cond.methodLink RX12 256 yX12_isRefused ∈ lw_tbl := List.mem_of_getElem? (i := 1365) (by decide +kernel)
theorem l_X12_262 : Cond.methodLink RX12 262 yX12_readAll ∈ lw_tbl := List.mem_of_getElem? (i := 1369) (by decide +kernel)
theorem l_X12_202 : Cond.methodLink RX12 202 yX12_goesOn ∈ lw_tbl := List.mem_of_getElem? (i := 1373) (by decide +kernel)
theorem l_X12_145 : Cond.methodLink RX12 145 yX12_see ∈ lw_tbl := List.mem_of_getElem? (i := 1377) (by decide +kernel)
theorem l_X12_253 : Cond.methodLink RX12 253 yX12_readLine ∈ lw_tbl := List.mem_of_getElem? (i := 1385) (by decide +kernel)
theorem l_X12_207 : Cond.methodLink RX12 207 yX12_isWord ∈ lw_tbl := List.mem_of_getElem? (i := 1390) (by decide +kernel)
theorem l_X12_241 : Cond.methodLink RX12 241 yX12_readTable ∈ lw_tbl := List.mem_of_getElem? (i := 1442) (by decide +kernel)
theorem l_X12_195 : Cond.methodLink RX12 195 yX12_errs ∈ lw_tbl := List.mem_of_getElem? (i := 1446) (by decide +kernel)
theorem l_X12_213 : Cond.methodLink RX12 213 yX12_readColumn ∈ lw_tbl := List.mem_of_getElem? (i := 1450) (by decide +kernel)
theorem l_X12_199 : Cond.methodLink RX12 199 yX12_columnHere ∈ lw_tbl := List.mem_of_getElem? (i := 1454) (by decide +kernel)
theorem l_X12_191 : Cond.methodLink RX12 191 yX12_spelt ∈ lw_tbl := List.mem_of_getElem? (i := 1458) (by decide +kernel)
theorem l_X12_245 : Cond.methodLink RX12 245 yX12_readOrders ∈ lw_tbl := List.mem_of_getElem? (i := 1466) (by decide +kernel)
theorem l_X12_226 : Cond.methodLink RX12 226 yX12_readOne ∈ lw_tbl := List.mem_of_getElem? (i := 1470) (by decide +kernel)
theorem l_X12_250 : Cond.methodLink RX12 250 yX12_readRow ∈ lw_tbl := List.mem_of_getElem? (i := 1478) (by decide +kernel)
theorem l_X12_236 : Cond.methodLink RX12 236 yX12_readValue ∈ lw_tbl := List.mem_of_getElem? (i := 1482) (by decide +kernel)
theorem l_X12_265 : Cond.methodLink RX12 265 yX12_no ∈ lw_tbl := List.mem_of_getElem? (i := 1488) (by decide +kernel)
theorem l_X12_268 : Cond.methodLink RX12 268 yX12_begins ∈ lw_tbl := List.mem_of_getElem? (i := 1492) (by decide +kernel)
theorem l_X12_293 : Cond.methodLink RX12 293 yX12_nobodyReads ∈ lw_tbl := List.mem_of_getElem? (i := 1496) (by decide +kernel)
theorem l_L_32 : Cond.methodLink RL 32 yX12_fault ∈ lw_tbl := List.mem_of_getElem? (i := 1500) (by decide +kernel)
theorem l_L_36 : Cond.methodLink RL 36 yX12_where ∈ lw_tbl := List.mem_of_getElem? (i := 1504) (by decide +kernel)
theorem l_L_40 : Cond.methodLink RL 40 yX12_about ∈ lw_tbl := List.mem_of_getElem? (i := 1508) (by decide +kernel)
theorem l_X12_312 : Cond.methodLink RX12 312 yX12_unless ∈ lw_tbl := List.mem_of_getElem? (i := 1512) (by decide +kernel)
theorem l_X12_316 : Cond.methodLink RX12 316 yX12_thereMany ∈ lw_tbl := List.mem_of_getElem? (i := 1515) (by decide +kernel)
theorem l_X12_305 : Cond.methodLink RX12 305 yX12_isThen ∈ lw_tbl := List.mem_of_getElem? (i := 1519) (by decide +kernel)
theorem l_X12_301 : Cond.methodLink RX12 301 yX12_rowAt ∈ lw_tbl := List.mem_of_getElem? (i := 1524) (by decide +kernel)
theorem l_X12_309 : Cond.methodLink RX12 309 yX12_earliest ∈ lw_tbl := List.mem_of_getElem? (i := 1527) (by decide +kernel)
theorem l_L_44 : Cond.methodLink RL 44 yX12_kind ∈ lw_tbl := List.mem_of_getElem? (i := 1531) (by decide +kernel)
theorem l_X12_319 : Cond.methodLink RX12 319 yX12_isColumn ∈ lw_tbl := List.mem_of_getElem? (i := 1535) (by decide +kernel)
theorem l_L_49 : Cond.methodLink RL 49 yX12_orderAt ∈ lw_tbl := List.mem_of_getElem? (i := 1539) (by decide +kernel)
theorem l_L_54 : Cond.methodLink RL 54 yX12_value ∈ lw_tbl := List.mem_of_getElem? (i := 1544) (by decide +kernel)
theorem l_X12_324 : Cond.methodLink RX12 324 yX12_isNow ∈ lw_tbl := List.mem_of_getElem? (i := 1548) (by decide +kernel)
theorem l_X12_327 : Cond.methodLink RX12 327 yX12_valueThen ∈ lw_tbl := List.mem_of_getElem? (i := 1552) (by decide +kernel)
theorem l_L_59 : Cond.methodLink RL 59 yX12_was ∈ lw_tbl := List.mem_of_getElem? (i := 1556) (by decide +kernel)
theorem l_X12_331 : Cond.methodLink RX12 331 yX12_canView ∈ lw_tbl := List.mem_of_getElem? (i := 1560) (by decide +kernel)
theorem l_L_63 : Cond.methodLink RL 63 yX12_keySize ∈ lw_tbl := List.mem_of_getElem? (i := 1564) (by decide +kernel)
theorem l_X12_351 : Cond.methodLink RX12 351 yX12_laysKey ∈ lw_tbl := List.mem_of_getElem? (i := 1568) (by decide +kernel)
theorem l_X12_344 : Cond.methodLink RX12 344 yX12_laysPart ∈ lw_tbl := List.mem_of_getElem? (i := 1572) (by decide +kernel)
theorem l_X12_337 : Cond.methodLink RX12 337 yX12_laysByte ∈ lw_tbl := List.mem_of_getElem? (i := 1576) (by decide +kernel)
theorem l_L_67 : Cond.methodLink RL 67 yX12_keyByte ∈ lw_tbl := List.mem_of_getElem? (i := 1582) (by decide +kernel)
theorem l_L_71 : Cond.methodLink RL 71 yX12_rank ∈ lw_tbl := List.mem_of_getElem? (i := 1586) (by decide +kernel)
theorem l_X12_361 : Cond.methodLink RX12 361 yX12_aheadOf ∈ lw_tbl := List.mem_of_getElem? (i := 1590) (by decide +kernel)
theorem l_X12_355 : Cond.methodLink RX12 355 yX12_marks ∈ lw_tbl := List.mem_of_getElem? (i := 1594) (by decide +kernel)
theorem l_X12_358 : Cond.methodLink RX12 358 yX12_compared ∈ lw_tbl := List.mem_of_getElem? (i := 1598) (by decide +kernel)
theorem l_L_75 : Cond.methodLink RL 75 yX12_ranked ∈ lw_tbl := List.mem_of_getElem? (i := 1602) (by decide +kernel)
theorem l_L_79 : Cond.methodLink RL 79 yX12_differ ∈ lw_tbl := List.mem_of_getElem? (i := 1606) (by decide +kernel)
theorem l_L_167 : Cond.methodLink RL 167 yX12_sieve ∈ lw_tbl := List.mem_of_getElem? (i := 1610) (by decide +kernel)
theorem l_X12_378 : Cond.methodLink RX12 378 yX12_canHave ∈ lw_tbl := List.mem_of_getElem? (i := 1615) (by decide +kernel)
theorem l_X12_382 : Cond.methodLink RX12 382 yX12_turned ∈ lw_tbl := List.mem_of_getElem? (i := 1621) (by decide +kernel)
theorem l_L_171 : Cond.methodLink RL 171 yX12_clear ∈ lw_tbl := List.mem_of_getElem? (i := 1625) (by decide +kernel)
theorem l_L_175 : Cond.methodLink RL 175 yX12_passes ∈ lw_tbl := List.mem_of_getElem? (i := 1629) (by decide +kernel)
theorem l_X12_385 : Cond.methodLink RX12 385 yX12_doesPass ∈ lw_tbl := List.mem_of_getElem? (i := 1633) (by decide +kernel)
theorem l_X12_368 : Cond.methodLink RX12 368 yX12_meets ∈ lw_tbl := List.mem_of_getElem? (i := 1637) (by decide +kernel)
theorem l_X12_364 : Cond.methodLink RX12 364 yX12_spread ∈ lw_tbl := List.mem_of_getElem? (i := 1641) (by decide +kernel)
theorem l_L_179 : Cond.methodLink RL 179 yX12_condition ∈ lw_tbl := List.mem_of_getElem? (i := 1644) (by decide +kernel)
theorem l_L_84 : Cond.methodLink RL 84 yX12_page ∈ lw_tbl := List.mem_of_getElem? (i := 1648) (by decide +kernel)
theorem l_X12_414 : Cond.methodLink RX12 414 yX12_marksNothing ∈ lw_tbl := List.mem_of_getElem? (i := 1653) (by decide +kernel)
theorem l_X12_417 : Cond.methodLink RX12 417 yX12_finds ∈ lw_tbl := List.mem_of_getElem? (i := 1657) (by decide +kernel)
theorem l_X12_395 : Cond.methodLink RX12 395 yX12_nextRow ∈ lw_tbl := List.mem_of_getElem? (i := 1661) (by decide +kernel)
theorem l_X12_388 : Cond.methodLink RX12 388 yX12_isKept ∈ lw_tbl := List.mem_of_getElem? (i := 1665) (by decide +kernel)
theorem l_X12_421 : Cond.methodLink RX12 421 yX12_pages ∈ lw_tbl := List.mem_of_getElem? (i := 1669) (by decide +kernel)
theorem l_X12_402 : Cond.methodLink RX12 402 yX12_laysToken ∈ lw_tbl := List.mem_of_getElem? (i := 1673) (by decide +kernel)
theorem l_X12_406 : Cond.methodLink RX12 406 yX12_countAhead ∈ lw_tbl := List.mem_of_getElem? (i := 1677) (by decide +kernel)
theorem l_L_88 : Cond.methodLink RL 88 yX12_next ∈ lw_tbl := List.mem_of_getElem? (i := 1681) (by decide +kernel)
theorem l_X12_434 : Cond.methodLink RX12 434 yX12_goesBy ∈ lw_tbl := List.mem_of_getElem? (i := 1685) (by decide +kernel)
theorem l_X12_428 : Cond.methodLink RX12 428 yX12_wrongToken ∈ lw_tbl := List.mem_of_getElem? (i := 1689) (by decide +kernel)
theorem l_X12_425 : Cond.methodLink RX12 425 yX12_checkOf ∈ lw_tbl := List.mem_of_getElem? (i := 1693) (by decide +kernel)
theorem l_X12_431 : Cond.methodLink RX12 431 yX12_laysAsked ∈ lw_tbl := List.mem_of_getElem? (i := 1697) (by decide +kernel)
theorem l_L_92 : Cond.methodLink RL 92 yX12_previous ∈ lw_tbl := List.mem_of_getElem? (i := 1701) (by decide +kernel)
theorem l_L_99 : Cond.methodLink RL 99 yX12_seek ∈ lw_tbl := List.mem_of_getElem? (i := 1705) (by decide +kernel)
theorem l_L_103 : Cond.methodLink RL 103 yX12_at ∈ lw_tbl := List.mem_of_getElem? (i := 1709) (by decide +kernel)
theorem l_L_107 : Cond.methodLink RL 107 yX12_cell ∈ lw_tbl := List.mem_of_getElem? (i := 1713) (by decide +kernel)
theorem l_L_111 : Cond.methodLink RL 111 yX12_tokenSize ∈ lw_tbl := List.mem_of_getElem? (i := 1717) (by decide +kernel)
theorem l_L_115 : Cond.methodLink RL 115 yX12_tokenByte ∈ lw_tbl := List.mem_of_getElem? (i := 1721) (by decide +kernel)
theorem l_L_119 : Cond.methodLink RL 119 yX12_beyond ∈ lw_tbl := List.mem_of_getElem? (i := 1725) (by decide +kernel)
theorem l_L_123 : Cond.methodLink RL 123 yX12_checks ∈ lw_tbl := List.mem_of_getElem? (i := 1729) (by decide +kernel)
theorem l_L_128 : Cond.methodLink RL 128 yX12_begin ∈ lw_tbl := List.mem_of_getElem? (i := 1733) (by decide +kernel)
theorem l_L_132 : Cond.methodLink RL 132 yX12_on ∈ lw_tbl := List.mem_of_getElem? (i := 1738) (by decide +kernel)
theorem l_X12_442 : Cond.methodLink RX12 442 yX12_goesReader ∈ lw_tbl := List.mem_of_getElem? (i := 1742) (by decide +kernel)
theorem l_X12_439 : Cond.methodLink RX12 439 yX12_isReader ∈ lw_tbl := List.mem_of_getElem? (i := 1746) (by decide +kernel)
theorem l_L_136 : Cond.methodLink RL 136 yX12_back ∈ lw_tbl := List.mem_of_getElem? (i := 1750) (by decide +kernel)
theorem l_L_140 : Cond.methodLink RL 140 yX12_account ∈ lw_tbl := List.mem_of_getElem? (i := 1754) (by decide +kernel)
theorem l_X12_447 : Cond.methodLink RX12 447 yX12_isCounted ∈ lw_tbl := List.mem_of_getElem? (i := 1759) (by decide +kernel)
theorem l_L_144 : Cond.methodLink RL 144 yX12_seen ∈ lw_tbl := List.mem_of_getElem? (i := 1763) (by decide +kernel)
theorem l_L_149 : Cond.methodLink RL 149 yX12_insert ∈ lw_tbl := List.mem_of_getElem? (i := 1767) (by decide +kernel)
theorem l_X12_451 : Cond.methodLink RX12 451 yX12_offered ∈ lw_tbl := List.mem_of_getElem? (i := 1771) (by decide +kernel)
theorem l_X12_455 : Cond.methodLink RX12 455 yX12_acts ∈ lw_tbl := List.mem_of_getElem? (i := 1775) (by decide +kernel)
theorem l_L_153 : Cond.methodLink RL 153 yX12_remove ∈ lw_tbl := List.mem_of_getElem? (i := 1779) (by decide +kernel)
theorem l_L_158 : Cond.methodLink RL 158 yX12_change ∈ lw_tbl := List.mem_of_getElem? (i := 1783) (by decide +kernel)
theorem l_L_163 : Cond.methodLink RL 163 yX12_turn ∈ lw_tbl := List.mem_of_getElem? (i := 1787) (by decide +kernel)
theorem l_X12_458 : Cond.methodLink RX12 458 yX12_turnMany ∈ lw_tbl := List.mem_of_getElem? (i := 1791) (by decide +kernel)
theorem l_L_185 : Cond.methodLink RL 185 yX12_lacking ∈ lw_tbl := List.mem_of_getElem? (i := 1795) (by decide +kernel)
theorem l_X12_461 : Cond.methodLink RX12 461 yX12_isLacking ∈ lw_tbl := List.mem_of_getElem? (i := 1799) (by decide +kernel)
theorem l_L_192 : Cond.methodLink RL 192 yX12_size ∈ lw_tbl := List.mem_of_getElem? (i := 1803) (by decide +kernel)
theorem l_X12_464 : Cond.methodLink RX12 464 yX12_readerMany ∈ lw_tbl := List.mem_of_getElem? (i := 1807) (by decide +kernel)
theorem l_L_196 : Cond.methodLink RL 196 yX12_trouble ∈ lw_tbl := List.mem_of_getElem? (i := 1811) (by decide +kernel)
