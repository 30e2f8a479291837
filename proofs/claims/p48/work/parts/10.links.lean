abbrev MX7_init : Mth := (yX7_init, cX7_init, 1, none, [])
theorem mwX7_init : Cond.code MX7_init.1 MX7_init.2.1 MX7_init.2.2.1 MX7_init.2.2.2.1 ∈ lw_all := in_all 40 (by decide +kernel) rfl
abbrev MX2_init : Mth := (yX2_init, cX2_init, 1, none, [])
theorem mwX2_init : Cond.code MX2_init.1 MX2_init.2.1 MX2_init.2.2.1 MX2_init.2.2.2.1 ∈ lw_all := in_all 50 (by decide +kernel) rfl
abbrev MJ7_fill_53178 : Mth := (yJ7_fill_53178, cJ7_fill_53178, 4, none, [])
theorem mwJ7_fill_53178 : Cond.code MJ7_fill_53178.1 MJ7_fill_53178.2.1 MJ7_fill_53178.2.2.1 MJ7_fill_53178.2.2.2.1 ∈ lw_all := in_all 54 (by decide +kernel) rfl
abbrev MX6_init : Mth := (yX6_init, cX6_init, 2, none, [])
theorem mwX6_init : Cond.code MX6_init.1 MX6_init.2.1 MX6_init.2.2.1 MX6_init.2.2.2.1 ∈ lw_all := in_all 139 (by decide +kernel) rfl
abbrev MX4_init : Mth := (yX4_init, cX4_init, 1, none, [])
theorem mwX4_init : Cond.code MX4_init.1 MX4_init.2.1 MX4_init.2.2.1 MX4_init.2.2.2.1 ∈ lw_all := in_all 145 (by decide +kernel) rfl
abbrev MX5_init : Mth := (yX5_init, cX5_init, 1, none, [])
theorem mwX5_init : Cond.code MX5_init.1 MX5_init.2.1 MX5_init.2.2.1 MX5_init.2.2.2.1 ∈ lw_all := in_all 151 (by decide +kernel) rfl
abbrev MX1_init : Mth := (yX1_init, cX1_init, 1, none, [])
theorem mwX1_init : Cond.code MX1_init.1 MX1_init.2.1 MX1_init.2.2.1 MX1_init.2.2.2.1 ∈ lw_all := in_all 185 (by decide +kernel) rfl
abbrev MX3_init : Mth := (yX3_init, cX3_init, 1, none, [])
theorem mwX3_init : Cond.code MX3_init.1 MX3_init.2.1 MX3_init.2.2.1 MX3_init.2.2.2.1 ∈ lw_all := in_all 314 (by decide +kernel) rfl
abbrev MX0_init : Mth := (yX0_init, cX0_init, 2, none, [])
theorem mwX0_init : Cond.code MX0_init.1 MX0_init.2.1 MX0_init.2.2.1 MX0_init.2.2.2.1 ∈ lw_all := in_all 354 (by decide +kernel) rfl
abbrev MX7_loadError : Mth := (yX7_loadError, cX7_loadError, 1, some .int, [])
theorem mwX7_loadError : Cond.code MX7_loadError.1 MX7_loadError.2.1 MX7_loadError.2.2.1 MX7_loadError.2.2.2.1 ∈ lw_all := in_all 394 (by decide +kernel) rfl
abbrev MX7_loadStatement : Mth := (yX7_loadStatement, cX7_loadStatement, 1, some .int, [])
theorem mwX7_loadStatement : Cond.code MX7_loadStatement.1 MX7_loadStatement.2.1 MX7_loadStatement.2.2.1 MX7_loadStatement.2.2.2.1 ∈ lw_all := in_all 398 (by decide +kernel) rfl
abbrev MX7_usedPart : Mth := (yX7_usedPart, cX7_usedPart, 3, some .double, [])
theorem mwX7_usedPart : Cond.code MX7_usedPart.1 MX7_usedPart.2.1 MX7_usedPart.2.2.1 MX7_usedPart.2.2.2.1 ∈ lw_all := in_all 402 (by decide +kernel) rfl
abbrev MX7_neediest : Mth := (yX7_neediest, cX7_neediest, 3, some .int, [])
theorem mwX7_neediest : Cond.code MX7_neediest.1 MX7_neediest.2.1 MX7_neediest.2.2.1 MX7_neediest.2.2.2.1 ∈ lw_all := in_all 406 (by decide +kernel) rfl
abbrev MX4_aboveReserve : Mth := (yX4_aboveReserve, cX4_aboveReserve, 2, some .int, [])
theorem mwX4_aboveReserve : Cond.code MX4_aboveReserve.1 MX4_aboveReserve.2.1 MX4_aboveReserve.2.2.1 MX4_aboveReserve.2.2.2.1 ∈ lw_all := in_all 410 (by decide +kernel) rfl
abbrev MX7_richest : Mth := (yX7_richest, cX7_richest, 3, some .int, [])
theorem mwX7_richest : Cond.code MX7_richest.1 MX7_richest.2.1 MX7_richest.2.2.1 MX7_richest.2.2.2.1 ∈ lw_all := in_all 414 (by decide +kernel) rfl
abbrev MX7_undo : Mth := (yX7_undo, cX7_undo, 1, some .int, [])
theorem mwX7_undo : Cond.code MX7_undo.1 MX7_undo.2.1 MX7_undo.2.2.1 MX7_undo.2.2.2.1 ∈ lw_all := in_all 418 (by decide +kernel) rfl
abbrev MX0_popInto : Mth := (yX0_popInto, cX0_popInto, 2, none, [])
theorem mwX0_popInto : Cond.code MX0_popInto.1 MX0_popInto.2.1 MX0_popInto.2.2.1 MX0_popInto.2.2.2.1 ∈ lw_all := in_all 422 (by decide +kernel) rfl
abbrev MX4_copyFrom : Mth := (yX4_copyFrom, cX4_copyFrom, 2, none, [])
theorem mwX4_copyFrom : Cond.code MX4_copyFrom.1 MX4_copyFrom.2.1 MX4_copyFrom.2.2.1 MX4_copyFrom.2.2.2.1 ∈ lw_all := in_all 426 (by decide +kernel) rfl
abbrev MX7_copyRow : Mth := (yX7_copyRow, cX7_copyRow, 2, none, [])
theorem mwX7_copyRow : Cond.code MX7_copyRow.1 MX7_copyRow.2.1 MX7_copyRow.2.2.1 MX7_copyRow.2.2.2.1 ∈ lw_all := in_all 429 (by decide +kernel) rfl
abbrev MJ9_min_7cf53 : Mth := (yJ9_min_7cf53, cJ9_min_7cf53, 2, some .int, [])
theorem mwJ9_min_7cf53 : Cond.code MJ9_min_7cf53.1 MJ9_min_7cf53.2.1 MJ9_min_7cf53.2.2.1 MJ9_min_7cf53.2.2.2.1 ∈ lw_all := in_all 432 (by decide +kernel) rfl
abbrev MX5_copyFrom : Mth := (yX5_copyFrom, cX5_copyFrom, 2, none, [])
theorem mwX5_copyFrom : Cond.code MX5_copyFrom.1 MX5_copyFrom.2.1 MX5_copyFrom.2.2.1 MX5_copyFrom.2.2.2.1 ∈ lw_all := in_all 439 (by decide +kernel) rfl
abbrev MX1_copyFrom : Mth := (yX1_copyFrom, cX1_copyFrom, 2, none, [])
theorem mwX1_copyFrom : Cond.code MX1_copyFrom.1 MX1_copyFrom.2.1 MX1_copyFrom.2.2.1 MX1_copyFrom.2.2.2.1 ∈ lw_all := in_all 444 (by decide +kernel) rfl
abbrev MX12_init : Mth := (yX12_init, cX12_init, 1, none, [])
theorem mwX12_init : Cond.code MX12_init.1 MX12_init.2.1 MX12_init.2.2.1 MX12_init.2.2.2.1 ∈ lw_all := in_all 450 (by decide +kernel) rfl
abbrev MJx4a65c_init_da8c8 : Mth := (yJx4a65c_init_da8c8, cJx4a65c_init_da8c8, 1, none, [])
theorem mwJx4a65c_init_da8c8 : Cond.code MJx4a65c_init_da8c8.1 MJx4a65c_init_da8c8.2.1 MJx4a65c_init_da8c8.2.2.1 MJx4a65c_init_da8c8.2.2.2.1 ∈ lw_all := in_all 456 (by decide +kernel) rfl
abbrev MJxc12de_init_da8c8 : Mth := (yJxc12de_init_da8c8, cJxc12de_init_da8c8, 1, none, [])
theorem mwJxc12de_init_da8c8 : Cond.code MJxc12de_init_da8c8.1 MJxc12de_init_da8c8.2.1 MJxc12de_init_da8c8.2.2.1 MJxc12de_init_da8c8.2.2.2.1 ∈ lw_all := in_all 459 (by decide +kernel) rfl
abbrev MJxa1e45_init_da8c8 : Mth := (yJxa1e45_init_da8c8, cJxa1e45_init_da8c8, 1, none, [])
theorem mwJxa1e45_init_da8c8 : Cond.code MJxa1e45_init_da8c8.1 MJxa1e45_init_da8c8.2.1 MJxa1e45_init_da8c8.2.2.1 MJxa1e45_init_da8c8.2.2.2.1 ∈ lw_all := in_all 462 (by decide +kernel) rfl
abbrev ML_at : Mth := (yL_at, cL_at, 2, some .int, [])
theorem mwL_at : Cond.code ML_at.1 ML_at.2.1 ML_at.2.2.1 ML_at.2.2.2.1 ∈ lw_all := in_all 540 (by decide +kernel) rfl
abbrev ML_load : Mth := (yL_load, cL_load, 7, some .int, [])
theorem mwL_load : Cond.code ML_load.1 ML_load.2.1 ML_load.2.2.1 ML_load.2.2.2.1 ∈ lw_all := in_all 544 (by decide +kernel) rfl
abbrev MJ0_length_8abf5 : Mth := (yJ0_length_8abf5, cJ0_length_8abf5, 1, some .int, [])
theorem mwJ0_length_8abf5 : Cond.code MJ0_length_8abf5.1 MJ0_length_8abf5.2.1 MJ0_length_8abf5.2.2.1 MJ0_length_8abf5.2.2.2.1 ∈ lw_all := in_all 548 (by decide +kernel) rfl
abbrev MJ0_coder_7d493 : Mth := (yJ0_coder_7d493, cJ0_coder_7d493, 1, some .byte, [])
theorem mwJ0_coder_7d493 : Cond.code MJ0_coder_7d493.1 MJ0_coder_7d493.2.1 MJ0_coder_7d493.2.2.1 MJ0_coder_7d493.2.2.2.1 ∈ lw_all := in_all 552 (by decide +kernel) rfl
abbrev MJ0_charAt_5068e : Mth := (yJ0_charAt_5068e, cJ0_charAt_5068e, 2, some .char, [])
theorem mwJ0_charAt_5068e : Cond.code MJ0_charAt_5068e.1 MJ0_charAt_5068e.2.1 MJ0_charAt_5068e.2.2.1 MJ0_charAt_5068e.2.2.2.1 ∈ lw_all := in_all 558 (by decide +kernel) rfl
abbrev MJ0_isLatin1_aae02 : Mth := (yJ0_isLatin1_aae02, cJ0_isLatin1_aae02, 1, some .boolean, [])
theorem mwJ0_isLatin1_aae02 : Cond.code MJ0_isLatin1_aae02.1 MJ0_isLatin1_aae02.2.1 MJ0_isLatin1_aae02.2.2.1 MJ0_isLatin1_aae02.2.2.2.1 ∈ lw_all := in_all 562 (by decide +kernel) rfl
abbrev MJ1_charAt_3b067 : Mth := (yJ1_charAt_3b067, cJ1_charAt_3b067, 2, some .char, [])
theorem mwJ1_charAt_3b067 : Cond.code MJ1_charAt_3b067.1 MJ1_charAt_3b067.2.1 MJ1_charAt_3b067.2.2.1 MJ1_charAt_3b067.2.2.2.1 ∈ lw_all := in_all 565 (by decide +kernel) rfl
abbrev MJ0_checkIndex_df160 : Mth := (yJ0_checkIndex_df160, cJ0_checkIndex_df160, 2, none, [])
theorem mwJ0_checkIndex_df160 : Cond.code MJ0_checkIndex_df160.1 MJ0_checkIndex_df160.2.1 MJ0_checkIndex_df160.2.2.1 MJ0_checkIndex_df160.2.2.2.1 ∈ lw_all := in_all 568 (by decide +kernel) rfl
abbrev MJ3_checkIndex_8e157 : Mth := (yJ3_checkIndex_8e157, cJ3_checkIndex_8e157, 3, some .int, [])
theorem mwJ3_checkIndex_8e157 : Cond.code MJ3_checkIndex_8e157.1 MJ3_checkIndex_8e157.2.1 MJ3_checkIndex_8e157.2.2.1 MJ3_checkIndex_8e157.2.2.2.1 ∈ lw_all := in_all 573 (by decide +kernel) rfl
abbrev MJ2_charAt_3b067 : Mth := (yJ2_charAt_3b067, cJ2_charAt_3b067, 2, some .char, [])
theorem mwJ2_charAt_3b067 : Cond.code MJ2_charAt_3b067.1 MJ2_charAt_3b067.2.1 MJ2_charAt_3b067.2.2.1 MJ2_charAt_3b067.2.2.2.1 ∈ lw_all := in_all 576 (by decide +kernel) rfl
abbrev MJ2_checkIndex_2214a : Mth := (yJ2_checkIndex_2214a, cJ2_checkIndex_2214a, 2, none, [])
theorem mwJ2_checkIndex_2214a : Cond.code MJ2_checkIndex_2214a.1 MJ2_checkIndex_2214a.2.1 MJ2_checkIndex_2214a.2.2.1 MJ2_checkIndex_2214a.2.2.2.1 ∈ lw_all := in_all 579 (by decide +kernel) rfl
abbrev MJ2_length_9d52b : Mth := (yJ2_length_9d52b, cJ2_length_9d52b, 1, some .int, [])
theorem mwJ2_length_9d52b : Cond.code MJ2_length_9d52b.1 MJ2_length_9d52b.2.1 MJ2_length_9d52b.2.2.1 MJ2_length_9d52b.2.2.2.1 ∈ lw_all := in_all 582 (by decide +kernel) rfl
abbrev MJ2_getChar_3b067 : Mth := (yJ2_getChar_3b067, cJ2_getChar_3b067, 2, some .char, [])
theorem mwJ2_getChar_3b067 : Cond.code MJ2_getChar_3b067.1 MJ2_getChar_3b067.2.1 MJ2_getChar_3b067.2.2.1 MJ2_getChar_3b067.2.2.2.1 ∈ lw_all := in_all 586 (by decide +kernel) rfl
abbrev MX7_append : Mth := (yX7_append, cX7_append, 3, some .int, [])
theorem mwX7_append : Cond.code MX7_append.1 MX7_append.2.1 MX7_append.2.2.1 MX7_append.2.2.2.1 ∈ lw_all := in_all 596 (by decide +kernel) rfl
abbrev MX3_takeIn : Mth := (yX3_takeIn, cX3_takeIn, 6, some .int, [])
theorem mwX3_takeIn : Cond.code MX3_takeIn.1 MX3_takeIn.2.1 MX3_takeIn.2.2.1 MX3_takeIn.2.2.2.1 ∈ lw_all := in_all 600 (by decide +kernel) rfl
abbrev MX7_load : Mth := (yX7_load, cX7_load, 1, some .int, [])
theorem mwX7_load : Cond.code MX7_load.1 MX7_load.2.1 MX7_load.2.2.1 MX7_load.2.2.2.1 ∈ lw_all := in_all 604 (by decide +kernel) rfl
abbrev MX3_readText : Mth := (yX3_readText, cX3_readText, 2, none, [])
theorem mwX3_readText : Cond.code MX3_readText.1 MX3_readText.2.1 MX3_readText.2.2.1 MX3_readText.2.2.2.1 ∈ lw_all := in_all 608 (by decide +kernel) rfl
abbrev MX2_clear : Mth := (yX2_clear, cX2_clear, 1, none, [])
theorem mwX2_clear : Cond.code MX2_clear.1 MX2_clear.2.1 MX2_clear.2.2.1 MX2_clear.2.2.2.1 ∈ lw_all := in_all 612 (by decide +kernel) rfl
abbrev MX4_clear : Mth := (yX4_clear, cX4_clear, 1, none, [])
theorem mwX4_clear : Cond.code MX4_clear.1 MX4_clear.2.1 MX4_clear.2.2.1 MX4_clear.2.2.2.1 ∈ lw_all := in_all 616 (by decide +kernel) rfl
abbrev MX3_readStatement : Mth := (yX3_readStatement, cX3_readStatement, 3, none, [])
theorem mwX3_readStatement : Cond.code MX3_readStatement.1 MX3_readStatement.2.1 MX3_readStatement.2.2.1 MX3_readStatement.2.2.2.1 ∈ lw_all := in_all 620 (by decide +kernel) rfl
abbrev MX3_skipSpaces : Mth := (yX3_skipSpaces, cX3_skipSpaces, 1, none, [])
theorem mwX3_skipSpaces : Cond.code MX3_skipSpaces.1 MX3_skipSpaces.2.1 MX3_skipSpaces.2.2.1 MX3_skipSpaces.2.2.2.1 ∈ lw_all := in_all 624 (by decide +kernel) rfl
abbrev MX3_kindOfWord : Mth := (yX3_kindOfWord, cX3_kindOfWord, 3, some .int, [])
theorem mwX3_kindOfWord : Cond.code MX3_kindOfWord.1 MX3_kindOfWord.2.1 MX3_kindOfWord.2.2.1 MX3_kindOfWord.2.2.2.1 ∈ lw_all := in_all 628 (by decide +kernel) rfl
abbrev MX3_isWord : Mth := (yX3_isWord, cX3_isWord, 5, some .boolean, [])
theorem mwX3_isWord : Cond.code MX3_isWord.1 MX3_isWord.2.1 MX3_isWord.2.2.1 MX3_isWord.2.2.2.1 ∈ lw_all := in_all 633 (by decide +kernel) rfl
abbrev MX3_fail : Mth := (yX3_fail, cX3_fail, 3, none, [])
theorem mwX3_fail : Cond.code MX3_fail.1 MX3_fail.2.1 MX3_fail.2.2.1 MX3_fail.2.2.2.1 ∈ lw_all := in_all 645 (by decide +kernel) rfl
abbrev MX3_isFull : Mth := (yX3_isFull, cX3_isFull, 2, some .boolean, [])
theorem mwX3_isFull : Cond.code MX3_isFull.1 MX3_isFull.2.1 MX3_isFull.2.2.1 MX3_isFull.2.2.2.1 ∈ lw_all := in_all 649 (by decide +kernel) rfl
abbrev MX3_readPacks : Mth := (yX3_readPacks, cX3_readPacks, 3, none, [])
theorem mwX3_readPacks : Cond.code MX3_readPacks.1 MX3_readPacks.2.1 MX3_readPacks.2.2.1 MX3_readPacks.2.2.2.1 ∈ lw_all := in_all 653 (by decide +kernel) rfl
abbrev MX3_nextNumber : Mth := (yX3_nextNumber, cX3_nextNumber, 4, some .int, [])
theorem mwX3_nextNumber : Cond.code MX3_nextNumber.1 MX3_nextNumber.2.1 MX3_nextNumber.2.2.1 MX3_nextNumber.2.2.2.1 ∈ lw_all := in_all 657 (by decide +kernel) rfl
abbrev MX3_digitIsNext : Mth := (yX3_digitIsNext, cX3_digitIsNext, 1, some .boolean, [])
theorem mwX3_digitIsNext : Cond.code MX3_digitIsNext.1 MX3_digitIsNext.2.1 MX3_digitIsNext.2.2.1 MX3_digitIsNext.2.2.2.1 ∈ lw_all := in_all 661 (by decide +kernel) rfl
abbrev MX3_readCurve : Mth := (yX3_readCurve, cX3_readCurve, 3, none, [])
theorem mwX3_readCurve : Cond.code MX3_readCurve.1 MX3_readCurve.2.1 MX3_readCurve.2.2.1 MX3_readCurve.2.2.2.1 ∈ lw_all := in_all 666 (by decide +kernel) rfl
abbrev MX3_readPack : Mth := (yX3_readPack, cX3_readPack, 4, none, [])
theorem mwX3_readPack : Cond.code MX3_readPack.1 MX3_readPack.2.1 MX3_readPack.2.2.1 MX3_readPack.2.2.2.1 ∈ lw_all := in_all 670 (by decide +kernel) rfl
abbrev MX4_beginPack : Mth := (yX4_beginPack, cX4_beginPack, 3, none, [])
theorem mwX4_beginPack : Cond.code MX4_beginPack.1 MX4_beginPack.2.1 MX4_beginPack.2.2.1 MX4_beginPack.2.2.2.1 ∈ lw_all := in_all 675 (by decide +kernel) rfl
abbrev MX2_addPack : Mth := (yX2_addPack, cX2_addPack, 3, none, [])
theorem mwX2_addPack : Cond.code MX2_addPack.1 MX2_addPack.2.1 MX2_addPack.2.2.1 MX2_addPack.2.2.2.1 ∈ lw_all := in_all 679 (by decide +kernel) rfl
abbrev MX3_readCable : Mth := (yX3_readCable, cX3_readCable, 5, none, [])
theorem mwX3_readCable : Cond.code MX3_readCable.1 MX3_readCable.2.1 MX3_readCable.2.2.1 MX3_readCable.2.2.2.1 ∈ lw_all := in_all 683 (by decide +kernel) rfl
abbrev MX3_nextPack : Mth := (yX3_nextPack, cX3_nextPack, 1, some .int, [])
theorem mwX3_nextPack : Cond.code MX3_nextPack.1 MX3_nextPack.2.1 MX3_nextPack.2.2.1 MX3_nextPack.2.2.2.1 ∈ lw_all := in_all 687 (by decide +kernel) rfl
abbrev MX2_cableBetween : Mth := (yX2_cableBetween, cX2_cableBetween, 3, some .int, [])
theorem mwX2_cableBetween : Cond.code MX2_cableBetween.1 MX2_cableBetween.2.1 MX2_cableBetween.2.2.1 MX2_cableBetween.2.2.2.1 ∈ lw_all := in_all 691 (by decide +kernel) rfl
abbrev MX4_beginCable : Mth := (yX4_beginCable, cX4_beginCable, 4, none, [])
theorem mwX4_beginCable : Cond.code MX4_beginCable.1 MX4_beginCable.2.1 MX4_beginCable.2.2.1 MX4_beginCable.2.2.2.1 ∈ lw_all := in_all 695 (by decide +kernel) rfl
abbrev MX2_addCable : Mth := (yX2_addCable, cX2_addCable, 3, none, [])
theorem mwX2_addCable : Cond.code MX2_addCable.1 MX2_addCable.2.1 MX2_addCable.2.2.1 MX2_addCable.2.2.2.1 ∈ lw_all := in_all 699 (by decide +kernel) rfl
abbrev MX3_readSun : Mth := (yX3_readSun, cX3_readSun, 5, none, [])
theorem mwX3_readSun : Cond.code MX3_readSun.1 MX3_readSun.2.1 MX3_readSun.2.2.1 MX3_readSun.2.2.2.1 ∈ lw_all := in_all 703 (by decide +kernel) rfl
abbrev MX2_addSun : Mth := (yX2_addSun, cX2_addSun, 6, none, [])
theorem mwX2_addSun : Cond.code MX2_addSun.1 MX2_addSun.2.1 MX2_addSun.2.2.1 MX2_addSun.2.2.2.1 ∈ lw_all := in_all 707 (by decide +kernel) rfl
abbrev MX3_readTrip : Mth := (yX3_readTrip, cX3_readTrip, 4, none, [])
theorem mwX3_readTrip : Cond.code MX3_readTrip.1 MX3_readTrip.2.1 MX3_readTrip.2.2.1 MX3_readTrip.2.2.2.1 ∈ lw_all := in_all 711 (by decide +kernel) rfl
abbrev MX5_add : Mth := (yX5_add, cX5_add, 4, some .int, [])
theorem mwX5_add : Cond.code MX5_add.1 MX5_add.2.1 MX5_add.2.2.1 MX5_add.2.2.2.1 ∈ lw_all := in_all 715 (by decide +kernel) rfl
abbrev MX3_readContract : Mth := (yX3_readContract, cX3_readContract, 7, none, [])
theorem mwX3_readContract : Cond.code MX3_readContract.1 MX3_readContract.2.1 MX3_readContract.2.2.1 MX3_readContract.2.2.2.1 ∈ lw_all := in_all 719 (by decide +kernel) rfl
abbrev MX3_passSemicolon : Mth := (yX3_passSemicolon, cX3_passSemicolon, 1, some .boolean, [])
theorem mwX3_passSemicolon : Cond.code MX3_passSemicolon.1 MX3_passSemicolon.2.1 MX3_passSemicolon.2.2.1 MX3_passSemicolon.2.2.2.1 ∈ lw_all := in_all 723 (by decide +kernel) rfl
abbrev MX6_copyFrom : Mth := (yX6_copyFrom, cX6_copyFrom, 2, none, [])
theorem mwX6_copyFrom : Cond.code MX6_copyFrom.1 MX6_copyFrom.2.1 MX6_copyFrom.2.2.1 MX6_copyFrom.2.2.2.1 ∈ lw_all := in_all 727 (by decide +kernel) rfl
abbrev MX2_copyFrom : Mth := (yX2_copyFrom, cX2_copyFrom, 2, none, [])
theorem mwX2_copyFrom : Cond.code MX2_copyFrom.1 MX2_copyFrom.2.1 MX2_copyFrom.2.2.1 MX2_copyFrom.2.2.2.1 ∈ lw_all := in_all 731 (by decide +kernel) rfl
abbrev MX0_clear : Mth := (yX0_clear, cX0_clear, 1, none, [])
theorem mwX0_clear : Cond.code MX0_clear.1 MX0_clear.2.1 MX0_clear.2.2.1 MX0_clear.2.2.2.1 ∈ lw_all := in_all 737 (by decide +kernel) rfl
abbrev ML_drawn : Mth := (yL_drawn, cL_drawn, 11, some (.object "PackLoansLaw$World"), [])
set_option maxRecDepth 1000000 in
theorem mwL_drawn : Cond.code ML_drawn.1 ML_drawn.2.1 ML_drawn.2.2.1 ML_drawn.2.2.2.1 ∈ lw_all := in_all 740 (by rfl) rfl
abbrev MJ4_append_15ec4 : Mth := (yJ4_append_15ec4, cJ4_append_15ec4, 2, some (.object "java/lang/StringBuilder"), [])
theorem mwJ4_append_15ec4 : Cond.code MJ4_append_15ec4.1 MJ4_append_15ec4.2.1 MJ4_append_15ec4.2.2.1 MJ4_append_15ec4.2.2.2.1 ∈ lw_all := in_all 745 (by decide +kernel) rfl
abbrev MJ5_append_cf1ce : Mth := (yJ5_append_cf1ce, cJ5_append_cf1ce, 3, some (.object "java/lang/AbstractStringBuilder"), [])
theorem mwJ5_append_cf1ce : Cond.code MJ5_append_cf1ce.1 MJ5_append_cf1ce.2.1 MJ5_append_cf1ce.2.2.1 MJ5_append_cf1ce.2.2.2.1 ∈ lw_all := in_all 749 (by decide +kernel) rfl
abbrev MJ5_appendNull_278bc : Mth := (yJ5_appendNull_278bc, cJ5_appendNull_278bc, 3, some (.object "java/lang/AbstractStringBuilder"), [])
theorem mwJ5_appendNull_278bc : Cond.code MJ5_appendNull_278bc.1 MJ5_appendNull_278bc.2.1 MJ5_appendNull_278bc.2.2.1 MJ5_appendNull_278bc.2.2.2.1 ∈ lw_all := in_all 753 (by decide +kernel) rfl
abbrev MJ5_ensureCapacityInternal_d00df : Mth := (yJ5_ensureCapacityInternal_d00df, cJ5_ensureCapacityInternal_d00df, 3, none, [])
theorem mwJ5_ensureCapacityInternal_d00df : Cond.code MJ5_ensureCapacityInternal_d00df.1 MJ5_ensureCapacityInternal_d00df.2.1 MJ5_ensureCapacityInternal_d00df.2.2.1 MJ5_ensureCapacityInternal_d00df.2.2.2.1 ∈ lw_all := in_all 757 (by decide +kernel) rfl
abbrev MJ5_newCapacity_0f7a4 : Mth := (yJ5_newCapacity_0f7a4, cJ5_newCapacity_0f7a4, 6, some .int, [])
theorem mwJ5_newCapacity_0f7a4 : Cond.code MJ5_newCapacity_0f7a4.1 MJ5_newCapacity_0f7a4.2.1 MJ5_newCapacity_0f7a4.2.2.1 MJ5_newCapacity_0f7a4.2.2.2.1 ∈ lw_all := in_all 761 (by decide +kernel) rfl
abbrev MJ8_newLength_cabcc : Mth := (yJ8_newLength_cabcc, cJ8_newLength_cabcc, 4, some .int, [])
theorem mwJ8_newLength_cabcc : Cond.code MJ8_newLength_cabcc.1 MJ8_newLength_cabcc.2.1 MJ8_newLength_cabcc.2.2.1 MJ8_newLength_cabcc.2.2.2.1 ∈ lw_all := in_all 764 (by decide +kernel) rfl
abbrev MJ9_max_7cf53 : Mth := (yJ9_max_7cf53, cJ9_max_7cf53, 2, some .int, [])
theorem mwJ9_max_7cf53 : Cond.code MJ9_max_7cf53.1 MJ9_max_7cf53.2.1 MJ9_max_7cf53.2.2.1 MJ9_max_7cf53.2.2.2.1 ∈ lw_all := in_all 767 (by decide +kernel) rfl
abbrev MJ8_hugeLength_7cf53 : Mth := (yJ8_hugeLength_7cf53, cJ8_hugeLength_7cf53, 3, some .int, [])
theorem mwJ8_hugeLength_7cf53 : Cond.code MJ8_hugeLength_7cf53.1 MJ8_hugeLength_7cf53.2.1 MJ8_hugeLength_7cf53.2.2.1 MJ8_hugeLength_7cf53.2.2.2.1 ∈ lw_all := in_all 771 (by decide +kernel) rfl
abbrev MJ7_copyOf_9075b : Mth := (yJ7_copyOf_9075b, cJ7_copyOf_9075b, 3, some (.array .byte), [])
theorem mwJ7_copyOf_9075b : Cond.code MJ7_copyOf_9075b.1 MJ7_copyOf_9075b.2.1 MJ7_copyOf_9075b.2.2.1 MJ7_copyOf_9075b.2.2.2.1 ∈ lw_all := in_all 775 (by decide +kernel) rfl
abbrev MJ5_isLatin1_aae02 : Mth := (yJ5_isLatin1_aae02, cJ5_isLatin1_aae02, 1, some .boolean, [])
theorem mwJ5_isLatin1_aae02 : Cond.code MJ5_isLatin1_aae02.1 MJ5_isLatin1_aae02.2.1 MJ5_isLatin1_aae02.2.2.1 MJ5_isLatin1_aae02.2.2.2.1 ∈ lw_all := in_all 789 (by decide +kernel) rfl
abbrev MJ2_putCharsAt_cd4e5 : Mth := (yJ2_putCharsAt_cd4e5, cJ2_putCharsAt_cd4e5, 7, some .int, [])
theorem mwJ2_putCharsAt_cd4e5 : Cond.code MJ2_putCharsAt_cd4e5.1 MJ2_putCharsAt_cd4e5.2.1 MJ2_putCharsAt_cd4e5.2.2.1 MJ2_putCharsAt_cd4e5.2.2.2.1 ∈ lw_all := in_all 793 (by decide +kernel) rfl
abbrev MJ2_checkBoundsBeginEnd_d044e : Mth := (yJ2_checkBoundsBeginEnd_d044e, cJ2_checkBoundsBeginEnd_d044e, 3, none, [])
theorem mwJ2_checkBoundsBeginEnd_d044e : Cond.code MJ2_checkBoundsBeginEnd_d044e.1 MJ2_checkBoundsBeginEnd_d044e.2.1 MJ2_checkBoundsBeginEnd_d044e.2.2.1 MJ2_checkBoundsBeginEnd_d044e.2.2.2.1 ∈ lw_all := in_all 796 (by decide +kernel) rfl
abbrev MJ0_checkBoundsBeginEnd_23922 : Mth := (yJ0_checkBoundsBeginEnd_23922, cJ0_checkBoundsBeginEnd_23922, 3, none, [])
theorem mwJ0_checkBoundsBeginEnd_23922 : Cond.code MJ0_checkBoundsBeginEnd_23922.1 MJ0_checkBoundsBeginEnd_23922.2.1 MJ0_checkBoundsBeginEnd_23922.2.2.1 MJ0_checkBoundsBeginEnd_23922.2.2.2.1 ∈ lw_all := in_all 799 (by decide +kernel) rfl
abbrev MJ3_checkFromToIndex_8c36e : Mth := (yJ3_checkFromToIndex_8c36e, cJ3_checkFromToIndex_8c36e, 4, some .int, [])
theorem mwJ3_checkFromToIndex_8c36e : Cond.code MJ3_checkFromToIndex_8c36e.1 MJ3_checkFromToIndex_8c36e.2.1 MJ3_checkFromToIndex_8c36e.2.2.1 MJ3_checkFromToIndex_8c36e.2.2.2.1 ∈ lw_all := in_all 802 (by decide +kernel) rfl
abbrev MJ2_putChar_b72d1 : Mth := (yJ2_putChar_b72d1, cJ2_putChar_b72d1, 3, none, [])
theorem mwJ2_putChar_b72d1 : Cond.code MJ2_putChar_b72d1.1 MJ2_putChar_b72d1.2.1 MJ2_putChar_b72d1.2.2.1 MJ2_putChar_b72d1.2.2.2.1 ∈ lw_all := in_all 805 (by decide +kernel) rfl
abbrev MJ5_putStringAt_47b60 : Mth := (yJ5_putStringAt_47b60, cJ5_putStringAt_47b60, 3, none, [])
theorem mwJ5_putStringAt_47b60 : Cond.code MJ5_putStringAt_47b60.1 MJ5_putStringAt_47b60.2.1 MJ5_putStringAt_47b60.2.2.1 MJ5_putStringAt_47b60.2.2.2.1 ∈ lw_all := in_all 810 (by decide +kernel) rfl
abbrev MJ5_inflateIfNeededFor_a7421 : Mth := (yJ5_inflateIfNeededFor_a7421, cJ5_inflateIfNeededFor_a7421, 2, none, [])
theorem mwJ5_inflateIfNeededFor_a7421 : Cond.code MJ5_inflateIfNeededFor_a7421.1 MJ5_inflateIfNeededFor_a7421.2.1 MJ5_inflateIfNeededFor_a7421.2.2.1 MJ5_inflateIfNeededFor_a7421.2.2.2.1 ∈ lw_all := in_all 814 (by decide +kernel) rfl
abbrev MJ5_inflate_da8c8 : Mth := (yJ5_inflate_da8c8, cJ5_inflate_da8c8, 2, none, [])
theorem mwJ5_inflate_da8c8 : Cond.code MJ5_inflate_da8c8.1 MJ5_inflate_da8c8.2.1 MJ5_inflate_da8c8.2.2.1 MJ5_inflate_da8c8.2.2.2.1 ∈ lw_all := in_all 819 (by decide +kernel) rfl
abbrev MJ2_newBytesFor_77867 : Mth := (yJ2_newBytesFor_77867, cJ2_newBytesFor_77867, 1, some (.array .byte), [])
theorem mwJ2_newBytesFor_77867 : Cond.code MJ2_newBytesFor_77867.1 MJ2_newBytesFor_77867.2.1 MJ2_newBytesFor_77867.2.2.1 MJ2_newBytesFor_77867.2.2.2.1 ∈ lw_all := in_all 822 (by decide +kernel) rfl
abbrev MJ2_newBytesLength_0f7a4 : Mth := (yJ2_newBytesLength_0f7a4, cJ2_newBytesLength_0f7a4, 1, some .int, [])
theorem mwJ2_newBytesLength_0f7a4 : Cond.code MJ2_newBytesLength_0f7a4.1 MJ2_newBytesLength_0f7a4.2.1 MJ2_newBytesLength_0f7a4.2.2.1 MJ2_newBytesLength_0f7a4.2.2.2.1 ∈ lw_all := in_all 825 (by decide +kernel) rfl
abbrev MJ1_inflate_0e8fd : Mth := (yJ1_inflate_0e8fd, cJ1_inflate_0e8fd, 5, none, [])
theorem mwJ1_inflate_0e8fd : Cond.code MJ1_inflate_0e8fd.1 MJ1_inflate_0e8fd.2.1 MJ1_inflate_0e8fd.2.2.1 MJ1_inflate_0e8fd.2.2.2.1 ∈ lw_all := in_all 829 (by decide +kernel) rfl
abbrev MJ2_inflate_0e8fd : Mth := (yJ2_inflate_0e8fd, cJ2_inflate_0e8fd, 6, none, [])
theorem mwJ2_inflate_0e8fd : Cond.code MJ2_inflate_0e8fd.1 MJ2_inflate_0e8fd.2.1 MJ2_inflate_0e8fd.2.2.1 MJ2_inflate_0e8fd.2.2.2.1 ∈ lw_all := in_all 832 (by decide +kernel) rfl
abbrev MJ2_checkBoundsOffCount_d044e : Mth := (yJ2_checkBoundsOffCount_d044e, cJ2_checkBoundsOffCount_d044e, 3, none, [])
theorem mwJ2_checkBoundsOffCount_d044e : Cond.code MJ2_checkBoundsOffCount_d044e.1 MJ2_checkBoundsOffCount_d044e.2.1 MJ2_checkBoundsOffCount_d044e.2.2.1 MJ2_checkBoundsOffCount_d044e.2.2.2.1 ∈ lw_all := in_all 835 (by decide +kernel) rfl
abbrev MJ0_checkBoundsOffCount_cabcc : Mth := (yJ0_checkBoundsOffCount_cabcc, cJ0_checkBoundsOffCount_cabcc, 3, some .int, [])
theorem mwJ0_checkBoundsOffCount_cabcc : Cond.code MJ0_checkBoundsOffCount_cabcc.1 MJ0_checkBoundsOffCount_cabcc.2.1 MJ0_checkBoundsOffCount_cabcc.2.2.1 MJ0_checkBoundsOffCount_cabcc.2.2.2.1 ∈ lw_all := in_all 838 (by decide +kernel) rfl
abbrev MJ3_checkFromIndexSize_8c36e : Mth := (yJ3_checkFromIndexSize_8c36e, cJ3_checkFromIndexSize_8c36e, 4, some .int, [])
theorem mwJ3_checkFromIndexSize_8c36e : Cond.code MJ3_checkFromIndexSize_8c36e.1 MJ3_checkFromIndexSize_8c36e.2.1 MJ3_checkFromIndexSize_8c36e.2.2.1 MJ3_checkFromIndexSize_8c36e.2.2.2.1 ∈ lw_all := in_all 841 (by decide +kernel) rfl
abbrev MJ0_getBytes_840e7 : Mth := (yJ0_getBytes_840e7, cJ0_getBytes_840e7, 4, none, [])
theorem mwJ0_getBytes_840e7 : Cond.code MJ0_getBytes_840e7.1 MJ0_getBytes_840e7.2.1 MJ0_getBytes_840e7.2.2.1 MJ0_getBytes_840e7.2.2.2.1 ∈ lw_all := in_all 845 (by decide +kernel) rfl
abbrev MJ4_append_bf812 : Mth := (yJ4_append_bf812, cJ4_append_bf812, 2, some (.object "java/lang/StringBuilder"), [])
theorem mwJ4_append_bf812 : Cond.code MJ4_append_bf812.1 MJ4_append_bf812.2.1 MJ4_append_bf812.2.2.1 MJ4_append_bf812.2.2.2.1 ∈ lw_all := in_all 851 (by decide +kernel) rfl
abbrev MJ5_append_c97b9 : Mth := (yJ5_append_c97b9, cJ5_append_c97b9, 4, some (.object "java/lang/AbstractStringBuilder"), [])
theorem mwJ5_append_c97b9 : Cond.code MJ5_append_c97b9.1 MJ5_append_c97b9.2.1 MJ5_append_c97b9.2.2.1 MJ5_append_c97b9.2.2.2.1 ∈ lw_all := in_all 854 (by decide +kernel) rfl
abbrev MJ6_stringSize_0f7a4 : Mth := (yJ6_stringSize_0f7a4, cJ6_stringSize_0f7a4, 4, some .int, [])
theorem mwJ6_stringSize_0f7a4 : Cond.code MJ6_stringSize_0f7a4.1 MJ6_stringSize_0f7a4.2.1 MJ6_stringSize_0f7a4.2.2.1 MJ6_stringSize_0f7a4.2.2.2.1 ∈ lw_all := in_all 857 (by decide +kernel) rfl
abbrev MJ6_getChars_ba4f3 : Mth := (yJ6_getChars_ba4f3, cJ6_getChars_ba4f3, 7, some .int, [])
theorem mwJ6_getChars_ba4f3 : Cond.code MJ6_getChars_ba4f3.1 MJ6_getChars_ba4f3.2.1 MJ6_getChars_ba4f3.2.2.1 MJ6_getChars_ba4f3.2.2.2.1 ∈ lw_all := in_all 860 (by decide +kernel) rfl
abbrev MJ2_getChars_46870 : Mth := (yJ2_getChars_46870, cJ2_getChars_46870, 5, some .int, [])
theorem mwJ2_getChars_46870 : Cond.code MJ2_getChars_46870.1 MJ2_getChars_46870.2.1 MJ2_getChars_46870.2.2.1 MJ2_getChars_46870.2.2.2.1 ∈ lw_all := in_all 867 (by decide +kernel) rfl
abbrev MJ2_getChars_ba4f3 : Mth := (yJ2_getChars_ba4f3, cJ2_getChars_ba4f3, 7, some .int, [])
theorem mwJ2_getChars_ba4f3 : Cond.code MJ2_getChars_ba4f3.1 MJ2_getChars_ba4f3.2.1 MJ2_getChars_ba4f3.2.2.1 MJ2_getChars_ba4f3.2.2.2.1 ∈ lw_all := in_all 870 (by decide +kernel) rfl
abbrev MJ4_append_cf468 : Mth := (yJ4_append_cf468, cJ4_append_cf468, 2, some (.object "java/lang/StringBuilder"), [])
theorem mwJ4_append_cf468 : Cond.code MJ4_append_cf468.1 MJ4_append_cf468.2.1 MJ4_append_cf468.2.2.1 MJ4_append_cf468.2.2.2.1 ∈ lw_all := in_all 876 (by decide +kernel) rfl
abbrev MJ5_append_3fe6f : Mth := (yJ5_append_3fe6f, cJ5_append_3fe6f, 2, some (.object "java/lang/AbstractStringBuilder"), [])
theorem mwJ5_append_3fe6f : Cond.code MJ5_append_3fe6f.1 MJ5_append_3fe6f.2.1 MJ5_append_3fe6f.2.2.1 MJ5_append_3fe6f.2.2.2.1 ∈ lw_all := in_all 879 (by decide +kernel) rfl
abbrev MJ1_canEncode_fc78d : Mth := (yJ1_canEncode_fc78d, cJ1_canEncode_fc78d, 1, some .boolean, [])
theorem mwJ1_canEncode_fc78d : Cond.code MJ1_canEncode_fc78d.1 MJ1_canEncode_fc78d.2.1 MJ1_canEncode_fc78d.2.2.1 MJ1_canEncode_fc78d.2.2.2.1 ∈ lw_all := in_all 882 (by decide +kernel) rfl
abbrev MJ2_putCharSB_b72d1 : Mth := (yJ2_putCharSB_b72d1, cJ2_putCharSB_b72d1, 3, none, [])
theorem mwJ2_putCharSB_b72d1 : Cond.code MJ2_putCharSB_b72d1.1 MJ2_putCharSB_b72d1.2.1 MJ2_putCharSB_b72d1.2.2.1 MJ2_putCharSB_b72d1.2.2.2.1 ∈ lw_all := in_all 885 (by decide +kernel) rfl
abbrev MJx4a65c_add_9ea2d : Mth := (yJx4a65c_add_9ea2d, cJx4a65c_add_9ea2d, 2, some .boolean, [])
theorem mwJx4a65c_add_9ea2d : Cond.code MJx4a65c_add_9ea2d.1 MJx4a65c_add_9ea2d.2.1 MJx4a65c_add_9ea2d.2.2.1 MJx4a65c_add_9ea2d.2.2.2.1 ∈ lw_all := in_all 889 (by decide +kernel) rfl
abbrev MJx4a65c_add_72be8 : Mth := (yJx4a65c_add_72be8, cJx4a65c_add_72be8, 4, none, [])
theorem mwJx4a65c_add_72be8 : Cond.code MJx4a65c_add_72be8.1 MJx4a65c_add_72be8.2.1 MJx4a65c_add_72be8.2.2.1 MJx4a65c_add_72be8.2.2.2.1 ∈ lw_all := in_all 893 (by decide +kernel) rfl
abbrev MJx4a65c_grow_d5877 : Mth := (yJx4a65c_grow_d5877, cJx4a65c_grow_d5877, 1, some (.array (.object "java/lang/Object")), [])
theorem mwJx4a65c_grow_d5877 : Cond.code MJx4a65c_grow_d5877.1 MJx4a65c_grow_d5877.2.1 MJx4a65c_grow_d5877.2.2.1 MJx4a65c_grow_d5877.2.2.2.1 ∈ lw_all := in_all 897 (by decide +kernel) rfl
abbrev MJx4a65c_grow_92f84 : Mth := (yJx4a65c_grow_92f84, cJx4a65c_grow_92f84, 4, some (.array (.object "java/lang/Object")), [])
theorem mwJx4a65c_grow_92f84 : Cond.code MJx4a65c_grow_92f84.1 MJx4a65c_grow_92f84.2.1 MJx4a65c_grow_92f84.2.2.1 MJx4a65c_grow_92f84.2.2.2.1 ∈ lw_all := in_all 901 (by decide +kernel) rfl
abbrev MJ7_copyOf_1904c : Mth := (yJ7_copyOf_1904c, cJ7_copyOf_1904c, 2, some (.array (.object "java/lang/Object")), [])
theorem mwJ7_copyOf_1904c : Cond.code MJ7_copyOf_1904c.1 MJ7_copyOf_1904c.2.1 MJ7_copyOf_1904c.2.2.1 MJ7_copyOf_1904c.2.2.2.1 ∈ lw_all := in_all 905 (by decide +kernel) rfl
abbrev MJ7_copyOf_6403c : Mth := (yJ7_copyOf_6403c, cJ7_copyOf_6403c, 4, some (.array (.object "java/lang/Object")), [])
theorem mwJ7_copyOf_6403c : Cond.code MJ7_copyOf_6403c.1 MJ7_copyOf_6403c.2.1 MJ7_copyOf_6403c.2.2.1 MJ7_copyOf_6403c.2.2.2.1 ∈ lw_all := in_all 931 (by decide +kernel) rfl
abbrev MJx4a65c_isEmpty_aae02 : Mth := (yJx4a65c_isEmpty_aae02, cJx4a65c_isEmpty_aae02, 1, some .boolean, [])
theorem mwJx4a65c_isEmpty_aae02 : Cond.code MJx4a65c_isEmpty_aae02.1 MJx4a65c_isEmpty_aae02.2.1 MJx4a65c_isEmpty_aae02.2.2.1 MJx4a65c_isEmpty_aae02.2.2.2.1 ∈ lw_all := in_all 942 (by decide +kernel) rfl
abbrev MJx4a65c_size_8abf5 : Mth := (yJx4a65c_size_8abf5, cJx4a65c_size_8abf5, 1, some .int, [])
theorem mwJx4a65c_size_8abf5 : Cond.code MJx4a65c_size_8abf5.1 MJx4a65c_size_8abf5.2.1 MJx4a65c_size_8abf5.2.2.1 MJx4a65c_size_8abf5.2.2.2.1 ∈ lw_all := in_all 946 (by decide +kernel) rfl
abbrev MX11_init : Mth := (yX11_init, cX11_init, 4, none, [])
theorem mwX11_init : Cond.code MX11_init.1 MX11_init.2.1 MX11_init.2.2.1 MX11_init.2.2.2.1 ∈ lw_all := in_all 951 (by decide +kernel) rfl
abbrev MX8_init : Mth := (yX8_init, cX8_init, 5, none, [])
theorem mwX8_init : Cond.code MX8_init.1 MX8_init.2.1 MX8_init.2.2.1 MX8_init.2.2.2.1 ∈ lw_all := in_all 995 (by decide +kernel) rfl
abbrev MJx4a65c_get_915e3 : Mth := (yJx4a65c_get_915e3, cJx4a65c_get_915e3, 2, some (.object "java/lang/Object"), [])
theorem mwJx4a65c_get_915e3 : Cond.code MJx4a65c_get_915e3.1 MJx4a65c_get_915e3.2.1 MJx4a65c_get_915e3.2.2.1 MJx4a65c_get_915e3.2.2.2.1 ∈ lw_all := in_all 1037 (by decide +kernel) rfl
abbrev MJ15_checkIndex_7cf53 : Mth := (yJ15_checkIndex_7cf53, cJ15_checkIndex_7cf53, 2, some .int, [])
theorem mwJ15_checkIndex_7cf53 : Cond.code MJ15_checkIndex_7cf53.1 MJ15_checkIndex_7cf53.2.1 MJ15_checkIndex_7cf53.2.2.1 MJ15_checkIndex_7cf53.2.2.2.1 ∈ lw_all := in_all 1040 (by decide +kernel) rfl
abbrev MJx4a65c_elementData_915e3 : Mth := (yJx4a65c_elementData_915e3, cJx4a65c_elementData_915e3, 2, some (.object "java/lang/Object"), [])
theorem mwJx4a65c_elementData_915e3 : Cond.code MJx4a65c_elementData_915e3.1 MJx4a65c_elementData_915e3.2.1 MJx4a65c_elementData_915e3.2.2.1 MJx4a65c_elementData_915e3.2.2.2.1 ∈ lw_all := in_all 1045 (by decide +kernel) rfl
abbrev MX9_init : Mth := (yX9_init, cX9_init, 6, none, [])
theorem mwX9_init : Cond.code MX9_init.1 MX9_init.2.1 MX9_init.2.2.1 MX9_init.2.2.2.1 ∈ lw_all := in_all 1050 (by decide +kernel) rfl
abbrev ML_isSame : Mth := (yL_isSame, cL_isSame, 11, some .boolean, [])
set_option maxRecDepth 1000000 in
theorem mwL_isSame : Cond.code ML_isSame.1 ML_isSame.2.1 ML_isSame.2.2.1 ML_isSame.2.2.2.1 ∈ lw_all := in_all 1085 (by rfl) rfl
abbrev ML_open : Mth := (yL_open, cL_open, 5, some .int, [])
theorem mwL_open : Cond.code ML_open.1 ML_open.2.1 ML_open.2.2.1 ML_open.2.2.2.1 ∈ lw_all := in_all 1088 (by decide +kernel) rfl
abbrev MJx4a65c_iterator_32c93 : Mth := (yJx4a65c_iterator_32c93, cJx4a65c_iterator_32c93, 1, some (.object "java/util/Iterator"), [])
theorem mwJx4a65c_iterator_32c93 : Cond.code MJx4a65c_iterator_32c93.1 MJx4a65c_iterator_32c93.2.1 MJx4a65c_iterator_32c93.2.2.1 MJx4a65c_iterator_32c93.2.2.2.1 ∈ lw_all := in_all 1092 (by decide +kernel) rfl
abbrev MJx35411_init_45d68 : Mth := (yJx35411_init_45d68, cJx35411_init_45d68, 2, none, [])
theorem mwJx35411_init_45d68 : Cond.code MJx35411_init_45d68.1 MJx35411_init_45d68.2.1 MJx35411_init_45d68.2.2.1 MJx35411_init_45d68.2.2.2.1 ∈ lw_all := in_all 1097 (by decide +kernel) rfl
abbrev MJx35411_hasNext_aae02 : Mth := (yJx35411_hasNext_aae02, cJx35411_hasNext_aae02, 1, some .boolean, [])
theorem mwJx35411_hasNext_aae02 : Cond.code MJx35411_hasNext_aae02.1 MJx35411_hasNext_aae02.2.1 MJx35411_hasNext_aae02.2.2.1 MJx35411_hasNext_aae02.2.2.2.1 ∈ lw_all := in_all 1121 (by decide +kernel) rfl
abbrev MJx35411_next_0502b : Mth := (yJx35411_next_0502b, cJx35411_next_0502b, 3, some (.object "java/lang/Object"), [])
theorem mwJx35411_next_0502b : Cond.code MJx35411_next_0502b.1 MJx35411_next_0502b.2.1 MJx35411_next_0502b.2.2.1 MJx35411_next_0502b.2.2.2.1 ∈ lw_all := in_all 1130 (by decide +kernel) rfl
abbrev MJx35411_checkForComodification_da8c8 : Mth := (yJx35411_checkForComodification_da8c8, cJx35411_checkForComodification_da8c8, 1, none, [])
theorem mwJx35411_checkForComodification_da8c8 : Cond.code MJx35411_checkForComodification_da8c8.1 MJx35411_checkForComodification_da8c8.2.1 MJx35411_checkForComodification_da8c8.2.2.1 MJx35411_checkForComodification_da8c8.2.2.2.1 ∈ lw_all := in_all 1134 (by decide +kernel) rfl
abbrev MX7_count : Mth := (yX7_count, cX7_count, 2, some .int, [])
theorem mwX7_count : Cond.code MX7_count.1 MX7_count.2.1 MX7_count.2.2.1 MX7_count.2.2.2.1 ∈ lw_all := in_all 1139 (by decide +kernel) rfl
abbrev MX7_checkRange : Mth := (yX7_checkRange, cX7_checkRange, 3, none, [])
theorem mwX7_checkRange : Cond.code MX7_checkRange.1 MX7_checkRange.2.1 MX7_checkRange.2.2.1 MX7_checkRange.2.2.2.1 ∈ lw_all := in_all 1142 (by decide +kernel) rfl
abbrev MX6_openLoans : Mth := (yX6_openLoans, cX6_openLoans, 3, some .int, [])
theorem mwX6_openLoans : Cond.code MX6_openLoans.1 MX6_openLoans.2.1 MX6_openLoans.2.2.1 MX6_openLoans.2.2.2.1 ∈ lw_all := in_all 1209 (by decide +kernel) rfl
abbrev MX1_isOpen : Mth := (yX1_isOpen, cX1_isOpen, 2, some .boolean, [])
theorem mwX1_isOpen : Cond.code MX1_isOpen.1 MX1_isOpen.2.1 MX1_isOpen.2.2.1 MX1_isOpen.2.2.2.1 ∈ lw_all := in_all 1213 (by decide +kernel) rfl
abbrev MX12_room : Mth := (yX12_room, cX12_room, 4, some .int, [])
theorem mwX12_room : Cond.code MX12_room.1 MX12_room.2.1 MX12_room.2.2.1 MX12_room.2.2.2.1 ∈ lw_all := in_all 1217 (by decide +kernel) rfl
abbrev MX12_quarter : Mth := (yX12_quarter, cX12_quarter, 3, some .int, [])
theorem mwX12_quarter : Cond.code MX12_quarter.1 MX12_quarter.2.1 MX12_quarter.2.2.1 MX12_quarter.2.2.2.1 ∈ lw_all := in_all 1221 (by decide +kernel) rfl
abbrev MX7_pack : Mth := (yX7_pack, cX7_pack, 3, some .int, [])
theorem mwX7_pack : Cond.code MX7_pack.1 MX7_pack.2.1 MX7_pack.2.2.1 MX7_pack.2.2.2.1 ∈ lw_all := in_all 1227 (by decide +kernel) rfl
abbrev MX7_checkIndex : Mth := (yX7_checkIndex, cX7_checkIndex, 2, none, [])
theorem mwX7_checkIndex : Cond.code MX7_checkIndex.1 MX7_checkIndex.2.1 MX7_checkIndex.2.2.1 MX7_checkIndex.2.2.2.1 ∈ lw_all := in_all 1230 (by decide +kernel) rfl
abbrev MX6_roomOf : Mth := (yX6_roomOf, cX6_roomOf, 5, some .int, [])
theorem mwX6_roomOf : Cond.code MX6_roomOf.1 MX6_roomOf.2.1 MX6_roomOf.2.2.1 MX6_roomOf.2.2.2.1 ∈ lw_all := in_all 1249 (by decide +kernel) rfl
abbrev MX5_numberOf : Mth := (yX5_numberOf, cX5_numberOf, 5, some .int, [])
theorem mwX5_numberOf : Cond.code MX5_numberOf.1 MX5_numberOf.2.1 MX5_numberOf.2.2.1 MX5_numberOf.2.2.2.1 ∈ lw_all := in_all 1253 (by decide +kernel) rfl
abbrev MX6_quarterOf : Mth := (yX6_quarterOf, cX6_quarterOf, 4, some .int, [])
theorem mwX6_quarterOf : Cond.code MX6_quarterOf.1 MX6_quarterOf.2.1 MX6_quarterOf.2.2.1 MX6_quarterOf.2.2.2.1 ∈ lw_all := in_all 1257 (by decide +kernel) rfl
abbrev MX7_cable : Mth := (yX7_cable, cX7_cable, 5, some .int, [])
theorem mwX7_cable : Cond.code MX7_cable.1 MX7_cable.2.1 MX7_cable.2.2.1 MX7_cable.2.2.2.1 ∈ lw_all := in_all 1262 (by decide +kernel) rfl
abbrev MX7_trip : Mth := (yX7_trip, cX7_trip, 4, some .int, [])
theorem mwX7_trip : Cond.code MX7_trip.1 MX7_trip.2.1 MX7_trip.2.2.1 MX7_trip.2.2.2.1 ∈ lw_all := in_all 1267 (by decide +kernel) rfl
abbrev MX12_owed : Mth := (yX12_owed, cX12_owed, 3, some .int, [])
theorem mwX12_owed : Cond.code MX12_owed.1 MX12_owed.2.1 MX12_owed.2.2.1 MX12_owed.2.2.2.1 ∈ lw_all := in_all 1272 (by decide +kernel) rfl
abbrev MX7_loan : Mth := (yX7_loan, cX7_loan, 4, some .int, [])
theorem mwX7_loan : Cond.code MX7_loan.1 MX7_loan.2.1 MX7_loan.2.2.1 MX7_loan.2.2.2.1 ∈ lw_all := in_all 1277 (by decide +kernel) rfl
abbrev MX6_owed : Mth := (yX6_owed, cX6_owed, 4, some .int, [])
theorem mwX6_owed : Cond.code MX6_owed.1 MX6_owed.2.1 MX6_owed.2.2.1 MX6_owed.2.2.2.1 ∈ lw_all := in_all 1281 (by decide +kernel) rfl
abbrev MX6_interestOf : Mth := (yX6_interestOf, cX6_interestOf, 3, some .int, [])
theorem mwX6_interestOf : Cond.code MX6_interestOf.1 MX6_interestOf.2.1 MX6_interestOf.2.2.1 MX6_interestOf.2.2.2.1 ∈ lw_all := in_all 1285 (by decide +kernel) rfl
abbrev MX7_total : Mth := (yX7_total, cX7_total, 2, some .long, [])
theorem mwX7_total : Cond.code MX7_total.1 MX7_total.2.1 MX7_total.2.2.1 MX7_total.2.2.2.1 ∈ lw_all := in_all 1289 (by decide +kernel) rfl
abbrev MX7_sumOf : Mth := (yX7_sumOf, cX7_sumOf, 5, some .long, [])
theorem mwX7_sumOf : Cond.code MX7_sumOf.1 MX7_sumOf.2.1 MX7_sumOf.2.2.1 MX7_sumOf.2.2.2.1 ∈ lw_all := in_all 1292 (by decide +kernel) rfl
abbrev MX7_now : Mth := (yX7_now, cX7_now, 1, some .int, [])
theorem mwX7_now : Cond.code MX7_now.1 MX7_now.2.1 MX7_now.2.2.1 MX7_now.2.2.2.1 ∈ lw_all := in_all 1296 (by decide +kernel) rfl
abbrev ML_act : Mth := (yL_act, cL_act, 18, some .boolean, [])
set_option maxRecDepth 1000000 in
theorem mwL_act : Cond.code ML_act.1 ML_act.2.1 ML_act.2.2.1 ML_act.2.2.2.1 ∈ lw_all := in_all 1300 (by rfl) rfl
abbrev MJx4a65c_remove_915e3 : Mth := (yJx4a65c_remove_915e3, cJx4a65c_remove_915e3, 4, some (.object "java/lang/Object"), [])
theorem mwJx4a65c_remove_915e3 : Cond.code MJx4a65c_remove_915e3.1 MJx4a65c_remove_915e3.2.1 MJx4a65c_remove_915e3.2.2.1 MJx4a65c_remove_915e3.2.2.2.1 ∈ lw_all := in_all 1304 (by decide +kernel) rfl
abbrev MJx4a65c_fastRemove_b59b0 : Mth := (yJx4a65c_fastRemove_b59b0, cJx4a65c_fastRemove_b59b0, 4, none, [])
theorem mwJx4a65c_fastRemove_b59b0 : Cond.code MJx4a65c_fastRemove_b59b0.1 MJx4a65c_fastRemove_b59b0.2.1 MJx4a65c_fastRemove_b59b0.2.2.1 MJx4a65c_fastRemove_b59b0.2.2.2.1 ∈ lw_all := in_all 1308 (by decide +kernel) rfl
abbrev MX12_copy : Mth := (yX12_copy, cX12_copy, 4, some (.object "PackLoansLaw$World"), [])
theorem mwX12_copy : Cond.code MX12_copy.1 MX12_copy.2.1 MX12_copy.2.2.1 MX12_copy.2.2.2.1 ∈ lw_all := in_all 1313 (by decide +kernel) rfl
abbrev MJx4a65c_addAll_f0b43 : Mth := (yJx4a65c_addAll_f0b43, cJx4a65c_addAll_f0b43, 6, some .boolean, [])
theorem mwJx4a65c_addAll_f0b43 : Cond.code MJx4a65c_addAll_f0b43.1 MJx4a65c_addAll_f0b43.2.1 MJx4a65c_addAll_f0b43.2.2.1 MJx4a65c_addAll_f0b43.2.2.2.1 ∈ lw_all := in_all 1319 (by decide +kernel) rfl
abbrev MJx4a65c_toArray_d5877 : Mth := (yJx4a65c_toArray_d5877, cJx4a65c_toArray_d5877, 1, some (.array (.object "java/lang/Object")), [])
theorem mwJx4a65c_toArray_d5877 : Cond.code MJx4a65c_toArray_d5877.1 MJx4a65c_toArray_d5877.2.1 MJx4a65c_toArray_d5877.2.2.1 MJx4a65c_toArray_d5877.2.2.2.1 ∈ lw_all := in_all 1329 (by decide +kernel) rfl
abbrev MX11_copy : Mth := (yX11_copy, cX11_copy, 2, some (.object "PackLoansLaw$Pack"), [])
theorem mwX11_copy : Cond.code MX11_copy.1 MX11_copy.2.1 MX11_copy.2.2.1 MX11_copy.2.2.2.1 ∈ lw_all := in_all 1345 (by decide +kernel) rfl
abbrev MX8_copy : Mth := (yX8_copy, cX8_copy, 2, some (.object "PackLoansLaw$Cable"), [])
theorem mwX8_copy : Cond.code MX8_copy.1 MX8_copy.2.1 MX8_copy.2.2.1 MX8_copy.2.2.2.1 ∈ lw_all := in_all 1352 (by decide +kernel) rfl
abbrev MX9_copy : Mth := (yX9_copy, cX9_copy, 2, some (.object "PackLoansLaw$Contract"), [])
theorem mwX9_copy : Cond.code MX9_copy.1 MX9_copy.2.1 MX9_copy.2.2.1 MX9_copy.2.2.2.1 ∈ lw_all := in_all 1359 (by decide +kernel) rfl
abbrev MX10_copy : Mth := (yX10_copy, cX10_copy, 2, some (.object "PackLoansLaw$Loan"), [])
theorem mwX10_copy : Cond.code MX10_copy.1 MX10_copy.2.1 MX10_copy.2.2.1 MX10_copy.2.2.2.1 ∈ lw_all := in_all 1366 (by decide +kernel) rfl
abbrev MX10_init : Mth := (yX10_init, cX10_init, 4, none, [])
theorem mwX10_init : Cond.code MX10_init.1 MX10_init.2.1 MX10_init.2.2.1 MX10_init.2.2.2.1 ∈ lw_all := in_all 1371 (by decide +kernel) rfl
abbrev MX12_pass : Mth := (yX12_pass, cX12_pass, 3, none, [])
theorem mwX12_pass : Cond.code MX12_pass.1 MX12_pass.2.1 MX12_pass.2.2.1 MX12_pass.2.2.2.1 ∈ lw_all := in_all 1412 (by decide +kernel) rfl
abbrev MX12_shine : Mth := (yX12_shine, cX12_shine, 3, none, [])
theorem mwX12_shine : Cond.code MX12_shine.1 MX12_shine.2.1 MX12_shine.2.2.1 MX12_shine.2.2.2.1 ∈ lw_all := in_all 1416 (by decide +kernel) rfl
abbrev MX12_gain : Mth := (yX12_gain, cX12_gain, 6, some .int, [])
theorem mwX12_gain : Cond.code MX12_gain.1 MX12_gain.2.1 MX12_gain.2.2.1 MX12_gain.2.2.2.1 ∈ lw_all := in_all 1421 (by decide +kernel) rfl
abbrev MX12_take : Mth := (yX12_take, cX12_take, 3, none, [])
theorem mwX12_take : Cond.code MX12_take.1 MX12_take.2.1 MX12_take.2.2.1 MX12_take.2.2.2.1 ∈ lw_all := in_all 1426 (by decide +kernel) rfl
abbrev MX12_spill : Mth := (yX12_spill, cX12_spill, 3, none, [])
theorem mwX12_spill : Cond.code MX12_spill.1 MX12_spill.2.1 MX12_spill.2.2.1 MX12_spill.2.2.2.1 ∈ lw_all := in_all 1430 (by decide +kernel) rfl
abbrev MX12_travel : Mth := (yX12_travel, cX12_travel, 3, none, [])
theorem mwX12_travel : Cond.code MX12_travel.1 MX12_travel.2.1 MX12_travel.2.2.1 MX12_travel.2.2.2.1 ∈ lw_all := in_all 1434 (by decide +kernel) rfl
abbrev MX12_give : Mth := (yX12_give, cX12_give, 5, none, [])
theorem mwX12_give : Cond.code MX12_give.1 MX12_give.2.1 MX12_give.2.2.1 MX12_give.2.2.2.1 ∈ lw_all := in_all 1438 (by decide +kernel) rfl
abbrev MX12_weight : Mth := (yX12_weight, cX12_weight, 2, some .int, [])
theorem mwX12_weight : Cond.code MX12_weight.1 MX12_weight.2.1 MX12_weight.2.2.1 MX12_weight.2.2.2.1 ∈ lw_all := in_all 1442 (by decide +kernel) rfl
abbrev MX12_serve : Mth := (yX12_serve, cX12_serve, 12, none, [])
theorem mwX12_serve : Cond.code MX12_serve.1 MX12_serve.2.1 MX12_serve.2.2.1 MX12_serve.2.2.2.1 ∈ lw_all := in_all 1449 (by decide +kernel) rfl
abbrev MX12_cable : Mth := (yX12_cable, cX12_cable, 5, some (.object "PackLoansLaw$Cable"), [])
theorem mwX12_cable : Cond.code MX12_cable.1 MX12_cable.2.1 MX12_cable.2.2.1 MX12_cable.2.2.2.1 ∈ lw_all := in_all 1453 (by decide +kernel) rfl
abbrev MX12_above : Mth := (yX12_above, cX12_above, 2, some .int, [])
theorem mwX12_above : Cond.code MX12_above.1 MX12_above.2.1 MX12_above.2.2.1 MX12_above.2.2.2.1 ∈ lw_all := in_all 1457 (by decide +kernel) rfl
abbrev MJ9_min_f86c9 : Mth := (yJ9_min_f86c9, cJ9_min_f86c9, 4, some .long, [])
theorem mwJ9_min_f86c9 : Cond.code MJ9_min_f86c9.1 MJ9_min_f86c9.2.1 MJ9_min_f86c9.2.2.1 MJ9_min_f86c9.2.2.2.1 ∈ lw_all := in_all 1462 (by decide +kernel) rfl
abbrev MX12_through : Mth := (yX12_through, cX12_through, 6, some .int, [])
theorem mwX12_through : Cond.code MX12_through.1 MX12_through.2.1 MX12_through.2.2.1 MX12_through.2.2.2.1 ∈ lw_all := in_all 1466 (by decide +kernel) rfl
abbrev MX7_run : Mth := (yX7_run, cX7_run, 2, some .int, [])
theorem mwX7_run : Cond.code MX7_run.1 MX7_run.2.1 MX7_run.2.2.1 MX7_run.2.2.2.1 ∈ lw_all := in_all 1472 (by decide +kernel) rfl
abbrev MX0_push : Mth := (yX0_push, cX0_push, 2, none, [])
theorem mwX0_push : Cond.code MX0_push.1 MX0_push.2.1 MX0_push.2.2.1 MX0_push.2.2.2.1 ∈ lw_all := in_all 1476 (by decide +kernel) rfl
abbrev MX6_passTicks : Mth := (yX6_passTicks, cX6_passTicks, 3, none, [])
theorem mwX6_passTicks : Cond.code MX6_passTicks.1 MX6_passTicks.2.1 MX6_passTicks.2.2.1 MX6_passTicks.2.2.2.1 ∈ lw_all := in_all 1481 (by decide +kernel) rfl
abbrev MX6_passTick : Mth := (yX6_passTick, cX6_passTick, 2, none, [])
theorem mwX6_passTick : Cond.code MX6_passTick.1 MX6_passTick.2.1 MX6_passTick.2.2.1 MX6_passTick.2.2.2.1 ∈ lw_all := in_all 1485 (by decide +kernel) rfl
abbrev MX6_shine : Mth := (yX6_shine, cX6_shine, 4, none, [])
theorem mwX6_shine : Cond.code MX6_shine.1 MX6_shine.2.1 MX6_shine.2.2.1 MX6_shine.2.2.2.1 ∈ lw_all := in_all 1490 (by decide +kernel) rfl
abbrev MX2_gain : Mth := (yX2_gain, cX2_gain, 3, some .int, [])
theorem mwX2_gain : Cond.code MX2_gain.1 MX2_gain.2.1 MX2_gain.2.2.1 MX2_gain.2.2.2.1 ∈ lw_all := in_all 1494 (by decide +kernel) rfl
abbrev MX6_get : Mth := (yX6_get, cX6_get, 3, none, [])
theorem mwX6_get : Cond.code MX6_get.1 MX6_get.2.1 MX6_get.2.2.1 MX6_get.2.2.2.1 ∈ lw_all := in_all 1498 (by decide +kernel) rfl
abbrev MX6_loseAboveRoom : Mth := (yX6_loseAboveRoom, cX6_loseAboveRoom, 3, none, [])
theorem mwX6_loseAboveRoom : Cond.code MX6_loseAboveRoom.1 MX6_loseAboveRoom.2.1 MX6_loseAboveRoom.2.2.1 MX6_loseAboveRoom.2.2.2.1 ∈ lw_all := in_all 1502 (by decide +kernel) rfl
abbrev MX6_makeTrips : Mth := (yX6_makeTrips, cX6_makeTrips, 5, none, [])
theorem mwX6_makeTrips : Cond.code MX6_makeTrips.1 MX6_makeTrips.2.1 MX6_makeTrips.2.2.1 MX6_makeTrips.2.2.2.1 ∈ lw_all := in_all 1506 (by decide +kernel) rfl
abbrev MX6_give : Mth := (yX6_give, cX6_give, 4, some .int, [])
theorem mwX6_give : Cond.code MX6_give.1 MX6_give.2.1 MX6_give.2.2.1 MX6_give.2.2.2.1 ∈ lw_all := in_all 1510 (by decide +kernel) rfl
abbrev MX2_factor : Mth := (yX2_factor, cX2_factor, 3, some .int, [])
theorem mwX2_factor : Cond.code MX2_factor.1 MX2_factor.2.1 MX2_factor.2.2.1 MX2_factor.2.2.2.1 ∈ lw_all := in_all 1515 (by decide +kernel) rfl
abbrev MX6_sendOn : Mth := (yX6_sendOn, cX6_sendOn, 9, none, [])
theorem mwX6_sendOn : Cond.code MX6_sendOn.1 MX6_sendOn.2.1 MX6_sendOn.2.2.1 MX6_sendOn.2.2.2.1 ∈ lw_all := in_all 1521 (by decide +kernel) rfl
abbrev MX2_cableOf : Mth := (yX2_cableOf, cX2_cableOf, 2, some .int, [])
theorem mwX2_cableOf : Cond.code MX2_cableOf.1 MX2_cableOf.2.1 MX2_cableOf.2.2.1 MX2_cableOf.2.2.2.1 ∈ lw_all := in_all 1525 (by decide +kernel) rfl
abbrev MX4_stillSends : Mth := (yX4_stillSends, cX4_stillSends, 2, some .int, [])
theorem mwX4_stillSends : Cond.code MX4_stillSends.1 MX4_stillSends.2.1 MX4_stillSends.2.2.1 MX4_stillSends.2.2.2.1 ∈ lw_all := in_all 1532 (by decide +kernel) rfl
abbrev MX4_carry : Mth := (yX4_carry, cX4_carry, 4, some .int, [])
theorem mwX4_carry : Cond.code MX4_carry.1 MX4_carry.2.1 MX4_carry.2.2.1 MX4_carry.2.2.2.1 ∈ lw_all := in_all 1537 (by decide +kernel) rfl
abbrev MX6_sendBack : Mth := (yX6_sendBack, cX6_sendBack, 9, none, [])
theorem mwX6_sendBack : Cond.code MX6_sendBack.1 MX6_sendBack.2.1 MX6_sendBack.2.2.1 MX6_sendBack.2.2.2.1 ∈ lw_all := in_all 1541 (by decide +kernel) rfl
abbrev MX6_sentToReturn : Mth := (yX6_sentToReturn, cX6_sentToReturn, 3, some .long, [])
theorem mwX6_sentToReturn : Cond.code MX6_sentToReturn.1 MX6_sentToReturn.2.1 MX6_sentToReturn.2.2.1 MX6_sentToReturn.2.2.2.1 ∈ lw_all := in_all 1545 (by decide +kernel) rfl
abbrev MX7_charge : Mth := (yX7_charge, cX7_charge, 3, some .int, [])
theorem mwX7_charge : Cond.code MX7_charge.1 MX7_charge.2.1 MX7_charge.2.2.1 MX7_charge.2.2.2.1 ∈ lw_all := in_all 1552 (by decide +kernel) rfl
abbrev MX7_drain : Mth := (yX7_drain, cX7_drain, 4, some .int, [])
theorem mwX7_drain : Cond.code MX7_drain.1 MX7_drain.2.1 MX7_drain.2.2.1 MX7_drain.2.2.2.1 ∈ lw_all := in_all 1560 (by decide +kernel) rfl
abbrev MX7_setReserve : Mth := (yX7_setReserve, cX7_setReserve, 4, some .int, [])
theorem mwX7_setReserve : Cond.code MX7_setReserve.1 MX7_setReserve.2.1 MX7_setReserve.2.2.1 MX7_setReserve.2.2.2.1 ∈ lw_all := in_all 1565 (by decide +kernel) rfl
abbrev MX7_setCable : Mth := (yX7_setCable, cX7_setCable, 7, some .int, [])
theorem mwX7_setCable : Cond.code MX7_setCable.1 MX7_setCable.2.1 MX7_setCable.2.2.1 MX7_setCable.2.2.2.1 ∈ lw_all := in_all 1571 (by decide +kernel) rfl
abbrev MX7_dropTrip : Mth := (yX7_dropTrip, cX7_dropTrip, 2, some .int, [])
theorem mwX7_dropTrip : Cond.code MX7_dropTrip.1 MX7_dropTrip.2.1 MX7_dropTrip.2.2.1 MX7_dropTrip.2.2.2.1 ∈ lw_all := in_all 1575 (by decide +kernel) rfl
abbrev MX5_remove : Mth := (yX5_remove, cX5_remove, 3, none, [])
theorem mwX5_remove : Cond.code MX5_remove.1 MX5_remove.2.1 MX5_remove.2.2.1 MX5_remove.2.2.2.1 ∈ lw_all := in_all 1579 (by decide +kernel) rfl
abbrev MX7_addTrip : Mth := (yX7_addTrip, cX7_addTrip, 4, some .int, [])
theorem mwX7_addTrip : Cond.code MX7_addTrip.1 MX7_addTrip.2.1 MX7_addTrip.2.2.1 MX7_addTrip.2.2.2.1 ∈ lw_all := in_all 1584 (by decide +kernel) rfl
abbrev MX12_hindrance : Mth := (yX12_hindrance, cX12_hindrance, 4, some .int, [])
theorem mwX12_hindrance : Cond.code MX12_hindrance.1 MX12_hindrance.2.1 MX12_hindrance.2.2.1 MX12_hindrance.2.2.2.1 ∈ lw_all := in_all 1589 (by decide +kernel) rfl
abbrev MX12_outstanding : Mth := (yX12_outstanding, cX12_outstanding, 5, some .int, [])
theorem mwX12_outstanding : Cond.code MX12_outstanding.1 MX12_outstanding.2.1 MX12_outstanding.2.2.1 MX12_outstanding.2.2.2.1 ∈ lw_all := in_all 1593 (by decide +kernel) rfl
abbrev MX7_lend : Mth := (yX7_lend, cX7_lend, 5, some .int, [])
theorem mwX7_lend : Cond.code MX7_lend.1 MX7_lend.2.1 MX7_lend.2.2.1 MX7_lend.2.2.2.1 ∈ lw_all := in_all 1598 (by decide +kernel) rfl
abbrev MX6_hindranceOf : Mth := (yX6_hindranceOf, cX6_hindranceOf, 3, some .int, [])
theorem mwX6_hindranceOf : Cond.code MX6_hindranceOf.1 MX6_hindranceOf.2.1 MX6_hindranceOf.2.2.1 MX6_hindranceOf.2.2.2.1 ∈ lw_all := in_all 1602 (by decide +kernel) rfl
abbrev MX6_outstanding : Mth := (yX6_outstanding, cX6_outstanding, 5, some .int, [])
theorem mwX6_outstanding : Cond.code MX6_outstanding.1 MX6_outstanding.2.1 MX6_outstanding.2.2.1 MX6_outstanding.2.2.2.1 ∈ lw_all := in_all 1606 (by decide +kernel) rfl
abbrev MX1_add : Mth := (yX1_add, cX1_add, 4, some .int, [])
theorem mwX1_add : Cond.code MX1_add.1 MX1_add.2.1 MX1_add.2.2.1 MX1_add.2.2.2.1 ∈ lw_all := in_all 1610 (by decide +kernel) rfl
abbrev MX7_mend : Mth := (yX7_mend, cX7_mend, 3, some .int, [])
theorem mwX7_mend : Cond.code MX7_mend.1 MX7_mend.2.1 MX7_mend.2.2.1 MX7_mend.2.2.2.1 ∈ lw_all := in_all 1614 (by decide +kernel) rfl
abbrev MX7_recall : Mth := (yX7_recall, cX7_recall, 3, some .int, [])
theorem mwX7_recall : Cond.code MX7_recall.1 MX7_recall.2.1 MX7_recall.2.2.1 MX7_recall.2.2.2.1 ∈ lw_all := in_all 1618 (by decide +kernel) rfl
abbrev MX1_bringForward : Mth := (yX1_bringForward, cX1_bringForward, 3, none, [])
theorem mwX1_bringForward : Cond.code MX1_bringForward.1 MX1_bringForward.2.1 MX1_bringForward.2.2.1 MX1_bringForward.2.2.2.1 ∈ lw_all := in_all 1623 (by decide +kernel) rfl
abbrev MX7_giveBack : Mth := (yX7_giveBack, cX7_giveBack, 2, some .int, [])
theorem mwX7_giveBack : Cond.code MX7_giveBack.1 MX7_giveBack.2.1 MX7_giveBack.2.2.1 MX7_giveBack.2.2.2.1 ∈ lw_all := in_all 1627 (by decide +kernel) rfl
abbrev MX7_forgive : Mth := (yX7_forgive, cX7_forgive, 3, some .int, [])
theorem mwX7_forgive : Cond.code MX7_forgive.1 MX7_forgive.2.1 MX7_forgive.2.2.1 MX7_forgive.2.2.2.1 ∈ lw_all := in_all 1631 (by decide +kernel) rfl
abbrev MX7_runToClosed : Mth := (yX7_runToClosed, cX7_runToClosed, 4, some .int, [])
theorem mwX7_runToClosed : Cond.code MX7_runToClosed.1 MX7_runToClosed.2.1 MX7_runToClosed.2.2.1 MX7_runToClosed.2.2.2.1 ∈ lw_all := in_all 1635 (by decide +kernel) rfl
abbrev MX6_passTicksToEnd : Mth := (yX6_passTicksToEnd, cX6_passTicksToEnd, 4, some .int, [])
theorem mwX6_passTicksToEnd : Cond.code MX6_passTicksToEnd.1 MX6_passTicksToEnd.2.1 MX6_passTicksToEnd.2.2.1 MX6_passTicksToEnd.2.2.2.1 ∈ lw_all := in_all 1639 (by decide +kernel) rfl
abbrev MJ4_init_da8c8 : Mth := (yJ4_init_da8c8, cJ4_init_da8c8, 1, none, [])
theorem mwJ4_init_da8c8 : Cond.code MJ4_init_da8c8.1 MJ4_init_da8c8.2.1 MJ4_init_da8c8.2.2.1 MJ4_init_da8c8.2.2.2.1 ∈ lw_all := in_all 1655 (by decide +kernel) rfl
abbrev MJ5_init_d00df : Mth := (yJ5_init_d00df, cJ5_init_d00df, 2, none, [])
theorem mwJ5_init_d00df : Cond.code MJ5_init_d00df.1 MJ5_init_d00df.2.1 MJ5_init_d00df.2.2.1 MJ5_init_d00df.2.2.2.1 ∈ lw_all := in_all 1658 (by decide +kernel) rfl
abbrev MJ4_toString_0e30d : Mth := (yJ4_toString_0e30d, cJ4_toString_0e30d, 1, some (.object "java/lang/String"), [])
theorem mwJ4_toString_0e30d : Cond.code MJ4_toString_0e30d.1 MJ4_toString_0e30d.2.1 MJ4_toString_0e30d.2.2.1 MJ4_toString_0e30d.2.2.2.1 ∈ lw_all := in_all 1675 (by decide +kernel) rfl
abbrev MJ0_init_81219 : Mth := (yJ0_init_81219, cJ0_init_81219, 2, none, [])
theorem mwJ0_init_81219 : Cond.code MJ0_init_81219.1 MJ0_init_81219.2.1 MJ0_init_81219.2.2.1 MJ0_init_81219.2.2.2.1 ∈ lw_all := in_all 1680 (by decide +kernel) rfl
abbrev MJ0_init_db425 : Mth := (yJ0_init_db425, cJ0_init_db425, 5, none, [])
theorem mwJ0_init_db425 : Cond.code MJ0_init_db425.1 MJ0_init_db425.2.1 MJ0_init_db425.2.2.1 MJ0_init_db425.2.2.2.1 ∈ lw_all := in_all 1683 (by decide +kernel) rfl
abbrev MJ5_getValue_6d5f1 : Mth := (yJ5_getValue_6d5f1, cJ5_getValue_6d5f1, 1, some (.array .byte), [])
theorem mwJ5_getValue_6d5f1 : Cond.code MJ5_getValue_6d5f1.1 MJ5_getValue_6d5f1.2.1 MJ5_getValue_6d5f1.2.2.1 MJ5_getValue_6d5f1.2.2.2.1 ∈ lw_all := in_all 1689 (by decide +kernel) rfl
abbrev MJ4_length_8abf5 : Mth := (yJ4_length_8abf5, cJ4_length_8abf5, 1, some .int, [])
theorem mwJ4_length_8abf5 : Cond.code MJ4_length_8abf5.1 MJ4_length_8abf5.2.1 MJ4_length_8abf5.2.2.1 MJ4_length_8abf5.2.2.2.1 ∈ lw_all := in_all 1695 (by decide +kernel) rfl
abbrev MJ5_length_8abf5 : Mth := (yJ5_length_8abf5, cJ5_length_8abf5, 1, some .int, [])
theorem mwJ5_length_8abf5 : Cond.code MJ5_length_8abf5.1 MJ5_length_8abf5.2.1 MJ5_length_8abf5.2.2.1 MJ5_length_8abf5.2.2.2.1 ∈ lw_all := in_all 1697 (by decide +kernel) rfl
abbrev MJ7_copyOfRange_39247 : Mth := (yJ7_copyOfRange_39247, cJ7_copyOfRange_39247, 3, some (.array .byte), [])
theorem mwJ7_copyOfRange_39247 : Cond.code MJ7_copyOfRange_39247.1 MJ7_copyOfRange_39247.2.1 MJ7_copyOfRange_39247.2.2.1 MJ7_copyOfRange_39247.2.2.2.1 ∈ lw_all := in_all 1701 (by decide +kernel) rfl
abbrev MJ7_copyOfRangeByte_39247 : Mth := (yJ7_copyOfRangeByte_39247, cJ7_copyOfRangeByte_39247, 5, some (.array .byte), [])
theorem mwJ7_copyOfRangeByte_39247 : Cond.code MJ7_copyOfRangeByte_39247.1 MJ7_copyOfRangeByte_39247.2.1 MJ7_copyOfRangeByte_39247.2.2.1 MJ7_copyOfRangeByte_39247.2.2.2.1 ∈ lw_all := in_all 1704 (by decide +kernel) rfl
abbrev MJ7_checkLength_df160 : Mth := (yJ7_checkLength_df160, cJ7_checkLength_df160, 2, none, [])
theorem mwJ7_checkLength_df160 : Cond.code MJ7_checkLength_df160.1 MJ7_checkLength_df160.2.1 MJ7_checkLength_df160.2.2.1 MJ7_checkLength_df160.2.2.2.1 ∈ lw_all := in_all 1707 (by decide +kernel) rfl
abbrev MJ2_compress_39247 : Mth := (yJ2_compress_39247, cJ2_compress_39247, 6, some (.array .byte), [])
theorem mwJ2_compress_39247 : Cond.code MJ2_compress_39247.1 MJ2_compress_39247.2.1 MJ2_compress_39247.2.2.1 MJ2_compress_39247.2.2.2.1 ∈ lw_all := in_all 1729 (by decide +kernel) rfl
abbrev MJ2_compress_5af95 : Mth := (yJ2_compress_5af95, cJ2_compress_5af95, 7, some .int, [])
theorem mwJ2_compress_5af95 : Cond.code MJ2_compress_5af95.1 MJ2_compress_5af95.2.1 MJ2_compress_5af95.2.2.1 MJ2_compress_5af95.2.2.2.1 ∈ lw_all := in_all 1732 (by decide +kernel) rfl
abbrev MJ2_coderFromArrayLen_85cad : Mth := (yJ2_coderFromArrayLen_85cad, cJ2_coderFromArrayLen_85cad, 2, some .byte, [])
theorem mwJ2_coderFromArrayLen_85cad : Cond.code MJ2_coderFromArrayLen_85cad.1 MJ2_coderFromArrayLen_85cad.2.1 MJ2_coderFromArrayLen_85cad.2.2.1 MJ2_coderFromArrayLen_85cad.2.2.2.1 ∈ lw_all := in_all 1736 (by decide +kernel) rfl
theorem flX2_9 : FL RX2 9 6 0 := ⟨_, rfl, by decide, in_ctx 55 (by decide +kernel) rfl⟩
theorem fwX2_9 : FLw RX2 9 6 0 .int false := ⟨_, rfl, by decide, in_ctx 55 (by decide +kernel) rfl, by decide +kernel, by decide +kernel, fun h => nomatch h⟩
theorem flX6_35 : FL RX6 35 6 0 := ⟨_, rfl, by decide, in_ctx 56 (by decide +kernel) rfl⟩
theorem fwX6_35 : FLw RX6 35 6 0 .int false := ⟨_, rfl, by decide, in_ctx 56 (by decide +kernel) rfl, by decide +kernel, by decide +kernel, fun h => nomatch h⟩
theorem flX3_160 : FL RX3 160 6 0 := ⟨_, rfl, by decide, in_ctx 57 (by decide +kernel) rfl⟩
theorem fwX3_160 : FLw RX3 160 6 0 .int false := ⟨_, rfl, by decide, in_ctx 57 (by decide +kernel) rfl, by decide +kernel, by decide +kernel, fun h => nomatch h⟩
theorem flX2_15 : FL RX2 15 6 1 := ⟨_, rfl, by decide, in_ctx 58 (by decide +kernel) rfl⟩
theorem fwX2_15 : FLw RX2 15 6 1 .int false := ⟨_, rfl, by decide, in_ctx 58 (by decide +kernel) rfl, by decide +kernel, by decide +kernel, fun h => nomatch h⟩
theorem flX6_70 : FL RX6 70 6 1 := ⟨_, rfl, by decide, in_ctx 59 (by decide +kernel) rfl⟩
theorem fwX6_70 : FLw RX6 70 6 1 .int false := ⟨_, rfl, by decide, in_ctx 59 (by decide +kernel) rfl, by decide +kernel, by decide +kernel, fun h => nomatch h⟩
theorem flX3_163 : FL RX3 163 6 1 := ⟨_, rfl, by decide, in_ctx 60 (by decide +kernel) rfl⟩
theorem fwX3_163 : FLw RX3 163 6 1 .int false := ⟨_, rfl, by decide, in_ctx 60 (by decide +kernel) rfl, by decide +kernel, by decide +kernel, fun h => nomatch h⟩
theorem flX2_55 : FL RX2 55 6 2 := ⟨_, rfl, by decide, in_ctx 61 (by decide +kernel) rfl⟩
theorem fwX2_55 : FLw RX2 55 6 2 .int false := ⟨_, rfl, by decide, in_ctx 61 (by decide +kernel) rfl, by decide +kernel, by decide +kernel, fun h => nomatch h⟩
theorem flX7_74 : FL RX7 74 6 2 := ⟨_, rfl, by decide, in_ctx 62 (by decide +kernel) rfl⟩
theorem fwX7_74 : FLw RX7 74 6 2 .int false := ⟨_, rfl, by decide, in_ctx 62 (by decide +kernel) rfl, by decide +kernel, by decide +kernel, fun h => nomatch h⟩
theorem flX3_130 : FL RX3 130 6 2 := ⟨_, rfl, by decide, in_ctx 63 (by decide +kernel) rfl⟩
theorem fwX3_130 : FLw RX3 130 6 2 .int false := ⟨_, rfl, by decide, in_ctx 63 (by decide +kernel) rfl, by decide +kernel, by decide +kernel, fun h => nomatch h⟩
theorem flX6_169 : FL RX6 169 6 2 := ⟨_, rfl, by decide, in_ctx 64 (by decide +kernel) rfl⟩
theorem fwX6_169 : FLw RX6 169 6 2 .int false := ⟨_, rfl, by decide, in_ctx 64 (by decide +kernel) rfl, by decide +kernel, by decide +kernel, fun h => nomatch h⟩
theorem flX2_58 : FL RX2 58 6 3 := ⟨_, rfl, by decide, in_ctx 65 (by decide +kernel) rfl⟩
theorem fwX2_58 : FLw RX2 58 6 3 .int false := ⟨_, rfl, by decide, in_ctx 65 (by decide +kernel) rfl, by decide +kernel, by decide +kernel, fun h => nomatch h⟩
theorem flX7_84 : FL RX7 84 6 3 := ⟨_, rfl, by decide, in_ctx 66 (by decide +kernel) rfl⟩
theorem fwX7_84 : FLw RX7 84 6 3 .int false := ⟨_, rfl, by decide, in_ctx 66 (by decide +kernel) rfl, by decide +kernel, by decide +kernel, fun h => nomatch h⟩
theorem flX3_127 : FL RX3 127 6 3 := ⟨_, rfl, by decide, in_ctx 67 (by decide +kernel) rfl⟩
theorem fwX3_127 : FLw RX3 127 6 3 .int false := ⟨_, rfl, by decide, in_ctx 67 (by decide +kernel) rfl, by decide +kernel, by decide +kernel, fun h => nomatch h⟩
theorem flX2_61 : FL RX2 61 6 4 := ⟨_, rfl, by decide, in_ctx 68 (by decide +kernel) rfl⟩
theorem fwX2_61 : FLw RX2 61 6 4 .int false := ⟨_, rfl, by decide, in_ctx 68 (by decide +kernel) rfl, by decide +kernel, by decide +kernel, fun h => nomatch h⟩
theorem flX7_90 : FL RX7 90 6 4 := ⟨_, rfl, by decide, in_ctx 69 (by decide +kernel) rfl⟩
theorem fwX7_90 : FLw RX7 90 6 4 .int false := ⟨_, rfl, by decide, in_ctx 69 (by decide +kernel) rfl, by decide +kernel, by decide +kernel, fun h => nomatch h⟩
theorem flX3_135 : FL RX3 135 6 4 := ⟨_, rfl, by decide, in_ctx 70 (by decide +kernel) rfl⟩
theorem fwX3_135 : FLw RX3 135 6 4 .int false := ⟨_, rfl, by decide, in_ctx 70 (by decide +kernel) rfl, by decide +kernel, by decide +kernel, fun h => nomatch h⟩
theorem flX2_64 : FL RX2 64 6 5 := ⟨_, rfl, by decide, in_ctx 71 (by decide +kernel) rfl⟩
theorem fwX2_64 : FLw RX2 64 6 5 .int false := ⟨_, rfl, by decide, in_ctx 71 (by decide +kernel) rfl, by decide +kernel, by decide +kernel, fun h => nomatch h⟩
theorem flX7_87 : FL RX7 87 6 5 := ⟨_, rfl, by decide, in_ctx 72 (by decide +kernel) rfl⟩
theorem fwX7_87 : FLw RX7 87 6 5 .int false := ⟨_, rfl, by decide, in_ctx 72 (by decide +kernel) rfl, by decide +kernel, by decide +kernel, fun h => nomatch h⟩
theorem flX3_132 : FL RX3 132 6 5 := ⟨_, rfl, by decide, in_ctx 73 (by decide +kernel) rfl⟩
theorem fwX3_132 : FLw RX3 132 6 5 .int false := ⟨_, rfl, by decide, in_ctx 73 (by decide +kernel) rfl, by decide +kernel, by decide +kernel, fun h => nomatch h⟩
theorem flX2_67 : FL RX2 67 6 6 := ⟨_, rfl, by decide, in_ctx 74 (by decide +kernel) rfl⟩
theorem fwX2_67 : FLw RX2 67 6 6 .int false := ⟨_, rfl, by decide, in_ctx 74 (by decide +kernel) rfl, by decide +kernel, by decide +kernel, fun h => nomatch h⟩
theorem flX7_108 : FL RX7 108 6 6 := ⟨_, rfl, by decide, in_ctx 75 (by decide +kernel) rfl⟩
theorem fwX7_108 : FLw RX7 108 6 6 .int false := ⟨_, rfl, by decide, in_ctx 75 (by decide +kernel) rfl, by decide +kernel, by decide +kernel, fun h => nomatch h⟩
theorem flX3_147 : FL RX3 147 6 6 := ⟨_, rfl, by decide, in_ctx 76 (by decide +kernel) rfl⟩
theorem fwX3_147 : FLw RX3 147 6 6 .int false := ⟨_, rfl, by decide, in_ctx 76 (by decide +kernel) rfl, by decide +kernel, by decide +kernel, fun h => nomatch h⟩
theorem flX2_18 : FL RX2 18 6 7 := ⟨_, rfl, by decide, in_ctx 77 (by decide +kernel) rfl⟩
theorem flX6_31 : FL RX6 31 6 7 := ⟨_, rfl, by decide, in_ctx 78 (by decide +kernel) rfl⟩
theorem flX7_127 : FL RX7 127 6 7 := ⟨_, rfl, by decide, in_ctx 79 (by decide +kernel) rfl⟩
theorem flX2_22 : FL RX2 22 6 8 := ⟨_, rfl, by decide, in_ctx 80 (by decide +kernel) rfl⟩
theorem flX7_141 : FL RX7 141 6 8 := ⟨_, rfl, by decide, in_ctx 81 (by decide +kernel) rfl⟩
theorem flX2_25 : FL RX2 25 6 9 := ⟨_, rfl, by decide, in_ctx 82 (by decide +kernel) rfl⟩
theorem flX3_166 : FL RX3 166 6 9 := ⟨_, rfl, by decide, in_ctx 83 (by decide +kernel) rfl⟩
theorem flX2_28 : FL RX2 28 6 10 := ⟨_, rfl, by decide, in_ctx 84 (by decide +kernel) rfl⟩
theorem flX2_31 : FL RX2 31 6 11 := ⟨_, rfl, by decide, in_ctx 85 (by decide +kernel) rfl⟩
theorem flX2_34 : FL RX2 34 6 12 := ⟨_, rfl, by decide, in_ctx 86 (by decide +kernel) rfl⟩
theorem flX6_73 : FL RX6 73 6 12 := ⟨_, rfl, by decide, in_ctx 87 (by decide +kernel) rfl⟩
theorem flX3_198 : FL RX3 198 6 12 := ⟨_, rfl, by decide, in_ctx 88 (by decide +kernel) rfl⟩
theorem flX2_37 : FL RX2 37 6 13 := ⟨_, rfl, by decide, in_ctx 89 (by decide +kernel) rfl⟩
theorem flX3_201 : FL RX3 201 6 13 := ⟨_, rfl, by decide, in_ctx 90 (by decide +kernel) rfl⟩
theorem flX6_203 : FL RX6 203 6 13 := ⟨_, rfl, by decide, in_ctx 91 (by decide +kernel) rfl⟩
theorem flX2_40 : FL RX2 40 6 14 := ⟨_, rfl, by decide, in_ctx 92 (by decide +kernel) rfl⟩
theorem flX6_126 : FL RX6 126 6 14 := ⟨_, rfl, by decide, in_ctx 93 (by decide +kernel) rfl⟩
theorem flX3_204 : FL RX3 204 6 14 := ⟨_, rfl, by decide, in_ctx 94 (by decide +kernel) rfl⟩
theorem flX2_43 : FL RX2 43 6 15 := ⟨_, rfl, by decide, in_ctx 95 (by decide +kernel) rfl⟩
theorem flX3_207 : FL RX3 207 6 15 := ⟨_, rfl, by decide, in_ctx 96 (by decide +kernel) rfl⟩
theorem flX7_192 : FL RX7 192 6 15 := ⟨_, rfl, by decide, in_ctx 97 (by decide +kernel) rfl⟩
theorem flX2_46 : FL RX2 46 6 16 := ⟨_, rfl, by decide, in_ctx 98 (by decide +kernel) rfl⟩
theorem flX3_210 : FL RX3 210 6 16 := ⟨_, rfl, by decide, in_ctx 99 (by decide +kernel) rfl⟩
theorem flX6_216 : FL RX6 216 6 16 := ⟨_, rfl, by decide, in_ctx 100 (by decide +kernel) rfl⟩
theorem flX5_24 : FL RX5 24 9 0 := ⟨_, rfl, by decide, in_ctx 153 (by decide +kernel) rfl⟩
theorem fwX5_24 : FLw RX5 24 9 0 .int false := ⟨_, rfl, by decide, in_ctx 153 (by decide +kernel) rfl, by decide +kernel, by decide +kernel, fun h => nomatch h⟩
theorem flX4_64 : FL RX4 64 9 0 := ⟨_, rfl, by decide, in_ctx 154 (by decide +kernel) rfl⟩
theorem fwX4_64 : FLw RX4 64 9 0 .int false := ⟨_, rfl, by decide, in_ctx 154 (by decide +kernel) rfl, by decide +kernel, by decide +kernel, fun h => nomatch h⟩
theorem flX7_103 : FL RX7 103 9 0 := ⟨_, rfl, by decide, in_ctx 155 (by decide +kernel) rfl⟩
theorem fwX7_103 : FLw RX7 103 9 0 .int false := ⟨_, rfl, by decide, in_ctx 155 (by decide +kernel) rfl, by decide +kernel, by decide +kernel, fun h => nomatch h⟩
theorem flX3_142 : FL RX3 142 9 0 := ⟨_, rfl, by decide, in_ctx 156 (by decide +kernel) rfl⟩
theorem fwX3_142 : FLw RX3 142 9 0 .int false := ⟨_, rfl, by decide, in_ctx 156 (by decide +kernel) rfl, by decide +kernel, by decide +kernel, fun h => nomatch h⟩
theorem flX6_151 : FL RX6 151 9 0 := ⟨_, rfl, by decide, in_ctx 157 (by decide +kernel) rfl⟩
theorem fwX6_151 : FLw RX6 151 9 0 .int false := ⟨_, rfl, by decide, in_ctx 157 (by decide +kernel) rfl, by decide +kernel, by decide +kernel, fun h => nomatch h⟩
theorem flX5_9 : FL RX5 9 9 1 := ⟨_, rfl, by decide, in_ctx 158 (by decide +kernel) rfl⟩
theorem flX7_172 : FL RX7 172 9 1 := ⟨_, rfl, by decide, in_ctx 159 (by decide +kernel) rfl⟩
theorem flX6_188 : FL RX6 188 9 1 := ⟨_, rfl, by decide, in_ctx 160 (by decide +kernel) rfl⟩
theorem flX5_15 : FL RX5 15 9 2 := ⟨_, rfl, by decide, in_ctx 161 (by decide +kernel) rfl⟩
theorem flX7_175 : FL RX7 175 9 2 := ⟨_, rfl, by decide, in_ctx 162 (by decide +kernel) rfl⟩
theorem flX6_182 : FL RX6 182 9 2 := ⟨_, rfl, by decide, in_ctx 163 (by decide +kernel) rfl⟩
theorem flX5_18 : FL RX5 18 9 3 := ⟨_, rfl, by decide, in_ctx 164 (by decide +kernel) rfl⟩
theorem flX7_178 : FL RX7 178 9 3 := ⟨_, rfl, by decide, in_ctx 165 (by decide +kernel) rfl⟩
theorem flX6_185 : FL RX6 185 9 3 := ⟨_, rfl, by decide, in_ctx 166 (by decide +kernel) rfl⟩
theorem flX5_21 : FL RX5 21 9 4 := ⟨_, rfl, by decide, in_ctx 167 (by decide +kernel) rfl⟩
theorem flX7_181 : FL RX7 181 9 4 := ⟨_, rfl, by decide, in_ctx 168 (by decide +kernel) rfl⟩
theorem flX6_184 : FL RX6 184 9 4 := ⟨_, rfl, by decide, in_ctx 169 (by decide +kernel) rfl⟩
theorem flX1_33 : FL RX1 33 5 0 := ⟨_, rfl, by decide, in_ctx 187 (by decide +kernel) rfl⟩
theorem fwX1_33 : FLw RX1 33 5 0 .int false := ⟨_, rfl, by decide, in_ctx 187 (by decide +kernel) rfl, by decide +kernel, by decide +kernel, fun h => nomatch h⟩
theorem flX4_67 : FL RX4 67 5 0 := ⟨_, rfl, by decide, in_ctx 188 (by decide +kernel) rfl⟩
theorem fwX4_67 : FLw RX4 67 5 0 .int false := ⟨_, rfl, by decide, in_ctx 188 (by decide +kernel) rfl, by decide +kernel, by decide +kernel, fun h => nomatch h⟩
theorem flX7_115 : FL RX7 115 5 0 := ⟨_, rfl, by decide, in_ctx 189 (by decide +kernel) rfl⟩
theorem fwX7_115 : FLw RX7 115 5 0 .int false := ⟨_, rfl, by decide, in_ctx 189 (by decide +kernel) rfl, by decide +kernel, by decide +kernel, fun h => nomatch h⟩
theorem flX6_106 : FL RX6 106 5 0 := ⟨_, rfl, by decide, in_ctx 190 (by decide +kernel) rfl⟩
theorem fwX6_106 : FLw RX6 106 5 0 .int false := ⟨_, rfl, by decide, in_ctx 190 (by decide +kernel) rfl, by decide +kernel, by decide +kernel, fun h => nomatch h⟩
theorem flX1_9 : FL RX1 9 5 1 := ⟨_, rfl, by decide, in_ctx 191 (by decide +kernel) rfl⟩
theorem flX7_213 : FL RX7 213 5 1 := ⟨_, rfl, by decide, in_ctx 192 (by decide +kernel) rfl⟩
theorem flX6_109 : FL RX6 109 5 1 := ⟨_, rfl, by decide, in_ctx 193 (by decide +kernel) rfl⟩
theorem flX1_15 : FL RX1 15 5 2 := ⟨_, rfl, by decide, in_ctx 194 (by decide +kernel) rfl⟩
theorem flX7_216 : FL RX7 216 5 2 := ⟨_, rfl, by decide, in_ctx 195 (by decide +kernel) rfl⟩
theorem flX6_117 : FL RX6 117 5 2 := ⟨_, rfl, by decide, in_ctx 196 (by decide +kernel) rfl⟩
theorem flX1_18 : FL RX1 18 5 3 := ⟨_, rfl, by decide, in_ctx 197 (by decide +kernel) rfl⟩
theorem flX6_99 : FL RX6 99 5 3 := ⟨_, rfl, by decide, in_ctx 198 (by decide +kernel) rfl⟩
theorem flX7_219 : FL RX7 219 5 3 := ⟨_, rfl, by decide, in_ctx 199 (by decide +kernel) rfl⟩
theorem flX1_21 : FL RX1 21 5 4 := ⟨_, rfl, by decide, in_ctx 200 (by decide +kernel) rfl⟩
theorem flX6_102 : FL RX6 102 5 4 := ⟨_, rfl, by decide, in_ctx 201 (by decide +kernel) rfl⟩
theorem flX7_222 : FL RX7 222 5 4 := ⟨_, rfl, by decide, in_ctx 202 (by decide +kernel) rfl⟩
theorem flX1_24 : FL RX1 24 5 5 := ⟨_, rfl, by decide, in_ctx 203 (by decide +kernel) rfl⟩
theorem flX6_103 : FL RX6 103 5 5 := ⟨_, rfl, by decide, in_ctx 204 (by decide +kernel) rfl⟩
theorem flX7_223 : FL RX7 223 5 5 := ⟨_, rfl, by decide, in_ctx 205 (by decide +kernel) rfl⟩
theorem flX1_27 : FL RX1 27 5 6 := ⟨_, rfl, by decide, in_ctx 206 (by decide +kernel) rfl⟩
theorem flX7_229 : FL RX7 229 5 6 := ⟨_, rfl, by decide, in_ctx 207 (by decide +kernel) rfl⟩
theorem flX6_115 : FL RX6 115 5 6 := ⟨_, rfl, by decide, in_ctx 208 (by decide +kernel) rfl⟩
theorem flX1_30 : FL RX1 30 5 7 := ⟨_, rfl, by decide, in_ctx 209 (by decide +kernel) rfl⟩
theorem flX7_230 : FL RX7 230 5 7 := ⟨_, rfl, by decide, in_ctx 210 (by decide +kernel) rfl⟩
theorem flX6_160 : FL RX6 160 5 7 := ⟨_, rfl, by decide, in_ctx 211 (by decide +kernel) rfl⟩
theorem flX4_50 : FL RX4 50 8 0 := ⟨_, rfl, by decide, in_ctx 229 (by decide +kernel) rfl⟩
theorem fwX4_50 : FLw RX4 50 8 0 .int false := ⟨_, rfl, by decide, in_ctx 229 (by decide +kernel) rfl, by decide +kernel, by decide +kernel, fun h => nomatch h⟩
theorem flX7_233 : FL RX7 233 8 0 := ⟨_, rfl, by decide, in_ctx 230 (by decide +kernel) rfl⟩
theorem fwX7_233 : FLw RX7 233 8 0 .int false := ⟨_, rfl, by decide, in_ctx 230 (by decide +kernel) rfl, by decide +kernel, by decide +kernel, fun h => nomatch h⟩
theorem flX6_157 : FL RX6 157 8 0 := ⟨_, rfl, by decide, in_ctx 231 (by decide +kernel) rfl⟩
theorem fwX6_157 : FLw RX6 157 8 0 .int false := ⟨_, rfl, by decide, in_ctx 231 (by decide +kernel) rfl, by decide +kernel, by decide +kernel, fun h => nomatch h⟩
theorem flX4_54 : FL RX4 54 8 1 := ⟨_, rfl, by decide, in_ctx 232 (by decide +kernel) rfl⟩
theorem fwX4_54 : FLw RX4 54 8 1 .long false := ⟨_, rfl, by decide, in_ctx 232 (by decide +kernel) rfl, by decide +kernel, by decide +kernel, fun h => nomatch h⟩
theorem flX7_235 : FL RX7 235 8 1 := ⟨_, rfl, by decide, in_ctx 233 (by decide +kernel) rfl⟩
theorem fwX7_235 : FLw RX7 235 8 1 .long false := ⟨_, rfl, by decide, in_ctx 233 (by decide +kernel) rfl, by decide +kernel, by decide +kernel, fun h => nomatch h⟩
theorem flX6_175 : FL RX6 175 8 1 := ⟨_, rfl, by decide, in_ctx 234 (by decide +kernel) rfl⟩
theorem fwX6_175 : FLw RX6 175 8 1 .long false := ⟨_, rfl, by decide, in_ctx 234 (by decide +kernel) rfl, by decide +kernel, by decide +kernel, fun h => nomatch h⟩
theorem flX4_58 : FL RX4 58 8 2 := ⟨_, rfl, by decide, in_ctx 235 (by decide +kernel) rfl⟩
theorem fwX4_58 : FLw RX4 58 8 2 .long false := ⟨_, rfl, by decide, in_ctx 235 (by decide +kernel) rfl, by decide +kernel, by decide +kernel, fun h => nomatch h⟩
theorem flX7_239 : FL RX7 239 8 2 := ⟨_, rfl, by decide, in_ctx 236 (by decide +kernel) rfl⟩
theorem fwX7_239 : FLw RX7 239 8 2 .long false := ⟨_, rfl, by decide, in_ctx 236 (by decide +kernel) rfl, by decide +kernel, by decide +kernel, fun h => nomatch h⟩
theorem flX6_191 : FL RX6 191 8 2 := ⟨_, rfl, by decide, in_ctx 237 (by decide +kernel) rfl⟩
theorem fwX6_191 : FLw RX6 191 8 2 .long false := ⟨_, rfl, by decide, in_ctx 237 (by decide +kernel) rfl, by decide +kernel, by decide +kernel, fun h => nomatch h⟩
theorem flX4_61 : FL RX4 61 8 3 := ⟨_, rfl, by decide, in_ctx 238 (by decide +kernel) rfl⟩
theorem fwX4_61 : FLw RX4 61 8 3 .long false := ⟨_, rfl, by decide, in_ctx 238 (by decide +kernel) rfl, by decide +kernel, by decide +kernel, fun h => nomatch h⟩
theorem flX6_49 : FL RX6 49 8 3 := ⟨_, rfl, by decide, in_ctx 239 (by decide +kernel) rfl⟩
theorem fwX6_49 : FLw RX6 49 8 3 .long false := ⟨_, rfl, by decide, in_ctx 239 (by decide +kernel) rfl, by decide +kernel, by decide +kernel, fun h => nomatch h⟩
theorem flX7_246 : FL RX7 246 8 3 := ⟨_, rfl, by decide, in_ctx 240 (by decide +kernel) rfl⟩
theorem fwX7_246 : FLw RX7 246 8 3 .long false := ⟨_, rfl, by decide, in_ctx 240 (by decide +kernel) rfl, by decide +kernel, by decide +kernel, fun h => nomatch h⟩
theorem flX4_9 : FL RX4 9 8 4 := ⟨_, rfl, by decide, in_ctx 241 (by decide +kernel) rfl⟩
theorem flX6_46 : FL RX6 46 8 4 := ⟨_, rfl, by decide, in_ctx 242 (by decide +kernel) rfl⟩
theorem flX7_135 : FL RX7 135 8 4 := ⟨_, rfl, by decide, in_ctx 243 (by decide +kernel) rfl⟩
theorem flX4_15 : FL RX4 15 8 5 := ⟨_, rfl, by decide, in_ctx 244 (by decide +kernel) rfl⟩
theorem flX6_39 : FL RX6 39 8 5 := ⟨_, rfl, by decide, in_ctx 245 (by decide +kernel) rfl⟩
theorem flX7_138 : FL RX7 138 8 5 := ⟨_, rfl, by decide, in_ctx 246 (by decide +kernel) rfl⟩
theorem flX4_18 : FL RX4 18 8 6 := ⟨_, rfl, by decide, in_ctx 247 (by decide +kernel) rfl⟩
theorem flX7_144 : FL RX7 144 8 6 := ⟨_, rfl, by decide, in_ctx 248 (by decide +kernel) rfl⟩
theorem flX4_21 : FL RX4 21 8 7 := ⟨_, rfl, by decide, in_ctx 249 (by decide +kernel) rfl⟩
theorem flX7_157 : FL RX7 157 8 7 := ⟨_, rfl, by decide, in_ctx 250 (by decide +kernel) rfl⟩
theorem flX6_83 : FL RX6 83 8 7 := ⟨_, rfl, by decide, in_ctx 251 (by decide +kernel) rfl⟩
theorem flX4_24 : FL RX4 24 8 8 := ⟨_, rfl, by decide, in_ctx 252 (by decide +kernel) rfl⟩
theorem flX7_160 : FL RX7 160 8 8 := ⟨_, rfl, by decide, in_ctx 253 (by decide +kernel) rfl⟩
theorem flX4_27 : FL RX4 27 8 9 := ⟨_, rfl, by decide, in_ctx 254 (by decide +kernel) rfl⟩
theorem flX7_163 : FL RX7 163 8 9 := ⟨_, rfl, by decide, in_ctx 255 (by decide +kernel) rfl⟩
theorem flX6_135 : FL RX6 135 8 9 := ⟨_, rfl, by decide, in_ctx 256 (by decide +kernel) rfl⟩
theorem flX4_30 : FL RX4 30 8 10 := ⟨_, rfl, by decide, in_ctx 257 (by decide +kernel) rfl⟩
theorem flX7_166 : FL RX7 166 8 10 := ⟨_, rfl, by decide, in_ctx 258 (by decide +kernel) rfl⟩
theorem flX4_33 : FL RX4 33 8 11 := ⟨_, rfl, by decide, in_ctx 259 (by decide +kernel) rfl⟩
theorem flX6_120 : FL RX6 120 8 11 := ⟨_, rfl, by decide, in_ctx 260 (by decide +kernel) rfl⟩
theorem flX3_213 : FL RX3 213 8 11 := ⟨_, rfl, by decide, in_ctx 261 (by decide +kernel) rfl⟩
theorem flX7_204 : FL RX7 204 8 11 := ⟨_, rfl, by decide, in_ctx 262 (by decide +kernel) rfl⟩
theorem flX4_39 : FL RX4 39 8 12 := ⟨_, rfl, by decide, in_ctx 263 (by decide +kernel) rfl⟩
theorem flX7_97 : FL RX7 97 8 12 := ⟨_, rfl, by decide, in_ctx 264 (by decide +kernel) rfl⟩
theorem flX3_138 : FL RX3 138 8 12 := ⟨_, rfl, by decide, in_ctx 265 (by decide +kernel) rfl⟩
theorem flX6_147 : FL RX6 147 8 12 := ⟨_, rfl, by decide, in_ctx 266 (by decide +kernel) rfl⟩
theorem flX4_46 : FL RX4 46 8 13 := ⟨_, rfl, by decide, in_ctx 267 (by decide +kernel) rfl⟩
theorem flX7_111 : FL RX7 111 8 13 := ⟨_, rfl, by decide, in_ctx 268 (by decide +kernel) rfl⟩
theorem flX6_89 : FL RX6 89 8 13 := ⟨_, rfl, by decide, in_ctx 269 (by decide +kernel) rfl⟩
theorem flX6_18 : FL RX6 18 10 0 := ⟨_, rfl, by decide, in_ctx 299 (by decide +kernel) rfl⟩
theorem flX7_21 : FL RX7 21 10 0 := ⟨_, rfl, by decide, in_ctx 300 (by decide +kernel) rfl⟩
theorem flX3_31 : FL RX3 31 10 0 := ⟨_, rfl, by decide, in_ctx 301 (by decide +kernel) rfl⟩
theorem flX6_12 : FL RX6 12 10 1 := ⟨_, rfl, by decide, in_ctx 302 (by decide +kernel) rfl⟩
theorem flX3_38 : FL RX3 38 10 1 := ⟨_, rfl, by decide, in_ctx 303 (by decide +kernel) rfl⟩
theorem flX7_93 : FL RX7 93 10 1 := ⟨_, rfl, by decide, in_ctx 304 (by decide +kernel) rfl⟩
theorem flX3_17 : FL RX3 17 7 0 := ⟨_, rfl, by decide, in_ctx 320 (by decide +kernel) rfl⟩
theorem flX7_64 : FL RX7 64 7 0 := ⟨_, rfl, by decide, in_ctx 321 (by decide +kernel) rfl⟩
theorem flX7_57 : FL RX7 57 7 1 := ⟨_, rfl, by decide, in_ctx 322 (by decide +kernel) rfl⟩
theorem fwX7_57 : FLw RX7 57 7 1 .int false := ⟨_, rfl, by decide, in_ctx 322 (by decide +kernel) rfl, by decide +kernel, by decide +kernel, fun h => nomatch h⟩
theorem flX3_45 : FL RX3 45 7 1 := ⟨_, rfl, by decide, in_ctx 323 (by decide +kernel) rfl⟩
theorem fwX3_45 : FLw RX3 45 7 1 .int false := ⟨_, rfl, by decide, in_ctx 323 (by decide +kernel) rfl, by decide +kernel, by decide +kernel, fun h => nomatch h⟩
theorem flX7_61 : FL RX7 61 7 2 := ⟨_, rfl, by decide, in_ctx 324 (by decide +kernel) rfl⟩
theorem fwX7_61 : FLw RX7 61 7 2 .int false := ⟨_, rfl, by decide, in_ctx 324 (by decide +kernel) rfl, by decide +kernel, by decide +kernel, fun h => nomatch h⟩
theorem flX3_48 : FL RX3 48 7 2 := ⟨_, rfl, by decide, in_ctx 325 (by decide +kernel) rfl⟩
theorem fwX3_48 : FLw RX3 48 7 2 .int false := ⟨_, rfl, by decide, in_ctx 325 (by decide +kernel) rfl, by decide +kernel, by decide +kernel, fun h => nomatch h⟩
theorem flX3_51 : FL RX3 51 7 3 := ⟨_, rfl, by decide, in_ctx 326 (by decide +kernel) rfl⟩
theorem fwX3_51 : FLw RX3 51 7 3 .int false := ⟨_, rfl, by decide, in_ctx 326 (by decide +kernel) rfl, by decide +kernel, by decide +kernel, fun h => nomatch h⟩
theorem flX7_77 : FL RX7 77 7 3 := ⟨_, rfl, by decide, in_ctx 327 (by decide +kernel) rfl⟩
theorem fwX7_77 : FLw RX7 77 7 3 .int false := ⟨_, rfl, by decide, in_ctx 327 (by decide +kernel) rfl, by decide +kernel, by decide +kernel, fun h => nomatch h⟩
theorem flX3_23 : FL RX3 23 7 4 := ⟨_, rfl, by decide, in_ctx 328 (by decide +kernel) rfl⟩
theorem flX3_27 : FL RX3 27 7 5 := ⟨_, rfl, by decide, in_ctx 329 (by decide +kernel) rfl⟩
theorem fwX3_27 : FLw RX3 27 7 5 .int false := ⟨_, rfl, by decide, in_ctx 329 (by decide +kernel) rfl, by decide +kernel, by decide +kernel, fun h => nomatch h⟩
theorem flX3_54 : FL RX3 54 7 6 := ⟨_, rfl, by decide, in_ctx 330 (by decide +kernel) rfl⟩
theorem fwX3_54 : FLw RX3 54 7 6 .int false := ⟨_, rfl, by decide, in_ctx 330 (by decide +kernel) rfl, by decide +kernel, by decide +kernel, fun h => nomatch h⟩
theorem flX3_150 : FL RX3 150 7 7 := ⟨_, rfl, by decide, in_ctx 331 (by decide +kernel) rfl⟩
theorem fwX3_150 : FLw RX3 150 7 7 .int false := ⟨_, rfl, by decide, in_ctx 331 (by decide +kernel) rfl, by decide +kernel, by decide +kernel, fun h => nomatch h⟩
theorem flX0_18 : FL RX0 18 4 0 := ⟨_, rfl, by decide, in_ctx 359 (by decide +kernel) rfl⟩
theorem fwX0_18 : FLw RX0 18 4 0 .int false := ⟨_, rfl, by decide, in_ctx 359 (by decide +kernel) rfl, by decide +kernel, by decide +kernel, fun h => nomatch h⟩
theorem flX7_122 : FL RX7 122 4 0 := ⟨_, rfl, by decide, in_ctx 360 (by decide +kernel) rfl⟩
theorem fwX7_122 : FLw RX7 122 4 0 .int false := ⟨_, rfl, by decide, in_ctx 360 (by decide +kernel) rfl, by decide +kernel, by decide +kernel, fun h => nomatch h⟩
theorem flX0_22 : FL RX0 22 4 1 := ⟨_, rfl, by decide, in_ctx 361 (by decide +kernel) rfl⟩
theorem fwX0_22 : FLw RX0 22 4 1 .int false := ⟨_, rfl, by decide, in_ctx 361 (by decide +kernel) rfl, by decide +kernel, by decide +kernel, fun h => nomatch h⟩
theorem flX0_11 : FL RX0 11 4 2 := ⟨_, rfl, by decide, in_ctx 362 (by decide +kernel) rfl⟩
theorem flX7_15 : FL RX7 15 11 0 := ⟨_, rfl, by decide, in_ctx 371 (by decide +kernel) rfl⟩
theorem flX7_25 : FL RX7 25 11 1 := ⟨_, rfl, by decide, in_ctx 372 (by decide +kernel) rfl⟩
theorem flX7_31 : FL RX7 31 11 2 := ⟨_, rfl, by decide, in_ctx 373 (by decide +kernel) rfl⟩
theorem flX7_38 : FL RX7 38 11 3 := ⟨_, rfl, by decide, in_ctx 374 (by decide +kernel) rfl⟩
theorem flX7_42 : FL RX7 42 11 4 := ⟨_, rfl, by decide, in_ctx 375 (by decide +kernel) rfl⟩
theorem flX7_46 : FL RX7 46 11 5 := ⟨_, rfl, by decide, in_ctx 376 (by decide +kernel) rfl⟩
theorem flJx4a65c_9 : FL RJx4a65c 9 3 1 := ⟨_, rfl, by decide, in_ctx 466 (by decide +kernel) rfl⟩
theorem flJx35411_37 : FL RJx35411 37 3 1 := ⟨_, rfl, by decide, in_ctx 467 (by decide +kernel) rfl⟩
theorem flJx4a65c_48 : FL RJx4a65c 48 3 2 := ⟨_, rfl, by decide, in_ctx 469 (by decide +kernel) rfl⟩
theorem fwJx4a65c_48 : FLw RJx4a65c 48 3 2 .int false := ⟨_, rfl, by decide, in_ctx 469 (by decide +kernel) rfl, by decide +kernel, by decide +kernel, fun h => nomatch h⟩
theorem flJxc12de_7 : FL RJxc12de 7 3 0 := ⟨_, rfl, by decide, in_ctx 470 (by decide +kernel) rfl⟩
theorem fwJxc12de_7 : FLw RJxc12de 7 3 0 .int false := ⟨_, rfl, by decide, in_ctx 470 (by decide +kernel) rfl, by decide +kernel, by decide +kernel, fun h => nomatch h⟩
theorem flX12_7 : FL RX12 7 16 0 := ⟨_, rfl, by decide, in_ctx 481 (by decide +kernel) rfl⟩
theorem fwX12_7 : FLw RX12 7 16 0 .int false := ⟨_, rfl, by decide, in_ctx 481 (by decide +kernel) rfl, by decide +kernel, by decide +kernel, fun h => nomatch h⟩
theorem flL_36 : FL RL 36 16 0 := ⟨_, rfl, by decide, in_ctx 482 (by decide +kernel) rfl⟩
theorem fwL_36 : FLw RL 36 16 0 .int false := ⟨_, rfl, by decide, in_ctx 482 (by decide +kernel) rfl, by decide +kernel, by decide +kernel, fun h => nomatch h⟩
theorem flX12_13 : FL RX12 13 16 1 := ⟨_, rfl, by decide, in_ctx 483 (by decide +kernel) rfl⟩
theorem fwX12_13 : FLw RX12 13 16 1 .int false := ⟨_, rfl, by decide, in_ctx 483 (by decide +kernel) rfl, by decide +kernel, by decide +kernel, fun h => nomatch h⟩
theorem flL_40 : FL RL 40 16 1 := ⟨_, rfl, by decide, in_ctx 484 (by decide +kernel) rfl⟩
theorem fwL_40 : FLw RL 40 16 1 .int false := ⟨_, rfl, by decide, in_ctx 484 (by decide +kernel) rfl, by decide +kernel, by decide +kernel, fun h => nomatch h⟩
theorem flX12_42 : FL RX12 42 16 2 := ⟨_, rfl, by decide, in_ctx 485 (by decide +kernel) rfl⟩
theorem fwX12_42 : FLw RX12 42 16 2 .int false := ⟨_, rfl, by decide, in_ctx 485 (by decide +kernel) rfl, by decide +kernel, by decide +kernel, fun h => nomatch h⟩
theorem flL_269 : FL RL 269 16 2 := ⟨_, rfl, by decide, in_ctx 486 (by decide +kernel) rfl⟩
theorem fwL_269 : FLw RL 269 16 2 .int false := ⟨_, rfl, by decide, in_ctx 486 (by decide +kernel) rfl, by decide +kernel, by decide +kernel, fun h => nomatch h⟩
theorem flX12_45 : FL RX12 45 16 3 := ⟨_, rfl, by decide, in_ctx 487 (by decide +kernel) rfl⟩
theorem fwX12_45 : FLw RX12 45 16 3 .long false := ⟨_, rfl, by decide, in_ctx 487 (by decide +kernel) rfl, by decide +kernel, by decide +kernel, fun h => nomatch h⟩
theorem flL_84 : FL RL 84 16 3 := ⟨_, rfl, by decide, in_ctx 488 (by decide +kernel) rfl⟩
theorem fwL_84 : FLw RL 84 16 3 .long false := ⟨_, rfl, by decide, in_ctx 488 (by decide +kernel) rfl, by decide +kernel, by decide +kernel, fun h => nomatch h⟩
theorem flX12_49 : FL RX12 49 16 4 := ⟨_, rfl, by decide, in_ctx 489 (by decide +kernel) rfl⟩
theorem fwX12_49 : FLw RX12 49 16 4 .long false := ⟨_, rfl, by decide, in_ctx 489 (by decide +kernel) rfl, by decide +kernel, by decide +kernel, fun h => nomatch h⟩
theorem flL_253 : FL RL 253 16 4 := ⟨_, rfl, by decide, in_ctx 490 (by decide +kernel) rfl⟩
theorem fwL_253 : FLw RL 253 16 4 .long false := ⟨_, rfl, by decide, in_ctx 490 (by decide +kernel) rfl, by decide +kernel, by decide +kernel, fun h => nomatch h⟩
theorem flX12_52 : FL RX12 52 16 5 := ⟨_, rfl, by decide, in_ctx 491 (by decide +kernel) rfl⟩
theorem fwX12_52 : FLw RX12 52 16 5 .long false := ⟨_, rfl, by decide, in_ctx 491 (by decide +kernel) rfl, by decide +kernel, by decide +kernel, fun h => nomatch h⟩
theorem flL_256 : FL RL 256 16 5 := ⟨_, rfl, by decide, in_ctx 492 (by decide +kernel) rfl⟩
theorem fwL_256 : FLw RL 256 16 5 .long false := ⟨_, rfl, by decide, in_ctx 492 (by decide +kernel) rfl, by decide +kernel, by decide +kernel, fun h => nomatch h⟩
theorem flX12_55 : FL RX12 55 16 6 := ⟨_, rfl, by decide, in_ctx 493 (by decide +kernel) rfl⟩
theorem fwX12_55 : FLw RX12 55 16 6 .long false := ⟨_, rfl, by decide, in_ctx 493 (by decide +kernel) rfl, by decide +kernel, by decide +kernel, fun h => nomatch h⟩
theorem flL_259 : FL RL 259 16 6 := ⟨_, rfl, by decide, in_ctx 494 (by decide +kernel) rfl⟩
theorem fwL_259 : FLw RL 259 16 6 .long false := ⟨_, rfl, by decide, in_ctx 494 (by decide +kernel) rfl, by decide +kernel, by decide +kernel, fun h => nomatch h⟩
theorem flX12_19 : FL RX12 19 16 7 := ⟨_, rfl, by decide, in_ctx 495 (by decide +kernel) rfl⟩
theorem flL_56 : FL RL 56 16 7 := ⟨_, rfl, by decide, in_ctx 496 (by decide +kernel) rfl⟩
theorem flX12_23 : FL RX12 23 16 8 := ⟨_, rfl, by decide, in_ctx 497 (by decide +kernel) rfl⟩
theorem flL_118 : FL RL 118 16 8 := ⟨_, rfl, by decide, in_ctx 498 (by decide +kernel) rfl⟩
theorem flX12_26 : FL RX12 26 16 9 := ⟨_, rfl, by decide, in_ctx 499 (by decide +kernel) rfl⟩
theorem flL_124 : FL RL 124 16 9 := ⟨_, rfl, by decide, in_ctx 500 (by decide +kernel) rfl⟩
theorem flX12_29 : FL RX12 29 16 10 := ⟨_, rfl, by decide, in_ctx 501 (by decide +kernel) rfl⟩
theorem flL_81 : FL RL 81 16 10 := ⟨_, rfl, by decide, in_ctx 502 (by decide +kernel) rfl⟩
theorem flX12_32 : FL RX12 32 16 11 := ⟨_, rfl, by decide, in_ctx 503 (by decide +kernel) rfl⟩
theorem flL_100 : FL RL 100 16 11 := ⟨_, rfl, by decide, in_ctx 504 (by decide +kernel) rfl⟩
theorem flX12_35 : FL RX12 35 16 12 := ⟨_, rfl, by decide, in_ctx 505 (by decide +kernel) rfl⟩
theorem flL_139 : FL RL 139 16 12 := ⟨_, rfl, by decide, in_ctx 506 (by decide +kernel) rfl⟩
theorem flX12_38 : FL RX12 38 16 13 := ⟨_, rfl, by decide, in_ctx 507 (by decide +kernel) rfl⟩
theorem flL_159 : FL RL 159 16 13 := ⟨_, rfl, by decide, in_ctx 508 (by decide +kernel) rfl⟩
theorem flX11_7 : FL RX11 7 15 0 := ⟨_, rfl, by decide, in_ctx 953 (by decide +kernel) rfl⟩
theorem flX12_106 : FL RX12 106 15 0 := ⟨_, rfl, by decide, in_ctx 954 (by decide +kernel) rfl⟩
theorem flL_191 : FL RL 191 15 0 := ⟨_, rfl, by decide, in_ctx 955 (by decide +kernel) rfl⟩
theorem flX11_16 : FL RX11 16 15 1 := ⟨_, rfl, by decide, in_ctx 956 (by decide +kernel) rfl⟩
theorem flX12_121 : FL RX12 121 15 1 := ⟨_, rfl, by decide, in_ctx 957 (by decide +kernel) rfl⟩
theorem flL_201 : FL RL 201 15 1 := ⟨_, rfl, by decide, in_ctx 958 (by decide +kernel) rfl⟩
theorem flX11_13 : FL RX11 13 15 2 := ⟨_, rfl, by decide, in_ctx 959 (by decide +kernel) rfl⟩
theorem fwX11_13 : FLw RX11 13 15 2 .int false := ⟨_, rfl, by decide, in_ctx 959 (by decide +kernel) rfl, by decide +kernel, by decide +kernel, fun h => nomatch h⟩
theorem flX12_114 : FL RX12 114 15 2 := ⟨_, rfl, by decide, in_ctx 960 (by decide +kernel) rfl⟩
theorem fwX12_114 : FLw RX12 114 15 2 .int false := ⟨_, rfl, by decide, in_ctx 960 (by decide +kernel) rfl, by decide +kernel, by decide +kernel, fun h => nomatch h⟩
theorem flL_88 : FL RL 88 15 2 := ⟨_, rfl, by decide, in_ctx 961 (by decide +kernel) rfl⟩
theorem fwL_88 : FLw RL 88 15 2 .int false := ⟨_, rfl, by decide, in_ctx 961 (by decide +kernel) rfl, by decide +kernel, by decide +kernel, fun h => nomatch h⟩
theorem flX11_22 : FL RX11 22 15 3 := ⟨_, rfl, by decide, in_ctx 962 (by decide +kernel) rfl⟩
theorem fwX11_22 : FLw RX11 22 15 3 .int false := ⟨_, rfl, by decide, in_ctx 962 (by decide +kernel) rfl, by decide +kernel, by decide +kernel, fun h => nomatch h⟩
theorem flX12_109 : FL RX12 109 15 3 := ⟨_, rfl, by decide, in_ctx 963 (by decide +kernel) rfl⟩
theorem fwX12_109 : FLw RX12 109 15 3 .int false := ⟨_, rfl, by decide, in_ctx 963 (by decide +kernel) rfl, by decide +kernel, by decide +kernel, fun h => nomatch h⟩
theorem flL_198 : FL RL 198 15 3 := ⟨_, rfl, by decide, in_ctx 964 (by decide +kernel) rfl⟩
theorem fwL_198 : FLw RL 198 15 3 .int false := ⟨_, rfl, by decide, in_ctx 964 (by decide +kernel) rfl, by decide +kernel, by decide +kernel, fun h => nomatch h⟩
theorem flX11_25 : FL RX11 25 15 4 := ⟨_, rfl, by decide, in_ctx 965 (by decide +kernel) rfl⟩
theorem fwX11_25 : FLw RX11 25 15 4 .int false := ⟨_, rfl, by decide, in_ctx 965 (by decide +kernel) rfl, by decide +kernel, by decide +kernel, fun h => nomatch h⟩
theorem flL_204 : FL RL 204 15 4 := ⟨_, rfl, by decide, in_ctx 966 (by decide +kernel) rfl⟩
theorem fwL_204 : FLw RL 204 15 4 .int false := ⟨_, rfl, by decide, in_ctx 966 (by decide +kernel) rfl, by decide +kernel, by decide +kernel, fun h => nomatch h⟩
theorem flX12_173 : FL RX12 173 15 4 := ⟨_, rfl, by decide, in_ctx 967 (by decide +kernel) rfl⟩
theorem fwX12_173 : FLw RX12 173 15 4 .int false := ⟨_, rfl, by decide, in_ctx 967 (by decide +kernel) rfl, by decide +kernel, by decide +kernel, fun h => nomatch h⟩
theorem flX11_28 : FL RX11 28 15 5 := ⟨_, rfl, by decide, in_ctx 968 (by decide +kernel) rfl⟩
theorem fwX11_28 : FLw RX11 28 15 5 .int false := ⟨_, rfl, by decide, in_ctx 968 (by decide +kernel) rfl, by decide +kernel, by decide +kernel, fun h => nomatch h⟩
theorem flL_207 : FL RL 207 15 5 := ⟨_, rfl, by decide, in_ctx 969 (by decide +kernel) rfl⟩
theorem fwL_207 : FLw RL 207 15 5 .int false := ⟨_, rfl, by decide, in_ctx 969 (by decide +kernel) rfl, by decide +kernel, by decide +kernel, fun h => nomatch h⟩
theorem flX12_225 : FL RX12 225 15 5 := ⟨_, rfl, by decide, in_ctx 970 (by decide +kernel) rfl⟩
theorem fwX12_225 : FLw RX12 225 15 5 .int false := ⟨_, rfl, by decide, in_ctx 970 (by decide +kernel) rfl, by decide +kernel, by decide +kernel, fun h => nomatch h⟩
theorem flX11_31 : FL RX11 31 15 6 := ⟨_, rfl, by decide, in_ctx 971 (by decide +kernel) rfl⟩
theorem fwX11_31 : FLw RX11 31 15 6 .int false := ⟨_, rfl, by decide, in_ctx 971 (by decide +kernel) rfl, by decide +kernel, by decide +kernel, fun h => nomatch h⟩
theorem flL_210 : FL RL 210 15 6 := ⟨_, rfl, by decide, in_ctx 972 (by decide +kernel) rfl⟩
theorem fwL_210 : FLw RL 210 15 6 .int false := ⟨_, rfl, by decide, in_ctx 972 (by decide +kernel) rfl, by decide +kernel, by decide +kernel, fun h => nomatch h⟩
theorem flX12_222 : FL RX12 222 15 6 := ⟨_, rfl, by decide, in_ctx 973 (by decide +kernel) rfl⟩
theorem fwX12_222 : FLw RX12 222 15 6 .int false := ⟨_, rfl, by decide, in_ctx 973 (by decide +kernel) rfl, by decide +kernel, by decide +kernel, fun h => nomatch h⟩
theorem flX8_7 : FL RX8 7 12 0 := ⟨_, rfl, by decide, in_ctx 997 (by decide +kernel) rfl⟩
theorem flL_105 : FL RL 105 12 0 := ⟨_, rfl, by decide, in_ctx 998 (by decide +kernel) rfl⟩
theorem flX12_141 : FL RX12 141 12 0 := ⟨_, rfl, by decide, in_ctx 999 (by decide +kernel) rfl⟩
theorem flX8_13 : FL RX8 13 12 1 := ⟨_, rfl, by decide, in_ctx 1000 (by decide +kernel) rfl⟩
theorem flL_108 : FL RL 108 12 1 := ⟨_, rfl, by decide, in_ctx 1001 (by decide +kernel) rfl⟩
theorem flX12_144 : FL RX12 144 12 1 := ⟨_, rfl, by decide, in_ctx 1002 (by decide +kernel) rfl⟩
theorem flX8_16 : FL RX8 16 12 2 := ⟨_, rfl, by decide, in_ctx 1003 (by decide +kernel) rfl⟩
theorem fwX8_16 : FLw RX8 16 12 2 .int false := ⟨_, rfl, by decide, in_ctx 1003 (by decide +kernel) rfl, by decide +kernel, by decide +kernel, fun h => nomatch h⟩
theorem flL_111 : FL RL 111 12 2 := ⟨_, rfl, by decide, in_ctx 1004 (by decide +kernel) rfl⟩
theorem fwL_111 : FLw RL 111 12 2 .int false := ⟨_, rfl, by decide, in_ctx 1004 (by decide +kernel) rfl, by decide +kernel, by decide +kernel, fun h => nomatch h⟩
theorem flX12_203 : FL RX12 203 12 2 := ⟨_, rfl, by decide, in_ctx 1005 (by decide +kernel) rfl⟩
theorem fwX12_203 : FLw RX12 203 12 2 .int false := ⟨_, rfl, by decide, in_ctx 1005 (by decide +kernel) rfl, by decide +kernel, by decide +kernel, fun h => nomatch h⟩
theorem flX8_19 : FL RX8 19 12 3 := ⟨_, rfl, by decide, in_ctx 1006 (by decide +kernel) rfl⟩
theorem fwX8_19 : FLw RX8 19 12 3 .int false := ⟨_, rfl, by decide, in_ctx 1006 (by decide +kernel) rfl, by decide +kernel, by decide +kernel, fun h => nomatch h⟩
theorem flL_114 : FL RL 114 12 3 := ⟨_, rfl, by decide, in_ctx 1007 (by decide +kernel) rfl⟩
theorem fwL_114 : FLw RL 114 12 3 .int false := ⟨_, rfl, by decide, in_ctx 1007 (by decide +kernel) rfl, by decide +kernel, by decide +kernel, fun h => nomatch h⟩
theorem flX12_238 : FL RX12 238 12 3 := ⟨_, rfl, by decide, in_ctx 1008 (by decide +kernel) rfl⟩
theorem fwX12_238 : FLw RX12 238 12 3 .int false := ⟨_, rfl, by decide, in_ctx 1008 (by decide +kernel) rfl, by decide +kernel, by decide +kernel, fun h => nomatch h⟩
theorem flX8_25 : FL RX8 25 12 4 := ⟨_, rfl, by decide, in_ctx 1009 (by decide +kernel) rfl⟩
theorem fwX8_25 : FLw RX8 25 12 4 .int false := ⟨_, rfl, by decide, in_ctx 1009 (by decide +kernel) rfl, by decide +kernel, by decide +kernel, fun h => nomatch h⟩
theorem flL_220 : FL RL 220 12 4 := ⟨_, rfl, by decide, in_ctx 1010 (by decide +kernel) rfl⟩
theorem fwL_220 : FLw RL 220 12 4 .int false := ⟨_, rfl, by decide, in_ctx 1010 (by decide +kernel) rfl, by decide +kernel, by decide +kernel, fun h => nomatch h⟩
theorem flX12_212 : FL RX12 212 12 4 := ⟨_, rfl, by decide, in_ctx 1011 (by decide +kernel) rfl⟩
theorem fwX12_212 : FLw RX12 212 12 4 .int false := ⟨_, rfl, by decide, in_ctx 1011 (by decide +kernel) rfl, by decide +kernel, by decide +kernel, fun h => nomatch h⟩
theorem flX8_28 : FL RX8 28 12 5 := ⟨_, rfl, by decide, in_ctx 1012 (by decide +kernel) rfl⟩
theorem fwX8_28 : FLw RX8 28 12 5 .int false := ⟨_, rfl, by decide, in_ctx 1012 (by decide +kernel) rfl, by decide +kernel, by decide +kernel, fun h => nomatch h⟩
theorem flL_223 : FL RL 223 12 5 := ⟨_, rfl, by decide, in_ctx 1013 (by decide +kernel) rfl⟩
theorem fwL_223 : FLw RL 223 12 5 .int false := ⟨_, rfl, by decide, in_ctx 1013 (by decide +kernel) rfl, by decide +kernel, by decide +kernel, fun h => nomatch h⟩
theorem flX12_213 : FL RX12 213 12 5 := ⟨_, rfl, by decide, in_ctx 1014 (by decide +kernel) rfl⟩
theorem fwX12_213 : FLw RX12 213 12 5 .int false := ⟨_, rfl, by decide, in_ctx 1014 (by decide +kernel) rfl, by decide +kernel, by decide +kernel, fun h => nomatch h⟩
theorem flX9_7 : FL RX9 7 13 0 := ⟨_, rfl, by decide, in_ctx 1052 (by decide +kernel) rfl⟩
theorem flL_144 : FL RL 144 13 0 := ⟨_, rfl, by decide, in_ctx 1053 (by decide +kernel) rfl⟩
theorem flX12_187 : FL RX12 187 13 0 := ⟨_, rfl, by decide, in_ctx 1054 (by decide +kernel) rfl⟩
theorem flX9_13 : FL RX9 13 13 1 := ⟨_, rfl, by decide, in_ctx 1055 (by decide +kernel) rfl⟩
theorem flL_147 : FL RL 147 13 1 := ⟨_, rfl, by decide, in_ctx 1056 (by decide +kernel) rfl⟩
theorem flX12_228 : FL RX12 228 13 1 := ⟨_, rfl, by decide, in_ctx 1057 (by decide +kernel) rfl⟩
theorem flX9_16 : FL RX9 16 13 2 := ⟨_, rfl, by decide, in_ctx 1058 (by decide +kernel) rfl⟩
theorem flL_150 : FL RL 150 13 2 := ⟨_, rfl, by decide, in_ctx 1059 (by decide +kernel) rfl⟩
theorem flX12_184 : FL RX12 184 13 2 := ⟨_, rfl, by decide, in_ctx 1060 (by decide +kernel) rfl⟩
theorem flX9_19 : FL RX9 19 13 3 := ⟨_, rfl, by decide, in_ctx 1061 (by decide +kernel) rfl⟩
theorem flL_153 : FL RL 153 13 3 := ⟨_, rfl, by decide, in_ctx 1062 (by decide +kernel) rfl⟩
theorem flX9_22 : FL RX9 22 13 4 := ⟨_, rfl, by decide, in_ctx 1063 (by decide +kernel) rfl⟩
theorem flL_156 : FL RL 156 13 4 := ⟨_, rfl, by decide, in_ctx 1064 (by decide +kernel) rfl⟩
theorem flX12_247 : FL RX12 247 13 4 := ⟨_, rfl, by decide, in_ctx 1065 (by decide +kernel) rfl⟩
theorem flX9_28 : FL RX9 28 13 5 := ⟨_, rfl, by decide, in_ctx 1066 (by decide +kernel) rfl⟩
theorem fwX9_28 : FLw RX9 28 13 5 .boolean false := ⟨_, rfl, by decide, in_ctx 1066 (by decide +kernel) rfl, by decide +kernel, by decide +kernel, fun h => nomatch h⟩
theorem flL_332 : FL RL 332 13 5 := ⟨_, rfl, by decide, in_ctx 1067 (by decide +kernel) rfl⟩
theorem fwL_332 : FLw RL 332 13 5 .boolean false := ⟨_, rfl, by decide, in_ctx 1067 (by decide +kernel) rfl, by decide +kernel, by decide +kernel, fun h => nomatch h⟩
theorem flX12_176 : FL RX12 176 13 5 := ⟨_, rfl, by decide, in_ctx 1068 (by decide +kernel) rfl⟩
theorem fwX12_176 : FLw RX12 176 13 5 .boolean false := ⟨_, rfl, by decide, in_ctx 1068 (by decide +kernel) rfl, by decide +kernel, by decide +kernel, fun h => nomatch h⟩
theorem flJx35411_25 : FL RJx35411 25 2 0 := ⟨_, rfl, by decide, in_ctx 1099 (by decide +kernel) rfl⟩
theorem fwJx35411_25 : FLw RJx35411 25 2 0 .int false := ⟨_, rfl, by decide, in_ctx 1099 (by decide +kernel) rfl, by decide +kernel, by decide +kernel, fun h => nomatch h⟩
theorem flJx35411_13 : FL RJx35411 13 2 1 := ⟨_, rfl, by decide, in_ctx 1100 (by decide +kernel) rfl⟩
theorem fwJx35411_13 : FLw RJx35411 13 2 1 .int false := ⟨_, rfl, by decide, in_ctx 1100 (by decide +kernel) rfl, by decide +kernel, by decide +kernel, fun h => nomatch h⟩
theorem flJx35411_22 : FL RJx35411 22 2 2 := ⟨_, rfl, by decide, in_ctx 1101 (by decide +kernel) rfl⟩
theorem fwJx35411_22 : FLw RJx35411 22 2 2 .int false := ⟨_, rfl, by decide, in_ctx 1101 (by decide +kernel) rfl, by decide +kernel, by decide +kernel, fun h => nomatch h⟩
theorem flJx35411_1 : FL RJx35411 1 2 3 := ⟨_, rfl, by decide, in_ctx 1102 (by decide +kernel) rfl⟩
theorem flX10_7 : FL RX10 7 14 0 := ⟨_, rfl, by decide, in_ctx 1373 (by decide +kernel) rfl⟩
theorem flL_180 : FL RL 180 14 0 := ⟨_, rfl, by decide, in_ctx 1374 (by decide +kernel) rfl⟩
theorem flX12_163 : FL RX12 163 14 0 := ⟨_, rfl, by decide, in_ctx 1375 (by decide +kernel) rfl⟩
theorem flX10_13 : FL RX10 13 14 1 := ⟨_, rfl, by decide, in_ctx 1376 (by decide +kernel) rfl⟩
theorem flL_235 : FL RL 235 14 1 := ⟨_, rfl, by decide, in_ctx 1377 (by decide +kernel) rfl⟩
theorem flX12_170 : FL RX12 170 14 1 := ⟨_, rfl, by decide, in_ctx 1378 (by decide +kernel) rfl⟩
theorem flX10_22 : FL RX10 22 14 2 := ⟨_, rfl, by decide, in_ctx 1379 (by decide +kernel) rfl⟩
theorem fwX10_22 : FLw RX10 22 14 2 .int false := ⟨_, rfl, by decide, in_ctx 1379 (by decide +kernel) rfl, by decide +kernel, by decide +kernel, fun h => nomatch h⟩
theorem flL_238 : FL RL 238 14 2 := ⟨_, rfl, by decide, in_ctx 1380 (by decide +kernel) rfl⟩
theorem fwL_238 : FLw RL 238 14 2 .int false := ⟨_, rfl, by decide, in_ctx 1380 (by decide +kernel) rfl, by decide +kernel, by decide +kernel, fun h => nomatch h⟩
theorem flX12_151 : FL RX12 151 14 2 := ⟨_, rfl, by decide, in_ctx 1381 (by decide +kernel) rfl⟩
theorem fwX12_151 : FLw RX12 151 14 2 .int false := ⟨_, rfl, by decide, in_ctx 1381 (by decide +kernel) rfl, by decide +kernel, by decide +kernel, fun h => nomatch h⟩
theorem flX10_25 : FL RX10 25 14 3 := ⟨_, rfl, by decide, in_ctx 1382 (by decide +kernel) rfl⟩
theorem fwX10_25 : FLw RX10 25 14 3 .int false := ⟨_, rfl, by decide, in_ctx 1382 (by decide +kernel) rfl, by decide +kernel, by decide +kernel, fun h => nomatch h⟩
theorem flL_239 : FL RL 239 14 3 := ⟨_, rfl, by decide, in_ctx 1383 (by decide +kernel) rfl⟩
theorem fwL_239 : FLw RL 239 14 3 .int false := ⟨_, rfl, by decide, in_ctx 1383 (by decide +kernel) rfl, by decide +kernel, by decide +kernel, fun h => nomatch h⟩
theorem flX12_150 : FL RX12 150 14 3 := ⟨_, rfl, by decide, in_ctx 1384 (by decide +kernel) rfl⟩
theorem fwX12_150 : FLw RX12 150 14 3 .int false := ⟨_, rfl, by decide, in_ctx 1384 (by decide +kernel) rfl, by decide +kernel, by decide +kernel, fun h => nomatch h⟩
theorem flX10_28 : FL RX10 28 14 4 := ⟨_, rfl, by decide, in_ctx 1385 (by decide +kernel) rfl⟩
theorem fwX10_28 : FLw RX10 28 14 4 .int false := ⟨_, rfl, by decide, in_ctx 1385 (by decide +kernel) rfl, by decide +kernel, by decide +kernel, fun h => nomatch h⟩
theorem flL_240 : FL RL 240 14 4 := ⟨_, rfl, by decide, in_ctx 1386 (by decide +kernel) rfl⟩
theorem fwL_240 : FLw RL 240 14 4 .int false := ⟨_, rfl, by decide, in_ctx 1386 (by decide +kernel) rfl, by decide +kernel, by decide +kernel, fun h => nomatch h⟩
theorem flX12_154 : FL RX12 154 14 4 := ⟨_, rfl, by decide, in_ctx 1387 (by decide +kernel) rfl⟩
theorem fwX12_154 : FLw RX12 154 14 4 .int false := ⟨_, rfl, by decide, in_ctx 1387 (by decide +kernel) rfl, by decide +kernel, by decide +kernel, fun h => nomatch h⟩
theorem flX10_31 : FL RX10 31 14 5 := ⟨_, rfl, by decide, in_ctx 1388 (by decide +kernel) rfl⟩
theorem fwX10_31 : FLw RX10 31 14 5 .int false := ⟨_, rfl, by decide, in_ctx 1388 (by decide +kernel) rfl, by decide +kernel, by decide +kernel, fun h => nomatch h⟩
theorem flL_177 : FL RL 177 14 5 := ⟨_, rfl, by decide, in_ctx 1389 (by decide +kernel) rfl⟩
theorem fwL_177 : FLw RL 177 14 5 .int false := ⟨_, rfl, by decide, in_ctx 1389 (by decide +kernel) rfl, by decide +kernel, by decide +kernel, fun h => nomatch h⟩
theorem flX12_147 : FL RX12 147 14 5 := ⟨_, rfl, by decide, in_ctx 1390 (by decide +kernel) rfl⟩
theorem fwX12_147 : FLw RX12 147 14 5 .int false := ⟨_, rfl, by decide, in_ctx 1390 (by decide +kernel) rfl, by decide +kernel, by decide +kernel, fun h => nomatch h⟩
theorem flX10_16 : FL RX10 16 14 6 := ⟨_, rfl, by decide, in_ctx 1391 (by decide +kernel) rfl⟩
theorem fwX10_16 : FLw RX10 16 14 6 .int false := ⟨_, rfl, by decide, in_ctx 1391 (by decide +kernel) rfl, by decide +kernel, by decide +kernel, fun h => nomatch h⟩
theorem flL_247 : FL RL 247 14 6 := ⟨_, rfl, by decide, in_ctx 1392 (by decide +kernel) rfl⟩
theorem fwL_247 : FLw RL 247 14 6 .int false := ⟨_, rfl, by decide, in_ctx 1392 (by decide +kernel) rfl, by decide +kernel, by decide +kernel, fun h => nomatch h⟩
theorem flX12_235 : FL RX12 235 14 6 := ⟨_, rfl, by decide, in_ctx 1393 (by decide +kernel) rfl⟩
theorem fwX12_235 : FLw RX12 235 14 6 .int false := ⟨_, rfl, by decide, in_ctx 1393 (by decide +kernel) rfl, by decide +kernel, by decide +kernel, fun h => nomatch h⟩
theorem flJ5_15 : FL RJ5 15 1 0 := ⟨_, rfl, by decide, in_ctx 1660 (by decide +kernel) rfl⟩
theorem flJ5_22 : FL RJ5 22 1 1 := ⟨_, rfl, by decide, in_ctx 1661 (by decide +kernel) rfl⟩
theorem flJ0_1048 : FL RJ0 1048 1 2 := ⟨_, rfl, by decide, in_ctx 1662 (by decide +kernel) rfl⟩
theorem fwJ0_1048 : FLw RJ0 1048 1 2 .boolean false := ⟨_, rfl, by decide, in_ctx 1662 (by decide +kernel) rfl, by decide +kernel, by decide +kernel, fun h => nomatch h⟩
theorem flJ5_79 : FL RJ5 79 1 3 := ⟨_, rfl, by decide, in_ctx 1663 (by decide +kernel) rfl⟩
theorem fwJ5_79 : FLw RJ5 79 1 3 .int false := ⟨_, rfl, by decide, in_ctx 1663 (by decide +kernel) rfl, by decide +kernel, by decide +kernel, fun h => nomatch h⟩
theorem flJ0_9 : FL RJ0 9 0 0 := ⟨_, rfl, by decide, in_ctx 1737 (by decide +kernel) rfl⟩
theorem flJ0_15 : FL RJ0 15 0 1 := ⟨_, rfl, by decide, in_ctx 1738 (by decide +kernel) rfl⟩
theorem lkL_355 : LI RL 355 yX7_init 0 := ⟨in_ctx 38 (by decide +kernel) rfl, rfl, in_ctx 39 (by decide +kernel) rfl, in_ctx 1 (by decide +kernel) rfl, by decide +kernel, by decide +kernel, by decide +kernel⟩
theorem lkX7_11 : LI RX7 11 yX2_init 0 := ⟨in_ctx 48 (by decide +kernel) rfl, rfl, in_ctx 49 (by decide +kernel) rfl, in_ctx 3 (by decide +kernel) rfl, by decide +kernel, by decide +kernel, by decide +kernel⟩
theorem lkX2_49 : LSt RX2 49 yJ7_fill_53178 2 := ⟨in_ctx 52 (by decide +kernel) rfl, in_ctx 53 (by decide +kernel) rfl, in_ctx 4 (by decide +kernel) rfl, by decide +kernel, by decide +kernel, by decide +kernel⟩
theorem lkX7_12 : LI RX7 12 yX6_init 1 := ⟨in_ctx 137 (by decide +kernel) rfl, rfl, in_ctx 138 (by decide +kernel) rfl, in_ctx 2 (by decide +kernel) rfl, by decide +kernel, by decide +kernel, by decide +kernel⟩
theorem lkX3_13 : LI RX3 13 yX2_init 0 := ⟨in_ctx 318 (by decide +kernel) rfl, rfl, in_ctx 49 (by decide +kernel) rfl, in_ctx 3 (by decide +kernel) rfl, by decide +kernel, by decide +kernel, by decide +kernel⟩
theorem lkX3_14 : LI RX3 14 yX6_init 1 := ⟨in_ctx 319 (by decide +kernel) rfl, rfl, in_ctx 138 (by decide +kernel) rfl, in_ctx 2 (by decide +kernel) rfl, by decide +kernel, by decide +kernel, by decide +kernel⟩
theorem lkX7_37 : LI RX7 37 yX0_init 0 := ⟨in_ctx 352 (by decide +kernel) rfl, rfl, in_ctx 353 (by decide +kernel) rfl, in_ctx 9 (by decide +kernel) rfl, by decide +kernel, by decide +kernel, by decide +kernel⟩
theorem lkL_382 : LV RL 382 yX7_loadError 0 := ⟨in_ctx 391 (by decide +kernel) rfl, in_ctx 392 (by decide +kernel) rfl, in_ctx 393 (by decide +kernel) rfl, in_ctx 1 (by decide +kernel) rfl, by decide +kernel, by decide +kernel, by decide +kernel⟩
theorem lkL_385 : LV RL 385 yX7_loadStatement 0 := ⟨in_ctx 395 (by decide +kernel) rfl, in_ctx 396 (by decide +kernel) rfl, in_ctx 397 (by decide +kernel) rfl, in_ctx 1 (by decide +kernel) rfl, by decide +kernel, by decide +kernel, by decide +kernel⟩
theorem lkL_366 : LV RL 366 yX7_usedPart 0 := ⟨in_ctx 399 (by decide +kernel) rfl, in_ctx 400 (by decide +kernel) rfl, in_ctx 401 (by decide +kernel) rfl, in_ctx 1 (by decide +kernel) rfl, by decide +kernel, by decide +kernel, by decide +kernel⟩
theorem lkL_360 : LV RL 360 yX7_neediest 0 := ⟨in_ctx 403 (by decide +kernel) rfl, in_ctx 404 (by decide +kernel) rfl, in_ctx 405 (by decide +kernel) rfl, in_ctx 1 (by decide +kernel) rfl, by decide +kernel, by decide +kernel, by decide +kernel⟩
theorem lkX7_310 : LV RX7 310 yX4_aboveReserve 1 := ⟨in_ctx 407 (by decide +kernel) rfl, in_ctx 408 (by decide +kernel) rfl, in_ctx 409 (by decide +kernel) rfl, in_ctx 5 (by decide +kernel) rfl, by decide +kernel, by decide +kernel, by decide +kernel⟩
theorem lkL_363 : LV RL 363 yX7_richest 0 := ⟨in_ctx 411 (by decide +kernel) rfl, in_ctx 412 (by decide +kernel) rfl, in_ctx 413 (by decide +kernel) rfl, in_ctx 1 (by decide +kernel) rfl, by decide +kernel, by decide +kernel, by decide +kernel⟩
theorem lkL_275 : LV RL 275 yX7_undo 0 := ⟨in_ctx 415 (by decide +kernel) rfl, in_ctx 416 (by decide +kernel) rfl, in_ctx 417 (by decide +kernel) rfl, in_ctx 1 (by decide +kernel) rfl, by decide +kernel, by decide +kernel, by decide +kernel⟩
theorem lkX7_317 : LV RX7 317 yX0_popInto 1 := ⟨in_ctx 419 (by decide +kernel) rfl, in_ctx 420 (by decide +kernel) rfl, in_ctx 421 (by decide +kernel) rfl, in_ctx 9 (by decide +kernel) rfl, by decide +kernel, by decide +kernel, by decide +kernel⟩
theorem lkX0_25 : LV RX0 25 yX4_copyFrom 1 := ⟨in_ctx 423 (by decide +kernel) rfl, in_ctx 424 (by decide +kernel) rfl, in_ctx 425 (by decide +kernel) rfl, in_ctx 5 (by decide +kernel) rfl, by decide +kernel, by decide +kernel, by decide +kernel⟩
theorem lkX7_277 : LSt RX7 277 yJ9_min_7cf53 2 := ⟨in_ctx 430 (by decide +kernel) rfl, in_ctx 431 (by decide +kernel) rfl, in_ctx 22 (by decide +kernel) rfl, by decide +kernel, by decide +kernel, by decide +kernel⟩
theorem lkX4_72 : LV RX4 72 yX5_copyFrom 1 := ⟨in_ctx 436 (by decide +kernel) rfl, in_ctx 437 (by decide +kernel) rfl, in_ctx 438 (by decide +kernel) rfl, in_ctx 6 (by decide +kernel) rfl, by decide +kernel, by decide +kernel, by decide +kernel⟩
theorem lkX4_76 : LV RX4 76 yX1_copyFrom 1 := ⟨in_ctx 441 (by decide +kernel) rfl, in_ctx 442 (by decide +kernel) rfl, in_ctx 443 (by decide +kernel) rfl, in_ctx 7 (by decide +kernel) rfl, by decide +kernel, by decide +kernel, by decide +kernel⟩
theorem lkX12_18 : LI RX12 18 yJx4a65c_init_da8c8 0 := ⟨in_ctx 454 (by decide +kernel) rfl, rfl, in_ctx 455 (by decide +kernel) rfl, in_ctx 13 (by decide +kernel) rfl, by decide +kernel, by decide +kernel, by decide +kernel⟩
theorem lkJx4a65c_1 : LI RJx4a65c 1 yJxc12de_init_da8c8 0 := ⟨in_ctx 457 (by decide +kernel) rfl, rfl, in_ctx 458 (by decide +kernel) rfl, in_ctx 12 (by decide +kernel) rfl, by decide +kernel, by decide +kernel, by decide +kernel⟩
theorem lkJxc12de_1 : LI RJxc12de 1 yJxa1e45_init_da8c8 0 := ⟨in_ctx 460 (by decide +kernel) rfl, rfl, in_ctx 461 (by decide +kernel) rfl, in_ctx 11 (by decide +kernel) rfl, by decide +kernel, by decide +kernel, by decide +kernel⟩
theorem lkL_30 : LSt RL 30 yL_at 2 := ⟨in_ctx 538 (by decide +kernel) rfl, in_ctx 539 (by decide +kernel) rfl, in_ctx 0 (by decide +kernel) rfl, by decide +kernel, by decide +kernel, by decide +kernel⟩
theorem lkL_379 : LSt RL 379 yL_load 2 := ⟨in_ctx 542 (by decide +kernel) rfl, in_ctx 543 (by decide +kernel) rfl, in_ctx 0 (by decide +kernel) rfl, by decide +kernel, by decide +kernel, by decide +kernel⟩
theorem lkL_8 : LV RL 8 yJ0_length_8abf5 0 := ⟨in_ctx 545 (by decide +kernel) rfl, in_ctx 546 (by decide +kernel) rfl, in_ctx 547 (by decide +kernel) rfl, in_ctx 26 (by decide +kernel) rfl, by decide +kernel, by decide +kernel, by decide +kernel⟩
theorem lkJ0_335 : LV RJ0 335 yJ0_coder_7d493 0 := ⟨in_ctx 549 (by decide +kernel) rfl, in_ctx 550 (by decide +kernel) rfl, in_ctx 551 (by decide +kernel) rfl, in_ctx 26 (by decide +kernel) rfl, by decide +kernel, by decide +kernel, by decide +kernel⟩
theorem lkL_14 : LV RL 14 yJ0_charAt_5068e 1 := ⟨in_ctx 555 (by decide +kernel) rfl, in_ctx 556 (by decide +kernel) rfl, in_ctx 557 (by decide +kernel) rfl, in_ctx 26 (by decide +kernel) rfl, by decide +kernel, by decide +kernel, by decide +kernel⟩
theorem lkJ0_492 : LV RJ0 492 yJ0_isLatin1_aae02 0 := ⟨in_ctx 559 (by decide +kernel) rfl, in_ctx 560 (by decide +kernel) rfl, in_ctx 561 (by decide +kernel) rfl, in_ctx 26 (by decide +kernel) rfl, by decide +kernel, by decide +kernel, by decide +kernel⟩
theorem lkJ0_495 : LSt RJ0 495 yJ1_charAt_3b067 2 := ⟨in_ctx 563 (by decide +kernel) rfl, in_ctx 564 (by decide +kernel) rfl, in_ctx 29 (by decide +kernel) rfl, by decide +kernel, by decide +kernel, by decide +kernel⟩
theorem lkJ1_9 : LSt RJ1 9 yJ0_checkIndex_df160 2 := ⟨in_ctx 566 (by decide +kernel) rfl, in_ctx 567 (by decide +kernel) rfl, in_ctx 26 (by decide +kernel) rfl, by decide +kernel, by decide +kernel, by decide +kernel⟩
theorem lkJ0_1059 : LSt RJ0 1059 yJ3_checkIndex_8e157 3 := ⟨in_ctx 571 (by decide +kernel) rfl, in_ctx 572 (by decide +kernel) rfl, in_ctx 20 (by decide +kernel) rfl, by decide +kernel, by decide +kernel, by decide +kernel⟩
theorem lkJ0_498 : LSt RJ0 498 yJ2_charAt_3b067 2 := ⟨in_ctx 574 (by decide +kernel) rfl, in_ctx 575 (by decide +kernel) rfl, in_ctx 27 (by decide +kernel) rfl, by decide +kernel, by decide +kernel, by decide +kernel⟩
theorem lkJ2_67 : LSt RJ2 67 yJ2_checkIndex_2214a 2 := ⟨in_ctx 577 (by decide +kernel) rfl, in_ctx 578 (by decide +kernel) rfl, in_ctx 27 (by decide +kernel) rfl, by decide +kernel, by decide +kernel, by decide +kernel⟩
theorem lkJ2_48 : LSt RJ2 48 yJ2_length_9d52b 1 := ⟨in_ctx 580 (by decide +kernel) rfl, in_ctx 581 (by decide +kernel) rfl, in_ctx 27 (by decide +kernel) rfl, by decide +kernel, by decide +kernel, by decide +kernel⟩
theorem lkJ2_414 : LSt RJ2 414 yJ0_checkIndex_df160 2 := ⟨in_ctx 583 (by decide +kernel) rfl, in_ctx 567 (by decide +kernel) rfl, in_ctx 26 (by decide +kernel) rfl, by decide +kernel, by decide +kernel, by decide +kernel⟩
theorem lkJ2_71 : LSt RJ2 71 yJ2_getChar_3b067 2 := ⟨in_ctx 584 (by decide +kernel) rfl, in_ctx 585 (by decide +kernel) rfl, in_ctx 27 (by decide +kernel) rfl, by decide +kernel, by decide +kernel, by decide +kernel⟩
theorem lkL_18 : LV RL 18 yX7_append 1 := ⟨in_ctx 593 (by decide +kernel) rfl, in_ctx 594 (by decide +kernel) rfl, in_ctx 595 (by decide +kernel) rfl, in_ctx 1 (by decide +kernel) rfl, by decide +kernel, by decide +kernel, by decide +kernel⟩
theorem lkX7_50 : LV RX7 50 yX3_takeIn 1 := ⟨in_ctx 597 (by decide +kernel) rfl, in_ctx 598 (by decide +kernel) rfl, in_ctx 599 (by decide +kernel) rfl, in_ctx 8 (by decide +kernel) rfl, by decide +kernel, by decide +kernel, by decide +kernel⟩
theorem lkL_24 : LV RL 24 yX7_load 0 := ⟨in_ctx 601 (by decide +kernel) rfl, in_ctx 602 (by decide +kernel) rfl, in_ctx 603 (by decide +kernel) rfl, in_ctx 1 (by decide +kernel) rfl, by decide +kernel, by decide +kernel, by decide +kernel⟩
theorem lkX7_54 : LV RX7 54 yX3_readText 0 := ⟨in_ctx 605 (by decide +kernel) rfl, in_ctx 606 (by decide +kernel) rfl, in_ctx 607 (by decide +kernel) rfl, in_ctx 8 (by decide +kernel) rfl, by decide +kernel, by decide +kernel, by decide +kernel⟩
theorem lkX3_35 : LV RX3 35 yX2_clear 0 := ⟨in_ctx 609 (by decide +kernel) rfl, in_ctx 610 (by decide +kernel) rfl, in_ctx 611 (by decide +kernel) rfl, in_ctx 3 (by decide +kernel) rfl, by decide +kernel, by decide +kernel, by decide +kernel⟩
theorem lkX3_42 : LV RX3 42 yX4_clear 0 := ⟨in_ctx 613 (by decide +kernel) rfl, in_ctx 614 (by decide +kernel) rfl, in_ctx 615 (by decide +kernel) rfl, in_ctx 5 (by decide +kernel) rfl, by decide +kernel, by decide +kernel, by decide +kernel⟩
theorem lkX3_57 : LV RX3 57 yX3_readStatement 0 := ⟨in_ctx 617 (by decide +kernel) rfl, in_ctx 619 (by decide +kernel) rfl, in_sel 0 8 (by decide +kernel), in_ctx 8 (by decide +kernel) rfl, by decide +kernel, by decide +kernel, by decide +kernel⟩
theorem lkX3_64 : LV RX3 64 yX3_skipSpaces 0 := ⟨in_ctx 621 (by decide +kernel) rfl, in_ctx 623 (by decide +kernel) rfl, in_sel 1 8 (by decide +kernel), in_ctx 8 (by decide +kernel) rfl, by decide +kernel, by decide +kernel, by decide +kernel⟩
theorem lkX3_71 : LV RX3 71 yX3_kindOfWord 2 := ⟨in_ctx 625 (by decide +kernel) rfl, in_ctx 627 (by decide +kernel) rfl, in_sel 2 8 (by decide +kernel), in_ctx 8 (by decide +kernel) rfl, by decide +kernel, by decide +kernel, by decide +kernel⟩
theorem lkX3_102 : LV RX3 102 yX3_isWord 3 := ⟨in_ctx 630 (by decide +kernel) rfl, in_ctx 632 (by decide +kernel) rfl, in_sel 3 8 (by decide +kernel), in_ctx 8 (by decide +kernel) rfl, by decide +kernel, by decide +kernel, by decide +kernel⟩
theorem lkX3_118 : LV RX3 118 yJ0_length_8abf5 0 := ⟨in_ctx 634 (by decide +kernel) rfl, in_ctx 546 (by decide +kernel) rfl, in_ctx 547 (by decide +kernel) rfl, in_ctx 26 (by decide +kernel) rfl, by decide +kernel, by decide +kernel, by decide +kernel⟩
theorem lkX3_123 : LV RX3 123 yJ0_charAt_5068e 1 := ⟨in_ctx 635 (by decide +kernel) rfl, in_ctx 556 (by decide +kernel) rfl, in_ctx 557 (by decide +kernel) rfl, in_ctx 26 (by decide +kernel) rfl, by decide +kernel, by decide +kernel, by decide +kernel⟩
theorem lkX3_67 : LV RX3 67 yX3_fail 2 := ⟨in_ctx 642 (by decide +kernel) rfl, in_ctx 644 (by decide +kernel) rfl, in_sel 4 8 (by decide +kernel), in_ctx 8 (by decide +kernel) rfl, by decide +kernel, by decide +kernel, by decide +kernel⟩
theorem lkX3_75 : LV RX3 75 yX3_isFull 1 := ⟨in_ctx 646 (by decide +kernel) rfl, in_ctx 648 (by decide +kernel) rfl, in_sel 5 8 (by decide +kernel), in_ctx 8 (by decide +kernel) rfl, by decide +kernel, by decide +kernel, by decide +kernel⟩
theorem lkX3_79 : LV RX3 79 yX3_readPacks 0 := ⟨in_ctx 650 (by decide +kernel) rfl, in_ctx 652 (by decide +kernel) rfl, in_sel 6 8 (by decide +kernel), in_ctx 8 (by decide +kernel) rfl, by decide +kernel, by decide +kernel, by decide +kernel⟩
theorem lkX3_157 : LV RX3 157 yX3_nextNumber 2 := ⟨in_ctx 654 (by decide +kernel) rfl, in_ctx 656 (by decide +kernel) rfl, in_sel 7 8 (by decide +kernel), in_ctx 8 (by decide +kernel) rfl, by decide +kernel, by decide +kernel, by decide +kernel⟩
theorem lkX3_153 : LV RX3 153 yX3_digitIsNext 0 := ⟨in_ctx 658 (by decide +kernel) rfl, in_ctx 660 (by decide +kernel) rfl, in_sel 8 8 (by decide +kernel), in_ctx 8 (by decide +kernel) rfl, by decide +kernel, by decide +kernel, by decide +kernel⟩
theorem lkX3_82 : LV RX3 82 yX3_readCurve 0 := ⟨in_ctx 663 (by decide +kernel) rfl, in_ctx 665 (by decide +kernel) rfl, in_sel 9 8 (by decide +kernel), in_ctx 8 (by decide +kernel) rfl, by decide +kernel, by decide +kernel, by decide +kernel⟩
theorem lkX3_85 : LV RX3 85 yX3_readPack 0 := ⟨in_ctx 667 (by decide +kernel) rfl, in_ctx 669 (by decide +kernel) rfl, in_sel 10 8 (by decide +kernel), in_ctx 8 (by decide +kernel) rfl, by decide +kernel, by decide +kernel, by decide +kernel⟩
theorem lkX3_171 : LV RX3 171 yX4_beginPack 2 := ⟨in_ctx 672 (by decide +kernel) rfl, in_ctx 673 (by decide +kernel) rfl, in_ctx 674 (by decide +kernel) rfl, in_ctx 5 (by decide +kernel) rfl, by decide +kernel, by decide +kernel, by decide +kernel⟩
theorem lkX3_174 : LV RX3 174 yX2_addPack 2 := ⟨in_ctx 676 (by decide +kernel) rfl, in_ctx 677 (by decide +kernel) rfl, in_ctx 678 (by decide +kernel) rfl, in_ctx 3 (by decide +kernel) rfl, by decide +kernel, by decide +kernel, by decide +kernel⟩
theorem lkX3_88 : LV RX3 88 yX3_readCable 0 := ⟨in_ctx 680 (by decide +kernel) rfl, in_ctx 682 (by decide +kernel) rfl, in_sel 11 8 (by decide +kernel), in_ctx 8 (by decide +kernel) rfl, by decide +kernel, by decide +kernel, by decide +kernel⟩
theorem lkX3_177 : LV RX3 177 yX3_nextPack 0 := ⟨in_ctx 684 (by decide +kernel) rfl, in_ctx 686 (by decide +kernel) rfl, in_sel 12 8 (by decide +kernel), in_ctx 8 (by decide +kernel) rfl, by decide +kernel, by decide +kernel, by decide +kernel⟩
theorem lkX3_180 : LV RX3 180 yX2_cableBetween 2 := ⟨in_ctx 688 (by decide +kernel) rfl, in_ctx 689 (by decide +kernel) rfl, in_ctx 690 (by decide +kernel) rfl, in_ctx 3 (by decide +kernel) rfl, by decide +kernel, by decide +kernel, by decide +kernel⟩
theorem lkX3_183 : LV RX3 183 yX4_beginCable 3 := ⟨in_ctx 692 (by decide +kernel) rfl, in_ctx 693 (by decide +kernel) rfl, in_ctx 694 (by decide +kernel) rfl, in_ctx 5 (by decide +kernel) rfl, by decide +kernel, by decide +kernel, by decide +kernel⟩
theorem lkX3_187 : LV RX3 187 yX2_addCable 2 := ⟨in_ctx 696 (by decide +kernel) rfl, in_ctx 697 (by decide +kernel) rfl, in_ctx 698 (by decide +kernel) rfl, in_ctx 3 (by decide +kernel) rfl, by decide +kernel, by decide +kernel, by decide +kernel⟩
theorem lkX3_91 : LV RX3 91 yX3_readSun 0 := ⟨in_ctx 700 (by decide +kernel) rfl, in_ctx 702 (by decide +kernel) rfl, in_sel 13 8 (by decide +kernel), in_ctx 8 (by decide +kernel) rfl, by decide +kernel, by decide +kernel, by decide +kernel⟩
theorem lkX3_190 : LV RX3 190 yX2_addSun 4 := ⟨in_ctx 704 (by decide +kernel) rfl, in_ctx 705 (by decide +kernel) rfl, in_ctx 706 (by decide +kernel) rfl, in_ctx 3 (by decide +kernel) rfl, by decide +kernel, by decide +kernel, by decide +kernel⟩
theorem lkX3_94 : LV RX3 94 yX3_readTrip 0 := ⟨in_ctx 708 (by decide +kernel) rfl, in_ctx 710 (by decide +kernel) rfl, in_sel 14 8 (by decide +kernel), in_ctx 8 (by decide +kernel) rfl, by decide +kernel, by decide +kernel, by decide +kernel⟩
theorem lkX3_194 : LV RX3 194 yX5_add 3 := ⟨in_ctx 712 (by decide +kernel) rfl, in_ctx 713 (by decide +kernel) rfl, in_ctx 714 (by decide +kernel) rfl, in_ctx 6 (by decide +kernel) rfl, by decide +kernel, by decide +kernel, by decide +kernel⟩
theorem lkX3_97 : LV RX3 97 yX3_readContract 0 := ⟨in_ctx 716 (by decide +kernel) rfl, in_ctx 718 (by decide +kernel) rfl, in_sel 15 8 (by decide +kernel), in_ctx 8 (by decide +kernel) rfl, by decide +kernel, by decide +kernel, by decide +kernel⟩
theorem lkX3_60 : LV RX3 60 yX3_passSemicolon 0 := ⟨in_ctx 720 (by decide +kernel) rfl, in_ctx 722 (by decide +kernel) rfl, in_sel 16 8 (by decide +kernel), in_ctx 8 (by decide +kernel) rfl, by decide +kernel, by decide +kernel, by decide +kernel⟩
theorem lkX7_67 : LV RX7 67 yX6_copyFrom 1 := ⟨in_ctx 724 (by decide +kernel) rfl, in_ctx 725 (by decide +kernel) rfl, in_ctx 726 (by decide +kernel) rfl, in_ctx 2 (by decide +kernel) rfl, by decide +kernel, by decide +kernel, by decide +kernel⟩
theorem lkX6_22 : LV RX6 22 yX2_copyFrom 1 := ⟨in_ctx 728 (by decide +kernel) rfl, in_ctx 729 (by decide +kernel) rfl, in_ctx 730 (by decide +kernel) rfl, in_ctx 3 (by decide +kernel) rfl, by decide +kernel, by decide +kernel, by decide +kernel⟩
theorem lkX6_28 : LV RX6 28 yX4_copyFrom 1 := ⟨in_ctx 733 (by decide +kernel) rfl, in_ctx 424 (by decide +kernel) rfl, in_ctx 425 (by decide +kernel) rfl, in_ctx 5 (by decide +kernel) rfl, by decide +kernel, by decide +kernel, by decide +kernel⟩
theorem lkX7_71 : LV RX7 71 yX0_clear 0 := ⟨in_ctx 734 (by decide +kernel) rfl, in_ctx 735 (by decide +kernel) rfl, in_ctx 736 (by decide +kernel) rfl, in_ctx 9 (by decide +kernel) rfl, by decide +kernel, by decide +kernel, by decide +kernel⟩
theorem lkL_371 : LSt RL 371 yL_drawn 3 := ⟨in_ctx 738 (by decide +kernel) rfl, in_ctx 739 (by decide +kernel) rfl, in_ctx 0 (by decide +kernel) rfl, by decide +kernel, by decide +kernel, by decide +kernel⟩
theorem lkL_45 : LV RL 45 yJ4_append_15ec4 1 := ⟨in_ctx 742 (by decide +kernel) rfl, in_ctx 743 (by decide +kernel) rfl, in_ctx 744 (by decide +kernel) rfl, in_ctx 25 (by decide +kernel) rfl, by decide +kernel, by decide +kernel, by decide +kernel⟩
theorem lkJ5_114 : LSt RJ5 114 yJ8_newLength_cabcc 3 := ⟨in_ctx 762 (by decide +kernel) rfl, in_ctx 763 (by decide +kernel) rfl, in_ctx 28 (by decide +kernel) rfl, by decide +kernel, by decide +kernel, by decide +kernel⟩
theorem lkJ8_194 : LSt RJ8 194 yJ9_max_7cf53 2 := ⟨in_ctx 765 (by decide +kernel) rfl, in_ctx 766 (by decide +kernel) rfl, in_ctx 22 (by decide +kernel) rfl, by decide +kernel, by decide +kernel, by decide +kernel⟩
theorem lkJ8_201 : LSt RJ8 201 yJ8_hugeLength_7cf53 2 := ⟨in_ctx 769 (by decide +kernel) rfl, in_ctx 770 (by decide +kernel) rfl, in_ctx 28 (by decide +kernel) rfl, by decide +kernel, by decide +kernel, by decide +kernel⟩
theorem lkJ5_108 : LSt RJ5 108 yJ7_copyOf_9075b 2 := ⟨in_ctx 773 (by decide +kernel) rfl, in_ctx 774 (by decide +kernel) rfl, in_ctx 4 (by decide +kernel) rfl, by decide +kernel, by decide +kernel, by decide +kernel⟩
theorem lkJ7_304 : LSt RJ7 304 yJ9_min_7cf53 2 := ⟨in_ctx 783 (by decide +kernel) rfl, in_ctx 431 (by decide +kernel) rfl, in_ctx 22 (by decide +kernel) rfl, by decide +kernel, by decide +kernel, by decide +kernel⟩
theorem lkJ5_226 : LSt RJ5 226 yJ2_putCharsAt_cd4e5 6 := ⟨in_ctx 791 (by decide +kernel) rfl, in_ctx 792 (by decide +kernel) rfl, in_ctx 27 (by decide +kernel) rfl, by decide +kernel, by decide +kernel, by decide +kernel⟩
theorem lkJ2_96 : LSt RJ2 96 yJ2_checkBoundsBeginEnd_d044e 3 := ⟨in_ctx 794 (by decide +kernel) rfl, in_ctx 795 (by decide +kernel) rfl, in_ctx 27 (by decide +kernel) rfl, by decide +kernel, by decide +kernel, by decide +kernel⟩
theorem lkJ2_241 : LSt RJ2 241 yJ0_checkBoundsBeginEnd_23922 3 := ⟨in_ctx 797 (by decide +kernel) rfl, in_ctx 798 (by decide +kernel) rfl, in_ctx 26 (by decide +kernel) rfl, by decide +kernel, by decide +kernel, by decide +kernel⟩
theorem lkJ0_1062 : LSt RJ0 1062 yJ3_checkFromToIndex_8c36e 4 := ⟨in_ctx 800 (by decide +kernel) rfl, in_ctx 801 (by decide +kernel) rfl, in_ctx 20 (by decide +kernel) rfl, by decide +kernel, by decide +kernel, by decide +kernel⟩
theorem lkJ2_111 : LSt RJ2 111 yJ2_putChar_b72d1 3 := ⟨in_ctx 803 (by decide +kernel) rfl, in_ctx 804 (by decide +kernel) rfl, in_ctx 27 (by decide +kernel) rfl, by decide +kernel, by decide +kernel, by decide +kernel⟩
theorem lkJ5_32 : LV RJ5 32 yJ0_length_8abf5 0 := ⟨in_ctx 806 (by decide +kernel) rfl, in_ctx 546 (by decide +kernel) rfl, in_ctx 547 (by decide +kernel) rfl, in_ctx 26 (by decide +kernel) rfl, by decide +kernel, by decide +kernel, by decide +kernel⟩
theorem lkJ5_40 : LV RJ5 40 yJ0_coder_7d493 0 := ⟨in_ctx 815 (by decide +kernel) rfl, in_ctx 550 (by decide +kernel) rfl, in_ctx 551 (by decide +kernel) rfl, in_ctx 26 (by decide +kernel) rfl, by decide +kernel, by decide +kernel, by decide +kernel⟩
theorem lkJ5_26 : LSt RJ5 26 yJ2_newBytesFor_77867 1 := ⟨in_ctx 820 (by decide +kernel) rfl, in_ctx 821 (by decide +kernel) rfl, in_ctx 27 (by decide +kernel) rfl, by decide +kernel, by decide +kernel, by decide +kernel⟩
theorem lkJ2_11 : LSt RJ2 11 yJ2_newBytesLength_0f7a4 1 := ⟨in_ctx 823 (by decide +kernel) rfl, in_ctx 824 (by decide +kernel) rfl, in_ctx 27 (by decide +kernel) rfl, by decide +kernel, by decide +kernel, by decide +kernel⟩
theorem lkJ5_125 : LSt RJ5 125 yJ1_inflate_0e8fd 5 := ⟨in_ctx 827 (by decide +kernel) rfl, in_ctx 828 (by decide +kernel) rfl, in_ctx 29 (by decide +kernel) rfl, by decide +kernel, by decide +kernel, by decide +kernel⟩
theorem lkJ1_240 : LSt RJ1 240 yJ2_inflate_0e8fd 5 := ⟨in_ctx 830 (by decide +kernel) rfl, in_ctx 831 (by decide +kernel) rfl, in_ctx 27 (by decide +kernel) rfl, by decide +kernel, by decide +kernel, by decide +kernel⟩
theorem lkJ2_173 : LSt RJ2 173 yJ2_checkBoundsOffCount_d044e 3 := ⟨in_ctx 833 (by decide +kernel) rfl, in_ctx 834 (by decide +kernel) rfl, in_ctx 27 (by decide +kernel) rfl, by decide +kernel, by decide +kernel, by decide +kernel⟩
theorem lkJ2_419 : LSt RJ2 419 yJ0_checkBoundsOffCount_cabcc 3 := ⟨in_ctx 836 (by decide +kernel) rfl, in_ctx 837 (by decide +kernel) rfl, in_ctx 26 (by decide +kernel) rfl, by decide +kernel, by decide +kernel, by decide +kernel⟩
theorem lkJ0_1065 : LSt RJ0 1065 yJ3_checkFromIndexSize_8c36e 4 := ⟨in_ctx 839 (by decide +kernel) rfl, in_ctx 840 (by decide +kernel) rfl, in_ctx 20 (by decide +kernel) rfl, by decide +kernel, by decide +kernel, by decide +kernel⟩
theorem lkJ5_399 : LV RJ5 399 yJ0_getBytes_840e7 3 := ⟨in_ctx 842 (by decide +kernel) rfl, in_ctx 843 (by decide +kernel) rfl, in_ctx 844 (by decide +kernel) rfl, in_ctx 26 (by decide +kernel) rfl, by decide +kernel, by decide +kernel, by decide +kernel⟩
theorem lkJ0_106 : LSt RJ0 106 yJ1_inflate_0e8fd 5 := ⟨in_ctx 847 (by decide +kernel) rfl, in_ctx 828 (by decide +kernel) rfl, in_ctx 29 (by decide +kernel) rfl, by decide +kernel, by decide +kernel, by decide +kernel⟩
theorem lkL_50 : LV RL 50 yJ4_append_bf812 1 := ⟨in_ctx 848 (by decide +kernel) rfl, in_ctx 849 (by decide +kernel) rfl, in_ctx 850 (by decide +kernel) rfl, in_ctx 25 (by decide +kernel) rfl, by decide +kernel, by decide +kernel, by decide +kernel⟩
theorem lkJ5_245 : LSt RJ5 245 yJ6_stringSize_0f7a4 1 := ⟨in_ctx 855 (by decide +kernel) rfl, in_ctx 856 (by decide +kernel) rfl, in_ctx 31 (by decide +kernel) rfl, by decide +kernel, by decide +kernel, by decide +kernel⟩
theorem lkJ5_248 : LSt RJ5 248 yJ6_getChars_ba4f3 3 := ⟨in_ctx 858 (by decide +kernel) rfl, in_ctx 859 (by decide +kernel) rfl, in_ctx 31 (by decide +kernel) rfl, by decide +kernel, by decide +kernel, by decide +kernel⟩
theorem lkJ5_251 : LSt RJ5 251 yJ2_getChars_46870 4 := ⟨in_ctx 865 (by decide +kernel) rfl, in_ctx 866 (by decide +kernel) rfl, in_ctx 27 (by decide +kernel) rfl, by decide +kernel, by decide +kernel, by decide +kernel⟩
theorem lkJ2_393 : LSt RJ2 393 yJ2_getChars_ba4f3 3 := ⟨in_ctx 868 (by decide +kernel) rfl, in_ctx 869 (by decide +kernel) rfl, in_ctx 27 (by decide +kernel) rfl, by decide +kernel, by decide +kernel, by decide +kernel⟩
theorem lkL_53 : LV RL 53 yJ4_append_cf468 1 := ⟨in_ctx 873 (by decide +kernel) rfl, in_ctx 874 (by decide +kernel) rfl, in_ctx 875 (by decide +kernel) rfl, in_ctx 25 (by decide +kernel) rfl, by decide +kernel, by decide +kernel, by decide +kernel⟩
theorem lkJ5_191 : LSt RJ5 191 yJ1_canEncode_fc78d 1 := ⟨in_ctx 880 (by decide +kernel) rfl, in_ctx 881 (by decide +kernel) rfl, in_ctx 29 (by decide +kernel) rfl, by decide +kernel, by decide +kernel, by decide +kernel⟩
theorem lkJ5_197 : LSt RJ5 197 yJ2_putCharSB_b72d1 3 := ⟨in_ctx 883 (by decide +kernel) rfl, in_ctx 884 (by decide +kernel) rfl, in_ctx 27 (by decide +kernel) rfl, by decide +kernel, by decide +kernel, by decide +kernel⟩
theorem lkL_60 : LV RL 60 yJx4a65c_add_9ea2d 1 := ⟨in_ctx 886 (by decide +kernel) rfl, in_ctx 887 (by decide +kernel) rfl, in_ctx 888 (by decide +kernel) rfl, in_ctx 13 (by decide +kernel) rfl, by decide +kernel, by decide +kernel, by decide +kernel⟩
theorem lkJx4a65c_131 : LV RJx4a65c 131 yJx4a65c_add_72be8 3 := ⟨in_ctx 890 (by decide +kernel) rfl, in_ctx 892 (by decide +kernel) rfl, in_sel 17 3 (by decide +kernel), in_ctx 13 (by decide +kernel) rfl, by decide +kernel, by decide +kernel, by decide +kernel⟩
theorem lkJx4a65c_129 : LV RJx4a65c 129 yJx4a65c_grow_d5877 0 := ⟨in_ctx 894 (by decide +kernel) rfl, in_ctx 896 (by decide +kernel) rfl, in_sel 18 3 (by decide +kernel), in_ctx 13 (by decide +kernel) rfl, by decide +kernel, by decide +kernel, by decide +kernel⟩
theorem lkJx4a65c_69 : LV RJx4a65c 69 yJx4a65c_grow_92f84 1 := ⟨in_ctx 898 (by decide +kernel) rfl, in_ctx 900 (by decide +kernel) rfl, in_sel 19 3 (by decide +kernel), in_ctx 13 (by decide +kernel) rfl, by decide +kernel, by decide +kernel, by decide +kernel⟩
theorem lkJx4a65c_73 : LSt RJx4a65c 73 yJ8_newLength_cabcc 3 := ⟨in_ctx 902 (by decide +kernel) rfl, in_ctx 763 (by decide +kernel) rfl, in_ctx 28 (by decide +kernel) rfl, by decide +kernel, by decide +kernel, by decide +kernel⟩
theorem lkJx4a65c_66 : LSt RJx4a65c 66 yJ7_copyOf_1904c 2 := ⟨in_ctx 903 (by decide +kernel) rfl, in_ctx 904 (by decide +kernel) rfl, in_ctx 4 (by decide +kernel) rfl, by decide +kernel, by decide +kernel, by decide +kernel⟩
theorem lkJ7_300 : LSt RJ7 300 yJ7_copyOf_6403c 3 := ⟨in_ctx 929 (by decide +kernel) rfl, in_ctx 930 (by decide +kernel) rfl, in_ctx 4 (by decide +kernel) rfl, by decide +kernel, by decide +kernel, by decide +kernel⟩
theorem lkJx4a65c_79 : LSt RJx4a65c 79 yJ9_max_7cf53 2 := ⟨in_ctx 935 (by decide +kernel) rfl, in_ctx 766 (by decide +kernel) rfl, in_ctx 22 (by decide +kernel) rfl, by decide +kernel, by decide +kernel, by decide +kernel⟩
theorem lkL_69 : LV RL 69 yJx4a65c_isEmpty_aae02 0 := ⟨in_ctx 939 (by decide +kernel) rfl, in_ctx 940 (by decide +kernel) rfl, in_ctx 941 (by decide +kernel) rfl, in_ctx 13 (by decide +kernel) rfl, by decide +kernel, by decide +kernel, by decide +kernel⟩
theorem lkL_73 : LV RL 73 yJx4a65c_size_8abf5 0 := ⟨in_ctx 943 (by decide +kernel) rfl, in_ctx 944 (by decide +kernel) rfl, in_ctx 945 (by decide +kernel) rfl, in_ctx 13 (by decide +kernel) rfl, by decide +kernel, by decide +kernel, by decide +kernel⟩
theorem lkL_78 : LI RL 78 yX11_init 3 := ⟨in_ctx 949 (by decide +kernel) rfl, rfl, in_ctx 950 (by decide +kernel) rfl, in_ctx 32 (by decide +kernel) rfl, by decide +kernel, by decide +kernel, by decide +kernel⟩
theorem lkL_97 : LI RL 97 yX8_init 4 := ⟨in_ctx 993 (by decide +kernel) rfl, rfl, in_ctx 994 (by decide +kernel) rfl, in_ctx 33 (by decide +kernel) rfl, by decide +kernel, by decide +kernel, by decide +kernel⟩
theorem lkL_130 : LV RL 130 yJx4a65c_get_915e3 1 := ⟨in_ctx 1034 (by decide +kernel) rfl, in_ctx 1035 (by decide +kernel) rfl, in_ctx 1036 (by decide +kernel) rfl, in_ctx 13 (by decide +kernel) rfl, by decide +kernel, by decide +kernel, by decide +kernel⟩
theorem lkJx4a65c_118 : LSt RJx4a65c 118 yJ15_checkIndex_7cf53 2 := ⟨in_ctx 1038 (by decide +kernel) rfl, in_ctx 1039 (by decide +kernel) rfl, in_ctx 19 (by decide +kernel) rfl, by decide +kernel, by decide +kernel, by decide +kernel⟩
theorem lkJ15_105 : LSt RJ15 105 yJ3_checkIndex_8e157 3 := ⟨in_ctx 1041 (by decide +kernel) rfl, in_ctx 572 (by decide +kernel) rfl, in_ctx 20 (by decide +kernel) rfl, by decide +kernel, by decide +kernel, by decide +kernel⟩
theorem lkJx4a65c_123 : LV RJx4a65c 123 yJx4a65c_elementData_915e3 1 := ⟨in_ctx 1042 (by decide +kernel) rfl, in_ctx 1043 (by decide +kernel) rfl, in_ctx 1044 (by decide +kernel) rfl, in_ctx 13 (by decide +kernel) rfl, by decide +kernel, by decide +kernel, by decide +kernel⟩
theorem lkL_136 : LI RL 136 yX9_init 5 := ⟨in_ctx 1048 (by decide +kernel) rfl, rfl, in_ctx 1049 (by decide +kernel) rfl, in_ctx 34 (by decide +kernel) rfl, by decide +kernel, by decide +kernel, by decide +kernel⟩
theorem lkL_356 : LSt RL 356 yL_isSame 2 := ⟨in_ctx 1083 (by decide +kernel) rfl, in_ctx 1084 (by decide +kernel) rfl, in_ctx 0 (by decide +kernel) rfl, by decide +kernel, by decide +kernel, by decide +kernel⟩
theorem lkL_183 : LSt RL 183 yL_open 2 := ⟨in_ctx 1086 (by decide +kernel) rfl, in_ctx 1087 (by decide +kernel) rfl, in_ctx 0 (by decide +kernel) rfl, by decide +kernel, by decide +kernel, by decide +kernel⟩
theorem lkL_162 : LV RL 162 yJx4a65c_iterator_32c93 0 := ⟨in_ctx 1089 (by decide +kernel) rfl, in_ctx 1090 (by decide +kernel) rfl, in_ctx 1091 (by decide +kernel) rfl, in_ctx 13 (by decide +kernel) rfl, by decide +kernel, by decide +kernel, by decide +kernel⟩
theorem lkJx4a65c_269 : LI RJx4a65c 269 yJx35411_init_45d68 1 := ⟨in_ctx 1095 (by decide +kernel) rfl, rfl, in_ctx 1096 (by decide +kernel) rfl, in_ctx 14 (by decide +kernel) rfl, by decide +kernel, by decide +kernel, by decide +kernel⟩
theorem lkJx35411_31 : LV RJx35411 31 yJx35411_checkForComodification_da8c8 0 := ⟨in_ctx 1131 (by decide +kernel) rfl, in_ctx 1132 (by decide +kernel) rfl, in_ctx 1133 (by decide +kernel) rfl, in_ctx 14 (by decide +kernel) rfl, by decide +kernel, by decide +kernel, by decide +kernel⟩
theorem lkL_187 : LV RL 187 yX7_count 1 := ⟨in_ctx 1136 (by decide +kernel) rfl, in_ctx 1137 (by decide +kernel) rfl, in_ctx 1138 (by decide +kernel) rfl, in_ctx 1 (by decide +kernel) rfl, by decide +kernel, by decide +kernel, by decide +kernel⟩
theorem lkX7_80 : LSt RX7 80 yX7_checkRange 3 := ⟨in_ctx 1140 (by decide +kernel) rfl, in_ctx 1141 (by decide +kernel) rfl, in_ctx 1 (by decide +kernel) rfl, by decide +kernel, by decide +kernel, by decide +kernel⟩
theorem lkX7_118 : LV RX7 118 yX6_openLoans 0 := ⟨in_ctx 1206 (by decide +kernel) rfl, in_ctx 1207 (by decide +kernel) rfl, in_ctx 1208 (by decide +kernel) rfl, in_ctx 2 (by decide +kernel) rfl, by decide +kernel, by decide +kernel, by decide +kernel⟩
theorem lkX6_93 : LV RX6 93 yX1_isOpen 1 := ⟨in_ctx 1210 (by decide +kernel) rfl, in_ctx 1211 (by decide +kernel) rfl, in_ctx 1212 (by decide +kernel) rfl, in_ctx 7 (by decide +kernel) rfl, by decide +kernel, by decide +kernel, by decide +kernel⟩
theorem lkL_194 : LV RL 194 yX12_room 1 := ⟨in_ctx 1214 (by decide +kernel) rfl, in_ctx 1215 (by decide +kernel) rfl, in_ctx 1216 (by decide +kernel) rfl, in_ctx 10 (by decide +kernel) rfl, by decide +kernel, by decide +kernel, by decide +kernel⟩
theorem lkL_213 : LV RL 213 yX12_quarter 1 := ⟨in_ctx 1218 (by decide +kernel) rfl, in_ctx 1219 (by decide +kernel) rfl, in_ctx 1220 (by decide +kernel) rfl, in_ctx 10 (by decide +kernel) rfl, by decide +kernel, by decide +kernel, by decide +kernel⟩
theorem lkX12_117 : LV RX12 117 yX12_room 1 := ⟨in_ctx 1223 (by decide +kernel) rfl, in_ctx 1215 (by decide +kernel) rfl, in_ctx 1216 (by decide +kernel) rfl, in_ctx 10 (by decide +kernel) rfl, by decide +kernel, by decide +kernel, by decide +kernel⟩
theorem lkL_216 : LV RL 216 yX7_pack 2 := ⟨in_ctx 1224 (by decide +kernel) rfl, in_ctx 1225 (by decide +kernel) rfl, in_ctx 1226 (by decide +kernel) rfl, in_ctx 1 (by decide +kernel) rfl, by decide +kernel, by decide +kernel, by decide +kernel⟩
theorem lkX7_123 : LSt RX7 123 yX7_checkIndex 2 := ⟨in_ctx 1228 (by decide +kernel) rfl, in_ctx 1229 (by decide +kernel) rfl, in_ctx 1 (by decide +kernel) rfl, by decide +kernel, by decide +kernel, by decide +kernel⟩
theorem lkX7_131 : LV RX7 131 yX6_roomOf 1 := ⟨in_ctx 1246 (by decide +kernel) rfl, in_ctx 1247 (by decide +kernel) rfl, in_ctx 1248 (by decide +kernel) rfl, in_ctx 2 (by decide +kernel) rfl, by decide +kernel, by decide +kernel, by decide +kernel⟩
theorem lkX7_147 : LV RX7 147 yX5_numberOf 2 := ⟨in_ctx 1250 (by decide +kernel) rfl, in_ctx 1251 (by decide +kernel) rfl, in_ctx 1252 (by decide +kernel) rfl, in_ctx 6 (by decide +kernel) rfl, by decide +kernel, by decide +kernel, by decide +kernel⟩
theorem lkX7_151 : LV RX7 151 yX6_quarterOf 1 := ⟨in_ctx 1254 (by decide +kernel) rfl, in_ctx 1255 (by decide +kernel) rfl, in_ctx 1256 (by decide +kernel) rfl, in_ctx 2 (by decide +kernel) rfl, by decide +kernel, by decide +kernel, by decide +kernel⟩
theorem lkX6_42 : LV RX6 42 yX6_roomOf 1 := ⟨in_ctx 1258 (by decide +kernel) rfl, in_ctx 1247 (by decide +kernel) rfl, in_ctx 1248 (by decide +kernel) rfl, in_ctx 2 (by decide +kernel) rfl, by decide +kernel, by decide +kernel, by decide +kernel⟩
theorem lkL_226 : LV RL 226 yX7_cable 3 := ⟨in_ctx 1259 (by decide +kernel) rfl, in_ctx 1260 (by decide +kernel) rfl, in_ctx 1261 (by decide +kernel) rfl, in_ctx 1 (by decide +kernel) rfl, by decide +kernel, by decide +kernel, by decide +kernel⟩
theorem lkX7_154 : LV RX7 154 yX2_cableBetween 2 := ⟨in_ctx 1263 (by decide +kernel) rfl, in_ctx 689 (by decide +kernel) rfl, in_ctx 690 (by decide +kernel) rfl, in_ctx 3 (by decide +kernel) rfl, by decide +kernel, by decide +kernel, by decide +kernel⟩
theorem lkL_230 : LV RL 230 yX7_trip 2 := ⟨in_ctx 1264 (by decide +kernel) rfl, in_ctx 1265 (by decide +kernel) rfl, in_ctx 1266 (by decide +kernel) rfl, in_ctx 1 (by decide +kernel) rfl, by decide +kernel, by decide +kernel, by decide +kernel⟩
theorem lkL_243 : LV RL 243 yX12_owed 1 := ⟨in_ctx 1269 (by decide +kernel) rfl, in_ctx 1270 (by decide +kernel) rfl, in_ctx 1271 (by decide +kernel) rfl, in_ctx 10 (by decide +kernel) rfl, by decide +kernel, by decide +kernel, by decide +kernel⟩
theorem lkX12_157 : LSt RX12 157 yJ9_max_7cf53 2 := ⟨in_ctx 1273 (by decide +kernel) rfl, in_ctx 766 (by decide +kernel) rfl, in_ctx 22 (by decide +kernel) rfl, by decide +kernel, by decide +kernel, by decide +kernel⟩
theorem lkL_250 : LV RL 250 yX7_loan 2 := ⟨in_ctx 1274 (by decide +kernel) rfl, in_ctx 1275 (by decide +kernel) rfl, in_ctx 1276 (by decide +kernel) rfl, in_ctx 1 (by decide +kernel) rfl, by decide +kernel, by decide +kernel, by decide +kernel⟩
theorem lkX7_226 : LV RX7 226 yX6_owed 1 := ⟨in_ctx 1278 (by decide +kernel) rfl, in_ctx 1279 (by decide +kernel) rfl, in_ctx 1280 (by decide +kernel) rfl, in_ctx 2 (by decide +kernel) rfl, by decide +kernel, by decide +kernel, by decide +kernel⟩
theorem lkX6_77 : LV RX6 77 yX6_interestOf 1 := ⟨in_ctx 1282 (by decide +kernel) rfl, in_ctx 1284 (by decide +kernel) rfl, in_sel 21 2 (by decide +kernel), in_ctx 2 (by decide +kernel) rfl, by decide +kernel, by decide +kernel, by decide +kernel⟩
theorem lkL_262 : LV RL 262 yX7_total 1 := ⟨in_ctx 1286 (by decide +kernel) rfl, in_ctx 1287 (by decide +kernel) rfl, in_ctx 1288 (by decide +kernel) rfl, in_ctx 1 (by decide +kernel) rfl, by decide +kernel, by decide +kernel, by decide +kernel⟩
theorem lkX7_242 : LSt RX7 242 yX7_sumOf 2 := ⟨in_ctx 1290 (by decide +kernel) rfl, in_ctx 1291 (by decide +kernel) rfl, in_ctx 1 (by decide +kernel) rfl, by decide +kernel, by decide +kernel, by decide +kernel⟩
theorem lkL_266 : LV RL 266 yX7_now 0 := ⟨in_ctx 1293 (by decide +kernel) rfl, in_ctx 1294 (by decide +kernel) rfl, in_ctx 1295 (by decide +kernel) rfl, in_ctx 1 (by decide +kernel) rfl, by decide +kernel, by decide +kernel, by decide +kernel⟩
theorem lkL_389 : LSt RL 389 yL_act 4 := ⟨in_ctx 1298 (by decide +kernel) rfl, in_ctx 1299 (by decide +kernel) rfl, in_ctx 0 (by decide +kernel) rfl, by decide +kernel, by decide +kernel, by decide +kernel⟩
theorem lkL_272 : LV RL 272 yJx4a65c_remove_915e3 1 := ⟨in_ctx 1301 (by decide +kernel) rfl, in_ctx 1302 (by decide +kernel) rfl, in_ctx 1303 (by decide +kernel) rfl, in_ctx 13 (by decide +kernel) rfl, by decide +kernel, by decide +kernel, by decide +kernel⟩
theorem lkJx4a65c_144 : LV RJx4a65c 144 yJx4a65c_fastRemove_b59b0 2 := ⟨in_ctx 1305 (by decide +kernel) rfl, in_ctx 1307 (by decide +kernel) rfl, in_sel 22 3 (by decide +kernel), in_ctx 13 (by decide +kernel) rfl, by decide +kernel, by decide +kernel, by decide +kernel⟩
theorem lkL_278 : LV RL 278 yX12_copy 0 := ⟨in_ctx 1310 (by decide +kernel) rfl, in_ctx 1311 (by decide +kernel) rfl, in_ctx 1312 (by decide +kernel) rfl, in_ctx 10 (by decide +kernel) rfl, by decide +kernel, by decide +kernel, by decide +kernel⟩
theorem lkX12_41 : LI RX12 41 yX12_init 0 := ⟨in_ctx 1315 (by decide +kernel) rfl, rfl, in_ctx 449 (by decide +kernel) rfl, in_ctx 10 (by decide +kernel) rfl, by decide +kernel, by decide +kernel, by decide +kernel⟩
theorem lkX12_58 : LV RX12 58 yJx4a65c_addAll_f0b43 1 := ⟨in_ctx 1316 (by decide +kernel) rfl, in_ctx 1317 (by decide +kernel) rfl, in_ctx 1318 (by decide +kernel) rfl, in_ctx 13 (by decide +kernel) rfl, by decide +kernel, by decide +kernel, by decide +kernel⟩
theorem lkX12_62 : LV RX12 62 yJx4a65c_iterator_32c93 0 := ⟨in_ctx 1330 (by decide +kernel) rfl, in_ctx 1090 (by decide +kernel) rfl, in_ctx 1091 (by decide +kernel) rfl, in_ctx 13 (by decide +kernel) rfl, by decide +kernel, by decide +kernel, by decide +kernel⟩
theorem lkX12_81 : LV RX12 81 yJx4a65c_add_9ea2d 1 := ⟨in_ctx 1340 (by decide +kernel) rfl, in_ctx 887 (by decide +kernel) rfl, in_ctx 888 (by decide +kernel) rfl, in_ctx 13 (by decide +kernel) rfl, by decide +kernel, by decide +kernel, by decide +kernel⟩
theorem lkX12_87 : LV RX12 87 yX11_copy 0 := ⟨in_ctx 1342 (by decide +kernel) rfl, in_ctx 1343 (by decide +kernel) rfl, in_ctx 1344 (by decide +kernel) rfl, in_ctx 32 (by decide +kernel) rfl, by decide +kernel, by decide +kernel, by decide +kernel⟩
theorem lkX11_19 : LI RX11 19 yX11_init 3 := ⟨in_ctx 1347 (by decide +kernel) rfl, rfl, in_ctx 950 (by decide +kernel) rfl, in_ctx 32 (by decide +kernel) rfl, by decide +kernel, by decide +kernel, by decide +kernel⟩
theorem lkX12_93 : LV RX12 93 yX8_copy 0 := ⟨in_ctx 1349 (by decide +kernel) rfl, in_ctx 1350 (by decide +kernel) rfl, in_ctx 1351 (by decide +kernel) rfl, in_ctx 33 (by decide +kernel) rfl, by decide +kernel, by decide +kernel, by decide +kernel⟩
theorem lkX8_22 : LI RX8 22 yX8_init 4 := ⟨in_ctx 1354 (by decide +kernel) rfl, rfl, in_ctx 994 (by decide +kernel) rfl, in_ctx 33 (by decide +kernel) rfl, by decide +kernel, by decide +kernel, by decide +kernel⟩
theorem lkX12_98 : LV RX12 98 yX9_copy 0 := ⟨in_ctx 1356 (by decide +kernel) rfl, in_ctx 1357 (by decide +kernel) rfl, in_ctx 1358 (by decide +kernel) rfl, in_ctx 34 (by decide +kernel) rfl, by decide +kernel, by decide +kernel, by decide +kernel⟩
theorem lkX9_25 : LI RX9 25 yX9_init 5 := ⟨in_ctx 1361 (by decide +kernel) rfl, rfl, in_ctx 1049 (by decide +kernel) rfl, in_ctx 34 (by decide +kernel) rfl, by decide +kernel, by decide +kernel, by decide +kernel⟩
theorem lkX12_103 : LV RX12 103 yX10_copy 0 := ⟨in_ctx 1363 (by decide +kernel) rfl, in_ctx 1364 (by decide +kernel) rfl, in_ctx 1365 (by decide +kernel) rfl, in_ctx 35 (by decide +kernel) rfl, by decide +kernel, by decide +kernel, by decide +kernel⟩
theorem lkX10_19 : LI RX10 19 yX10_init 3 := ⟨in_ctx 1369 (by decide +kernel) rfl, rfl, in_ctx 1370 (by decide +kernel) rfl, in_ctx 35 (by decide +kernel) rfl, by decide +kernel, by decide +kernel, by decide +kernel⟩
theorem lkL_282 : LV RL 282 yX12_pass 0 := ⟨in_ctx 1409 (by decide +kernel) rfl, in_ctx 1410 (by decide +kernel) rfl, in_ctx 1411 (by decide +kernel) rfl, in_ctx 10 (by decide +kernel) rfl, by decide +kernel, by decide +kernel, by decide +kernel⟩
theorem lkX12_250 : LV RX12 250 yX12_shine 0 := ⟨in_ctx 1413 (by decide +kernel) rfl, in_ctx 1414 (by decide +kernel) rfl, in_ctx 1415 (by decide +kernel) rfl, in_ctx 10 (by decide +kernel) rfl, by decide +kernel, by decide +kernel, by decide +kernel⟩
theorem lkX12_193 : LV RX12 193 yJx4a65c_size_8abf5 0 := ⟨in_ctx 1417 (by decide +kernel) rfl, in_ctx 944 (by decide +kernel) rfl, in_ctx 945 (by decide +kernel) rfl, in_ctx 13 (by decide +kernel) rfl, by decide +kernel, by decide +kernel, by decide +kernel⟩
theorem lkX12_219 : LV RX12 219 yX12_gain 2 := ⟨in_ctx 1418 (by decide +kernel) rfl, in_ctx 1419 (by decide +kernel) rfl, in_ctx 1420 (by decide +kernel) rfl, in_ctx 10 (by decide +kernel) rfl, by decide +kernel, by decide +kernel, by decide +kernel⟩
theorem lkX12_124 : LV RX12 124 yJx4a65c_get_915e3 1 := ⟨in_ctx 1422 (by decide +kernel) rfl, in_ctx 1035 (by decide +kernel) rfl, in_ctx 1036 (by decide +kernel) rfl, in_ctx 13 (by decide +kernel) rfl, by decide +kernel, by decide +kernel, by decide +kernel⟩
theorem lkX12_216 : LV RX12 216 yX12_take 2 := ⟨in_ctx 1423 (by decide +kernel) rfl, in_ctx 1424 (by decide +kernel) rfl, in_ctx 1425 (by decide +kernel) rfl, in_ctx 10 (by decide +kernel) rfl, by decide +kernel, by decide +kernel, by decide +kernel⟩
theorem lkX12_131 : LV RX12 131 yX12_spill 1 := ⟨in_ctx 1427 (by decide +kernel) rfl, in_ctx 1428 (by decide +kernel) rfl, in_ctx 1429 (by decide +kernel) rfl, in_ctx 10 (by decide +kernel) rfl, by decide +kernel, by decide +kernel, by decide +kernel⟩
theorem lkX12_253 : LV RX12 253 yX12_travel 1 := ⟨in_ctx 1431 (by decide +kernel) rfl, in_ctx 1432 (by decide +kernel) rfl, in_ctx 1433 (by decide +kernel) rfl, in_ctx 10 (by decide +kernel) rfl, by decide +kernel, by decide +kernel, by decide +kernel⟩
theorem lkX12_208 : LV RX12 208 yX12_give 2 := ⟨in_ctx 1435 (by decide +kernel) rfl, in_ctx 1436 (by decide +kernel) rfl, in_ctx 1437 (by decide +kernel) rfl, in_ctx 10 (by decide +kernel) rfl, by decide +kernel, by decide +kernel, by decide +kernel⟩
theorem lkX12_135 : LV RX12 135 yX12_weight 1 := ⟨in_ctx 1439 (by decide +kernel) rfl, in_ctx 1440 (by decide +kernel) rfl, in_ctx 1441 (by decide +kernel) rfl, in_ctx 10 (by decide +kernel) rfl, by decide +kernel, by decide +kernel, by decide +kernel⟩
theorem lkX12_128 : LV RX12 128 yX12_quarter 1 := ⟨in_ctx 1443 (by decide +kernel) rfl, in_ctx 1219 (by decide +kernel) rfl, in_ctx 1220 (by decide +kernel) rfl, in_ctx 10 (by decide +kernel) rfl, by decide +kernel, by decide +kernel, by decide +kernel⟩
theorem lkX12_257 : LV RX12 257 yX12_serve 1 := ⟨in_ctx 1446 (by decide +kernel) rfl, in_ctx 1448 (by decide +kernel) rfl, in_sel 23 14 (by decide +kernel), in_ctx 10 (by decide +kernel) rfl, by decide +kernel, by decide +kernel, by decide +kernel⟩
theorem lkX12_231 : LV RX12 231 yX12_cable 2 := ⟨in_ctx 1450 (by decide +kernel) rfl, in_ctx 1451 (by decide +kernel) rfl, in_ctx 1452 (by decide +kernel) rfl, in_ctx 10 (by decide +kernel) rfl, by decide +kernel, by decide +kernel, by decide +kernel⟩
theorem lkX12_190 : LV RX12 190 yX12_above 1 := ⟨in_ctx 1454 (by decide +kernel) rfl, in_ctx 1455 (by decide +kernel) rfl, in_ctx 1456 (by decide +kernel) rfl, in_ctx 10 (by decide +kernel) rfl, by decide +kernel, by decide +kernel, by decide +kernel⟩
theorem lkX12_241 : LSt RX12 241 yJ9_min_7cf53 2 := ⟨in_ctx 1458 (by decide +kernel) rfl, in_ctx 431 (by decide +kernel) rfl, in_ctx 22 (by decide +kernel) rfl, by decide +kernel, by decide +kernel, by decide +kernel⟩
theorem lkX12_199 : LSt RX12 199 yJ9_min_f86c9 2 := ⟨in_ctx 1460 (by decide +kernel) rfl, in_ctx 1461 (by decide +kernel) rfl, in_ctx 22 (by decide +kernel) rfl, by decide +kernel, by decide +kernel, by decide +kernel⟩
theorem lkX12_243 : LV RX12 243 yX12_through 4 := ⟨in_ctx 1463 (by decide +kernel) rfl, in_ctx 1465 (by decide +kernel) rfl, in_sel 24 14 (by decide +kernel), in_ctx 10 (by decide +kernel) rfl, by decide +kernel, by decide +kernel, by decide +kernel⟩
theorem lkX12_166 : LV RX12 166 yX12_owed 1 := ⟨in_ctx 1468 (by decide +kernel) rfl, in_ctx 1270 (by decide +kernel) rfl, in_ctx 1271 (by decide +kernel) rfl, in_ctx 10 (by decide +kernel) rfl, by decide +kernel, by decide +kernel, by decide +kernel⟩
theorem lkL_285 : LV RL 285 yX7_run 1 := ⟨in_ctx 1469 (by decide +kernel) rfl, in_ctx 1470 (by decide +kernel) rfl, in_ctx 1471 (by decide +kernel) rfl, in_ctx 1 (by decide +kernel) rfl, by decide +kernel, by decide +kernel, by decide +kernel⟩
theorem lkX7_259 : LV RX7 259 yX0_push 1 := ⟨in_ctx 1473 (by decide +kernel) rfl, in_ctx 1474 (by decide +kernel) rfl, in_ctx 1475 (by decide +kernel) rfl, in_ctx 9 (by decide +kernel) rfl, by decide +kernel, by decide +kernel, by decide +kernel⟩
theorem lkX0_29 : LSt RX0 29 yJ9_min_7cf53 2 := ⟨in_ctx 1477 (by decide +kernel) rfl, in_ctx 431 (by decide +kernel) rfl, in_ctx 22 (by decide +kernel) rfl, by decide +kernel, by decide +kernel, by decide +kernel⟩
theorem lkX7_290 : LV RX7 290 yX6_passTicks 1 := ⟨in_ctx 1478 (by decide +kernel) rfl, in_ctx 1479 (by decide +kernel) rfl, in_ctx 1480 (by decide +kernel) rfl, in_ctx 2 (by decide +kernel) rfl, by decide +kernel, by decide +kernel, by decide +kernel⟩
theorem lkX6_132 : LV RX6 132 yX6_passTick 0 := ⟨in_ctx 1482 (by decide +kernel) rfl, in_ctx 1483 (by decide +kernel) rfl, in_ctx 1484 (by decide +kernel) rfl, in_ctx 2 (by decide +kernel) rfl, by decide +kernel, by decide +kernel, by decide +kernel⟩
theorem lkX6_138 : LSt RX6 138 yJ7_fill_53178 2 := ⟨in_ctx 1486 (by decide +kernel) rfl, in_ctx 53 (by decide +kernel) rfl, in_ctx 4 (by decide +kernel) rfl, by decide +kernel, by decide +kernel, by decide +kernel⟩
theorem lkX6_144 : LV RX6 144 yX6_shine 0 := ⟨in_ctx 1487 (by decide +kernel) rfl, in_ctx 1488 (by decide +kernel) rfl, in_ctx 1489 (by decide +kernel) rfl, in_ctx 2 (by decide +kernel) rfl, by decide +kernel, by decide +kernel, by decide +kernel⟩
theorem lkX6_172 : LV RX6 172 yX2_gain 2 := ⟨in_ctx 1491 (by decide +kernel) rfl, in_ctx 1492 (by decide +kernel) rfl, in_ctx 1493 (by decide +kernel) rfl, in_ctx 3 (by decide +kernel) rfl, by decide +kernel, by decide +kernel, by decide +kernel⟩
theorem lkX6_178 : LV RX6 178 yX6_get 2 := ⟨in_ctx 1495 (by decide +kernel) rfl, in_ctx 1496 (by decide +kernel) rfl, in_ctx 1497 (by decide +kernel) rfl, in_ctx 2 (by decide +kernel) rfl, by decide +kernel, by decide +kernel, by decide +kernel⟩
theorem lkX6_53 : LV RX6 53 yX6_loseAboveRoom 1 := ⟨in_ctx 1499 (by decide +kernel) rfl, in_ctx 1501 (by decide +kernel) rfl, in_sel 25 2 (by decide +kernel), in_ctx 2 (by decide +kernel) rfl, by decide +kernel, by decide +kernel, by decide +kernel⟩
theorem lkX6_154 : LV RX6 154 yX6_makeTrips 1 := ⟨in_ctx 1503 (by decide +kernel) rfl, in_ctx 1504 (by decide +kernel) rfl, in_ctx 1505 (by decide +kernel) rfl, in_ctx 2 (by decide +kernel) rfl, by decide +kernel, by decide +kernel, by decide +kernel⟩
theorem lkX6_194 : LV RX6 194 yX6_give 2 := ⟨in_ctx 1507 (by decide +kernel) rfl, in_ctx 1508 (by decide +kernel) rfl, in_ctx 1509 (by decide +kernel) rfl, in_ctx 2 (by decide +kernel) rfl, by decide +kernel, by decide +kernel, by decide +kernel⟩
theorem lkX6_57 : LV RX6 57 yX6_quarterOf 1 := ⟨in_ctx 1511 (by decide +kernel) rfl, in_ctx 1255 (by decide +kernel) rfl, in_ctx 1256 (by decide +kernel) rfl, in_ctx 2 (by decide +kernel) rfl, by decide +kernel, by decide +kernel, by decide +kernel⟩
theorem lkX6_60 : LV RX6 60 yX2_factor 2 := ⟨in_ctx 1512 (by decide +kernel) rfl, in_ctx 1513 (by decide +kernel) rfl, in_ctx 1514 (by decide +kernel) rfl, in_ctx 3 (by decide +kernel) rfl, by decide +kernel, by decide +kernel, by decide +kernel⟩
theorem lkX6_65 : LSt RX6 65 yJ9_min_7cf53 2 := ⟨in_ctx 1517 (by decide +kernel) rfl, in_ctx 431 (by decide +kernel) rfl, in_ctx 22 (by decide +kernel) rfl, by decide +kernel, by decide +kernel, by decide +kernel⟩
theorem lkX6_163 : LV RX6 163 yX6_sendOn 1 := ⟨in_ctx 1518 (by decide +kernel) rfl, in_ctx 1520 (by decide +kernel) rfl, in_sel 26 2 (by decide +kernel), in_ctx 2 (by decide +kernel) rfl, by decide +kernel, by decide +kernel, by decide +kernel⟩
theorem lkX6_80 : LV RX6 80 yX2_cableOf 1 := ⟨in_ctx 1522 (by decide +kernel) rfl, in_ctx 1523 (by decide +kernel) rfl, in_ctx 1524 (by decide +kernel) rfl, in_ctx 3 (by decide +kernel) rfl, by decide +kernel, by decide +kernel, by decide +kernel⟩
theorem lkX2_74 : LV RX2 74 yX2_cableBetween 2 := ⟨in_ctx 1526 (by decide +kernel) rfl, in_ctx 689 (by decide +kernel) rfl, in_ctx 690 (by decide +kernel) rfl, in_ctx 3 (by decide +kernel) rfl, by decide +kernel, by decide +kernel, by decide +kernel⟩
theorem lkX6_129 : LV RX6 129 yX4_aboveReserve 1 := ⟨in_ctx 1527 (by decide +kernel) rfl, in_ctx 408 (by decide +kernel) rfl, in_ctx 409 (by decide +kernel) rfl, in_ctx 5 (by decide +kernel) rfl, by decide +kernel, by decide +kernel, by decide +kernel⟩
theorem lkX6_197 : LSt RX6 197 yJ9_max_7cf53 2 := ⟨in_ctx 1528 (by decide +kernel) rfl, in_ctx 766 (by decide +kernel) rfl, in_ctx 22 (by decide +kernel) rfl, by decide +kernel, by decide +kernel, by decide +kernel⟩
theorem lkX6_200 : LV RX6 200 yX4_stillSends 1 := ⟨in_ctx 1529 (by decide +kernel) rfl, in_ctx 1530 (by decide +kernel) rfl, in_ctx 1531 (by decide +kernel) rfl, in_ctx 5 (by decide +kernel) rfl, by decide +kernel, by decide +kernel, by decide +kernel⟩
theorem lkX6_206 : LV RX6 206 yX4_carry 2 := ⟨in_ctx 1534 (by decide +kernel) rfl, in_ctx 1535 (by decide +kernel) rfl, in_ctx 1536 (by decide +kernel) rfl, in_ctx 5 (by decide +kernel) rfl, by decide +kernel, by decide +kernel, by decide +kernel⟩
theorem lkX6_166 : LV RX6 166 yX6_sendBack 1 := ⟨in_ctx 1538 (by decide +kernel) rfl, in_ctx 1540 (by decide +kernel) rfl, in_sel 27 2 (by decide +kernel), in_ctx 2 (by decide +kernel) rfl, by decide +kernel, by decide +kernel, by decide +kernel⟩
theorem lkX6_112 : LV RX6 112 yX6_owed 1 := ⟨in_ctx 1542 (by decide +kernel) rfl, in_ctx 1279 (by decide +kernel) rfl, in_ctx 1280 (by decide +kernel) rfl, in_ctx 2 (by decide +kernel) rfl, by decide +kernel, by decide +kernel, by decide +kernel⟩
theorem lkX6_209 : LSt RX6 209 yX6_sentToReturn 2 := ⟨in_ctx 1543 (by decide +kernel) rfl, in_ctx 1544 (by decide +kernel) rfl, in_ctx 2 (by decide +kernel) rfl, by decide +kernel, by decide +kernel, by decide +kernel⟩
theorem lkX6_213 : LSt RX6 213 yJ9_min_f86c9 2 := ⟨in_ctx 1547 (by decide +kernel) rfl, in_ctx 1461 (by decide +kernel) rfl, in_ctx 22 (by decide +kernel) rfl, by decide +kernel, by decide +kernel, by decide +kernel⟩
theorem lkL_288 : LV RL 288 yX12_take 2 := ⟨in_ctx 1548 (by decide +kernel) rfl, in_ctx 1424 (by decide +kernel) rfl, in_ctx 1425 (by decide +kernel) rfl, in_ctx 10 (by decide +kernel) rfl, by decide +kernel, by decide +kernel, by decide +kernel⟩
theorem lkL_292 : LV RL 292 yX7_charge 2 := ⟨in_ctx 1549 (by decide +kernel) rfl, in_ctx 1550 (by decide +kernel) rfl, in_ctx 1551 (by decide +kernel) rfl, in_ctx 1 (by decide +kernel) rfl, by decide +kernel, by decide +kernel, by decide +kernel⟩
theorem lkX7_274 : LV RX7 274 yX6_get 2 := ⟨in_ctx 1554 (by decide +kernel) rfl, in_ctx 1496 (by decide +kernel) rfl, in_ctx 1497 (by decide +kernel) rfl, in_ctx 2 (by decide +kernel) rfl, by decide +kernel, by decide +kernel, by decide +kernel⟩
theorem lkL_294 : LSt RL 294 yJ9_min_7cf53 2 := ⟨in_ctx 1555 (by decide +kernel) rfl, in_ctx 431 (by decide +kernel) rfl, in_ctx 22 (by decide +kernel) rfl, by decide +kernel, by decide +kernel, by decide +kernel⟩
theorem lkL_299 : LV RL 299 yX12_give 2 := ⟨in_ctx 1556 (by decide +kernel) rfl, in_ctx 1436 (by decide +kernel) rfl, in_ctx 1437 (by decide +kernel) rfl, in_ctx 10 (by decide +kernel) rfl, by decide +kernel, by decide +kernel, by decide +kernel⟩
theorem lkL_302 : LV RL 302 yX7_drain 2 := ⟨in_ctx 1557 (by decide +kernel) rfl, in_ctx 1558 (by decide +kernel) rfl, in_ctx 1559 (by decide +kernel) rfl, in_ctx 1 (by decide +kernel) rfl, by decide +kernel, by decide +kernel, by decide +kernel⟩
theorem lkX7_282 : LV RX7 282 yX6_give 2 := ⟨in_ctx 1561 (by decide +kernel) rfl, in_ctx 1508 (by decide +kernel) rfl, in_ctx 1509 (by decide +kernel) rfl, in_ctx 2 (by decide +kernel) rfl, by decide +kernel, by decide +kernel, by decide +kernel⟩
theorem lkL_305 : LV RL 305 yX7_setReserve 2 := ⟨in_ctx 1562 (by decide +kernel) rfl, in_ctx 1563 (by decide +kernel) rfl, in_ctx 1564 (by decide +kernel) rfl, in_ctx 1 (by decide +kernel) rfl, by decide +kernel, by decide +kernel, by decide +kernel⟩
theorem lkL_308 : LV RL 308 yX12_cable 2 := ⟨in_ctx 1566 (by decide +kernel) rfl, in_ctx 1451 (by decide +kernel) rfl, in_ctx 1452 (by decide +kernel) rfl, in_ctx 10 (by decide +kernel) rfl, by decide +kernel, by decide +kernel, by decide +kernel⟩
theorem lkL_312 : LV RL 312 yX7_setCable 4 := ⟨in_ctx 1568 (by decide +kernel) rfl, in_ctx 1569 (by decide +kernel) rfl, in_ctx 1570 (by decide +kernel) rfl, in_ctx 1 (by decide +kernel) rfl, by decide +kernel, by decide +kernel, by decide +kernel⟩
theorem lkL_316 : LV RL 316 yX7_dropTrip 1 := ⟨in_ctx 1572 (by decide +kernel) rfl, in_ctx 1573 (by decide +kernel) rfl, in_ctx 1574 (by decide +kernel) rfl, in_ctx 1 (by decide +kernel) rfl, by decide +kernel, by decide +kernel, by decide +kernel⟩
theorem lkX7_286 : LV RX7 286 yX5_remove 1 := ⟨in_ctx 1576 (by decide +kernel) rfl, in_ctx 1577 (by decide +kernel) rfl, in_ctx 1578 (by decide +kernel) rfl, in_ctx 6 (by decide +kernel) rfl, by decide +kernel, by decide +kernel, by decide +kernel⟩
theorem lkL_319 : LSt RL 319 yJ9_max_7cf53 2 := ⟨in_ctx 1580 (by decide +kernel) rfl, in_ctx 766 (by decide +kernel) rfl, in_ctx 22 (by decide +kernel) rfl, by decide +kernel, by decide +kernel, by decide +kernel⟩
theorem lkL_322 : LV RL 322 yX7_addTrip 3 := ⟨in_ctx 1581 (by decide +kernel) rfl, in_ctx 1582 (by decide +kernel) rfl, in_ctx 1583 (by decide +kernel) rfl, in_ctx 1 (by decide +kernel) rfl, by decide +kernel, by decide +kernel, by decide +kernel⟩
theorem lkX7_285 : LV RX7 285 yX5_add 3 := ⟨in_ctx 1585 (by decide +kernel) rfl, in_ctx 713 (by decide +kernel) rfl, in_ctx 714 (by decide +kernel) rfl, in_ctx 6 (by decide +kernel) rfl, by decide +kernel, by decide +kernel, by decide +kernel⟩
theorem lkL_325 : LV RL 325 yX12_hindrance 2 := ⟨in_ctx 1586 (by decide +kernel) rfl, in_ctx 1587 (by decide +kernel) rfl, in_ctx 1588 (by decide +kernel) rfl, in_ctx 10 (by decide +kernel) rfl, by decide +kernel, by decide +kernel, by decide +kernel⟩
theorem lkX12_180 : LV RX12 180 yX12_outstanding 1 := ⟨in_ctx 1590 (by decide +kernel) rfl, in_ctx 1591 (by decide +kernel) rfl, in_ctx 1592 (by decide +kernel) rfl, in_ctx 10 (by decide +kernel) rfl, by decide +kernel, by decide +kernel, by decide +kernel⟩
theorem lkL_328 : LI RL 328 yX10_init 3 := ⟨in_ctx 1594 (by decide +kernel) rfl, rfl, in_ctx 1370 (by decide +kernel) rfl, in_ctx 35 (by decide +kernel) rfl, by decide +kernel, by decide +kernel, by decide +kernel⟩
theorem lkL_329 : LV RL 329 yX7_lend 3 := ⟨in_ctx 1595 (by decide +kernel) rfl, in_ctx 1596 (by decide +kernel) rfl, in_ctx 1597 (by decide +kernel) rfl, in_ctx 1 (by decide +kernel) rfl, by decide +kernel, by decide +kernel, by decide +kernel⟩
theorem lkX7_253 : LV RX7 253 yX6_hindranceOf 2 := ⟨in_ctx 1599 (by decide +kernel) rfl, in_ctx 1600 (by decide +kernel) rfl, in_ctx 1601 (by decide +kernel) rfl, in_ctx 2 (by decide +kernel) rfl, by decide +kernel, by decide +kernel, by decide +kernel⟩
theorem lkX6_123 : LV RX6 123 yX6_outstanding 1 := ⟨in_ctx 1603 (by decide +kernel) rfl, in_ctx 1604 (by decide +kernel) rfl, in_ctx 1605 (by decide +kernel) rfl, in_ctx 2 (by decide +kernel) rfl, by decide +kernel, by decide +kernel, by decide +kernel⟩
theorem lkX7_263 : LV RX7 263 yX1_add 3 := ⟨in_ctx 1607 (by decide +kernel) rfl, in_ctx 1608 (by decide +kernel) rfl, in_ctx 1609 (by decide +kernel) rfl, in_ctx 7 (by decide +kernel) rfl, by decide +kernel, by decide +kernel, by decide +kernel⟩
theorem lkL_336 : LV RL 336 yX7_mend 1 := ⟨in_ctx 1611 (by decide +kernel) rfl, in_ctx 1612 (by decide +kernel) rfl, in_ctx 1613 (by decide +kernel) rfl, in_ctx 1 (by decide +kernel) rfl, by decide +kernel, by decide +kernel, by decide +kernel⟩
theorem lkL_339 : LV RL 339 yX7_recall 1 := ⟨in_ctx 1615 (by decide +kernel) rfl, in_ctx 1616 (by decide +kernel) rfl, in_ctx 1617 (by decide +kernel) rfl, in_ctx 1 (by decide +kernel) rfl, by decide +kernel, by decide +kernel, by decide +kernel⟩
theorem lkX7_267 : LV RX7 267 yX1_isOpen 1 := ⟨in_ctx 1619 (by decide +kernel) rfl, in_ctx 1211 (by decide +kernel) rfl, in_ctx 1212 (by decide +kernel) rfl, in_ctx 7 (by decide +kernel) rfl, by decide +kernel, by decide +kernel, by decide +kernel⟩
theorem lkX7_271 : LV RX7 271 yX1_bringForward 2 := ⟨in_ctx 1620 (by decide +kernel) rfl, in_ctx 1621 (by decide +kernel) rfl, in_ctx 1622 (by decide +kernel) rfl, in_ctx 7 (by decide +kernel) rfl, by decide +kernel, by decide +kernel, by decide +kernel⟩
theorem lkL_342 : LV RL 342 yX7_giveBack 1 := ⟨in_ctx 1624 (by decide +kernel) rfl, in_ctx 1625 (by decide +kernel) rfl, in_ctx 1626 (by decide +kernel) rfl, in_ctx 1 (by decide +kernel) rfl, by decide +kernel, by decide +kernel, by decide +kernel⟩
theorem lkL_345 : LV RL 345 yX7_forgive 1 := ⟨in_ctx 1628 (by decide +kernel) rfl, in_ctx 1629 (by decide +kernel) rfl, in_ctx 1630 (by decide +kernel) rfl, in_ctx 1 (by decide +kernel) rfl, by decide +kernel, by decide +kernel, by decide +kernel⟩
theorem lkL_348 : LV RL 348 yX7_runToClosed 2 := ⟨in_ctx 1632 (by decide +kernel) rfl, in_ctx 1633 (by decide +kernel) rfl, in_ctx 1634 (by decide +kernel) rfl, in_ctx 1 (by decide +kernel) rfl, by decide +kernel, by decide +kernel, by decide +kernel⟩
theorem lkX7_293 : LV RX7 293 yX6_passTicksToEnd 2 := ⟨in_ctx 1636 (by decide +kernel) rfl, in_ctx 1637 (by decide +kernel) rfl, in_ctx 1638 (by decide +kernel) rfl, in_ctx 2 (by decide +kernel) rfl, by decide +kernel, by decide +kernel, by decide +kernel⟩
theorem lkL_370 : LI RL 370 yJ4_init_da8c8 0 := ⟨in_ctx 1653 (by decide +kernel) rfl, rfl, in_ctx 1654 (by decide +kernel) rfl, in_ctx 25 (by decide +kernel) rfl, by decide +kernel, by decide +kernel, by decide +kernel⟩
theorem lkJ4_1 : LI RJ4 1 yJ5_init_d00df 1 := ⟨in_ctx 1656 (by decide +kernel) rfl, rfl, in_ctx 1657 (by decide +kernel) rfl, in_ctx 24 (by decide +kernel) rfl, by decide +kernel, by decide +kernel, by decide +kernel⟩
theorem lkL_375 : LV RL 375 yJ4_toString_0e30d 0 := ⟨in_ctx 1672 (by decide +kernel) rfl, in_ctx 1673 (by decide +kernel) rfl, in_ctx 1674 (by decide +kernel) rfl, in_ctx 25 (by decide +kernel) rfl, by decide +kernel, by decide +kernel, by decide +kernel⟩
theorem lkJ4_137 : LI RJ4 137 yJ0_init_81219 1 := ⟨in_ctx 1678 (by decide +kernel) rfl, rfl, in_ctx 1679 (by decide +kernel) rfl, in_ctx 26 (by decide +kernel) rfl, by decide +kernel, by decide +kernel, by decide +kernel⟩
theorem lkJ0_489 : LI RJ0 489 yJ0_init_db425 2 := ⟨in_ctx 1681 (by decide +kernel) rfl, rfl, in_ctx 1682 (by decide +kernel) rfl, in_ctx 26 (by decide +kernel) rfl, by decide +kernel, by decide +kernel, by decide +kernel⟩
theorem lkJ0_54 : LSt RJ0 54 yJ7_copyOfRange_39247 3 := ⟨in_ctx 1699 (by decide +kernel) rfl, in_ctx 1700 (by decide +kernel) rfl, in_ctx 4 (by decide +kernel) rfl, by decide +kernel, by decide +kernel, by decide +kernel⟩
theorem lkJ7_339 : LSt RJ7 339 yJ7_copyOfRangeByte_39247 3 := ⟨in_ctx 1702 (by decide +kernel) rfl, in_ctx 1703 (by decide +kernel) rfl, in_ctx 4 (by decide +kernel) rfl, by decide +kernel, by decide +kernel, by decide +kernel⟩
theorem lkJ7_343 : LSt RJ7 343 yJ7_checkLength_df160 2 := ⟨in_ctx 1705 (by decide +kernel) rfl, in_ctx 1706 (by decide +kernel) rfl, in_ctx 4 (by decide +kernel) rfl, by decide +kernel, by decide +kernel, by decide +kernel⟩
theorem lkJ7_47 : LI RJ7 47 yJ4_init_da8c8 0 := ⟨in_ctx 1710 (by decide +kernel) rfl, rfl, in_ctx 1654 (by decide +kernel) rfl, in_ctx 25 (by decide +kernel) rfl, by decide +kernel, by decide +kernel, by decide +kernel⟩
theorem lkJ7_54 : LV RJ7 54 yJ4_append_bf812 1 := ⟨in_ctx 1711 (by decide +kernel) rfl, in_ctx 849 (by decide +kernel) rfl, in_ctx 850 (by decide +kernel) rfl, in_ctx 25 (by decide +kernel) rfl, by decide +kernel, by decide +kernel, by decide +kernel⟩
theorem lkJ7_50 : LV RJ7 50 yJ4_append_15ec4 1 := ⟨in_ctx 1713 (by decide +kernel) rfl, in_ctx 743 (by decide +kernel) rfl, in_ctx 744 (by decide +kernel) rfl, in_ctx 25 (by decide +kernel) rfl, by decide +kernel, by decide +kernel, by decide +kernel⟩
theorem lkJ7_61 : LV RJ7 61 yJ4_toString_0e30d 0 := ⟨in_ctx 1714 (by decide +kernel) rfl, in_ctx 1673 (by decide +kernel) rfl, in_ctx 1674 (by decide +kernel) rfl, in_ctx 25 (by decide +kernel) rfl, by decide +kernel, by decide +kernel, by decide +kernel⟩
theorem lkJ0_1051 : LSt RJ0 1051 yJ2_compress_39247 3 := ⟨in_ctx 1727 (by decide +kernel) rfl, in_ctx 1728 (by decide +kernel) rfl, in_ctx 27 (by decide +kernel) rfl, by decide +kernel, by decide +kernel, by decide +kernel⟩
theorem lkJ2_123 : LSt RJ2 123 yJ2_compress_5af95 5 := ⟨in_ctx 1730 (by decide +kernel) rfl, in_ctx 1731 (by decide +kernel) rfl, in_ctx 27 (by decide +kernel) rfl, by decide +kernel, by decide +kernel, by decide +kernel⟩
theorem lkJ2_126 : LSt RJ2 126 yJ7_copyOfRange_39247 3 := ⟨in_ctx 1733 (by decide +kernel) rfl, in_ctx 1700 (by decide +kernel) rfl, in_ctx 4 (by decide +kernel) rfl, by decide +kernel, by decide +kernel, by decide +kernel⟩
theorem lkJ0_47 : LSt RJ0 47 yJ2_coderFromArrayLen_85cad 2 := ⟨in_ctx 1734 (by decide +kernel) rfl, in_ctx 1735 (by decide +kernel) rfl, in_ctx 27 (by decide +kernel) rfl, by decide +kernel, by decide +kernel, by decide +kernel⟩
theorem lkL_388 : LI RL 388 yJx4a65c_init_da8c8 0 := ⟨in_ctx 1749 (by decide +kernel) rfl, rfl, in_ctx 455 (by decide +kernel) rfl, in_ctx 13 (by decide +kernel) rfl, by decide +kernel, by decide +kernel, by decide +kernel⟩
theorem lkX6_11 : LIN RX6 11 yX4_init "PackLoans" 0 := ⟨List.mem_of_getElem? (i := 0) rfl, rfl, in_ctx 144 (by decide +kernel) rfl, in_ctx 5 (by decide +kernel) rfl, by decide +kernel, by decide +kernel, by decide +kernel⟩
theorem lkX4_38 : LIN RX4 38 yX5_init "PackLoans" 0 := ⟨List.mem_of_getElem? (i := 1) rfl, rfl, in_ctx 150 (by decide +kernel) rfl, in_ctx 6 (by decide +kernel) rfl, by decide +kernel, by decide +kernel, by decide +kernel⟩
theorem lkX4_45 : LIN RX4 45 yX1_init "PackLoans" 0 := ⟨List.mem_of_getElem? (i := 2) rfl, rfl, in_ctx 184 (by decide +kernel) rfl, in_ctx 7 (by decide +kernel) rfl, by decide +kernel, by decide +kernel, by decide +kernel⟩
theorem lkX7_30 : LIN RX7 30 yX3_init "PackLoans" 0 := ⟨List.mem_of_getElem? (i := 3) rfl, rfl, in_ctx 313 (by decide +kernel) rfl, in_ctx 8 (by decide +kernel) rfl, by decide +kernel, by decide +kernel, by decide +kernel⟩
theorem lkX0_17 : LIN RX0 17 yX4_init "PackLoans" 0 := ⟨List.mem_of_getElem? (i := 4) rfl, rfl, in_ctx 144 (by decide +kernel) rfl, in_ctx 5 (by decide +kernel) rfl, by decide +kernel, by decide +kernel, by decide +kernel⟩
theorem lkX4_68 : LSN RX4 68 yX7_copyRow "PackLoans" 2 := ⟨List.mem_of_getElem? (i := 5) rfl, in_ctx 428 (by decide +kernel) rfl, in_ctx 1 (by decide +kernel) rfl, by decide +kernel, by decide +kernel, by decide +kernel⟩
theorem lkX5_28 : LSN RX5 28 yX7_copyRow "PackLoans" 2 := ⟨List.mem_of_getElem? (i := 6) rfl, in_ctx 428 (by decide +kernel) rfl, in_ctx 1 (by decide +kernel) rfl, by decide +kernel, by decide +kernel, by decide +kernel⟩
theorem lkX1_37 : LSN RX1 37 yX7_copyRow "PackLoans" 2 := ⟨List.mem_of_getElem? (i := 7) rfl, in_ctx 428 (by decide +kernel) rfl, in_ctx 1 (by decide +kernel) rfl, by decide +kernel, by decide +kernel, by decide +kernel⟩
theorem lkL_29 : LIN RL 29 yX12_init "PackLoansLaw" 0 := ⟨List.mem_of_getElem? (i := 8) rfl, rfl, in_ctx 449 (by decide +kernel) rfl, in_ctx 10 (by decide +kernel) rfl, by decide +kernel, by decide +kernel, by decide +kernel⟩
theorem lkX2_70 : LSN RX2 70 yX7_copyRow "PackLoans" 2 := ⟨List.mem_of_getElem? (i := 9) rfl, in_ctx 428 (by decide +kernel) rfl, in_ctx 1 (by decide +kernel) rfl, by decide +kernel, by decide +kernel, by decide +kernel⟩
theorem lmX7_277 : LM RX7 277 Lib.Math.min.name Lib.Math.min.code 2 (some .int) := ⟨in_ctx 430 (by decide +kernel) rfl, in_ctx 431 (by decide +kernel) rfl, in_ctx 22 (by decide +kernel) rfl, in_ctx 432 (by decide +kernel) rfl⟩
theorem lmJ8_194 : LM RJ8 194 Lib.Math.max.name Lib.Math.max.code 2 (some .int) := ⟨in_ctx 765 (by decide +kernel) rfl, in_ctx 766 (by decide +kernel) rfl, in_ctx 22 (by decide +kernel) rfl, in_ctx 767 (by decide +kernel) rfl⟩
theorem lmJ7_304 : LM RJ7 304 Lib.Math.min.name Lib.Math.min.code 2 (some .int) := ⟨in_ctx 783 (by decide +kernel) rfl, in_ctx 431 (by decide +kernel) rfl, in_ctx 22 (by decide +kernel) rfl, in_ctx 432 (by decide +kernel) rfl⟩
theorem lmJx4a65c_79 : LM RJx4a65c 79 Lib.Math.max.name Lib.Math.max.code 2 (some .int) := ⟨in_ctx 935 (by decide +kernel) rfl, in_ctx 766 (by decide +kernel) rfl, in_ctx 22 (by decide +kernel) rfl, in_ctx 767 (by decide +kernel) rfl⟩
theorem lmX12_157 : LM RX12 157 Lib.Math.max.name Lib.Math.max.code 2 (some .int) := ⟨in_ctx 1273 (by decide +kernel) rfl, in_ctx 766 (by decide +kernel) rfl, in_ctx 22 (by decide +kernel) rfl, in_ctx 767 (by decide +kernel) rfl⟩
theorem lmX12_241 : LM RX12 241 Lib.Math.min.name Lib.Math.min.code 2 (some .int) := ⟨in_ctx 1458 (by decide +kernel) rfl, in_ctx 431 (by decide +kernel) rfl, in_ctx 22 (by decide +kernel) rfl, in_ctx 432 (by decide +kernel) rfl⟩
theorem lmX12_199 : LM RX12 199 Lib.MathLoose.min_long.x Lib.MathLoose.min_long.code 4 (some .long) := ⟨in_ctx 1460 (by decide +kernel) rfl, in_ctx 1461 (by decide +kernel) rfl, in_ctx 22 (by decide +kernel) rfl, in_ctx 1462 (by decide +kernel) rfl⟩
theorem lmX0_29 : LM RX0 29 Lib.Math.min.name Lib.Math.min.code 2 (some .int) := ⟨in_ctx 1477 (by decide +kernel) rfl, in_ctx 431 (by decide +kernel) rfl, in_ctx 22 (by decide +kernel) rfl, in_ctx 432 (by decide +kernel) rfl⟩
theorem lmX6_65 : LM RX6 65 Lib.Math.min.name Lib.Math.min.code 2 (some .int) := ⟨in_ctx 1517 (by decide +kernel) rfl, in_ctx 431 (by decide +kernel) rfl, in_ctx 22 (by decide +kernel) rfl, in_ctx 432 (by decide +kernel) rfl⟩
theorem lmX6_197 : LM RX6 197 Lib.Math.max.name Lib.Math.max.code 2 (some .int) := ⟨in_ctx 1528 (by decide +kernel) rfl, in_ctx 766 (by decide +kernel) rfl, in_ctx 22 (by decide +kernel) rfl, in_ctx 767 (by decide +kernel) rfl⟩
theorem lmX6_213 : LM RX6 213 Lib.MathLoose.min_long.x Lib.MathLoose.min_long.code 4 (some .long) := ⟨in_ctx 1547 (by decide +kernel) rfl, in_ctx 1461 (by decide +kernel) rfl, in_ctx 22 (by decide +kernel) rfl, in_ctx 1462 (by decide +kernel) rfl⟩
theorem lmL_294 : LM RL 294 Lib.Math.min.name Lib.Math.min.code 2 (some .int) := ⟨in_ctx 1555 (by decide +kernel) rfl, in_ctx 431 (by decide +kernel) rfl, in_ctx 22 (by decide +kernel) rfl, in_ctx 432 (by decide +kernel) rfl⟩
theorem lmL_319 : LM RL 319 Lib.Math.max.name Lib.Math.max.code 2 (some .int) := ⟨in_ctx 1580 (by decide +kernel) rfl, in_ctx 766 (by decide +kernel) rfl, in_ctx 22 (by decide +kernel) rfl, in_ctx 767 (by decide +kernel) rfl⟩
theorem kcL_7 : Cond.constant RL 7 (2147483647 : Int32) ∈ lw_ctx := in_ctx 541 (by decide +kernel) rfl
theorem kcX3_156 : Cond.constant RX3 156 (1000000 : Int32) ∈ lw_ctx := in_ctx 662 (by decide +kernel) rfl
theorem kcX3_170 : Cond.constant RX3 170 (100000 : Int32) ∈ lw_ctx := in_ctx 671 (by decide +kernel) rfl
theorem kcJ8_200 : Cond.constant RJ8 200 (2147483639 : Int32) ∈ lw_ctx := in_ctx 768 (by decide +kernel) rfl
theorem kcJ5_39 : Cond.constant RJ5 39 (2147483647 : Int32) ∈ lw_ctx := in_ctx 772 (by decide +kernel) rfl
theorem kcJ2_20 : Cond.constant RJ2 20 (1073741823 : Int32) ∈ lw_ctx := in_ctx 826 (by decide +kernel) rfl
theorem kcL_68 : Cond.constant RL 68 (65536 : Int32) ∈ lw_ctx := in_ctx 938 (by decide +kernel) rfl
theorem kcL_117 : Cond.constant RL 117 (524288 : Int32) ∈ lw_ctx := in_ctx 1029 (by decide +kernel) rfl
theorem kcL_123 : Cond.constant RL 123 (2097152 : Int32) ∈ lw_ctx := in_ctx 1031 (by decide +kernel) rfl
theorem kcL_129 : Cond.constant RL 129 (16777216 : Int32) ∈ lw_ctx := in_ctx 1033 (by decide +kernel) rfl
theorem kcX12_112 : Cond.constantLong RX12 112 (4 : Int64) ∈ lw_ctx := in_ctx 1222 (by decide +kernel) rfl
theorem kcX12_138 : Cond.constantLong RX12 138 (1000000000 : Int64) ∈ lw_ctx := in_ctx 1444 (by decide +kernel) rfl
theorem kcX12_140 : Cond.constant RX12 140 (1000000000 : Int32) ∈ lw_ctx := in_ctx 1445 (by decide +kernel) rfl
theorem kcX12_197 : Cond.constantLong RX12 197 (100000000 : Int64) ∈ lw_ctx := in_ctx 1459 (by decide +kernel) rfl
theorem kcX12_206 : Cond.constantLong RX12 206 (1000 : Int64) ∈ lw_ctx := in_ctx 1467 (by decide +kernel) rfl
theorem kcX6_64 : Cond.constant RX6 64 (1000000000 : Int32) ∈ lw_ctx := in_ctx 1516 (by decide +kernel) rfl
theorem kcX6_76 : Cond.constant RX6 76 (100000000 : Int32) ∈ lw_ctx := in_ctx 1533 (by decide +kernel) rfl
theorem kcX6_219 : Cond.constantLong RX6 219 (1000 : Int64) ∈ lw_ctx := in_ctx 1546 (by decide +kernel) rfl
theorem kcX7_249 : Cond.constant RX7 249 (100000 : Int32) ∈ lw_ctx := in_ctx 1553 (by decide +kernel) rfl
theorem kcL_311 : Cond.constant RL 311 (32768 : Int32) ∈ lw_ctx := in_ctx 1567 (by decide +kernel) rfl
theorem kcL_405 : Cond.constant RL 405 (100001 : Int32) ∈ lw_ctx := in_ctx 1751 (by decide +kernel) rfl
