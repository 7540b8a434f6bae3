def R_law0 : String := "DixonEliminatorLaw"
abbrev mJ6_bitCount_0f7a4 : zM := (RJ6, cJ6_bitCount_0f7a4, 1, some .int, false, 0, 0, 0, zN, none)
theorem mvJ6_bitCount_0f7a4 : zS2 yJ6_bitCount_0f7a4 mJ6_bitCount_0f7a4 1 := ⟨⟨zmem 314 (by decide +kernel) (by decide +kernel), zmem 82 (by decide +kernel) (by decide +kernel), ⟨by decide +kernel, by decide +kernel⟩, by decide +kernel, by decide, by decide +kernel, rfl, (fun h => by cases h), rfl⟩, zmem 313 (by decide +kernel) (by decide +kernel), rfl, rfl, rfl, rfl⟩
theorem meJ6_bitCount_0f7a4 : zE mJ6_bitCount_0f7a4 := ⟨rfl, rfl, rfl⟩
abbrev mJ7_fill_53178 : zM := (RJ7, cJ7_fill_53178, 4, none, false, 0, 0, 0, zN, none)
theorem mvJ7_fill_53178 : zS2 yJ7_fill_53178 mJ7_fill_53178 2 := ⟨⟨zmem 440 (by decide +kernel) (by decide +kernel), zmem 85 (by decide +kernel) (by decide +kernel), ⟨by decide +kernel, by decide +kernel⟩, by decide +kernel, by decide, by decide +kernel, rfl, (fun h => by cases h), rfl⟩, zmem 439 (by decide +kernel) (by decide +kernel), rfl, rfl, rfl, rfl⟩
theorem meJ7_fill_53178 : zE mJ7_fill_53178 := ⟨rfl, rfl, rfl⟩
abbrev mX0_addBracket : zM := (RX0, cX0_addBracket, 10, none, false, 2, 0, 0, zN, none)
theorem mvX0_addBracket : zV2 yX0_addBracket mX0_addBracket 3 0 := ⟨⟨zmem 656 (by decide +kernel) (by decide +kernel), zmem 75 (by decide +kernel) (by decide +kernel), ⟨by decide +kernel, by decide +kernel⟩, by decide +kernel, by decide, by decide +kernel, rfl, (fun h => by cases h), rfl⟩, ⟨zmem 655 (by decide +kernel) (by decide +kernel), zmem 13 (by decide +kernel) (by decide +kernel), by decide, rfl⟩, rfl, rfl, rfl, rfl⟩
theorem meX0_addBracket : zE mX0_addBracket := ⟨rfl, rfl, rfl⟩
abbrev mX0_addCrossTerms : zM := (RX0, cX0_addCrossTerms, 10, none, false, 0, 0, 0, zN, none)
theorem mvX0_addCrossTerms : zS2 yX0_addCrossTerms mX0_addCrossTerms 6 := ⟨⟨zmem 644 (by decide +kernel) (by decide +kernel), zmem 75 (by decide +kernel) (by decide +kernel), ⟨by decide +kernel, by decide +kernel⟩, by decide +kernel, by decide, by decide +kernel, rfl, (fun h => by cases h), rfl⟩, zmem 643 (by decide +kernel) (by decide +kernel), rfl, rfl, rfl, rfl⟩
theorem meX0_addCrossTerms : zE mX0_addCrossTerms := ⟨rfl, rfl, rfl⟩
abbrev mX0_addTo : zM := (RX0, cX0_addTo, 3, none, false, 1, 0, 0, zN, none)
theorem mvX0_addTo : zV2 yX0_addTo mX0_addTo 1 0 := ⟨⟨zmem 664 (by decide +kernel) (by decide +kernel), zmem 75 (by decide +kernel) (by decide +kernel), ⟨by decide +kernel, by decide +kernel⟩, by decide +kernel, by decide, by decide +kernel, rfl, (fun h => by cases h), rfl⟩, ⟨zmem 663 (by decide +kernel) (by decide +kernel), zmem 14 (by decide +kernel) (by decide +kernel), by decide, rfl⟩, rfl, rfl, rfl, rfl⟩
theorem meX0_addTo : zE mX0_addTo := ⟨rfl, rfl, rfl⟩
abbrev mX0_at : zM := (RX0, cX0_at, 4, some (.array .int), false, 0, 0, 0, zN, none)
theorem mvX0_at : zV2 yX0_at mX0_at 2 0 := ⟨⟨zmem 660 (by decide +kernel) (by decide +kernel), zmem 75 (by decide +kernel) (by decide +kernel), ⟨by decide +kernel, by decide +kernel⟩, by decide +kernel, by decide, by decide +kernel, rfl, (fun h => by cases h), rfl⟩, ⟨zmem 658 (by decide +kernel) (by decide +kernel), zmem 659 (by decide +kernel) (by decide +kernel), by decide, rfl⟩, rfl, rfl, rfl, rfl⟩
theorem meX0_at : zE mX0_at := ⟨rfl, rfl, rfl⟩
abbrev mX0_closeBracket : zM := (RX0, cX0_closeBracket, 9, none, false, 2, 0, 0, zN, none)
theorem mvX0_closeBracket : zV2 yX0_closeBracket mX0_closeBracket 1 0 := ⟨⟨zmem 652 (by decide +kernel) (by decide +kernel), zmem 75 (by decide +kernel) (by decide +kernel), ⟨by decide +kernel, by decide +kernel⟩, by decide +kernel, by decide, by decide +kernel, rfl, (fun h => by cases h), rfl⟩, ⟨zmem 651 (by decide +kernel) (by decide +kernel), zmem 12 (by decide +kernel) (by decide +kernel), by decide, rfl⟩, rfl, rfl, rfl, rfl⟩
theorem meX0_closeBracket : zE mX0_closeBracket := ⟨rfl, rfl, rfl⟩
abbrev mX0_fill : zM := (RX0, cX0_fill, 4, none, false, 3, 0, 0, zN, none)
theorem mvX0_fill : zV2 yX0_fill mX0_fill 0 0 := ⟨⟨zmem 635 (by decide +kernel) (by decide +kernel), zmem 75 (by decide +kernel) (by decide +kernel), ⟨by decide +kernel, by decide +kernel⟩, by decide +kernel, by decide, by decide +kernel, rfl, (fun h => by cases h), rfl⟩, ⟨zmem 633 (by decide +kernel) (by decide +kernel), zmem 634 (by decide +kernel) (by decide +kernel), by decide, rfl⟩, rfl, rfl, rfl, rfl⟩
theorem meX0_fill : zE mX0_fill := ⟨rfl, rfl, rfl⟩
abbrev mX0_forget : zM := (RX0, cX0_forget, 1, none, false, 0, 0, 0, zN, none)
theorem mvX0_forget : zV2 yX0_forget mX0_forget 0 0 := ⟨⟨zmem 425 (by decide +kernel) (by decide +kernel), zmem 75 (by decide +kernel) (by decide +kernel), ⟨by decide +kernel, by decide +kernel⟩, by decide +kernel, by decide, by decide +kernel, rfl, (fun h => by cases h), rfl⟩, ⟨zmem 423 (by decide +kernel) (by decide +kernel), zmem 424 (by decide +kernel) (by decide +kernel), by decide, rfl⟩, rfl, rfl, rfl, rfl⟩
theorem meX0_forget : zE mX0_forget := ⟨rfl, rfl, rfl⟩
abbrev mX0_measure : zM := (RX0, cX0_measure, 1, none, false, 3, 0, 0, zN, none)
theorem mvX0_measure : zV2 yX0_measure mX0_measure 0 0 := ⟨⟨zmem 627 (by decide +kernel) (by decide +kernel), zmem 75 (by decide +kernel) (by decide +kernel), ⟨by decide +kernel, by decide +kernel⟩, by decide +kernel, by decide, by decide +kernel, rfl, (fun h => by cases h), rfl⟩, ⟨zmem 625 (by decide +kernel) (by decide +kernel), zmem 626 (by decide +kernel) (by decide +kernel), by decide, rfl⟩, rfl, rfl, rfl, rfl⟩
theorem meX0_measure : zE mX0_measure := ⟨rfl, rfl, rfl⟩
abbrev mX0_multiplyAcross : zM := (RX0, cX0_multiplyAcross, 9, some .boolean, false, 2, 0, 0, zN, none)
theorem mvX0_multiplyAcross : zV2 yX0_multiplyAcross mX0_multiplyAcross 2 0 := ⟨⟨zmem 640 (by decide +kernel) (by decide +kernel), zmem 75 (by decide +kernel) (by decide +kernel), ⟨by decide +kernel, by decide +kernel⟩, by decide +kernel, by decide, by decide +kernel, rfl, (fun h => by cases h), rfl⟩, ⟨zmem 639 (by decide +kernel) (by decide +kernel), zmem 11 (by decide +kernel) (by decide +kernel), by decide, rfl⟩, rfl, rfl, rfl, rfl⟩
theorem meX0_multiplyAcross : zE mX0_multiplyAcross := ⟨rfl, rfl, rfl⟩
abbrev mX0_termAt : zM := (RX0, cX0_termAt, 5, some .int, false, 1, 0, 0, zN, none)
theorem mvX0_termAt : zV2 yX0_termAt mX0_termAt 3 0 := ⟨⟨zmem 673 (by decide +kernel) (by decide +kernel), zmem 75 (by decide +kernel) (by decide +kernel), ⟨by decide +kernel, by decide +kernel⟩, by decide +kernel, by decide, by decide +kernel, rfl, (fun h => by cases h), rfl⟩, ⟨zmem 671 (by decide +kernel) (by decide +kernel), zmem 672 (by decide +kernel) (by decide +kernel), by decide, rfl⟩, rfl, rfl, rfl, rfl⟩
theorem meX0_termAt : zE mX0_termAt := ⟨rfl, rfl, rfl⟩
abbrev mX0_writeColumn : zM := (RX0, cX0_writeColumn, 5, none, false, 1, 0, 0, zN, none)
theorem mvX0_writeColumn : zV2 yX0_writeColumn mX0_writeColumn 3 0 := ⟨⟨zmem 750 (by decide +kernel) (by decide +kernel), zmem 75 (by decide +kernel) (by decide +kernel), ⟨by decide +kernel, by decide +kernel⟩, by decide +kernel, by decide, by decide +kernel, rfl, (fun h => by cases h), rfl⟩, ⟨zmem 748 (by decide +kernel) (by decide +kernel), zmem 749 (by decide +kernel) (by decide +kernel), by decide, rfl⟩, rfl, rfl, rfl, rfl⟩
theorem meX0_writeColumn : zE mX0_writeColumn := ⟨rfl, rfl, rfl⟩
abbrev mX0_writeRow : zM := (RX0, cX0_writeRow, 5, none, false, 1, 0, 0, zN, none)
theorem mvX0_writeRow : zV2 yX0_writeRow mX0_writeRow 3 0 := ⟨⟨zmem 698 (by decide +kernel) (by decide +kernel), zmem 75 (by decide +kernel) (by decide +kernel), ⟨by decide +kernel, by decide +kernel⟩, by decide +kernel, by decide, by decide +kernel, rfl, (fun h => by cases h), rfl⟩, ⟨zmem 696 (by decide +kernel) (by decide +kernel), zmem 697 (by decide +kernel) (by decide +kernel), by decide, rfl⟩, rfl, rfl, rfl, rfl⟩
theorem meX0_writeRow : zE mX0_writeRow := ⟨rfl, rfl, rfl⟩
abbrev mX10_addsProduct : zM := (RX10, cX10_addsProduct, 10, none, false, 1, 0, 0, zN, none)
theorem mvX10_addsProduct : zV2 yX10_addsProduct mX10_addsProduct 1 9 := ⟨⟨zmem 1244 (by decide +kernel) (by decide +kernel), zmem 83 (by decide +kernel) (by decide +kernel), ⟨by decide +kernel, by decide +kernel⟩, by decide +kernel, by decide, by decide +kernel, rfl, (fun h => by cases h), rfl⟩, ⟨zmem 1243 (by decide +kernel) (by decide +kernel), zmem 50 (by decide +kernel) (by decide +kernel), by decide, rfl⟩, rfl, rfl, rfl, rfl⟩
theorem meX10_addsProduct : zE mX10_addsProduct := ⟨rfl, rfl, rfl⟩
abbrev mX10_at : zM := (RX10, cX10_at, 4, some .int, false, 0, 0, 0, zN, none)
theorem mvX10_at : zS2 yX10_at mX10_at 4 := ⟨⟨zmem 1135 (by decide +kernel) (by decide +kernel), zmem 83 (by decide +kernel) (by decide +kernel), ⟨by decide +kernel, by decide +kernel⟩, by decide +kernel, by decide, by decide +kernel, rfl, (fun h => by cases h), rfl⟩, zmem 1134 (by decide +kernel) (by decide +kernel), rfl, rfl, rfl, rfl⟩
theorem meX10_at : zE mX10_at := ⟨rfl, rfl, rfl⟩
abbrev mX10_begins : zM := (RX10, cX10_begins, 2, none, false, 1, 0, 0, zN, none)
theorem mvX10_begins : zV2 yX10_begins mX10_begins 0 9 := ⟨⟨zmem 1073 (by decide +kernel) (by decide +kernel), zmem 83 (by decide +kernel) (by decide +kernel), ⟨by decide +kernel, by decide +kernel⟩, by decide +kernel, by decide, by decide +kernel, rfl, (fun h => by cases h), rfl⟩, ⟨zmem 1072 (by decide +kernel) (by decide +kernel), zmem 25 (by decide +kernel) (by decide +kernel), by decide, rfl⟩, rfl, rfl, rfl, rfl⟩
theorem meX10_begins : zE mX10_begins := ⟨rfl, rfl, rfl⟩
abbrev mX10_bits : zM := (RX10, cX10_bits, 3, some .int, false, 0, 0, 0, zN, none)
theorem mvX10_bits : zS2 yX10_bits mX10_bits 1 := ⟨⟨zmem 1271 (by decide +kernel) (by decide +kernel), zmem 83 (by decide +kernel) (by decide +kernel), ⟨by decide +kernel, by decide +kernel⟩, by decide +kernel, by decide, by decide +kernel, rfl, (fun h => by cases h), rfl⟩, zmem 1270 (by decide +kernel) (by decide +kernel), rfl, rfl, rfl, rfl⟩
theorem meX10_bits : zE mX10_bits := ⟨rfl, rfl, rfl⟩
abbrev mX10_clearText : zM := (RX10, cX10_clearText, 2, some .int, false, 0, 0, 0, zN, none)
theorem mvX10_clearText : zV2 yX10_clearText mX10_clearText 0 9 := ⟨⟨zmem 1085 (by decide +kernel) (by decide +kernel), zmem 83 (by decide +kernel) (by decide +kernel), ⟨by decide +kernel, by decide +kernel⟩, by decide +kernel, by decide, by decide +kernel, rfl, (fun h => by cases h), rfl⟩, ⟨zmem 1083 (by decide +kernel) (by decide +kernel), zmem 1084 (by decide +kernel) (by decide +kernel), by decide, rfl⟩, rfl, rfl, rfl, rfl⟩
theorem meX10_clearText : zE mX10_clearText := ⟨rfl, rfl, rfl⟩
abbrev mX10_clears : zM := (RX10, cX10_clears, 7, none, false, 2, 0, 0, zN, none)
theorem mvX10_clears : zV2 yX10_clears mX10_clears 2 9 := ⟨⟨zmem 1393 (by decide +kernel) (by decide +kernel), zmem 83 (by decide +kernel) (by decide +kernel), ⟨by decide +kernel, by decide +kernel⟩, by decide +kernel, by decide, by decide +kernel, rfl, (fun h => by cases h), rfl⟩, ⟨zmem 1392 (by decide +kernel) (by decide +kernel), zmem 68 (by decide +kernel) (by decide +kernel), by decide, rfl⟩, rfl, rfl, rfl, rfl⟩
theorem meX10_clears : zE mX10_clears := ⟨rfl, rfl, rfl⟩
abbrev mX10_coefficient : zM := (RX10, cX10_coefficient, 5, some .int, false, 2, 0, 0, zN, none)
theorem mvX10_coefficient : zV2 yX10_coefficient mX10_coefficient 4 9 := ⟨⟨zmem 1139 (by decide +kernel) (by decide +kernel), zmem 83 (by decide +kernel) (by decide +kernel), ⟨by decide +kernel, by decide +kernel⟩, by decide +kernel, by decide, by decide +kernel, rfl, (fun h => by cases h), rfl⟩, ⟨zmem 1137 (by decide +kernel) (by decide +kernel), zmem 1138 (by decide +kernel) (by decide +kernel), by decide, rfl⟩, rfl, rfl, rfl, rfl⟩
theorem meX10_coefficient : zE mX10_coefficient := ⟨rfl, rfl, rfl⟩
abbrev mX10_combine : zM := (RX10, cX10_combine, 10, some .int, false, 2, 0, 0, zN, none)
theorem mvX10_combine : zV2 yX10_combine mX10_combine 6 9 := ⟨⟨zmem 1168 (by decide +kernel) (by decide +kernel), zmem 83 (by decide +kernel) (by decide +kernel), ⟨by decide +kernel, by decide +kernel⟩, by decide +kernel, by decide, by decide +kernel, rfl, (fun h => by cases h), rfl⟩, ⟨zmem 1166 (by decide +kernel) (by decide +kernel), zmem 1167 (by decide +kernel) (by decide +kernel), by decide, rfl⟩, rfl, rfl, rfl, rfl⟩
theorem meX10_combine : zE mX10_combine := ⟨rfl, rfl, rfl⟩
abbrev mX10_commonRoot : zM := (RX10, cX10_commonRoot, 3, some .int, false, 4, 0, 0, zN, none)
theorem mvX10_commonRoot : zV2 yX10_commonRoot mX10_commonRoot 2 9 := ⟨⟨zmem 1365 (by decide +kernel) (by decide +kernel), zmem 83 (by decide +kernel) (by decide +kernel), ⟨by decide +kernel, by decide +kernel⟩, by decide +kernel, by decide, by decide +kernel, rfl, (fun h => by cases h), rfl⟩, ⟨zmem 1363 (by decide +kernel) (by decide +kernel), zmem 1364 (by decide +kernel) (by decide +kernel), by decide, rfl⟩, rfl, rfl, rfl, rfl⟩
theorem meX10_commonRoot : zE mX10_commonRoot := ⟨rfl, rfl, rfl⟩
abbrev mX10_commonRoots : zM := (RX10, cX10_commonRoots, 2, some .int, false, 5, 0, 0, zN, none)
theorem mvX10_commonRoots : zV2 yX10_commonRoots mX10_commonRoots 1 9 := ⟨⟨zmem 1361 (by decide +kernel) (by decide +kernel), zmem 83 (by decide +kernel) (by decide +kernel), ⟨by decide +kernel, by decide +kernel⟩, by decide +kernel, by decide, by decide +kernel, rfl, (fun h => by cases h), rfl⟩, ⟨zmem 1359 (by decide +kernel) (by decide +kernel), zmem 1360 (by decide +kernel) (by decide +kernel), by decide, rfl⟩, rfl, rfl, rfl, rfl⟩
theorem meX10_commonRoots : zE mX10_commonRoots := ⟨rfl, rfl, rfl⟩
abbrev mX10_condition : zM := (RX10, cX10_condition, 1, some .int, false, 8, 0, 0, zN, none)
theorem mvX10_condition : zV2 yX10_condition mX10_condition 0 9 := ⟨⟨zmem 1337 (by decide +kernel) (by decide +kernel), zmem 83 (by decide +kernel) (by decide +kernel), ⟨by decide +kernel, by decide +kernel⟩, by decide +kernel, by decide, by decide +kernel, rfl, (fun h => by cases h), rfl⟩, ⟨zmem 1335 (by decide +kernel) (by decide +kernel), zmem 1336 (by decide +kernel) (by decide +kernel), by decide, rfl⟩, rfl, rfl, rfl, rfl⟩
theorem meX10_condition : zE mX10_condition := ⟨rfl, rfl, rfl⟩
abbrev mX10_confirmed : zM := (RX10, cX10_confirmed, 2, some .int, false, 8, 0, 0, zN, none)
theorem mvX10_confirmed : zV2 yX10_confirmed mX10_confirmed 1 9 := ⟨⟨zmem 1397 (by decide +kernel) (by decide +kernel), zmem 83 (by decide +kernel) (by decide +kernel), ⟨by decide +kernel, by decide +kernel⟩, by decide +kernel, by decide, by decide +kernel, rfl, (fun h => by cases h), rfl⟩, ⟨zmem 1395 (by decide +kernel) (by decide +kernel), zmem 1396 (by decide +kernel) (by decide +kernel), by decide, rfl⟩, rfl, rfl, rfl, rfl⟩
theorem meX10_confirmed : zE mX10_confirmed := ⟨rfl, rfl, rfl⟩
abbrev mX10_count : zM := (RX10, cX10_count, 2, some .int, false, 5, 0, 0, zN, none)
theorem mvX10_count : zV2 yX10_count mX10_count 1 9 := ⟨⟨zmem 1405 (by decide +kernel) (by decide +kernel), zmem 83 (by decide +kernel) (by decide +kernel), ⟨by decide +kernel, by decide +kernel⟩, by decide +kernel, by decide, by decide +kernel, rfl, (fun h => by cases h), rfl⟩, ⟨zmem 1403 (by decide +kernel) (by decide +kernel), zmem 1404 (by decide +kernel) (by decide +kernel), by decide, rfl⟩, rfl, rfl, rfl, rfl⟩
theorem meX10_count : zE mX10_count := ⟨rfl, rfl, rfl⟩
abbrev mX10_cut : zM := (RX10, cX10_cut, 5, some .int, false, 2, 0, 0, zN, none)
theorem mvX10_cut : zV2 yX10_cut mX10_cut 4 9 := ⟨⟨zmem 1196 (by decide +kernel) (by decide +kernel), zmem 83 (by decide +kernel) (by decide +kernel), ⟨by decide +kernel, by decide +kernel⟩, by decide +kernel, by decide, by decide +kernel, rfl, (fun h => by cases h), rfl⟩, ⟨zmem 1195 (by decide +kernel) (by decide +kernel), zmem 41 (by decide +kernel) (by decide +kernel), by decide, rfl⟩, rfl, rfl, rfl, rfl⟩
theorem meX10_cut : zE mX10_cut := ⟨rfl, rfl, rfl⟩
abbrev mX10_cutDegree : zM := (RX10, cX10_cutDegree, 8, some .int, false, 3, 0, 0, zN, none)
theorem mvX10_cutDegree : zV2 yX10_cutDegree mX10_cutDegree 3 9 := ⟨⟨zmem 1192 (by decide +kernel) (by decide +kernel), zmem 83 (by decide +kernel) (by decide +kernel), ⟨by decide +kernel, by decide +kernel⟩, by decide +kernel, by decide, by decide +kernel, rfl, (fun h => by cases h), rfl⟩, ⟨zmem 1191 (by decide +kernel) (by decide +kernel), zmem 40 (by decide +kernel) (by decide +kernel), by decide, rfl⟩, rfl, rfl, rfl, rfl⟩
theorem meX10_cutDegree : zE mX10_cutDegree := ⟨rfl, rfl, rfl⟩
abbrev mX10_degree : zM := (RX10, cX10_degree, 3, some .int, false, 1, 0, 0, zN, none)
theorem mvX10_degree : zV2 yX10_degree mX10_degree 2 9 := ⟨⟨zmem 1180 (by decide +kernel) (by decide +kernel), zmem 83 (by decide +kernel) (by decide +kernel), ⟨by decide +kernel, by decide +kernel⟩, by decide +kernel, by decide, by decide +kernel, rfl, (fun h => by cases h), rfl⟩, ⟨zmem 1178 (by decide +kernel) (by decide +kernel), zmem 1179 (by decide +kernel) (by decide +kernel), by decide, rfl⟩, rfl, rfl, rfl, rfl⟩
theorem meX10_degree : zE mX10_degree := ⟨rfl, rfl, rfl⟩
abbrev mX10_degreeAt : zM := (RX10, cX10_degreeAt, 4, some .int, false, 4, 0, 0, zN, none)
theorem mvX10_degreeAt : zV2 yX10_degreeAt mX10_degreeAt 3 9 := ⟨⟨zmem 1188 (by decide +kernel) (by decide +kernel), zmem 83 (by decide +kernel) (by decide +kernel), ⟨by decide +kernel, by decide +kernel⟩, by decide +kernel, by decide, by decide +kernel, rfl, (fun h => by cases h), rfl⟩, ⟨zmem 1186 (by decide +kernel) (by decide +kernel), zmem 1187 (by decide +kernel) (by decide +kernel), by decide, rfl⟩, rfl, rfl, rfl, rfl⟩
theorem meX10_degreeAt : zE mX10_degreeAt := ⟨rfl, rfl, rfl⟩
abbrev mX10_degreeDrops : zM := (RX10, cX10_degreeDrops, 5, some .int, false, 4, 0, 0, zN, none)
theorem mvX10_degreeDrops : zV2 yX10_degreeDrops mX10_degreeDrops 0 9 := ⟨⟨zmem 1200 (by decide +kernel) (by decide +kernel), zmem 83 (by decide +kernel) (by decide +kernel), ⟨by decide +kernel, by decide +kernel⟩, by decide +kernel, by decide, by decide +kernel, rfl, (fun h => by cases h), rfl⟩, ⟨zmem 1198 (by decide +kernel) (by decide +kernel), zmem 1199 (by decide +kernel) (by decide +kernel), by decide, rfl⟩, rfl, rfl, rfl, rfl⟩
theorem meX10_degreeDrops : zE mX10_degreeDrops := ⟨rfl, rfl, rfl⟩
abbrev mX10_degreeIn : zM := (RX10, cX10_degreeIn, 2, some .int, false, 0, 0, 0, zN, none)
theorem mvX10_degreeIn : zS2 yX10_degreeIn mX10_degreeIn 1 := ⟨⟨zmem 1305 (by decide +kernel) (by decide +kernel), zmem 83 (by decide +kernel) (by decide +kernel), ⟨by decide +kernel, by decide +kernel⟩, by decide +kernel, by decide, by decide +kernel, rfl, (fun h => by cases h), rfl⟩, zmem 1304 (by decide +kernel) (by decide +kernel), rfl, rfl, rfl, rfl⟩
theorem meX10_degreeIn : zE mX10_degreeIn := ⟨rfl, rfl, rfl⟩
abbrev mX10_degreeOf : zM := (RX10, cX10_degreeOf, 6, some .int, false, 0, 0, 0, zN, none)
theorem mvX10_degreeOf : zV2 yX10_degreeOf mX10_degreeOf 2 9 := ⟨⟨zmem 1184 (by decide +kernel) (by decide +kernel), zmem 83 (by decide +kernel) (by decide +kernel), ⟨by decide +kernel, by decide +kernel⟩, by decide +kernel, by decide, by decide +kernel, rfl, (fun h => by cases h), rfl⟩, ⟨zmem 1183 (by decide +kernel) (by decide +kernel), zmem 39 (by decide +kernel) (by decide +kernel), by decide, rfl⟩, rfl, rfl, rfl, rfl⟩
theorem meX10_degreeOf : zE mX10_degreeOf := ⟨rfl, rfl, rfl⟩
abbrev mX10_differsInX : zM := (RX10, cX10_differsInX, 6, none, false, 2, 0, 0, zN, none)
theorem mvX10_differsInX : zV2 yX10_differsInX mX10_differsInX 1 9 := ⟨⟨zmem 1232 (by decide +kernel) (by decide +kernel), zmem 83 (by decide +kernel) (by decide +kernel), ⟨by decide +kernel, by decide +kernel⟩, by decide +kernel, by decide, by decide +kernel, rfl, (fun h => by cases h), rfl⟩, ⟨zmem 1231 (by decide +kernel) (by decide +kernel), zmem 47 (by decide +kernel) (by decide +kernel), by decide, rfl⟩, rfl, rfl, rfl, rfl⟩
theorem meX10_differsInX : zE mX10_differsInX := ⟨rfl, rfl, rfl⟩
abbrev mX10_differsInY : zM := (RX10, cX10_differsInY, 6, none, false, 2, 0, 0, zN, none)
theorem mvX10_differsInY : zV2 yX10_differsInY mX10_differsInY 1 9 := ⟨⟨zmem 1236 (by decide +kernel) (by decide +kernel), zmem 83 (by decide +kernel) (by decide +kernel), ⟨by decide +kernel, by decide +kernel⟩, by decide +kernel, by decide, by decide +kernel, rfl, (fun h => by cases h), rfl⟩, ⟨zmem 1235 (by decide +kernel) (by decide +kernel), zmem 48 (by decide +kernel) (by decide +kernel), by decide, rfl⟩, rfl, rfl, rfl, rfl⟩
theorem meX10_differsInY : zE mX10_differsInY := ⟨rfl, rfl, rfl⟩
abbrev mX10_digest : zM := (RX10, cX10_digest, 2, some .long, false, 9, 0, 0, zN, none)
theorem mvX10_digest : zV2 yX10_digest mX10_digest 0 9 := ⟨⟨zmem 1409 (by decide +kernel) (by decide +kernel), zmem 83 (by decide +kernel) (by decide +kernel), ⟨by decide +kernel, by decide +kernel⟩, by decide +kernel, by decide, by decide +kernel, rfl, (fun h => by cases h), rfl⟩, ⟨zmem 1407 (by decide +kernel) (by decide +kernel), zmem 1408 (by decide +kernel) (by decide +kernel), by decide, rfl⟩, rfl, rfl, rfl, rfl⟩
theorem meX10_digest : zE mX10_digest := ⟨rfl, rfl, rfl⟩
abbrev mX10_divides : zM := (RX10, cX10_divides, 6, none, false, 1, 0, 0, zN, none)
theorem mvX10_divides : zV2 yX10_divides mX10_divides 2 9 := ⟨⟨zmem 1302 (by decide +kernel) (by decide +kernel), zmem 83 (by decide +kernel) (by decide +kernel), ⟨by decide +kernel, by decide +kernel⟩, by decide +kernel, by decide, by decide +kernel, rfl, (fun h => by cases h), rfl⟩, ⟨zmem 1301 (by decide +kernel) (by decide +kernel), zmem 63 (by decide +kernel) (by decide +kernel), by decide, rfl⟩, rfl, rfl, rfl, rfl⟩
theorem meX10_divides : zE mX10_divides := ⟨rfl, rfl, rfl⟩
abbrev mX10_draw : zM := (RX10, cX10_draw, 10, some .int, false, 2, 0, 0, zN, none)
theorem mvX10_draw : zV2 yX10_draw mX10_draw 5 9 := ⟨⟨zmem 1143 (by decide +kernel) (by decide +kernel), zmem 83 (by decide +kernel) (by decide +kernel), ⟨by decide +kernel, by decide +kernel⟩, by decide +kernel, by decide, by decide +kernel, rfl, (fun h => by cases h), rfl⟩, ⟨zmem 1141 (by decide +kernel) (by decide +kernel), zmem 1142 (by decide +kernel) (by decide +kernel), by decide, rfl⟩, rfl, rfl, rfl, rfl⟩
theorem meX10_draw : zE mX10_draw := ⟨rfl, rfl, rfl⟩
abbrev mX10_eliminant : zM := (RX10, cX10_eliminant, 3, some .int, false, 8, 0, 0, zN, none)
theorem mvX10_eliminant : zV2 yX10_eliminant mX10_eliminant 2 9 := ⟨⟨zmem 1345 (by decide +kernel) (by decide +kernel), zmem 83 (by decide +kernel) (by decide +kernel), ⟨by decide +kernel, by decide +kernel⟩, by decide +kernel, by decide, by decide +kernel, rfl, (fun h => by cases h), rfl⟩, ⟨zmem 1343 (by decide +kernel) (by decide +kernel), zmem 1344 (by decide +kernel) (by decide +kernel), by decide, rfl⟩, rfl, rfl, rfl, rfl⟩
theorem meX10_eliminant : zE mX10_eliminant := ⟨rfl, rfl, rfl⟩
abbrev mX10_eliminantAt : zM := (RX10, cX10_eliminantAt, 3, some .int, false, 8, 0, 0, zN, none)
theorem mvX10_eliminantAt : zV2 yX10_eliminantAt mX10_eliminantAt 2 9 := ⟨⟨zmem 1349 (by decide +kernel) (by decide +kernel), zmem 83 (by decide +kernel) (by decide +kernel), ⟨by decide +kernel, by decide +kernel⟩, by decide +kernel, by decide, by decide +kernel, rfl, (fun h => by cases h), rfl⟩, ⟨zmem 1347 (by decide +kernel) (by decide +kernel), zmem 1348 (by decide +kernel) (by decide +kernel), by decide, rfl⟩, rfl, rfl, rfl, rfl⟩
theorem meX10_eliminantAt : zE mX10_eliminantAt := ⟨rfl, rfl, rfl⟩
abbrev mX10_eliminantDegree : zM := (RX10, cX10_eliminantDegree, 2, some .int, false, 8, 0, 0, zN, none)
theorem mvX10_eliminantDegree : zV2 yX10_eliminantDegree mX10_eliminantDegree 1 9 := ⟨⟨zmem 1341 (by decide +kernel) (by decide +kernel), zmem 83 (by decide +kernel) (by decide +kernel), ⟨by decide +kernel, by decide +kernel⟩, by decide +kernel, by decide, by decide +kernel, rfl, (fun h => by cases h), rfl⟩, ⟨zmem 1339 (by decide +kernel) (by decide +kernel), zmem 1340 (by decide +kernel) (by decide +kernel), by decide, rfl⟩, rfl, rfl, rfl, rfl⟩
theorem meX10_eliminantDegree : zE mX10_eliminantDegree := ⟨rfl, rfl, rfl⟩
abbrev mX10_entry : zM := (RX10, cX10_entry, 4, some .int, false, 8, 0, 0, zN, none)
theorem mvX10_entry : zV2 yX10_entry mX10_entry 3 9 := ⟨⟨zmem 1216 (by decide +kernel) (by decide +kernel), zmem 83 (by decide +kernel) (by decide +kernel), ⟨by decide +kernel, by decide +kernel⟩, by decide +kernel, by decide, by decide +kernel, rfl, (fun h => by cases h), rfl⟩, ⟨zmem 1214 (by decide +kernel) (by decide +kernel), zmem 1215 (by decide +kernel) (by decide +kernel), by decide, rfl⟩, rfl, rfl, rfl, rfl⟩
theorem meX10_entry : zE mX10_entry := ⟨rfl, rfl, rfl⟩
abbrev mX10_entryAt : zM := (RX10, cX10_entryAt, 4, some .int, false, 8, 0, 0, zN, none)
theorem mvX10_entryAt : zV2 yX10_entryAt mX10_entryAt 3 9 := ⟨⟨zmem 1313 (by decide +kernel) (by decide +kernel), zmem 83 (by decide +kernel) (by decide +kernel), ⟨by decide +kernel, by decide +kernel⟩, by decide +kernel, by decide, by decide +kernel, rfl, (fun h => by cases h), rfl⟩, ⟨zmem 1311 (by decide +kernel) (by decide +kernel), zmem 1312 (by decide +kernel) (by decide +kernel), by decide, rfl⟩, rfl, rfl, rfl, rfl⟩
theorem meX10_entryAt : zE mX10_entryAt := ⟨rfl, rfl, rfl⟩
abbrev mX10_entryValue : zM := (RX10, cX10_entryValue, 6, some .int, false, 1, 0, 0, zN, none)
theorem mvX10_entryValue : zV2 yX10_entryValue mX10_entryValue 3 9 := ⟨⟨zmem 1256 (by decide +kernel) (by decide +kernel), zmem 83 (by decide +kernel) (by decide +kernel), ⟨by decide +kernel, by decide +kernel⟩, by decide +kernel, by decide, by decide +kernel, rfl, (fun h => by cases h), rfl⟩, ⟨zmem 1255 (by decide +kernel) (by decide +kernel), zmem 53 (by decide +kernel) (by decide +kernel), by decide, rfl⟩, rfl, rfl, rfl, rfl⟩
theorem meX10_entryValue : zE mX10_entryValue := ⟨rfl, rfl, rfl⟩
abbrev mX10_exchanges : zM := (RX10, cX10_exchanges, 5, none, false, 0, 0, 0, zN, none)
theorem mvX10_exchanges : zV2 yX10_exchanges mX10_exchanges 2 9 := ⟨⟨zmem 1389 (by decide +kernel) (by decide +kernel), zmem 83 (by decide +kernel) (by decide +kernel), ⟨by decide +kernel, by decide +kernel⟩, by decide +kernel, by decide, by decide +kernel, rfl, (fun h => by cases h), rfl⟩, ⟨zmem 1388 (by decide +kernel) (by decide +kernel), zmem 67 (by decide +kernel) (by decide +kernel), by decide, rfl⟩, rfl, rfl, rfl, rfl⟩
theorem meX10_exchanges : zE mX10_exchanges := ⟨rfl, rfl, rfl⟩
abbrev mX10_extraneous : zM := (RX10, cX10_extraneous, 1, some .int, false, 8, 0, 0, zN, none)
theorem mvX10_extraneous : zV2 yX10_extraneous mX10_extraneous 0 9 := ⟨⟨zmem 1357 (by decide +kernel) (by decide +kernel), zmem 83 (by decide +kernel) (by decide +kernel), ⟨by decide +kernel, by decide +kernel⟩, by decide +kernel, by decide, by decide +kernel, rfl, (fun h => by cases h), rfl⟩, ⟨zmem 1355 (by decide +kernel) (by decide +kernel), zmem 1356 (by decide +kernel) (by decide +kernel), by decide, rfl⟩, rfl, rfl, rfl, rfl⟩
theorem meX10_extraneous : zE mX10_extraneous := ⟨rfl, rfl, rfl⟩
abbrev mX10_findsDixon : zM := (RX10, cX10_findsDixon, 5, none, false, 3, 0, 0, zN, none)
theorem mvX10_findsDixon : zV2 yX10_findsDixon mX10_findsDixon 0 9 := ⟨⟨zmem 1228 (by decide +kernel) (by decide +kernel), zmem 83 (by decide +kernel) (by decide +kernel), ⟨by decide +kernel, by decide +kernel⟩, by decide +kernel, by decide, by decide +kernel, rfl, (fun h => by cases h), rfl⟩, ⟨zmem 1227 (by decide +kernel) (by decide +kernel), zmem 46 (by decide +kernel) (by decide +kernel), by decide, rfl⟩, rfl, rfl, rfl, rfl⟩
theorem meX10_findsDixon : zE mX10_findsDixon := ⟨rfl, rfl, rfl⟩
abbrev mX10_findsEliminant : zM := (RX10, cX10_findsEliminant, 2, none, false, 3, 0, 0, zN, none)
theorem mvX10_findsEliminant : zV2 yX10_findsEliminant mX10_findsEliminant 0 9 := ⟨⟨zmem 1275 (by decide +kernel) (by decide +kernel), zmem 83 (by decide +kernel) (by decide +kernel), ⟨by decide +kernel, by decide +kernel⟩, by decide +kernel, by decide, by decide +kernel, rfl, (fun h => by cases h), rfl⟩, ⟨zmem 1274 (by decide +kernel) (by decide +kernel), zmem 57 (by decide +kernel) (by decide +kernel), by decide, rfl⟩, rfl, rfl, rfl, rfl⟩
theorem meX10_findsEliminant : zE mX10_findsEliminant := ⟨rfl, rfl, rfl⟩
abbrev mX10_findsKernel : zM := (RX10, cX10_findsKernel, 5, none, false, 3, 0, 0, zN, none)
theorem mvX10_findsKernel : zV2 yX10_findsKernel mX10_findsKernel 1 9 := ⟨⟨zmem 1385 (by decide +kernel) (by decide +kernel), zmem 83 (by decide +kernel) (by decide +kernel), ⟨by decide +kernel, by decide +kernel⟩, by decide +kernel, by decide, by decide +kernel, rfl, (fun h => by cases h), rfl⟩, ⟨zmem 1384 (by decide +kernel) (by decide +kernel), zmem 66 (by decide +kernel) (by decide +kernel), by decide, rfl⟩, rfl, rfl, rfl, rfl⟩
theorem meX10_findsKernel : zE mX10_findsKernel := ⟨rfl, rfl, rfl⟩
abbrev mX10_findsPart : zM := (RX10, cX10_findsPart, 11, none, false, 2, 0, 0, zN, none)
theorem mvX10_findsPart : zV2 yX10_findsPart mX10_findsPart 1 9 := ⟨⟨zmem 1279 (by decide +kernel) (by decide +kernel), zmem 83 (by decide +kernel) (by decide +kernel), ⟨by decide +kernel, by decide +kernel⟩, by decide +kernel, by decide, by decide +kernel, rfl, (fun h => by cases h), rfl⟩, ⟨zmem 1278 (by decide +kernel) (by decide +kernel), zmem 58 (by decide +kernel) (by decide +kernel), by decide, rfl⟩, rfl, rfl, rfl, rfl⟩
theorem meX10_findsPart : zE mX10_findsPart := ⟨rfl, rfl, rfl⟩
abbrev mX10_findsRanks : zM := (RX10, cX10_findsRanks, 4, none, false, 4, 0, 0, zN, none)
theorem mvX10_findsRanks : zV2 yX10_findsRanks mX10_findsRanks 0 9 := ⟨⟨zmem 1248 (by decide +kernel) (by decide +kernel), zmem 83 (by decide +kernel) (by decide +kernel), ⟨by decide +kernel, by decide +kernel⟩, by decide +kernel, by decide, by decide +kernel, rfl, (fun h => by cases h), rfl⟩, ⟨zmem 1247 (by decide +kernel) (by decide +kernel), zmem 51 (by decide +kernel) (by decide +kernel), by decide, rfl⟩, rfl, rfl, rfl, rfl⟩
theorem meX10_findsRanks : zE mX10_findsRanks := ⟨rfl, rfl, rfl⟩
abbrev mX10_forgets : zM := (RX10, cX10_forgets, 1, none, false, 0, 0, 0, zN, none)
theorem mvX10_forgets : zV2 yX10_forgets mX10_forgets 0 9 := ⟨⟨zmem 1062 (by decide +kernel) (by decide +kernel), zmem 83 (by decide +kernel) (by decide +kernel), ⟨by decide +kernel, by decide +kernel⟩, by decide +kernel, by decide, by decide +kernel, rfl, (fun h => by cases h), rfl⟩, ⟨zmem 1061 (by decide +kernel) (by decide +kernel), zmem 24 (by decide +kernel) (by decide +kernel), by decide, rfl⟩, rfl, rfl, rfl, rfl⟩
theorem meX10_forgets : zE mX10_forgets := ⟨rfl, rfl, rfl⟩
abbrev mX10_greatest : zM := (RX10, cX10_greatest, 4, some .int, false, 1, 0, 0, zN, none)
theorem mvX10_greatest : zV2 yX10_greatest mX10_greatest 1 9 := ⟨⟨zmem 1212 (by decide +kernel) (by decide +kernel), zmem 83 (by decide +kernel) (by decide +kernel), ⟨by decide +kernel, by decide +kernel⟩, by decide +kernel, by decide, by decide +kernel, rfl, (fun h => by cases h), rfl⟩, ⟨zmem 1211 (by decide +kernel) (by decide +kernel), zmem 43 (by decide +kernel) (by decide +kernel), by decide, rfl⟩, rfl, rfl, rfl, rfl⟩
theorem meX10_greatest : zE mX10_greatest := ⟨rfl, rfl, rfl⟩
abbrev mX10_has : zM := (RX10, cX10_has, 2, some .boolean, false, 7, 0, 0, zN, none)
theorem mvX10_has : zV2 yX10_has mX10_has 0 9 := ⟨⟨zmem 1220 (by decide +kernel) (by decide +kernel), zmem 83 (by decide +kernel) (by decide +kernel), ⟨by decide +kernel, by decide +kernel⟩, by decide +kernel, by decide, by decide +kernel, rfl, (fun h => by cases h), rfl⟩, ⟨zmem 1219 (by decide +kernel) (by decide +kernel), zmem 44 (by decide +kernel) (by decide +kernel), by decide, rfl⟩, rfl, rfl, rfl, rfl⟩
theorem meX10_has : zE mX10_has := ⟨rfl, rfl, rfl⟩
abbrev mX10_here : zM := (RX10, cX10_here, 1, some .int, false, 0, 0, 0, zN, none)
theorem mvX10_here : zV2 yX10_here mX10_here 0 9 := ⟨⟨zmem 1101 (by decide +kernel) (by decide +kernel), zmem 83 (by decide +kernel) (by decide +kernel), ⟨by decide +kernel, by decide +kernel⟩, by decide +kernel, by decide, by decide +kernel, rfl, (fun h => by cases h), rfl⟩, ⟨zmem 1100 (by decide +kernel) (by decide +kernel), zmem 29 (by decide +kernel) (by decide +kernel), by decide, rfl⟩, rfl, rfl, rfl, rfl⟩
theorem meX10_here : zE mX10_here := ⟨rfl, rfl, rfl⟩
abbrev mX10_in : zM := (RX10, cX10_in, 3, some .boolean, false, 0, 0, 0, zN, none)
theorem mvX10_in : zS2 yX10_in mX10_in 3 := ⟨⟨zmem 1069 (by decide +kernel) (by decide +kernel), zmem 83 (by decide +kernel) (by decide +kernel), ⟨by decide +kernel, by decide +kernel⟩, by decide +kernel, by decide, by decide +kernel, rfl, (fun h => by cases h), rfl⟩, zmem 1068 (by decide +kernel) (by decide +kernel), rfl, rfl, rfl, rfl⟩
theorem meX10_in : zE mX10_in := ⟨rfl, rfl, rfl⟩
abbrev mX10_independent : zM := (RX10, cX10_independent, 4, some .int, false, 3, 0, 0, zN, none)
theorem mvX10_independent : zV2 yX10_independent mX10_independent 1 9 := ⟨⟨zmem 1260 (by decide +kernel) (by decide +kernel), zmem 83 (by decide +kernel) (by decide +kernel), ⟨by decide +kernel, by decide +kernel⟩, by decide +kernel, by decide, by decide +kernel, rfl, (fun h => by cases h), rfl⟩, ⟨zmem 1259 (by decide +kernel) (by decide +kernel), zmem 54 (by decide +kernel) (by decide +kernel), by decide, rfl⟩, rfl, rfl, rfl, rfl⟩
theorem meX10_independent : zE mX10_independent := ⟨rfl, rfl, rfl⟩
abbrev mX10_inverse : zM := (RX10, cX10_inverse, 4, some .int, false, 1, 0, 0, zN, none)
theorem mvX10_inverse : zV2 yX10_inverse mX10_inverse 1 9 := ⟨⟨zmem 1268 (by decide +kernel) (by decide +kernel), zmem 83 (by decide +kernel) (by decide +kernel), ⟨by decide +kernel, by decide +kernel⟩, by decide +kernel, by decide, by decide +kernel, rfl, (fun h => by cases h), rfl⟩, ⟨zmem 1267 (by decide +kernel) (by decide +kernel), zmem 56 (by decide +kernel) (by decide +kernel), by decide, rfl⟩, rfl, rfl, rfl, rfl⟩
theorem meX10_inverse : zE mX10_inverse := ⟨rfl, rfl, rfl⟩
abbrev mX10_isCell : zM := (RX10, cX10_isCell, 3, some .boolean, false, 1, 0, 0, zN, none)
theorem mvX10_isCell : zV2 yX10_isCell mX10_isCell 2 9 := ⟨⟨zmem 1309 (by decide +kernel) (by decide +kernel), zmem 83 (by decide +kernel) (by decide +kernel), ⟨by decide +kernel, by decide +kernel⟩, by decide +kernel, by decide, by decide +kernel, rfl, (fun h => by cases h), rfl⟩, ⟨zmem 1308 (by decide +kernel) (by decide +kernel), zmem 64 (by decide +kernel) (by decide +kernel), by decide, rfl⟩, rfl, rfl, rfl, rfl⟩
theorem meX10_isCell : zE mX10_isCell := ⟨rfl, rfl, rfl⟩
abbrev mX10_isConfirmed : zM := (RX10, cX10_isConfirmed, 4, some .int, false, 5, 0, 0, zN, none)
theorem mvX10_isConfirmed : zV2 yX10_isConfirmed mX10_isConfirmed 1 9 := ⟨⟨zmem 1401 (by decide +kernel) (by decide +kernel), zmem 83 (by decide +kernel) (by decide +kernel), ⟨by decide +kernel, by decide +kernel⟩, by decide +kernel, by decide, by decide +kernel, rfl, (fun h => by cases h), rfl⟩, ⟨zmem 1400 (by decide +kernel) (by decide +kernel), zmem 69 (by decide +kernel) (by decide +kernel), by decide, rfl⟩, rfl, rfl, rfl, rfl⟩
theorem meX10_isConfirmed : zE mX10_isConfirmed := ⟨rfl, rfl, rfl⟩
abbrev mX10_isDigit : zM := (RX10, cX10_isDigit, 1, some .boolean, false, 1, 0, 0, zN, none)
theorem mvX10_isDigit : zV2 yX10_isDigit mX10_isDigit 0 9 := ⟨⟨zmem 1109 (by decide +kernel) (by decide +kernel), zmem 83 (by decide +kernel) (by decide +kernel), ⟨by decide +kernel, by decide +kernel⟩, by decide +kernel, by decide, by decide +kernel, rfl, (fun h => by cases h), rfl⟩, ⟨zmem 1108 (by decide +kernel) (by decide +kernel), zmem 31 (by decide +kernel) (by decide +kernel), by decide, rfl⟩, rfl, rfl, rfl, rfl⟩
theorem meX10_isDigit : zE mX10_isDigit := ⟨rfl, rfl, rfl⟩
abbrev mX10_isMatrix : zM := (RX10, cX10_isMatrix, 1, some .boolean, false, 2, 0, 0, zN, none)
theorem mvX10_isMatrix : zV2 yX10_isMatrix mX10_isMatrix 0 9 := ⟨⟨zmem 1208 (by decide +kernel) (by decide +kernel), zmem 83 (by decide +kernel) (by decide +kernel), ⟨by decide +kernel, by decide +kernel⟩, by decide +kernel, by decide, by decide +kernel, rfl, (fun h => by cases h), rfl⟩, ⟨zmem 1207 (by decide +kernel) (by decide +kernel), zmem 42 (by decide +kernel) (by decide +kernel), by decide, rfl⟩, rfl, rfl, rfl, rfl⟩
theorem meX10_isMatrix : zE mX10_isMatrix := ⟨rfl, rfl, rfl⟩
abbrev mX10_isNumber : zM := (RX10, cX10_isNumber, 2, some .boolean, false, 1, 0, 0, zN, none)
theorem mvX10_isNumber : zV2 yX10_isNumber mX10_isNumber 1 9 := ⟨⟨zmem 1128 (by decide +kernel) (by decide +kernel), zmem 83 (by decide +kernel) (by decide +kernel), ⟨by decide +kernel, by decide +kernel⟩, by decide +kernel, by decide, by decide +kernel, rfl, (fun h => by cases h), rfl⟩, ⟨zmem 1127 (by decide +kernel) (by decide +kernel), zmem 34 (by decide +kernel) (by decide +kernel), by decide, rfl⟩, rfl, rfl, rfl, rfl⟩
theorem meX10_isNumber : zE mX10_isNumber := ⟨rfl, rfl, rfl⟩
abbrev mX10_isPlace : zM := (RX10, cX10_isPlace, 4, some .boolean, false, 1, 0, 0, zN, none)
theorem mvX10_isPlace : zS2 yX10_isPlace mX10_isPlace 4 := ⟨⟨zmem 1124 (by decide +kernel) (by decide +kernel), zmem 83 (by decide +kernel) (by decide +kernel), ⟨by decide +kernel, by decide +kernel⟩, by decide +kernel, by decide, by decide +kernel, rfl, (fun h => by cases h), rfl⟩, zmem 1123 (by decide +kernel) (by decide +kernel), rfl, rfl, rfl, rfl⟩
theorem meX10_isPlace : zE mX10_isPlace := ⟨rfl, rfl, rfl⟩
abbrev mX10_keeps : zM := (RX10, cX10_keeps, 5, some .boolean, false, 2, 0, 0, zN, none)
theorem mvX10_keeps : zV2 yX10_keeps mX10_keeps 1 9 := ⟨⟨zmem 1264 (by decide +kernel) (by decide +kernel), zmem 83 (by decide +kernel) (by decide +kernel), ⟨by decide +kernel, by decide +kernel⟩, by decide +kernel, by decide, by decide +kernel, rfl, (fun h => by cases h), rfl⟩, ⟨zmem 1263 (by decide +kernel) (by decide +kernel), zmem 55 (by decide +kernel) (by decide +kernel), by decide, rfl⟩, rfl, rfl, rfl, rfl⟩
theorem meX10_keeps : zE mX10_keeps := ⟨rfl, rfl, rfl⟩
abbrev mX10_kernel : zM := (RX10, cX10_kernel, 2, some .int, false, 8, 0, 0, zN, none)
theorem mvX10_kernel : zV2 yX10_kernel mX10_kernel 1 9 := ⟨⟨zmem 1373 (by decide +kernel) (by decide +kernel), zmem 83 (by decide +kernel) (by decide +kernel), ⟨by decide +kernel, by decide +kernel⟩, by decide +kernel, by decide, by decide +kernel, rfl, (fun h => by cases h), rfl⟩, ⟨zmem 1371 (by decide +kernel) (by decide +kernel), zmem 1372 (by decide +kernel) (by decide +kernel), by decide, rfl⟩, rfl, rfl, rfl, rfl⟩
theorem meX10_kernel : zE mX10_kernel := ⟨rfl, rfl, rfl⟩
abbrev mX10_knows : zM := (RX10, cX10_knows, 1, none, false, 6, 0, 0, zN, none)
theorem mvX10_knows : zV2 yX10_knows mX10_knows 0 9 := ⟨⟨zmem 1224 (by decide +kernel) (by decide +kernel), zmem 83 (by decide +kernel) (by decide +kernel), ⟨by decide +kernel, by decide +kernel⟩, by decide +kernel, by decide, by decide +kernel, rfl, (fun h => by cases h), rfl⟩, ⟨zmem 1223 (by decide +kernel) (by decide +kernel), zmem 45 (by decide +kernel) (by decide +kernel), by decide, rfl⟩, rfl, rfl, rfl, rfl⟩
theorem meX10_knows : zE mX10_knows := ⟨rfl, rfl, rfl⟩
abbrev mX10_knowsRoots : zM := (RX10, cX10_knowsRoots, 2, none, false, 4, 0, 0, zN, none)
theorem mvX10_knowsRoots : zV2 yX10_knowsRoots mX10_knowsRoots 0 9 := ⟨⟨zmem 1290 (by decide +kernel) (by decide +kernel), zmem 83 (by decide +kernel) (by decide +kernel), ⟨by decide +kernel, by decide +kernel⟩, by decide +kernel, by decide, by decide +kernel, rfl, (fun h => by cases h), rfl⟩, ⟨zmem 1289 (by decide +kernel) (by decide +kernel), zmem 60 (by decide +kernel) (by decide +kernel), by decide, rfl⟩, rfl, rfl, rfl, rfl⟩
theorem meX10_knowsRoots : zE mX10_knowsRoots := ⟨rfl, rfl, rfl⟩
abbrev mX10_lays : zM := (RX10, cX10_lays, 5, none, false, 2, 0, 0, zN, none)
theorem mvX10_lays : zV2 yX10_lays mX10_lays 2 9 := ⟨⟨zmem 1252 (by decide +kernel) (by decide +kernel), zmem 83 (by decide +kernel) (by decide +kernel), ⟨by decide +kernel, by decide +kernel⟩, by decide +kernel, by decide, by decide +kernel, rfl, (fun h => by cases h), rfl⟩, ⟨zmem 1251 (by decide +kernel) (by decide +kernel), zmem 52 (by decide +kernel) (by decide +kernel), by decide, rfl⟩, rfl, rfl, rfl, rfl⟩
theorem meX10_lays : zE mX10_lays := ⟨rfl, rfl, rfl⟩
abbrev mX10_mixes : zM := (RX10, cX10_mixes, 2, none, false, 0, 0, 0, zN, none)
theorem mvX10_mixes : zV2 yX10_mixes mX10_mixes 1 9 := ⟨⟨zmem 1415 (by decide +kernel) (by decide +kernel), zmem 83 (by decide +kernel) (by decide +kernel), ⟨by decide +kernel, by decide +kernel⟩, by decide +kernel, by decide, by decide +kernel, rfl, (fun h => by cases h), rfl⟩, ⟨zmem 1414 (by decide +kernel) (by decide +kernel), zmem 70 (by decide +kernel) (by decide +kernel), by decide, rfl⟩, rfl, rfl, rfl, rfl⟩
theorem meX10_mixes : zE mX10_mixes := ⟨rfl, rfl, rfl⟩
abbrev mX10_mixesPoly : zM := (RX10, cX10_mixesPoly, 3, none, false, 1, 0, 0, zN, none)
theorem mvX10_mixesPoly : zV2 yX10_mixesPoly mX10_mixesPoly 1 9 := ⟨⟨zmem 1424 (by decide +kernel) (by decide +kernel), zmem 83 (by decide +kernel) (by decide +kernel), ⟨by decide +kernel, by decide +kernel⟩, by decide +kernel, by decide, by decide +kernel, rfl, (fun h => by cases h), rfl⟩, ⟨zmem 1423 (by decide +kernel) (by decide +kernel), zmem 71 (by decide +kernel) (by decide +kernel), by decide, rfl⟩, rfl, rfl, rfl, rfl⟩
theorem meX10_mixesPoly : zE mX10_mixesPoly := ⟨rfl, rfl, rfl⟩
abbrev mX10_mod : zM := (RX10, cX10_mod, 3, some .int, false, 1, 0, 0, zN, none)
theorem mvX10_mod : zV2 yX10_mod mX10_mod 1 9 := ⟨⟨zmem 1113 (by decide +kernel) (by decide +kernel), zmem 83 (by decide +kernel) (by decide +kernel), ⟨by decide +kernel, by decide +kernel⟩, by decide +kernel, by decide, by decide +kernel, rfl, (fun h => by cases h), rfl⟩, ⟨zmem 1112 (by decide +kernel) (by decide +kernel), zmem 32 (by decide +kernel) (by decide +kernel), by decide, rfl⟩, rfl, rfl, rfl, rfl⟩
theorem meX10_mod : zE mX10_mod := ⟨rfl, rfl, rfl⟩
abbrev mX10_multiplicity : zM := (RX10, cX10_multiplicity, 3, some .int, false, 8, 0, 0, zN, none)
theorem mvX10_multiplicity : zV2 yX10_multiplicity mX10_multiplicity 1 9 := ⟨⟨zmem 1353 (by decide +kernel) (by decide +kernel), zmem 83 (by decide +kernel) (by decide +kernel), ⟨by decide +kernel, by decide +kernel⟩, by decide +kernel, by decide, by decide +kernel, rfl, (fun h => by cases h), rfl⟩, ⟨zmem 1351 (by decide +kernel) (by decide +kernel), zmem 1352 (by decide +kernel) (by decide +kernel), by decide, rfl⟩, rfl, rfl, rfl, rfl⟩
theorem meX10_multiplicity : zE mX10_multiplicity := ⟨rfl, rfl, rfl⟩
abbrev mX10_multiplies : zM := (RX10, cX10_multiplies, 13, none, false, 2, 0, 0, zN, none)
theorem mvX10_multiplies : zV2 yX10_multiplies mX10_multiplies 3 9 := ⟨⟨zmem 1240 (by decide +kernel) (by decide +kernel), zmem 83 (by decide +kernel) (by decide +kernel), ⟨by decide +kernel, by decide +kernel⟩, by decide +kernel, by decide, by decide +kernel, rfl, (fun h => by cases h), rfl⟩, ⟨zmem 1239 (by decide +kernel) (by decide +kernel), zmem 49 (by decide +kernel) (by decide +kernel), by decide, rfl⟩, rfl, rfl, rfl, rfl⟩
theorem meX10_multiplies : zE mX10_multiplies := ⟨rfl, rfl, rfl⟩
abbrev mX10_of : zM := (RX10, cX10_of, 5, some .int, false, 1, 0, 0, zN, none)
theorem mvX10_of : zV2 yX10_of mX10_of 4 9 := ⟨⟨zmem 1132 (by decide +kernel) (by decide +kernel), zmem 83 (by decide +kernel) (by decide +kernel), ⟨by decide +kernel, by decide +kernel⟩, by decide +kernel, by decide, by decide +kernel, rfl, (fun h => by cases h), rfl⟩, ⟨zmem 1131 (by decide +kernel) (by decide +kernel), zmem 35 (by decide +kernel) (by decide +kernel), by decide, rfl⟩, rfl, rfl, rfl, rfl⟩
theorem meX10_of : zE mX10_of := ⟨rfl, rfl, rfl⟩
abbrev mX10_p : zM := (RX10, cX10_p, 1, some .int, false, 0, 0, 0, zN, none)
theorem mvX10_p : zV2 yX10_p mX10_p 0 9 := ⟨⟨zmem 1077 (by decide +kernel) (by decide +kernel), zmem 83 (by decide +kernel) (by decide +kernel), ⟨by decide +kernel, by decide +kernel⟩, by decide +kernel, by decide, by decide +kernel, rfl, (fun h => by cases h), rfl⟩, ⟨zmem 1076 (by decide +kernel) (by decide +kernel), zmem 26 (by decide +kernel) (by decide +kernel), by decide, rfl⟩, rfl, rfl, rfl, rfl⟩
theorem meX10_p : zE mX10_p := ⟨rfl, rfl, rfl⟩
abbrev mX10_pivotPoint : zM := (RX10, cX10_pivotPoint, 1, some .int, false, 8, 0, 0, zN, none)
theorem mvX10_pivotPoint : zV2 yX10_pivotPoint mX10_pivotPoint 0 9 := ⟨⟨zmem 1325 (by decide +kernel) (by decide +kernel), zmem 83 (by decide +kernel) (by decide +kernel), ⟨by decide +kernel, by decide +kernel⟩, by decide +kernel, by decide, by decide +kernel, rfl, (fun h => by cases h), rfl⟩, ⟨zmem 1323 (by decide +kernel) (by decide +kernel), zmem 1324 (by decide +kernel) (by decide +kernel), by decide, rfl⟩, rfl, rfl, rfl, rfl⟩
theorem meX10_pivotPoint : zE mX10_pivotPoint := ⟨rfl, rfl, rfl⟩
abbrev mX10_place : zM := (RX10, cX10_place, 5, some .int, false, 0, 0, 0, zN, none)
theorem mvX10_place : zS2 yX10_place mX10_place 2 := ⟨⟨zmem 1282 (by decide +kernel) (by decide +kernel), zmem 83 (by decide +kernel) (by decide +kernel), ⟨by decide +kernel, by decide +kernel⟩, by decide +kernel, by decide, by decide +kernel, rfl, (fun h => by cases h), rfl⟩, zmem 1281 (by decide +kernel) (by decide +kernel), rfl, rfl, rfl, rfl⟩
theorem meX10_place : zE mX10_place := ⟨rfl, rfl, rfl⟩
abbrev mX10_plant : zM := (RX10, cX10_plant, 7, some .int, false, 3, 0, 0, zN, none)
theorem mvX10_plant : zV2 yX10_plant mX10_plant 3 9 := ⟨⟨zmem 1152 (by decide +kernel) (by decide +kernel), zmem 83 (by decide +kernel) (by decide +kernel), ⟨by decide +kernel, by decide +kernel⟩, by decide +kernel, by decide, by decide +kernel, rfl, (fun h => by cases h), rfl⟩, ⟨zmem 1150 (by decide +kernel) (by decide +kernel), zmem 1151 (by decide +kernel) (by decide +kernel), by decide, rfl⟩, rfl, rfl, rfl, rfl⟩
theorem meX10_plant : zE mX10_plant := ⟨rfl, rfl, rfl⟩
abbrev mX10_power : zM := (RX10, cX10_power, 3, some .int, false, 1, 0, 0, zN, none)
theorem mvX10_power : zV2 yX10_power mX10_power 2 9 := ⟨⟨zmem 1160 (by decide +kernel) (by decide +kernel), zmem 83 (by decide +kernel) (by decide +kernel), ⟨by decide +kernel, by decide +kernel⟩, by decide +kernel, by decide, by decide +kernel, rfl, (fun h => by cases h), rfl⟩, ⟨zmem 1159 (by decide +kernel) (by decide +kernel), zmem 38 (by decide +kernel) (by decide +kernel), by decide, rfl⟩, rfl, rfl, rfl, rfl⟩
theorem meX10_power : zE mX10_power := ⟨rfl, rfl, rfl⟩
abbrev mX10_rank : zM := (RX10, cX10_rank, 1, some .int, false, 8, 0, 0, zN, none)
theorem mvX10_rank : zV2 yX10_rank mX10_rank 0 9 := ⟨⟨zmem 1321 (by decide +kernel) (by decide +kernel), zmem 83 (by decide +kernel) (by decide +kernel), ⟨by decide +kernel, by decide +kernel⟩, by decide +kernel, by decide, by decide +kernel, rfl, (fun h => by cases h), rfl⟩, ⟨zmem 1319 (by decide +kernel) (by decide +kernel), zmem 1320 (by decide +kernel) (by decide +kernel), by decide, rfl⟩, rfl, rfl, rfl, rfl⟩
theorem meX10_rank : zE mX10_rank := ⟨rfl, rfl, rfl⟩
abbrev mX10_rankAt : zM := (RX10, cX10_rankAt, 2, some .int, false, 8, 0, 0, zN, none)
theorem mvX10_rankAt : zV2 yX10_rankAt mX10_rankAt 1 9 := ⟨⟨zmem 1317 (by decide +kernel) (by decide +kernel), zmem 83 (by decide +kernel) (by decide +kernel), ⟨by decide +kernel, by decide +kernel⟩, by decide +kernel, by decide, by decide +kernel, rfl, (fun h => by cases h), rfl⟩, ⟨zmem 1315 (by decide +kernel) (by decide +kernel), zmem 1316 (by decide +kernel) (by decide +kernel), by decide, rfl⟩, rfl, rfl, rfl, rfl⟩
theorem meX10_rankAt : zE mX10_rankAt := ⟨rfl, rfl, rfl⟩
abbrev mX10_rankDrops : zM := (RX10, cX10_rankDrops, 3, some .int, false, 8, 0, 0, zN, none)
theorem mvX10_rankDrops : zV2 yX10_rankDrops mX10_rankDrops 0 9 := ⟨⟨zmem 1333 (by decide +kernel) (by decide +kernel), zmem 83 (by decide +kernel) (by decide +kernel), ⟨by decide +kernel, by decide +kernel⟩, by decide +kernel, by decide, by decide +kernel, rfl, (fun h => by cases h), rfl⟩, ⟨zmem 1331 (by decide +kernel) (by decide +kernel), zmem 1332 (by decide +kernel) (by decide +kernel), by decide, rfl⟩, rfl, rfl, rfl, rfl⟩
theorem meX10_rankDrops : zE mX10_rankDrops := ⟨rfl, rfl, rfl⟩
abbrev mX10_read : zM := (RX10, cX10_read, 4, some .int, false, 4, 0, 0, zN, none)
theorem mvX10_read : zV2 yX10_read mX10_read 1 9 := ⟨⟨zmem 1089 (by decide +kernel) (by decide +kernel), zmem 83 (by decide +kernel) (by decide +kernel), ⟨by decide +kernel, by decide +kernel⟩, by decide +kernel, by decide, by decide +kernel, rfl, (fun h => by cases h), rfl⟩, ⟨zmem 1087 (by decide +kernel) (by decide +kernel), zmem 1088 (by decide +kernel) (by decide +kernel), by decide, rfl⟩, rfl, rfl, rfl, rfl⟩
theorem meX10_read : zE mX10_read := ⟨rfl, rfl, rfl⟩
abbrev mX10_reads : zM := (RX10, cX10_reads, 4, some .int, false, 3, 0, 0, zN, none)
theorem mvX10_reads : zV2 yX10_reads mX10_reads 0 9 := ⟨⟨zmem 1093 (by decide +kernel) (by decide +kernel), zmem 83 (by decide +kernel) (by decide +kernel), ⟨by decide +kernel, by decide +kernel⟩, by decide +kernel, by decide, by decide +kernel, rfl, (fun h => by cases h), rfl⟩, ⟨zmem 1092 (by decide +kernel) (by decide +kernel), zmem 27 (by decide +kernel) (by decide +kernel), by decide, rfl⟩, rfl, rfl, rfl, rfl⟩
theorem meX10_reads : zE mX10_reads := ⟨rfl, rfl, rfl⟩
abbrev mX10_readsTerm : zM := (RX10, cX10_readsTerm, 10, none, false, 2, 0, 0, zN, none)
theorem mvX10_readsTerm : zV2 yX10_readsTerm mX10_readsTerm 1 9 := ⟨⟨zmem 1105 (by decide +kernel) (by decide +kernel), zmem 83 (by decide +kernel) (by decide +kernel), ⟨by decide +kernel, by decide +kernel⟩, by decide +kernel, by decide, by decide +kernel, rfl, (fun h => by cases h), rfl⟩, ⟨zmem 1104 (by decide +kernel) (by decide +kernel), zmem 30 (by decide +kernel) (by decide +kernel), by decide, rfl⟩, rfl, rfl, rfl, rfl⟩
theorem meX10_readsTerm : zE mX10_readsTerm := ⟨rfl, rfl, rfl⟩
abbrev mX10_recovered : zM := (RX10, cX10_recovered, 3, some .int, false, 8, 0, 0, zN, none)
theorem mvX10_recovered : zV2 yX10_recovered mX10_recovered 2 9 := ⟨⟨zmem 1377 (by decide +kernel) (by decide +kernel), zmem 83 (by decide +kernel) (by decide +kernel), ⟨by decide +kernel, by decide +kernel⟩, by decide +kernel, by decide, by decide +kernel, rfl, (fun h => by cases h), rfl⟩, ⟨zmem 1375 (by decide +kernel) (by decide +kernel), zmem 1376 (by decide +kernel) (by decide +kernel), by decide, rfl⟩, rfl, rfl, rfl, rfl⟩
theorem meX10_recovered : zE mX10_recovered := ⟨rfl, rfl, rfl⟩
abbrev mX10_recoveredAt : zM := (RX10, cX10_recoveredAt, 3, some .int, false, 4, 0, 0, zN, none)
theorem mvX10_recoveredAt : zV2 yX10_recoveredAt mX10_recoveredAt 2 9 := ⟨⟨zmem 1381 (by decide +kernel) (by decide +kernel), zmem 83 (by decide +kernel) (by decide +kernel), ⟨by decide +kernel, by decide +kernel⟩, by decide +kernel, by decide, by decide +kernel, rfl, (fun h => by cases h), rfl⟩, ⟨zmem 1380 (by decide +kernel) (by decide +kernel), zmem 65 (by decide +kernel) (by decide +kernel), by decide, rfl⟩, rfl, rfl, rfl, rfl⟩
theorem meX10_recoveredAt : zE mX10_recoveredAt := ⟨rfl, rfl, rfl⟩
abbrev mX10_reduces : zM := (RX10, cX10_reduces, 3, none, false, 5, 0, 0, zN, none)
theorem mvX10_reduces : zV2 yX10_reduces mX10_reduces 0 9 := ⟨⟨zmem 1286 (by decide +kernel) (by decide +kernel), zmem 83 (by decide +kernel) (by decide +kernel), ⟨by decide +kernel, by decide +kernel⟩, by decide +kernel, by decide, by decide +kernel, rfl, (fun h => by cases h), rfl⟩, ⟨zmem 1285 (by decide +kernel) (by decide +kernel), zmem 59 (by decide +kernel) (by decide +kernel), by decide, rfl⟩, rfl, rfl, rfl, rfl⟩
theorem meX10_reduces : zE mX10_reduces := ⟨rfl, rfl, rfl⟩
abbrev mX10_roots : zM := (RX10, cX10_roots, 9, some .int, false, 3, 0, 0, zN, none)
theorem mvX10_roots : zV2 yX10_roots mX10_roots 2 9 := ⟨⟨zmem 1294 (by decide +kernel) (by decide +kernel), zmem 83 (by decide +kernel) (by decide +kernel), ⟨by decide +kernel, by decide +kernel⟩, by decide +kernel, by decide, by decide +kernel, rfl, (fun h => by cases h), rfl⟩, ⟨zmem 1293 (by decide +kernel) (by decide +kernel), zmem 61 (by decide +kernel) (by decide +kernel), by decide, rfl⟩, rfl, rfl, rfl, rfl⟩
theorem meX10_roots : zE mX10_roots := ⟨rfl, rfl, rfl⟩
abbrev mX10_selected : zM := (RX10, cX10_selected, 2, some .int, false, 8, 0, 0, zN, none)
theorem mvX10_selected : zV2 yX10_selected mX10_selected 1 9 := ⟨⟨zmem 1329 (by decide +kernel) (by decide +kernel), zmem 83 (by decide +kernel) (by decide +kernel), ⟨by decide +kernel, by decide +kernel⟩, by decide +kernel, by decide, by decide +kernel, rfl, (fun h => by cases h), rfl⟩, ⟨zmem 1327 (by decide +kernel) (by decide +kernel), zmem 1328 (by decide +kernel) (by decide +kernel), by decide, rfl⟩, rfl, rfl, rfl, rfl⟩
theorem meX10_selected : zE mX10_selected := ⟨rfl, rfl, rfl⟩
abbrev mX10_setCoefficient : zM := (RX10, cX10_setCoefficient, 7, some .int, false, 2, 0, 0, zN, none)
theorem mvX10_setCoefficient : zV2 yX10_setCoefficient mX10_setCoefficient 5 9 := ⟨⟨zmem 1121 (by decide +kernel) (by decide +kernel), zmem 83 (by decide +kernel) (by decide +kernel), ⟨by decide +kernel, by decide +kernel⟩, by decide +kernel, by decide, by decide +kernel, rfl, (fun h => by cases h), rfl⟩, ⟨zmem 1119 (by decide +kernel) (by decide +kernel), zmem 1120 (by decide +kernel) (by decide +kernel), by decide, rfl⟩, rfl, rfl, rfl, rfl⟩
theorem meX10_setCoefficient : zE mX10_setCoefficient := ⟨rfl, rfl, rfl⟩
abbrev mX10_setPrime : zM := (RX10, cX10_setPrime, 5, some .int, false, 2, 0, 0, zN, none)
theorem mvX10_setPrime : zV2 yX10_setPrime mX10_setPrime 1 9 := ⟨⟨zmem 1066 (by decide +kernel) (by decide +kernel), zmem 83 (by decide +kernel) (by decide +kernel), ⟨by decide +kernel, by decide +kernel⟩, by decide +kernel, by decide, by decide +kernel, rfl, (fun h => by cases h), rfl⟩, ⟨zmem 1064 (by decide +kernel) (by decide +kernel), zmem 1065 (by decide +kernel) (by decide +kernel), by decide, rfl⟩, rfl, rfl, rfl, rfl⟩
theorem meX10_setPrime : zE mX10_setPrime := ⟨rfl, rfl, rfl⟩
abbrev mX10_shift : zM := (RX10, cX10_shift, 5, some .int, false, 2, 0, 0, zN, none)
theorem mvX10_shift : zV2 yX10_shift mX10_shift 1 9 := ⟨⟨zmem 1172 (by decide +kernel) (by decide +kernel), zmem 83 (by decide +kernel) (by decide +kernel), ⟨by decide +kernel, by decide +kernel⟩, by decide +kernel, by decide, by decide +kernel, rfl, (fun h => by cases h), rfl⟩, ⟨zmem 1170 (by decide +kernel) (by decide +kernel), zmem 1171 (by decide +kernel) (by decide +kernel), by decide, rfl⟩, rfl, rfl, rfl, rfl⟩
theorem meX10_shift : zE mX10_shift := ⟨rfl, rfl, rfl⟩
abbrev mX10_size : zM := (RX10, cX10_size, 1, some .int, false, 3, 0, 0, zN, none)
theorem mvX10_size : zV2 yX10_size mX10_size 0 9 := ⟨⟨zmem 1204 (by decide +kernel) (by decide +kernel), zmem 83 (by decide +kernel) (by decide +kernel), ⟨by decide +kernel, by decide +kernel⟩, by decide +kernel, by decide, by decide +kernel, rfl, (fun h => by cases h), rfl⟩, ⟨zmem 1202 (by decide +kernel) (by decide +kernel), zmem 1203 (by decide +kernel) (by decide +kernel), by decide, rfl⟩, rfl, rfl, rfl, rfl⟩
theorem meX10_size : zE mX10_size := ⟨rfl, rfl, rfl⟩
abbrev mX10_skips : zM := (RX10, cX10_skips, 1, none, false, 1, 0, 0, zN, none)
theorem mvX10_skips : zV2 yX10_skips mX10_skips 0 9 := ⟨⟨zmem 1097 (by decide +kernel) (by decide +kernel), zmem 83 (by decide +kernel) (by decide +kernel), ⟨by decide +kernel, by decide +kernel⟩, by decide +kernel, by decide, by decide +kernel, rfl, (fun h => by cases h), rfl⟩, ⟨zmem 1096 (by decide +kernel) (by decide +kernel), zmem 28 (by decide +kernel) (by decide +kernel), by decide, rfl⟩, rfl, rfl, rfl, rfl⟩
theorem meX10_skips : zE mX10_skips := ⟨rfl, rfl, rfl⟩
abbrev mX10_solvable : zM := (RX10, cX10_solvable, 1, some .int, false, 5, 0, 0, zN, none)
theorem mvX10_solvable : zV2 yX10_solvable mX10_solvable 0 9 := ⟨⟨zmem 1369 (by decide +kernel) (by decide +kernel), zmem 83 (by decide +kernel) (by decide +kernel), ⟨by decide +kernel, by decide +kernel⟩, by decide +kernel, by decide, by decide +kernel, rfl, (fun h => by cases h), rfl⟩, ⟨zmem 1367 (by decide +kernel) (by decide +kernel), zmem 1368 (by decide +kernel) (by decide +kernel), by decide, rfl⟩, rfl, rfl, rfl, rfl⟩
theorem meX10_solvable : zE mX10_solvable := ⟨rfl, rfl, rfl⟩
abbrev mX10_swap : zM := (RX10, cX10_swap, 7, some .int, false, 2, 0, 0, zN, none)
theorem mvX10_swap : zV2 yX10_swap mX10_swap 2 9 := ⟨⟨zmem 1164 (by decide +kernel) (by decide +kernel), zmem 83 (by decide +kernel) (by decide +kernel), ⟨by decide +kernel, by decide +kernel⟩, by decide +kernel, by decide, by decide +kernel, rfl, (fun h => by cases h), rfl⟩, ⟨zmem 1162 (by decide +kernel) (by decide +kernel), zmem 1163 (by decide +kernel) (by decide +kernel), by decide, rfl⟩, rfl, rfl, rfl, rfl⟩
theorem meX10_swap : zE mX10_swap := ⟨rfl, rfl, rfl⟩
abbrev mX10_terms : zM := (RX10, cX10_terms, 1, some .int, false, 1, 0, 0, zN, none)
theorem mvX10_terms : zV2 yX10_terms mX10_terms 0 9 := ⟨⟨zmem 1148 (by decide +kernel) (by decide +kernel), zmem 83 (by decide +kernel) (by decide +kernel), ⟨by decide +kernel, by decide +kernel⟩, by decide +kernel, by decide, by decide +kernel, rfl, (fun h => by cases h), rfl⟩, ⟨zmem 1147 (by decide +kernel) (by decide +kernel), zmem 36 (by decide +kernel) (by decide +kernel), by decide, rfl⟩, rfl, rfl, rfl, rfl⟩
theorem meX10_terms : zE mX10_terms := ⟨rfl, rfl, rfl⟩
abbrev mX10_termsOf : zM := (RX10, cX10_termsOf, 4, some .int, false, 0, 0, 0, zN, none)
theorem mvX10_termsOf : zV2 yX10_termsOf mX10_termsOf 1 9 := ⟨⟨zmem 1117 (by decide +kernel) (by decide +kernel), zmem 83 (by decide +kernel) (by decide +kernel), ⟨by decide +kernel, by decide +kernel⟩, by decide +kernel, by decide, by decide +kernel, rfl, (fun h => by cases h), rfl⟩, ⟨zmem 1116 (by decide +kernel) (by decide +kernel), zmem 33 (by decide +kernel) (by decide +kernel), by decide, rfl⟩, rfl, rfl, rfl, rfl⟩
theorem meX10_termsOf : zE mX10_termsOf := ⟨rfl, rfl, rfl⟩
abbrev mX10_type : zM := (RX10, cX10_type, 2, some .int, false, 1, 0, 0, zN, none)
theorem mvX10_type : zV2 yX10_type mX10_type 1 9 := ⟨⟨zmem 1081 (by decide +kernel) (by decide +kernel), zmem 83 (by decide +kernel) (by decide +kernel), ⟨by decide +kernel, by decide +kernel⟩, by decide +kernel, by decide, by decide +kernel, rfl, (fun h => by cases h), rfl⟩, ⟨zmem 1079 (by decide +kernel) (by decide +kernel), zmem 1080 (by decide +kernel) (by decide +kernel), by decide, rfl⟩, rfl, rfl, rfl, rfl⟩
theorem meX10_type : zE mX10_type := ⟨rfl, rfl, rfl⟩
abbrev mX10_undo : zM := (RX10, cX10_undo, 2, some .int, false, 1, 0, 0, zN, none)
theorem mvX10_undo : zV2 yX10_undo mX10_undo 0 9 := ⟨⟨zmem 1058 (by decide +kernel) (by decide +kernel), zmem 83 (by decide +kernel) (by decide +kernel), ⟨by decide +kernel, by decide +kernel⟩, by decide +kernel, by decide, by decide +kernel, rfl, (fun h => by cases h), rfl⟩, ⟨zmem 1056 (by decide +kernel) (by decide +kernel), zmem 1057 (by decide +kernel) (by decide +kernel), by decide, rfl⟩, rfl, rfl, rfl, rfl⟩
theorem meX10_undo : zE mX10_undo := ⟨rfl, rfl, rfl⟩
abbrev mX10_value : zM := (RX10, cX10_value, 5, some .int, false, 3, 0, 0, zN, none)
theorem mvX10_value : zV2 yX10_value mX10_value 4 9 := ⟨⟨zmem 1176 (by decide +kernel) (by decide +kernel), zmem 83 (by decide +kernel) (by decide +kernel), ⟨by decide +kernel, by decide +kernel⟩, by decide +kernel, by decide, by decide +kernel, rfl, (fun h => by cases h), rfl⟩, ⟨zmem 1174 (by decide +kernel) (by decide +kernel), zmem 1175 (by decide +kernel) (by decide +kernel), by decide, rfl⟩, rfl, rfl, rfl, rfl⟩
theorem meX10_value : zE mX10_value := ⟨rfl, rfl, rfl⟩
abbrev mX10_valueAt : zM := (RX10, cX10_valueAt, 5, some .int, false, 1, 0, 0, zN, none)
theorem mvX10_valueAt : zV2 yX10_valueAt mX10_valueAt 2 9 := ⟨⟨zmem 1298 (by decide +kernel) (by decide +kernel), zmem 83 (by decide +kernel) (by decide +kernel), ⟨by decide +kernel, by decide +kernel⟩, by decide +kernel, by decide, by decide +kernel, rfl, (fun h => by cases h), rfl⟩, ⟨zmem 1297 (by decide +kernel) (by decide +kernel), zmem 62 (by decide +kernel) (by decide +kernel), by decide, rfl⟩, rfl, rfl, rfl, rfl⟩
theorem meX10_valueAt : zE mX10_valueAt := ⟨rfl, rfl, rfl⟩
abbrev mX10_valueOf : zM := (RX10, cX10_valueOf, 10, some .int, false, 2, 0, 0, zN, none)
theorem mvX10_valueOf : zV2 yX10_valueOf mX10_valueOf 4 9 := ⟨⟨zmem 1156 (by decide +kernel) (by decide +kernel), zmem 83 (by decide +kernel) (by decide +kernel), ⟨by decide +kernel, by decide +kernel⟩, by decide +kernel, by decide, by decide +kernel, rfl, (fun h => by cases h), rfl⟩, ⟨zmem 1155 (by decide +kernel) (by decide +kernel), zmem 37 (by decide +kernel) (by decide +kernel), by decide, rfl⟩, rfl, rfl, rfl, rfl⟩
theorem meX10_valueOf : zE mX10_valueOf := ⟨rfl, rfl, rfl⟩
abbrev mX1_compute : zM := (RX1, cX1_compute, 4, none, false, 3, 0, 0, zN, none)
theorem mvX1_compute : zV2 yX1_compute mX1_compute 0 1 := ⟨⟨zmem 778 (by decide +kernel) (by decide +kernel), zmem 81 (by decide +kernel) (by decide +kernel), ⟨by decide +kernel, by decide +kernel⟩, by decide +kernel, by decide, by decide +kernel, rfl, (fun h => by cases h), rfl⟩, ⟨zmem 776 (by decide +kernel) (by decide +kernel), zmem 777 (by decide +kernel) (by decide +kernel), by decide, rfl⟩, rfl, rfl, rfl, rfl⟩
theorem meX1_compute : zE mX1_compute := ⟨rfl, rfl, rfl⟩
abbrev mX1_divideByLeading : zM := (RX1, cX1_divideByLeading, 5, none, false, 1, 0, 0, zN, none)
theorem mvX1_divideByLeading : zV2 yX1_divideByLeading mX1_divideByLeading 1 1 := ⟨⟨zmem 825 (by decide +kernel) (by decide +kernel), zmem 81 (by decide +kernel) (by decide +kernel), ⟨by decide +kernel, by decide +kernel⟩, by decide +kernel, by decide, by decide +kernel, rfl, (fun h => by cases h), rfl⟩, ⟨zmem 824 (by decide +kernel) (by decide +kernel), zmem 22 (by decide +kernel) (by decide +kernel), by decide, rfl⟩, rfl, rfl, rfl, rfl⟩
theorem meX1_divideByLeading : zE mX1_divideByLeading := ⟨rfl, rfl, rfl⟩
abbrev mX1_expand : zM := (RX1, cX1_expand, 7, none, false, 2, 0, 0, zN, none)
theorem mvX1_expand : zV2 yX1_expand mX1_expand 1 1 := ⟨⟨zmem 787 (by decide +kernel) (by decide +kernel), zmem 81 (by decide +kernel) (by decide +kernel), ⟨by decide +kernel, by decide +kernel⟩, by decide +kernel, by decide, by decide +kernel, rfl, (fun h => by cases h), rfl⟩, ⟨zmem 786 (by decide +kernel) (by decide +kernel), zmem 20 (by decide +kernel) (by decide +kernel), by decide, rfl⟩, rfl, rfl, rfl, rfl⟩
theorem meX1_expand : zE mX1_expand := ⟨rfl, rfl, rfl⟩
abbrev mX1_forget : zM := (RX1, cX1_forget, 1, none, false, 0, 0, 0, zN, none)
theorem mvX1_forget : zV2 yX1_forget mX1_forget 0 1 := ⟨⟨zmem 433 (by decide +kernel) (by decide +kernel), zmem 81 (by decide +kernel) (by decide +kernel), ⟨by decide +kernel, by decide +kernel⟩, by decide +kernel, by decide, by decide +kernel, rfl, (fun h => by cases h), rfl⟩, ⟨zmem 431 (by decide +kernel) (by decide +kernel), zmem 432 (by decide +kernel) (by decide +kernel), by decide, rfl⟩, rfl, rfl, rfl, rfl⟩
theorem meX1_forget : zE mX1_forget := ⟨rfl, rfl, rfl⟩
abbrev mX1_listMembers : zM := (RX1, cX1_listMembers, 4, some .int, false, 0, 0, 0, zN, none)
theorem mvX1_listMembers : zS2 yX1_listMembers mX1_listMembers 2 := ⟨⟨zmem 781 (by decide +kernel) (by decide +kernel), zmem 81 (by decide +kernel) (by decide +kernel), ⟨by decide +kernel, by decide +kernel⟩, by decide +kernel, by decide, by decide +kernel, rfl, (fun h => by cases h), rfl⟩, zmem 780 (by decide +kernel) (by decide +kernel), rfl, rfl, rfl, rfl⟩
theorem meX1_listMembers : zE mX1_listMembers := ⟨rfl, rfl, rfl⟩
abbrev mX1_multiplicityOf : zM := (RX1, cX1_multiplicityOf, 2, some .int, false, 3, 0, 0, zN, none)
theorem mvX1_multiplicityOf : zV2 yX1_multiplicityOf mX1_multiplicityOf 1 1 := ⟨⟨zmem 847 (by decide +kernel) (by decide +kernel), zmem 81 (by decide +kernel) (by decide +kernel), ⟨by decide +kernel, by decide +kernel⟩, by decide +kernel, by decide, by decide +kernel, rfl, (fun h => by cases h), rfl⟩, ⟨zmem 845 (by decide +kernel) (by decide +kernel), zmem 846 (by decide +kernel) (by decide +kernel), by decide, rfl⟩, rfl, rfl, rfl, rfl⟩
theorem meX1_multiplicityOf : zE mX1_multiplicityOf := ⟨rfl, rfl, rfl⟩
abbrev mX1_reduce : zM := (RX1, cX1_reduce, 4, none, false, 3, 0, 0, zN, none)
theorem mvX1_reduce : zV2 yX1_reduce mX1_reduce 1 1 := ⟨⟨zmem 796 (by decide +kernel) (by decide +kernel), zmem 81 (by decide +kernel) (by decide +kernel), ⟨by decide +kernel, by decide +kernel⟩, by decide +kernel, by decide, by decide +kernel, rfl, (fun h => by cases h), rfl⟩, ⟨zmem 794 (by decide +kernel) (by decide +kernel), zmem 795 (by decide +kernel) (by decide +kernel), by decide, rfl⟩, rfl, rfl, rfl, rfl⟩
theorem meX1_reduce : zE mX1_reduce := ⟨rfl, rfl, rfl⟩
abbrev mX2_remember : zM := (RX2, cX2_remember, 3, none, false, 3, 0, 0, zN, none)
theorem mvX2_remember : zV2 yX2_remember mX2_remember 1 2 := ⟨⟨zmem 394 (by decide +kernel) (by decide +kernel), zmem 78 (by decide +kernel) (by decide +kernel), ⟨by decide +kernel, by decide +kernel⟩, by decide +kernel, by decide, by decide +kernel, rfl, (fun h => by cases h), rfl⟩, ⟨zmem 392 (by decide +kernel) (by decide +kernel), zmem 393 (by decide +kernel) (by decide +kernel), by decide, rfl⟩, rfl, rfl, rfl, rfl⟩
theorem meX2_remember : zE mX2_remember := ⟨rfl, rfl, rfl⟩
abbrev mX2_restore : zM := (RX2, cX2_restore, 3, none, false, 3, 0, 0, zN, none)
theorem mvX2_restore : zV2 yX2_restore mX2_restore 1 2 := ⟨⟨zmem 896 (by decide +kernel) (by decide +kernel), zmem 78 (by decide +kernel) (by decide +kernel), ⟨by decide +kernel, by decide +kernel⟩, by decide +kernel, by decide, by decide +kernel, rfl, (fun h => by cases h), rfl⟩, ⟨zmem 894 (by decide +kernel) (by decide +kernel), zmem 895 (by decide +kernel) (by decide +kernel), by decide, rfl⟩, rfl, rfl, rfl, rfl⟩
theorem meX2_restore : zE mX2_restore := ⟨rfl, rfl, rfl⟩
abbrev mX2_stateIn : zM := (RX2, cX2_stateIn, 2, some (.object "DixonEliminator$Polynomials"), false, 0, 0, 0, zN, none)
theorem mvX2_stateIn : zV2 yX2_stateIn mX2_stateIn 1 2 := ⟨⟨zmem 398 (by decide +kernel) (by decide +kernel), zmem 78 (by decide +kernel) (by decide +kernel), ⟨by decide +kernel, by decide +kernel⟩, by decide +kernel, by decide, by decide +kernel, rfl, (fun h => by cases h), rfl⟩, ⟨zmem 397 (by decide +kernel) (by decide +kernel), zmem 1 (by decide +kernel) (by decide +kernel), by decide, rfl⟩, rfl, rfl, rfl, rfl⟩
theorem meX2_stateIn : zE mX2_stateIn := ⟨rfl, rfl, rfl⟩
abbrev mX3_addProduct : zM := (RX3, cX3_addProduct, 7, none, false, 0, 0, 0, zN, none)
theorem mvX3_addProduct : zS2 yX3_addProduct mX3_addProduct 4 := ⟨⟨zmem 791 (by decide +kernel) (by decide +kernel), zmem 86 (by decide +kernel) (by decide +kernel), ⟨by decide +kernel, by decide +kernel⟩, by decide +kernel, by decide, by decide +kernel, rfl, (fun h => by cases h), rfl⟩, zmem 790 (by decide +kernel) (by decide +kernel), rfl, rfl, rfl, rfl⟩
theorem meX3_addProduct : zE mX3_addProduct := ⟨rfl, rfl, rfl⟩
abbrev mX3_divideByRoot : zM := (RX3, cX3_divideByRoot, 6, none, false, 1, 0, 0, zN, none)
theorem mvX3_divideByRoot : zS2 yX3_divideByRoot mX3_divideByRoot 3 := ⟨⟨zmem 821 (by decide +kernel) (by decide +kernel), zmem 86 (by decide +kernel) (by decide +kernel), ⟨by decide +kernel, by decide +kernel⟩, by decide +kernel, by decide, by decide +kernel, rfl, (fun h => by cases h), rfl⟩, zmem 820 (by decide +kernel) (by decide +kernel), rfl, rfl, rfl, rfl⟩
theorem meX3_divideByRoot : zE mX3_divideByRoot := ⟨rfl, rfl, rfl⟩
abbrev mX3_horner : zM := (RX3, cX3_horner, 5, some .int, false, 0, 0, 0, zN, none)
theorem mvX3_horner : zS2 yX3_horner mX3_horner 3 := ⟨⟨zmem 681 (by decide +kernel) (by decide +kernel), zmem 86 (by decide +kernel) (by decide +kernel), ⟨by decide +kernel, by decide +kernel⟩, by decide +kernel, by decide, by decide +kernel, rfl, (fun h => by cases h), rfl⟩, zmem 680 (by decide +kernel) (by decide +kernel), rfl, rfl, rfl, rfl⟩
theorem meX3_horner : zE mX3_horner := ⟨rfl, rfl, rfl⟩
abbrev mX3_inverse : zM := (RX3, cX3_inverse, 3, some .int, false, 0, 0, 0, zN, none)
theorem mvX3_inverse : zS2 yX3_inverse mX3_inverse 2 := ⟨⟨zmem 720 (by decide +kernel) (by decide +kernel), zmem 86 (by decide +kernel) (by decide +kernel), ⟨by decide +kernel, by decide +kernel⟩, by decide +kernel, by decide, by decide +kernel, rfl, (fun h => by cases h), rfl⟩, zmem 719 (by decide +kernel) (by decide +kernel), rfl, rfl, rfl, rfl⟩
theorem meX3_inverse : zE mX3_inverse := ⟨rfl, rfl, rfl⟩
abbrev mX3_reduceAll : zM := (RX3, cX3_reduceAll, 3, none, false, 1, 0, 0, zN, none)
theorem mvX3_reduceAll : zS2 yX3_reduceAll mX3_reduceAll 2 := ⟨⟨zmem 647 (by decide +kernel) (by decide +kernel), zmem 86 (by decide +kernel) (by decide +kernel), ⟨by decide +kernel, by decide +kernel⟩, by decide +kernel, by decide, by decide +kernel, rfl, (fun h => by cases h), rfl⟩, zmem 646 (by decide +kernel) (by decide +kernel), rfl, rfl, rfl, rfl⟩
theorem meX3_reduceAll : zE mX3_reduceAll := ⟨rfl, rfl, rfl⟩
abbrev mX3_residue : zM := (RX3, cX3_residue, 3, some .int, false, 0, 0, 0, zN, none)
theorem mvX3_residue : zS2 yX3_residue mX3_residue 2 := ⟨⟨zmem 501 (by decide +kernel) (by decide +kernel), zmem 86 (by decide +kernel) (by decide +kernel), ⟨by decide +kernel, by decide +kernel⟩, by decide +kernel, by decide, by decide +kernel, rfl, (fun h => by cases h), rfl⟩, zmem 500 (by decide +kernel) (by decide +kernel), rfl, rfl, rfl, rfl⟩
theorem meX3_residue : zE mX3_residue := ⟨rfl, rfl, rfl⟩
abbrev mX3_strip : zM := (RX3, cX3_strip, 4, some .int, false, 2, 0, 0, zN, none)
theorem mvX3_strip : zS2 yX3_strip mX3_strip 3 := ⟨⟨zmem 817 (by decide +kernel) (by decide +kernel), zmem 86 (by decide +kernel) (by decide +kernel), ⟨by decide +kernel, by decide +kernel⟩, by decide +kernel, by decide, by decide +kernel, rfl, (fun h => by cases h), rfl⟩, zmem 816 (by decide +kernel) (by decide +kernel), rfl, rfl, rfl, rfl⟩
theorem meX3_strip : zE mX3_strip := ⟨rfl, rfl, rfl⟩
abbrev mX3_topOf : zM := (RX3, cX3_topOf, 2, some .int, false, 0, 0, 0, zN, none)
theorem mvX3_topOf : zS2 yX3_topOf mX3_topOf 1 := ⟨⟨zmem 828 (by decide +kernel) (by decide +kernel), zmem 86 (by decide +kernel) (by decide +kernel), ⟨by decide +kernel, by decide +kernel⟩, by decide +kernel, by decide, by decide +kernel, rfl, (fun h => by cases h), rfl⟩, zmem 827 (by decide +kernel) (by decide +kernel), rfl, rfl, rfl, rfl⟩
theorem meX3_topOf : zE mX3_topOf := ⟨rfl, rfl, rfl⟩
abbrev mX4_addMultiple : zM := (RX4, cX4_addMultiple, 9, none, false, 1, 0, 0, zN, none)
theorem mvX4_addMultiple : zV2 yX4_addMultiple mX4_addMultiple 4 3 := ⟨⟨zmem 576 (by decide +kernel) (by decide +kernel), zmem 74 (by decide +kernel) (by decide +kernel), ⟨by decide +kernel, by decide +kernel⟩, by decide +kernel, by decide, by decide +kernel, rfl, (fun h => by cases h), rfl⟩, ⟨zmem 574 (by decide +kernel) (by decide +kernel), zmem 575 (by decide +kernel) (by decide +kernel), by decide, rfl⟩, rfl, rfl, rfl, rfl⟩
theorem meX4_addMultiple : zE mX4_addMultiple := ⟨rfl, rfl, rfl⟩
abbrev mX4_copyFrom : zM := (RX4, cX4_copyFrom, 3, none, false, 2, 0, 0, zN, none)
theorem mvX4_copyFrom : zV2 yX4_copyFrom mX4_copyFrom 1 3 := ⟨⟨zmem 402 (by decide +kernel) (by decide +kernel), zmem 74 (by decide +kernel) (by decide +kernel), ⟨by decide +kernel, by decide +kernel⟩, by decide +kernel, by decide, by decide +kernel, rfl, (fun h => by cases h), rfl⟩, ⟨zmem 400 (by decide +kernel) (by decide +kernel), zmem 401 (by decide +kernel) (by decide +kernel), by decide, rfl⟩, rfl, rfl, rfl, rfl⟩
theorem meX4_copyFrom : zE mX4_copyFrom := ⟨rfl, rfl, rfl⟩
abbrev mX4_degreeIn : zM := (RX4, cX4_degreeIn, 7, some .int, false, 1, 0, 0, zN, none)
theorem mvX4_degreeIn : zV2 yX4_degreeIn mX4_degreeIn 2 3 := ⟨⟨zmem 596 (by decide +kernel) (by decide +kernel), zmem 74 (by decide +kernel) (by decide +kernel), ⟨by decide +kernel, by decide +kernel⟩, by decide +kernel, by decide, by decide +kernel, rfl, (fun h => by cases h), rfl⟩, ⟨zmem 594 (by decide +kernel) (by decide +kernel), zmem 595 (by decide +kernel) (by decide +kernel), by decide, rfl⟩, rfl, rfl, rfl, rfl⟩
theorem meX4_degreeIn : zE mX4_degreeIn := ⟨rfl, rfl, rfl⟩
abbrev mX4_degreeInAt : zM := (RX4, cX4_degreeInAt, 6, some .int, false, 2, 0, 0, zN, none)
theorem mvX4_degreeInAt : zV2 yX4_degreeInAt mX4_degreeInAt 3 3 := ⟨⟨zmem 605 (by decide +kernel) (by decide +kernel), zmem 74 (by decide +kernel) (by decide +kernel), ⟨by decide +kernel, by decide +kernel⟩, by decide +kernel, by decide, by decide +kernel, rfl, (fun h => by cases h), rfl⟩, ⟨zmem 603 (by decide +kernel) (by decide +kernel), zmem 604 (by decide +kernel) (by decide +kernel), by decide, rfl⟩, rfl, rfl, rfl, rfl⟩
theorem meX4_degreeInAt : zE mX4_degreeInAt := ⟨rfl, rfl, rfl⟩
abbrev mX4_dropsAt : zM := (RX4, cX4_dropsAt, 3, some .boolean, false, 3, 0, 0, zN, none)
theorem mvX4_dropsAt : zV2 yX4_dropsAt mX4_dropsAt 1 3 := ⟨⟨zmem 613 (by decide +kernel) (by decide +kernel), zmem 74 (by decide +kernel) (by decide +kernel), ⟨by decide +kernel, by decide +kernel⟩, by decide +kernel, by decide, by decide +kernel, rfl, (fun h => by cases h), rfl⟩, ⟨zmem 611 (by decide +kernel) (by decide +kernel), zmem 612 (by decide +kernel) (by decide +kernel), by decide, rfl⟩, rfl, rfl, rfl, rfl⟩
theorem meX4_dropsAt : zE mX4_dropsAt := ⟨rfl, rfl, rfl⟩
abbrev mX4_erase : zM := (RX4, cX4_erase, 2, none, false, 1, 0, 0, zN, none)
theorem mvX4_erase : zV2 yX4_erase mX4_erase 0 3 := ⟨⟨zmem 437 (by decide +kernel) (by decide +kernel), zmem 74 (by decide +kernel) (by decide +kernel), ⟨by decide +kernel, by decide +kernel⟩, by decide +kernel, by decide, by decide +kernel, rfl, (fun h => by cases h), rfl⟩, ⟨zmem 435 (by decide +kernel) (by decide +kernel), zmem 436 (by decide +kernel) (by decide +kernel), by decide, rfl⟩, rfl, rfl, rfl, rfl⟩
theorem meX4_erase : zE mX4_erase := ⟨rfl, rfl, rfl⟩
abbrev mX4_exchange : zM := (RX4, cX4_exchange, 8, some .boolean, false, 1, 0, 0, zN, none)
theorem mvX4_exchange : zV2 yX4_exchange mX4_exchange 2 3 := ⟨⟨zmem 564 (by decide +kernel) (by decide +kernel), zmem 74 (by decide +kernel) (by decide +kernel), ⟨by decide +kernel, by decide +kernel⟩, by decide +kernel, by decide, by decide +kernel, rfl, (fun h => by cases h), rfl⟩, ⟨zmem 562 (by decide +kernel) (by decide +kernel), zmem 563 (by decide +kernel) (by decide +kernel), by decide, rfl⟩, rfl, rfl, rfl, rfl⟩
theorem meX4_exchange : zE mX4_exchange := ⟨rfl, rfl, rfl⟩
abbrev mX4_factorAt : zM := (RX4, cX4_factorAt, 6, some .int, false, 1, 0, 0, zN, none)
theorem mvX4_factorAt : zV2 yX4_factorAt mX4_factorAt 3 3 := ⟨⟨zmem 555 (by decide +kernel) (by decide +kernel), zmem 74 (by decide +kernel) (by decide +kernel), ⟨by decide +kernel, by decide +kernel⟩, by decide +kernel, by decide, by decide +kernel, rfl, (fun h => by cases h), rfl⟩, ⟨zmem 553 (by decide +kernel) (by decide +kernel), zmem 554 (by decide +kernel) (by decide +kernel), by decide, rfl⟩, rfl, rfl, rfl, rfl⟩
theorem meX4_factorAt : zE mX4_factorAt := ⟨rfl, rfl, rfl⟩
abbrev mX4_greatestDegree : zM := (RX4, cX4_greatestDegree, 2, some .int, false, 2, 0, 0, zN, none)
theorem mvX4_greatestDegree : zV2 yX4_greatestDegree mX4_greatestDegree 1 3 := ⟨⟨zmem 631 (by decide +kernel) (by decide +kernel), zmem 74 (by decide +kernel) (by decide +kernel), ⟨by decide +kernel, by decide +kernel⟩, by decide +kernel, by decide, by decide +kernel, rfl, (fun h => by cases h), rfl⟩, ⟨zmem 629 (by decide +kernel) (by decide +kernel), zmem 630 (by decide +kernel) (by decide +kernel), by decide, rfl⟩, rfl, rfl, rfl, rfl⟩
theorem meX4_greatestDegree : zE mX4_greatestDegree := ⟨rfl, rfl, rfl⟩
abbrev mX4_leavesRange : zM := (RX4, cX4_leavesRange, 8, some .boolean, false, 1, 0, 0, zN, none)
theorem mvX4_leavesRange : zV2 yX4_leavesRange mX4_leavesRange 4 3 := ⟨⟨zmem 572 (by decide +kernel) (by decide +kernel), zmem 74 (by decide +kernel) (by decide +kernel), ⟨by decide +kernel, by decide +kernel⟩, by decide +kernel, by decide, by decide +kernel, rfl, (fun h => by cases h), rfl⟩, ⟨zmem 570 (by decide +kernel) (by decide +kernel), zmem 571 (by decide +kernel) (by decide +kernel), by decide, rfl⟩, rfl, rfl, rfl, rfl⟩
theorem meX4_leavesRange : zE mX4_leavesRange := ⟨rfl, rfl, rfl⟩
abbrev mX4_replace : zM := (RX4, cX4_replace, 5, none, false, 1, 0, 0, zN, none)
theorem mvX4_replace : zV2 yX4_replace mX4_replace 2 3 := ⟨⟨zmem 410 (by decide +kernel) (by decide +kernel), zmem 74 (by decide +kernel) (by decide +kernel), ⟨by decide +kernel, by decide +kernel⟩, by decide +kernel, by decide, by decide +kernel, rfl, (fun h => by cases h), rfl⟩, ⟨zmem 408 (by decide +kernel) (by decide +kernel), zmem 409 (by decide +kernel) (by decide +kernel), by decide, rfl⟩, rfl, rfl, rfl, rfl⟩
theorem meX4_replace : zE mX4_replace := ⟨rfl, rfl, rfl⟩
abbrev mX4_scatter : zM := (RX4, cX4_scatter, 12, none, false, 1, 0, 0, zN, none)
theorem mvX4_scatter : zV2 yX4_scatter mX4_scatter 5 3 := ⟨⟨zmem 536 (by decide +kernel) (by decide +kernel), zmem 74 (by decide +kernel) (by decide +kernel), ⟨by decide +kernel, by decide +kernel⟩, by decide +kernel, by decide, by decide +kernel, rfl, (fun h => by cases h), rfl⟩, ⟨zmem 534 (by decide +kernel) (by decide +kernel), zmem 535 (by decide +kernel) (by decide +kernel), by decide, rfl⟩, rfl, rfl, rfl, rfl⟩
theorem meX4_scatter : zE mX4_scatter := ⟨rfl, rfl, rfl⟩
abbrev mX4_setTerm : zM := (RX4, cX4_setTerm, 4, none, false, 1, 0, 0, zN, none)
theorem mvX4_setTerm : zV2 yX4_setTerm mX4_setTerm 3 3 := ⟨⟨zmem 524 (by decide +kernel) (by decide +kernel), zmem 74 (by decide +kernel) (by decide +kernel), ⟨by decide +kernel, by decide +kernel⟩, by decide +kernel, by decide, by decide +kernel, rfl, (fun h => by cases h), rfl⟩, ⟨zmem 522 (by decide +kernel) (by decide +kernel), zmem 523 (by decide +kernel) (by decide +kernel), by decide, rfl⟩, rfl, rfl, rfl, rfl⟩
theorem meX4_setTerm : zE mX4_setTerm := ⟨rfl, rfl, rfl⟩
abbrev mX4_substitute : zM := (RX4, cX4_substitute, 5, none, false, 1, 0, 0, zN, none)
theorem mvX4_substitute : zV2 yX4_substitute mX4_substitute 1 3 := ⟨⟨zmem 584 (by decide +kernel) (by decide +kernel), zmem 74 (by decide +kernel) (by decide +kernel), ⟨by decide +kernel, by decide +kernel⟩, by decide +kernel, by decide, by decide +kernel, rfl, (fun h => by cases h), rfl⟩, ⟨zmem 582 (by decide +kernel) (by decide +kernel), zmem 583 (by decide +kernel) (by decide +kernel), by decide, rfl⟩, rfl, rfl, rfl, rfl⟩
theorem meX4_substitute : zE mX4_substitute := ⟨rfl, rfl, rfl⟩
abbrev mX4_term : zM := (RX4, cX4_term, 3, some .int, false, 1, 0, 0, zN, none)
theorem mvX4_term : zV2 yX4_term mX4_term 2 3 := ⟨⟨zmem 520 (by decide +kernel) (by decide +kernel), zmem 74 (by decide +kernel) (by decide +kernel), ⟨by decide +kernel, by decide +kernel⟩, by decide +kernel, by decide, by decide +kernel, rfl, (fun h => by cases h), rfl⟩, ⟨zmem 518 (by decide +kernel) (by decide +kernel), zmem 519 (by decide +kernel) (by decide +kernel), by decide, rfl⟩, rfl, rfl, rfl, rfl⟩
theorem meX4_term : zE mX4_term := ⟨rfl, rfl, rfl⟩
abbrev mX4_termCount : zM := (RX4, cX4_termCount, 5, some .int, false, 1, 0, 0, zN, none)
theorem mvX4_termCount : zV2 yX4_termCount mX4_termCount 1 3 := ⟨⟨zmem 506 (by decide +kernel) (by decide +kernel), zmem 74 (by decide +kernel) (by decide +kernel), ⟨by decide +kernel, by decide +kernel⟩, by decide +kernel, by decide, by decide +kernel, rfl, (fun h => by cases h), rfl⟩, ⟨zmem 504 (by decide +kernel) (by decide +kernel), zmem 505 (by decide +kernel) (by decide +kernel), by decide, rfl⟩, rfl, rfl, rfl, rfl⟩
theorem meX4_termCount : zE mX4_termCount := ⟨rfl, rfl, rfl⟩
abbrev mX4_termCountOfAll : zM := (RX4, cX4_termCountOfAll, 1, some .int, false, 2, 0, 0, zN, none)
theorem mvX4_termCountOfAll : zV2 yX4_termCountOfAll mX4_termCountOfAll 0 3 := ⟨⟨zmem 542 (by decide +kernel) (by decide +kernel), zmem 74 (by decide +kernel) (by decide +kernel), ⟨by decide +kernel, by decide +kernel⟩, by decide +kernel, by decide, by decide +kernel, rfl, (fun h => by cases h), rfl⟩, ⟨zmem 540 (by decide +kernel) (by decide +kernel), zmem 541 (by decide +kernel) (by decide +kernel), by decide, rfl⟩, rfl, rfl, rfl, rfl⟩
theorem meX4_termCountOfAll : zE mX4_termCountOfAll := ⟨rfl, rfl, rfl⟩
abbrev mX4_termsOf : zM := (RX4, cX4_termsOf, 2, some (.array .int), false, 0, 0, 0, zN, none)
theorem mvX4_termsOf : zV2 yX4_termsOf mX4_termsOf 1 3 := ⟨⟨zmem 406 (by decide +kernel) (by decide +kernel), zmem 74 (by decide +kernel) (by decide +kernel), ⟨by decide +kernel, by decide +kernel⟩, by decide +kernel, by decide, by decide +kernel, rfl, (fun h => by cases h), rfl⟩, ⟨zmem 404 (by decide +kernel) (by decide +kernel), zmem 405 (by decide +kernel) (by decide +kernel), by decide, rfl⟩, rfl, rfl, rfl, rfl⟩
theorem meX4_termsOf : zE mX4_termsOf := ⟨rfl, rfl, rfl⟩
abbrev mX4_valueOf : zM := (RX4, cX4_valueOf, 9, some .int, false, 2, 0, 0, zN, none)
theorem mvX4_valueOf : zV2 yX4_valueOf mX4_valueOf 4 3 := ⟨⟨zmem 551 (by decide +kernel) (by decide +kernel), zmem 74 (by decide +kernel) (by decide +kernel), ⟨by decide +kernel, by decide +kernel⟩, by decide +kernel, by decide, by decide +kernel, rfl, (fun h => by cases h), rfl⟩, ⟨zmem 549 (by decide +kernel) (by decide +kernel), zmem 550 (by decide +kernel) (by decide +kernel), by decide, rfl⟩, rfl, rfl, rfl, rfl⟩
theorem meX4_valueOf : zE mX4_valueOf := ⟨rfl, rfl, rfl⟩
abbrev mX5_coordinate : zM := (RX5, cX5_coordinate, 3, some .int, false, 0, 0, 0, zN, none)
theorem mvX5_coordinate : zV2 yX5_coordinate mX5_coordinate 2 4 := ⟨⟨zmem 884 (by decide +kernel) (by decide +kernel), zmem 76 (by decide +kernel) (by decide +kernel), ⟨by decide +kernel, by decide +kernel⟩, by decide +kernel, by decide, by decide +kernel, rfl, (fun h => by cases h), rfl⟩, ⟨zmem 882 (by decide +kernel) (by decide +kernel), zmem 883 (by decide +kernel) (by decide +kernel), by decide, rfl⟩, rfl, rfl, rfl, rfl⟩
theorem meX5_coordinate : zE mX5_coordinate := ⟨rfl, rfl, rfl⟩
abbrev mX5_examine : zM := (RX5, cX5_examine, 3, none, false, 2, 0, 0, zN, none)
theorem mvX5_examine : zV2 yX5_examine mX5_examine 1 4 := ⟨⟨zmem 689 (by decide +kernel) (by decide +kernel), zmem 76 (by decide +kernel) (by decide +kernel), ⟨by decide +kernel, by decide +kernel⟩, by decide +kernel, by decide, by decide +kernel, rfl, (fun h => by cases h), rfl⟩, ⟨zmem 687 (by decide +kernel) (by decide +kernel), zmem 688 (by decide +kernel) (by decide +kernel), by decide, rfl⟩, rfl, rfl, rfl, rfl⟩
theorem meX5_examine : zE mX5_examine := ⟨rfl, rfl, rfl⟩
abbrev mX5_findDrops : zM := (RX5, cX5_findDrops, 2, none, false, 0, 0, 0, zN, none)
theorem mvX5_findDrops : zV2 yX5_findDrops mX5_findDrops 0 4 := ⟨⟨zmem 738 (by decide +kernel) (by decide +kernel), zmem 76 (by decide +kernel) (by decide +kernel), ⟨by decide +kernel, by decide +kernel⟩, by decide +kernel, by decide, by decide +kernel, rfl, (fun h => by cases h), rfl⟩, ⟨zmem 737 (by decide +kernel) (by decide +kernel), zmem 16 (by decide +kernel) (by decide +kernel), by decide, rfl⟩, rfl, rfl, rfl, rfl⟩
theorem meX5_findDrops : zE mX5_findDrops := ⟨rfl, rfl, rfl⟩
abbrev mX5_forget : zM := (RX5, cX5_forget, 1, none, false, 0, 0, 0, zN, none)
theorem mvX5_forget : zV2 yX5_forget mX5_forget 0 4 := ⟨⟨zmem 429 (by decide +kernel) (by decide +kernel), zmem 76 (by decide +kernel) (by decide +kernel), ⟨by decide +kernel, by decide +kernel⟩, by decide +kernel, by decide, by decide +kernel, rfl, (fun h => by cases h), rfl⟩, ⟨zmem 427 (by decide +kernel) (by decide +kernel), zmem 428 (by decide +kernel) (by decide +kernel), by decide, rfl⟩, rfl, rfl, rfl, rfl⟩
theorem meX5_forget : zE mX5_forget := ⟨rfl, rfl, rfl⟩
abbrev mX5_rankOf : zM := (RX5, cX5_rankOf, 2, some .int, false, 0, 0, 0, zN, none)
theorem mvX5_rankOf : zV2 yX5_rankOf mX5_rankOf 1 4 := ⟨⟨zmem 724 (by decide +kernel) (by decide +kernel), zmem 76 (by decide +kernel) (by decide +kernel), ⟨by decide +kernel, by decide +kernel⟩, by decide +kernel, by decide, by decide +kernel, rfl, (fun h => by cases h), rfl⟩, ⟨zmem 722 (by decide +kernel) (by decide +kernel), zmem 723 (by decide +kernel) (by decide +kernel), by decide, rfl⟩, rfl, rfl, rfl, rfl⟩
theorem meX5_rankOf : zE mX5_rankOf := ⟨rfl, rfl, rfl⟩
abbrev mX5_selectColumns : zM := (RX5, cX5_selectColumns, 2, none, false, 2, 0, 0, zN, none)
theorem mvX5_selectColumns : zV2 yX5_selectColumns mX5_selectColumns 0 4 := ⟨⟨zmem 746 (by decide +kernel) (by decide +kernel), zmem 76 (by decide +kernel) (by decide +kernel), ⟨by decide +kernel, by decide +kernel⟩, by decide +kernel, by decide, by decide +kernel, rfl, (fun h => by cases h), rfl⟩, ⟨zmem 745 (by decide +kernel) (by decide +kernel), zmem 18 (by decide +kernel) (by decide +kernel), by decide, rfl⟩, rfl, rfl, rfl, rfl⟩
theorem meX5_selectColumns : zE mX5_selectColumns := ⟨rfl, rfl, rfl⟩
abbrev mX5_selectRows : zM := (RX5, cX5_selectRows, 2, none, false, 2, 0, 0, zN, none)
theorem mvX5_selectRows : zV2 yX5_selectRows mX5_selectRows 0 4 := ⟨⟨zmem 742 (by decide +kernel) (by decide +kernel), zmem 76 (by decide +kernel) (by decide +kernel), ⟨by decide +kernel, by decide +kernel⟩, by decide +kernel, by decide, by decide +kernel, rfl, (fun h => by cases h), rfl⟩, ⟨zmem 741 (by decide +kernel) (by decide +kernel), zmem 17 (by decide +kernel) (by decide +kernel), by decide, rfl⟩, rfl, rfl, rfl, rfl⟩
theorem meX5_selectRows : zE mX5_selectRows := ⟨rfl, rfl, rfl⟩
abbrev mX5_survey : zM := (RX5, cX5_survey, 2, none, false, 3, 0, 0, zN, none)
theorem mvX5_survey : zV2 yX5_survey mX5_survey 0 4 := ⟨⟨zmem 732 (by decide +kernel) (by decide +kernel), zmem 76 (by decide +kernel) (by decide +kernel), ⟨by decide +kernel, by decide +kernel⟩, by decide +kernel, by decide, by decide +kernel, rfl, (fun h => by cases h), rfl⟩, ⟨zmem 730 (by decide +kernel) (by decide +kernel), zmem 731 (by decide +kernel) (by decide +kernel), by decide, rfl⟩, rfl, rfl, rfl, rfl⟩
theorem meX5_survey : zE mX5_survey := ⟨rfl, rfl, rfl⟩
abbrev mX6_countAt : zM := (RX6, cX6_countAt, 5, some .int, false, 1, 0, 0, zN, none)
theorem mvX6_countAt : zV2 yX6_countAt mX6_countAt 1 5 := ⟨⟨zmem 813 (by decide +kernel) (by decide +kernel), zmem 80 (by decide +kernel) (by decide +kernel), ⟨by decide +kernel, by decide +kernel⟩, by decide +kernel, by decide, by decide +kernel, rfl, (fun h => by cases h), rfl⟩, ⟨zmem 811 (by decide +kernel) (by decide +kernel), zmem 812 (by decide +kernel) (by decide +kernel), by decide, rfl⟩, rfl, rfl, rfl, rfl⟩
theorem meX6_countAt : zE mX6_countAt := ⟨rfl, rfl, rfl⟩
abbrev mX6_forget : zM := (RX6, cX6_forget, 1, none, false, 0, 0, 0, zN, none)
theorem mvX6_forget : zV2 yX6_forget mX6_forget 0 5 := ⟨⟨zmem 421 (by decide +kernel) (by decide +kernel), zmem 80 (by decide +kernel) (by decide +kernel), ⟨by decide +kernel, by decide +kernel⟩, by decide +kernel, by decide, by decide +kernel, rfl, (fun h => by cases h), rfl⟩, ⟨zmem 419 (by decide +kernel) (by decide +kernel), zmem 420 (by decide +kernel) (by decide +kernel), by decide, rfl⟩, rfl, rfl, rfl, rfl⟩
theorem meX6_forget : zE mX6_forget := ⟨rfl, rfl, rfl⟩
abbrev mX6_memberOf : zM := (RX6, cX6_memberOf, 4, some .int, false, 0, 0, 0, zN, none)
theorem mvX6_memberOf : zS2 yX6_memberOf mX6_memberOf 2 := ⟨⟨zmem 868 (by decide +kernel) (by decide +kernel), zmem 80 (by decide +kernel) (by decide +kernel), ⟨by decide +kernel, by decide +kernel⟩, by decide +kernel, by decide, by decide +kernel, rfl, (fun h => by cases h), rfl⟩, zmem 867 (by decide +kernel) (by decide +kernel), rfl, rfl, rfl, rfl⟩
theorem meX6_memberOf : zE mX6_memberOf := ⟨rfl, rfl, rfl⟩
abbrev mX6_ordinatesOf : zM := (RX6, cX6_ordinatesOf, 6, some .int, false, 1, 0, 0, zN, none)
theorem mvX6_ordinatesOf : zV2 yX6_ordinatesOf mX6_ordinatesOf 1 5 := ⟨⟨zmem 807 (by decide +kernel) (by decide +kernel), zmem 80 (by decide +kernel) (by decide +kernel), ⟨by decide +kernel, by decide +kernel⟩, by decide +kernel, by decide, by decide +kernel, rfl, (fun h => by cases h), rfl⟩, ⟨zmem 806 (by decide +kernel) (by decide +kernel), zmem 21 (by decide +kernel) (by decide +kernel), by decide, rfl⟩, rfl, rfl, rfl, rfl⟩
theorem meX6_ordinatesOf : zE mX6_ordinatesOf := ⟨rfl, rfl, rfl⟩
abbrev mX6_rootAt : zM := (RX6, cX6_rootAt, 7, some .int, false, 1, 0, 0, zN, none)
theorem mvX6_rootAt : zV2 yX6_rootAt mX6_rootAt 2 5 := ⟨⟨zmem 865 (by decide +kernel) (by decide +kernel), zmem 80 (by decide +kernel) (by decide +kernel), ⟨by decide +kernel, by decide +kernel⟩, by decide +kernel, by decide, by decide +kernel, rfl, (fun h => by cases h), rfl⟩, ⟨zmem 863 (by decide +kernel) (by decide +kernel), zmem 864 (by decide +kernel) (by decide +kernel), by decide, rfl⟩, rfl, rfl, rfl, rfl⟩
theorem meX6_rootAt : zE mX6_rootAt := ⟨rfl, rfl, rfl⟩
abbrev mX6_search : zM := (RX6, cX6_search, 4, none, false, 2, 0, 0, zN, none)
theorem mvX6_search : zV2 yX6_search mX6_search 1 5 := ⟨⟨zmem 802 (by decide +kernel) (by decide +kernel), zmem 80 (by decide +kernel) (by decide +kernel), ⟨by decide +kernel, by decide +kernel⟩, by decide +kernel, by decide, by decide +kernel, rfl, (fun h => by cases h), rfl⟩, ⟨zmem 800 (by decide +kernel) (by decide +kernel), zmem 801 (by decide +kernel) (by decide +kernel), by decide, rfl⟩, rfl, rfl, rfl, rfl⟩
theorem meX6_search : zE mX6_search := ⟨rfl, rfl, rfl⟩
abbrev mX7_begin : zM := (RX7, cX7_begin, 2, none, false, 1, 0, 0, zN, none)
theorem mvX7_begin : zV2 yX7_begin mX7_begin 1 6 := ⟨⟨zmem 693 (by decide +kernel) (by decide +kernel), zmem 77 (by decide +kernel) (by decide +kernel), ⟨by decide +kernel, by decide +kernel⟩, by decide +kernel, by decide, by decide +kernel, rfl, (fun h => by cases h), rfl⟩, ⟨zmem 691 (by decide +kernel) (by decide +kernel), zmem 692 (by decide +kernel) (by decide +kernel), by decide, rfl⟩, rfl, rfl, rfl, rfl⟩
theorem meX7_begin : zE mX7_begin := ⟨rfl, rfl, rfl⟩
abbrev mX7_leadOf : zM := (RX7, cX7_leadOf, 2, some .int, false, 0, 0, 0, zN, none)
theorem mvX7_leadOf : zV2 yX7_leadOf mX7_leadOf 0 6 := ⟨⟨zmem 710 (by decide +kernel) (by decide +kernel), zmem 77 (by decide +kernel) (by decide +kernel), ⟨by decide +kernel, by decide +kernel⟩, by decide +kernel, by decide, by decide +kernel, rfl, (fun h => by cases h), rfl⟩, ⟨zmem 709 (by decide +kernel) (by decide +kernel), zmem 15 (by decide +kernel) (by decide +kernel), by decide, rfl⟩, rfl, rfl, rfl, rfl⟩
theorem meX7_leadOf : zE mX7_leadOf := ⟨rfl, rfl, rfl⟩
abbrev mX7_ratio : zM := (RX7, cX7_ratio, 2, some .int, false, 1, 0, 0, zN, none)
theorem mvX7_ratio : zV2 yX7_ratio mX7_ratio 1 6 := ⟨⟨zmem 717 (by decide +kernel) (by decide +kernel), zmem 77 (by decide +kernel) (by decide +kernel), ⟨by decide +kernel, by decide +kernel⟩, by decide +kernel, by decide, by decide +kernel, rfl, (fun h => by cases h), rfl⟩, ⟨zmem 715 (by decide +kernel) (by decide +kernel), zmem 716 (by decide +kernel) (by decide +kernel), by decide, rfl⟩, rfl, rfl, rfl, rfl⟩
theorem meX7_ratio : zE mX7_ratio := ⟨rfl, rfl, rfl⟩
abbrev mX7_take : zM := (RX7, cX7_take, 7, some .boolean, false, 1, 0, 0, zN, none)
theorem mvX7_take : zV2 yX7_take mX7_take 0 6 := ⟨⟨zmem 703 (by decide +kernel) (by decide +kernel), zmem 77 (by decide +kernel) (by decide +kernel), ⟨by decide +kernel, by decide +kernel⟩, by decide +kernel, by decide, by decide +kernel, rfl, (fun h => by cases h), rfl⟩, ⟨zmem 701 (by decide +kernel) (by decide +kernel), zmem 702 (by decide +kernel) (by decide +kernel), by decide, rfl⟩, rfl, rfl, rfl, rfl⟩
theorem meX7_take : zE mX7_take := ⟨rfl, rfl, rfl⟩
abbrev mX8_append : zM := (RX8, cX8_append, 2, some .boolean, false, 0, 0, 0, zN, none)
theorem mvX8_append : zV2 yX8_append mX8_append 1 7 := ⟨⟨zmem 448 (by decide +kernel) (by decide +kernel), zmem 79 (by decide +kernel) (by decide +kernel), ⟨by decide +kernel, by decide +kernel⟩, by decide +kernel, by decide, by decide +kernel, rfl, (fun h => by cases h), rfl⟩, ⟨zmem 446 (by decide +kernel) (by decide +kernel), zmem 447 (by decide +kernel) (by decide +kernel), by decide, rfl⟩, rfl, rfl, rfl, rfl⟩
theorem meX8_append : zE mX8_append := ⟨rfl, rfl, rfl⟩
abbrev mX8_letterOf : zM := (RX8, cX8_letterOf, 1, some .int, false, 0, 0, 0, zN, none)
theorem mvX8_letterOf : zS2 yX8_letterOf mX8_letterOf 1 := ⟨⟨zmem 494 (by decide +kernel) (by decide +kernel), zmem 79 (by decide +kernel) (by decide +kernel), ⟨by decide +kernel, by decide +kernel⟩, by decide +kernel, by decide, by decide +kernel, rfl, (fun h => by cases h), rfl⟩, zmem 493 (by decide +kernel) (by decide +kernel), rfl, rfl, rfl, rfl⟩
theorem meX8_letterOf : zE mX8_letterOf := ⟨rfl, rfl, rfl⟩
abbrev mX8_parse : zM := (RX8, cX8_parse, 4, some .int, false, 4, 0, 0, zN, none)
theorem mvX8_parse : zV2 yX8_parse mX8_parse 1 7 := ⟨⟨zmem 463 (by decide +kernel) (by decide +kernel), zmem 79 (by decide +kernel) (by decide +kernel), ⟨by decide +kernel, by decide +kernel⟩, by decide +kernel, by decide, by decide +kernel, rfl, (fun h => by cases h), rfl⟩, ⟨zmem 461 (by decide +kernel) (by decide +kernel), zmem 462 (by decide +kernel) (by decide +kernel), by decide, rfl⟩, rfl, rfl, rfl, rfl⟩
theorem meX8_parse : zE mX8_parse := ⟨rfl, rfl, rfl⟩
abbrev mX8_peek : zM := (RX8, cX8_peek, 1, some .int, false, 0, 0, 0, zN, none)
theorem mvX8_peek : zV2 yX8_peek mX8_peek 0 7 := ⟨⟨zmem 472 (by decide +kernel) (by decide +kernel), zmem 79 (by decide +kernel) (by decide +kernel), ⟨by decide +kernel, by decide +kernel⟩, by decide +kernel, by decide, by decide +kernel, rfl, (fun h => by cases h), rfl⟩, ⟨zmem 471 (by decide +kernel) (by decide +kernel), zmem 4 (by decide +kernel) (by decide +kernel), by decide, rfl⟩, rfl, rfl, rfl, rfl⟩
theorem meX8_peek : zE mX8_peek := ⟨rfl, rfl, rfl⟩
abbrev mX8_skipSpaces : zM := (RX8, cX8_skipSpaces, 1, none, false, 1, 0, 0, zN, none)
theorem mvX8_skipSpaces : zV2 yX8_skipSpaces mX8_skipSpaces 0 7 := ⟨⟨zmem 468 (by decide +kernel) (by decide +kernel), zmem 79 (by decide +kernel) (by decide +kernel), ⟨by decide +kernel, by decide +kernel⟩, by decide +kernel, by decide, by decide +kernel, rfl, (fun h => by cases h), rfl⟩, ⟨zmem 467 (by decide +kernel) (by decide +kernel), zmem 3 (by decide +kernel) (by decide +kernel), by decide, rfl⟩, rfl, rfl, rfl, rfl⟩
theorem meX8_skipSpaces : zE mX8_skipSpaces := ⟨rfl, rfl, rfl⟩
abbrev mX8_takeExponent : zM := (RX8, cX8_takeExponent, 2, some .int, false, 1, 0, 0, zN, none)
theorem mvX8_takeExponent : zV2 yX8_takeExponent mX8_takeExponent 0 7 := ⟨⟨zmem 498 (by decide +kernel) (by decide +kernel), zmem 79 (by decide +kernel) (by decide +kernel), ⟨by decide +kernel, by decide +kernel⟩, by decide +kernel, by decide, by decide +kernel, rfl, (fun h => by cases h), rfl⟩, ⟨zmem 497 (by decide +kernel) (by decide +kernel), zmem 9 (by decide +kernel) (by decide +kernel), by decide, rfl⟩, rfl, rfl, rfl, rfl⟩
theorem meX8_takeExponent : zE mX8_takeExponent := ⟨rfl, rfl, rfl⟩
abbrev mX8_takeFactors : zM := (RX8, cX8_takeFactors, 6, some .int, false, 2, 0, 0, zN, none)
theorem mvX8_takeFactors : zV2 yX8_takeFactors mX8_takeFactors 0 7 := ⟨⟨zmem 491 (by decide +kernel) (by decide +kernel), zmem 79 (by decide +kernel) (by decide +kernel), ⟨by decide +kernel, by decide +kernel⟩, by decide +kernel, by decide, by decide +kernel, rfl, (fun h => by cases h), rfl⟩, ⟨zmem 490 (by decide +kernel) (by decide +kernel), zmem 8 (by decide +kernel) (by decide +kernel), by decide, rfl⟩, rfl, rfl, rfl, rfl⟩
theorem meX8_takeFactors : zE mX8_takeFactors := ⟨rfl, rfl, rfl⟩
abbrev mX8_takeNumber : zM := (RX8, cX8_takeNumber, 4, some .int, false, 1, 0, 0, zN, none)
theorem mvX8_takeNumber : zV2 yX8_takeNumber mX8_takeNumber 0 7 := ⟨⟨zmem 484 (by decide +kernel) (by decide +kernel), zmem 79 (by decide +kernel) (by decide +kernel), ⟨by decide +kernel, by decide +kernel⟩, by decide +kernel, by decide, by decide +kernel, rfl, (fun h => by cases h), rfl⟩, ⟨zmem 483 (by decide +kernel) (by decide +kernel), zmem 7 (by decide +kernel) (by decide +kernel), by decide, rfl⟩, rfl, rfl, rfl, rfl⟩
theorem meX8_takeNumber : zE mX8_takeNumber := ⟨rfl, rfl, rfl⟩
abbrev mX8_takeSign : zM := (RX8, cX8_takeSign, 2, some .int, false, 1, 0, 0, zN, none)
theorem mvX8_takeSign : zV2 yX8_takeSign mX8_takeSign 0 7 := ⟨⟨zmem 476 (by decide +kernel) (by decide +kernel), zmem 79 (by decide +kernel) (by decide +kernel), ⟨by decide +kernel, by decide +kernel⟩, by decide +kernel, by decide, by decide +kernel, rfl, (fun h => by cases h), rfl⟩, ⟨zmem 475 (by decide +kernel) (by decide +kernel), zmem 5 (by decide +kernel) (by decide +kernel), by decide, rfl⟩, rfl, rfl, rfl, rfl⟩
theorem meX8_takeSign : zE mX8_takeSign := ⟨rfl, rfl, rfl⟩
abbrev mX8_takeTerm : zM := (RX8, cX8_takeTerm, 7, some .boolean, false, 3, 0, 0, zN, none)
theorem mvX8_takeTerm : zV2 yX8_takeTerm mX8_takeTerm 2 7 := ⟨⟨zmem 480 (by decide +kernel) (by decide +kernel), zmem 79 (by decide +kernel) (by decide +kernel), ⟨by decide +kernel, by decide +kernel⟩, by decide +kernel, by decide, by decide +kernel, rfl, (fun h => by cases h), rfl⟩, ⟨zmem 479 (by decide +kernel) (by decide +kernel), zmem 6 (by decide +kernel) (by decide +kernel), by decide, rfl⟩, rfl, rfl, rfl, rfl⟩
theorem meX8_takeTerm : zE mX8_takeTerm := ⟨rfl, rfl, rfl⟩
abbrev mX9_beginChange : zM := (RX9, cX9_beginChange, 1, none, false, 4, 0, 0, zN, none)
theorem mvX9_beginChange : zV2 yX9_beginChange mX9_beginChange 0 8 := ⟨⟨zmem 390 (by decide +kernel) (by decide +kernel), zmem 73 (by decide +kernel) (by decide +kernel), ⟨by decide +kernel, by decide +kernel⟩, by decide +kernel, by decide, by decide +kernel, rfl, (fun h => by cases h), rfl⟩, ⟨zmem 389 (by decide +kernel) (by decide +kernel), zmem 0 (by decide +kernel) (by decide +kernel), by decide, rfl⟩, rfl, rfl, rfl, rfl⟩
theorem meX9_beginChange : zE mX9_beginChange := ⟨rfl, rfl, rfl⟩
abbrev mX9_clearText : zM := (RX9, cX9_clearText, 2, some .int, false, 0, 0, 0, zN, none)
theorem mvX9_clearText : zV2 yX9_clearText mX9_clearText 0 8 := ⟨⟨zmem 452 (by decide +kernel) (by decide +kernel), zmem 73 (by decide +kernel) (by decide +kernel), ⟨by decide +kernel, by decide +kernel⟩, by decide +kernel, by decide, by decide +kernel, rfl, (fun h => by cases h), rfl⟩, ⟨zmem 450 (by decide +kernel) (by decide +kernel), zmem 451 (by decide +kernel) (by decide +kernel), by decide, rfl⟩, rfl, rfl, rfl, rfl⟩
theorem meX9_clearText : zE mX9_clearText := ⟨rfl, rfl, rfl⟩
abbrev mX9_coefficient : zM := (RX9, cX9_coefficient, 5, some .int, false, 2, 0, 0, zN, none)
theorem mvX9_coefficient : zV2 yX9_coefficient mX9_coefficient 4 8 := ⟨⟨zmem 528 (by decide +kernel) (by decide +kernel), zmem 73 (by decide +kernel) (by decide +kernel), ⟨by decide +kernel, by decide +kernel⟩, by decide +kernel, by decide, by decide +kernel, rfl, (fun h => by cases h), rfl⟩, ⟨zmem 526 (by decide +kernel) (by decide +kernel), zmem 527 (by decide +kernel) (by decide +kernel), by decide, rfl⟩, rfl, rfl, rfl, rfl⟩
theorem meX9_coefficient : zE mX9_coefficient := ⟨rfl, rfl, rfl⟩
abbrev mX9_combine : zM := (RX9, cX9_combine, 7, some .int, false, 5, 0, 0, zN, none)
theorem mvX9_combine : zV2 yX9_combine mX9_combine 6 8 := ⟨⟨zmem 568 (by decide +kernel) (by decide +kernel), zmem 73 (by decide +kernel) (by decide +kernel), ⟨by decide +kernel, by decide +kernel⟩, by decide +kernel, by decide, by decide +kernel, rfl, (fun h => by cases h), rfl⟩, ⟨zmem 566 (by decide +kernel) (by decide +kernel), zmem 567 (by decide +kernel) (by decide +kernel), by decide, rfl⟩, rfl, rfl, rfl, rfl⟩
theorem meX9_combine : zE mX9_combine := ⟨rfl, rfl, rfl⟩
abbrev mX9_commonRoot : zM := (RX9, cX9_commonRoot, 3, some .int, false, 3, 0, 0, zN, none)
theorem mvX9_commonRoot : zV2 yX9_commonRoot mX9_commonRoot 2 8 := ⟨⟨zmem 861 (by decide +kernel) (by decide +kernel), zmem 73 (by decide +kernel) (by decide +kernel), ⟨by decide +kernel, by decide +kernel⟩, by decide +kernel, by decide, by decide +kernel, rfl, (fun h => by cases h), rfl⟩, ⟨zmem 859 (by decide +kernel) (by decide +kernel), zmem 860 (by decide +kernel) (by decide +kernel), by decide, rfl⟩, rfl, rfl, rfl, rfl⟩
theorem meX9_commonRoot : zE mX9_commonRoot := ⟨rfl, rfl, rfl⟩
abbrev mX9_commonRoots : zM := (RX9, cX9_commonRoots, 2, some .int, false, 3, 0, 0, zN, none)
theorem mvX9_commonRoots : zV2 yX9_commonRoots mX9_commonRoots 1 8 := ⟨⟨zmem 855 (by decide +kernel) (by decide +kernel), zmem 73 (by decide +kernel) (by decide +kernel), ⟨by decide +kernel, by decide +kernel⟩, by decide +kernel, by decide, by decide +kernel, rfl, (fun h => by cases h), rfl⟩, ⟨zmem 853 (by decide +kernel) (by decide +kernel), zmem 854 (by decide +kernel) (by decide +kernel), by decide, rfl⟩, rfl, rfl, rfl, rfl⟩
theorem meX9_commonRoots : zE mX9_commonRoots := ⟨rfl, rfl, rfl⟩
abbrev mX9_condition : zM := (RX9, cX9_condition, 1, some .int, false, 5, 0, 0, zN, none)
theorem mvX9_condition : zV2 yX9_condition mX9_condition 0 8 := ⟨⟨zmem 766 (by decide +kernel) (by decide +kernel), zmem 73 (by decide +kernel) (by decide +kernel), ⟨by decide +kernel, by decide +kernel⟩, by decide +kernel, by decide, by decide +kernel, rfl, (fun h => by cases h), rfl⟩, ⟨zmem 764 (by decide +kernel) (by decide +kernel), zmem 765 (by decide +kernel) (by decide +kernel), by decide, rfl⟩, rfl, rfl, rfl, rfl⟩
theorem meX9_condition : zE mX9_condition := ⟨rfl, rfl, rfl⟩
abbrev mX9_confirmed : zM := (RX9, cX9_confirmed, 5, some .int, false, 5, 0, 0, zN, none)
theorem mvX9_confirmed : zV2 yX9_confirmed mX9_confirmed 1 8 := ⟨⟨zmem 888 (by decide +kernel) (by decide +kernel), zmem 73 (by decide +kernel) (by decide +kernel), ⟨by decide +kernel, by decide +kernel⟩, by decide +kernel, by decide, by decide +kernel, rfl, (fun h => by cases h), rfl⟩, ⟨zmem 886 (by decide +kernel) (by decide +kernel), zmem 887 (by decide +kernel) (by decide +kernel), by decide, rfl⟩, rfl, rfl, rfl, rfl⟩
theorem meX9_confirmed : zE mX9_confirmed := ⟨rfl, rfl, rfl⟩
abbrev mX9_count : zM := (RX9, cX9_count, 2, some .int, false, 4, 0, 0, zN, none)
theorem mvX9_count : zV2 yX9_count mX9_count 1 8 := ⟨⟨zmem 900 (by decide +kernel) (by decide +kernel), zmem 73 (by decide +kernel) (by decide +kernel), ⟨by decide +kernel, by decide +kernel⟩, by decide +kernel, by decide, by decide +kernel, rfl, (fun h => by cases h), rfl⟩, ⟨zmem 898 (by decide +kernel) (by decide +kernel), zmem 899 (by decide +kernel) (by decide +kernel), by decide, rfl⟩, rfl, rfl, rfl, rfl⟩
theorem meX9_count : zE mX9_count := ⟨rfl, rfl, rfl⟩
abbrev mX9_countPairs : zM := (RX9, cX9_countPairs, 3, some .int, false, 3, 0, 0, zN, none)
theorem mvX9_countPairs : zV2 yX9_countPairs mX9_countPairs 0 8 := ⟨⟨zmem 905 (by decide +kernel) (by decide +kernel), zmem 73 (by decide +kernel) (by decide +kernel), ⟨by decide +kernel, by decide +kernel⟩, by decide +kernel, by decide, by decide +kernel, rfl, (fun h => by cases h), rfl⟩, ⟨zmem 904 (by decide +kernel) (by decide +kernel), zmem 23 (by decide +kernel) (by decide +kernel), by decide, rfl⟩, rfl, rfl, rfl, rfl⟩
theorem meX9_countPairs : zE mX9_countPairs := ⟨rfl, rfl, rfl⟩
abbrev mX9_degree : zM := (RX9, cX9_degree, 3, some .int, false, 2, 0, 0, zN, none)
theorem mvX9_degree : zV2 yX9_degree mX9_degree 2 8 := ⟨⟨zmem 592 (by decide +kernel) (by decide +kernel), zmem 73 (by decide +kernel) (by decide +kernel), ⟨by decide +kernel, by decide +kernel⟩, by decide +kernel, by decide, by decide +kernel, rfl, (fun h => by cases h), rfl⟩, ⟨zmem 590 (by decide +kernel) (by decide +kernel), zmem 591 (by decide +kernel) (by decide +kernel), by decide, rfl⟩, rfl, rfl, rfl, rfl⟩
theorem meX9_degree : zE mX9_degree := ⟨rfl, rfl, rfl⟩
abbrev mX9_degreeAt : zM := (RX9, cX9_degreeAt, 4, some .int, false, 3, 0, 0, zN, none)
theorem mvX9_degreeAt : zV2 yX9_degreeAt mX9_degreeAt 3 8 := ⟨⟨zmem 601 (by decide +kernel) (by decide +kernel), zmem 73 (by decide +kernel) (by decide +kernel), ⟨by decide +kernel, by decide +kernel⟩, by decide +kernel, by decide, by decide +kernel, rfl, (fun h => by cases h), rfl⟩, ⟨zmem 599 (by decide +kernel) (by decide +kernel), zmem 600 (by decide +kernel) (by decide +kernel), by decide, rfl⟩, rfl, rfl, rfl, rfl⟩
theorem meX9_degreeAt : zE mX9_degreeAt := ⟨rfl, rfl, rfl⟩
abbrev mX9_degreeDrops : zM := (RX9, cX9_degreeDrops, 3, some .int, false, 4, 0, 0, zN, none)
theorem mvX9_degreeDrops : zV2 yX9_degreeDrops mX9_degreeDrops 0 8 := ⟨⟨zmem 609 (by decide +kernel) (by decide +kernel), zmem 73 (by decide +kernel) (by decide +kernel), ⟨by decide +kernel, by decide +kernel⟩, by decide +kernel, by decide, by decide +kernel, rfl, (fun h => by cases h), rfl⟩, ⟨zmem 607 (by decide +kernel) (by decide +kernel), zmem 608 (by decide +kernel) (by decide +kernel), by decide, rfl⟩, rfl, rfl, rfl, rfl⟩
theorem meX9_degreeDrops : zE mX9_degreeDrops := ⟨rfl, rfl, rfl⟩
abbrev mX9_digest : zM := (RX9, cX9_digest, 4, some .long, false, 6, 0, 0, zN, none)
theorem mvX9_digest : zV2 yX9_digest mX9_digest 0 8 := ⟨⟨zmem 909 (by decide +kernel) (by decide +kernel), zmem 73 (by decide +kernel) (by decide +kernel), ⟨by decide +kernel, by decide +kernel⟩, by decide +kernel, by decide, by decide +kernel, rfl, (fun h => by cases h), rfl⟩, ⟨zmem 907 (by decide +kernel) (by decide +kernel), zmem 908 (by decide +kernel) (by decide +kernel), by decide, rfl⟩, rfl, rfl, rfl, rfl⟩
theorem meX9_digest : zE mX9_digest := ⟨rfl, rfl, rfl⟩
abbrev mX9_draw : zM := (RX9, cX9_draw, 6, some .int, false, 5, 0, 0, zN, none)
theorem mvX9_draw : zV2 yX9_draw mX9_draw 5 8 := ⟨⟨zmem 532 (by decide +kernel) (by decide +kernel), zmem 73 (by decide +kernel) (by decide +kernel), ⟨by decide +kernel, by decide +kernel⟩, by decide +kernel, by decide, by decide +kernel, rfl, (fun h => by cases h), rfl⟩, ⟨zmem 530 (by decide +kernel) (by decide +kernel), zmem 531 (by decide +kernel) (by decide +kernel), by decide, rfl⟩, rfl, rfl, rfl, rfl⟩
theorem meX9_draw : zE mX9_draw := ⟨rfl, rfl, rfl⟩
abbrev mX9_eliminant : zM := (RX9, cX9_eliminant, 4, some .int, false, 5, 0, 0, zN, none)
theorem mvX9_eliminant : zV2 yX9_eliminant mX9_eliminant 2 8 := ⟨⟨zmem 835 (by decide +kernel) (by decide +kernel), zmem 73 (by decide +kernel) (by decide +kernel), ⟨by decide +kernel, by decide +kernel⟩, by decide +kernel, by decide, by decide +kernel, rfl, (fun h => by cases h), rfl⟩, ⟨zmem 833 (by decide +kernel) (by decide +kernel), zmem 834 (by decide +kernel) (by decide +kernel), by decide, rfl⟩, rfl, rfl, rfl, rfl⟩
theorem meX9_eliminant : zE mX9_eliminant := ⟨rfl, rfl, rfl⟩
abbrev mX9_eliminantAt : zM := (RX9, cX9_eliminantAt, 3, some .int, false, 5, 0, 0, zN, none)
theorem mvX9_eliminantAt : zV2 yX9_eliminantAt mX9_eliminantAt 2 8 := ⟨⟨zmem 839 (by decide +kernel) (by decide +kernel), zmem 73 (by decide +kernel) (by decide +kernel), ⟨by decide +kernel, by decide +kernel⟩, by decide +kernel, by decide, by decide +kernel, rfl, (fun h => by cases h), rfl⟩, ⟨zmem 837 (by decide +kernel) (by decide +kernel), zmem 838 (by decide +kernel) (by decide +kernel), by decide, rfl⟩, rfl, rfl, rfl, rfl⟩
theorem meX9_eliminantAt : zE mX9_eliminantAt := ⟨rfl, rfl, rfl⟩
abbrev mX9_eliminantDegree : zM := (RX9, cX9_eliminantDegree, 2, some .int, false, 5, 0, 0, zN, none)
theorem mvX9_eliminantDegree : zV2 yX9_eliminantDegree mX9_eliminantDegree 1 8 := ⟨⟨zmem 770 (by decide +kernel) (by decide +kernel), zmem 73 (by decide +kernel) (by decide +kernel), ⟨by decide +kernel, by decide +kernel⟩, by decide +kernel, by decide, by decide +kernel, rfl, (fun h => by cases h), rfl⟩, ⟨zmem 768 (by decide +kernel) (by decide +kernel), zmem 769 (by decide +kernel) (by decide +kernel), by decide, rfl⟩, rfl, rfl, rfl, rfl⟩
theorem meX9_eliminantDegree : zE mX9_eliminantDegree := ⟨rfl, rfl, rfl⟩
abbrev mX9_entry : zM := (RX9, cX9_entry, 4, some .int, false, 5, 0, 0, zN, none)
theorem mvX9_entry : zV2 yX9_entry mX9_entry 3 8 := ⟨⟨zmem 669 (by decide +kernel) (by decide +kernel), zmem 73 (by decide +kernel) (by decide +kernel), ⟨by decide +kernel, by decide +kernel⟩, by decide +kernel, by decide, by decide +kernel, rfl, (fun h => by cases h), rfl⟩, ⟨zmem 667 (by decide +kernel) (by decide +kernel), zmem 668 (by decide +kernel) (by decide +kernel), by decide, rfl⟩, rfl, rfl, rfl, rfl⟩
theorem meX9_entry : zE mX9_entry := ⟨rfl, rfl, rfl⟩
abbrev mX9_entryAt : zM := (RX9, cX9_entryAt, 4, some .int, false, 5, 0, 0, zN, none)
theorem mvX9_entryAt : zV2 yX9_entryAt mX9_entryAt 3 8 := ⟨⟨zmem 677 (by decide +kernel) (by decide +kernel), zmem 73 (by decide +kernel) (by decide +kernel), ⟨by decide +kernel, by decide +kernel⟩, by decide +kernel, by decide, by decide +kernel, rfl, (fun h => by cases h), rfl⟩, ⟨zmem 675 (by decide +kernel) (by decide +kernel), zmem 676 (by decide +kernel) (by decide +kernel), by decide, rfl⟩, rfl, rfl, rfl, rfl⟩
theorem meX9_entryAt : zE mX9_entryAt := ⟨rfl, rfl, rfl⟩
abbrev mX9_extraneous : zM := (RX9, cX9_extraneous, 1, some .int, false, 5, 0, 0, zN, none)
theorem mvX9_extraneous : zV2 yX9_extraneous mX9_extraneous 0 8 := ⟨⟨zmem 851 (by decide +kernel) (by decide +kernel), zmem 73 (by decide +kernel) (by decide +kernel), ⟨by decide +kernel, by decide +kernel⟩, by decide +kernel, by decide, by decide +kernel, rfl, (fun h => by cases h), rfl⟩, ⟨zmem 849 (by decide +kernel) (by decide +kernel), zmem 850 (by decide +kernel) (by decide +kernel), by decide, rfl⟩, rfl, rfl, rfl, rfl⟩
theorem meX9_extraneous : zE mX9_extraneous := ⟨rfl, rfl, rfl⟩
abbrev mX9_forgetResults : zM := (RX9, cX9_forgetResults, 1, none, false, 1, 0, 0, zN, none)
theorem mvX9_forgetResults : zV2 yX9_forgetResults mX9_forgetResults 0 8 := ⟨⟨zmem 417 (by decide +kernel) (by decide +kernel), zmem 73 (by decide +kernel) (by decide +kernel), ⟨by decide +kernel, by decide +kernel⟩, by decide +kernel, by decide, by decide +kernel, rfl, (fun h => by cases h), rfl⟩, ⟨zmem 416 (by decide +kernel) (by decide +kernel), zmem 2 (by decide +kernel) (by decide +kernel), by decide, rfl⟩, rfl, rfl, rfl, rfl⟩
theorem meX9_forgetResults : zE mX9_forgetResults := ⟨rfl, rfl, rfl⟩
abbrev mX9_form : zM := (RX9, cX9_form, 2, some (.array .int), false, 4, 0, 0, zN, none)
theorem mvX9_form : zV2 yX9_form mX9_form 1 8 := ⟨⟨zmem 774 (by decide +kernel) (by decide +kernel), zmem 73 (by decide +kernel) (by decide +kernel), ⟨by decide +kernel, by decide +kernel⟩, by decide +kernel, by decide, by decide +kernel, rfl, (fun h => by cases h), rfl⟩, ⟨zmem 773 (by decide +kernel) (by decide +kernel), zmem 19 (by decide +kernel) (by decide +kernel), by decide, rfl⟩, rfl, rfl, rfl, rfl⟩
theorem meX9_form : zE mX9_form := ⟨rfl, rfl, rfl⟩
abbrev mX9_isPrime : zM := (RX9, cX9_isPrime, 1, some .boolean, false, 0, 0, 0, zN, none)
theorem mvX9_isPrime : zS2 yX9_isPrime mX9_isPrime 1 := ⟨⟨zmem 386 (by decide +kernel) (by decide +kernel), zmem 73 (by decide +kernel) (by decide +kernel), ⟨by decide +kernel, by decide +kernel⟩, by decide +kernel, by decide, by decide +kernel, rfl, (fun h => by cases h), rfl⟩, zmem 385 (by decide +kernel) (by decide +kernel), rfl, rfl, rfl, rfl⟩
theorem meX9_isPrime : zE mX9_isPrime := ⟨rfl, rfl, rfl⟩
abbrev mX9_kernel : zM := (RX9, cX9_kernel, 2, some .int, false, 5, 0, 0, zN, none)
theorem mvX9_kernel : zV2 yX9_kernel mX9_kernel 1 8 := ⟨⟨zmem 876 (by decide +kernel) (by decide +kernel), zmem 73 (by decide +kernel) (by decide +kernel), ⟨by decide +kernel, by decide +kernel⟩, by decide +kernel, by decide, by decide +kernel, rfl, (fun h => by cases h), rfl⟩, ⟨zmem 874 (by decide +kernel) (by decide +kernel), zmem 875 (by decide +kernel) (by decide +kernel), by decide, rfl⟩, rfl, rfl, rfl, rfl⟩
theorem meX9_kernel : zE mX9_kernel := ⟨rfl, rfl, rfl⟩
abbrev mX9_multiplicity : zM := (RX9, cX9_multiplicity, 2, some .int, false, 5, 0, 0, zN, none)
theorem mvX9_multiplicity : zV2 yX9_multiplicity mX9_multiplicity 1 8 := ⟨⟨zmem 843 (by decide +kernel) (by decide +kernel), zmem 73 (by decide +kernel) (by decide +kernel), ⟨by decide +kernel, by decide +kernel⟩, by decide +kernel, by decide, by decide +kernel, rfl, (fun h => by cases h), rfl⟩, ⟨zmem 841 (by decide +kernel) (by decide +kernel), zmem 842 (by decide +kernel) (by decide +kernel), by decide, rfl⟩, rfl, rfl, rfl, rfl⟩
theorem meX9_multiplicity : zE mX9_multiplicity := ⟨rfl, rfl, rfl⟩
abbrev mX9_noMatrix : zM := (RX9, cX9_noMatrix, 1, some .boolean, false, 4, 0, 0, zN, none)
theorem mvX9_noMatrix : zV2 yX9_noMatrix mX9_noMatrix 0 8 := ⟨⟨zmem 623 (by decide +kernel) (by decide +kernel), zmem 73 (by decide +kernel) (by decide +kernel), ⟨by decide +kernel, by decide +kernel⟩, by decide +kernel, by decide, by decide +kernel, rfl, (fun h => by cases h), rfl⟩, ⟨zmem 622 (by decide +kernel) (by decide +kernel), zmem 10 (by decide +kernel) (by decide +kernel), by decide, rfl⟩, rfl, rfl, rfl, rfl⟩
theorem meX9_noMatrix : zE mX9_noMatrix := ⟨rfl, rfl, rfl⟩
abbrev mX9_noTerm : zM := (RX9, cX9_noTerm, 4, some .boolean, false, 1, 0, 0, zN, none)
theorem mvX9_noTerm : zS2 yX9_noTerm mX9_noTerm 4 := ⟨⟨zmem 513 (by decide +kernel) (by decide +kernel), zmem 73 (by decide +kernel) (by decide +kernel), ⟨by decide +kernel, by decide +kernel⟩, by decide +kernel, by decide, by decide +kernel, rfl, (fun h => by cases h), rfl⟩, zmem 512 (by decide +kernel) (by decide +kernel), rfl, rfl, rfl, rfl⟩
theorem meX9_noTerm : zE mX9_noTerm := ⟨rfl, rfl, rfl⟩
abbrev mX9_outside : zM := (RX9, cX9_outside, 2, some .boolean, false, 0, 0, 0, zN, none)
theorem mvX9_outside : zS2 yX9_outside mX9_outside 2 := ⟨⟨zmem 459 (by decide +kernel) (by decide +kernel), zmem 73 (by decide +kernel) (by decide +kernel), ⟨by decide +kernel, by decide +kernel⟩, by decide +kernel, by decide, by decide +kernel, rfl, (fun h => by cases h), rfl⟩, zmem 458 (by decide +kernel) (by decide +kernel), rfl, rfl, rfl, rfl⟩
theorem meX9_outside : zE mX9_outside := ⟨rfl, rfl, rfl⟩
abbrev mX9_pivotPoint : zM := (RX9, cX9_pivotPoint, 1, some .int, false, 5, 0, 0, zN, none)
theorem mvX9_pivotPoint : zV2 yX9_pivotPoint mX9_pivotPoint 0 8 := ⟨⟨zmem 754 (by decide +kernel) (by decide +kernel), zmem 73 (by decide +kernel) (by decide +kernel), ⟨by decide +kernel, by decide +kernel⟩, by decide +kernel, by decide, by decide +kernel, rfl, (fun h => by cases h), rfl⟩, ⟨zmem 752 (by decide +kernel) (by decide +kernel), zmem 753 (by decide +kernel) (by decide +kernel), by decide, rfl⟩, rfl, rfl, rfl, rfl⟩
theorem meX9_pivotPoint : zE mX9_pivotPoint := ⟨rfl, rfl, rfl⟩
abbrev mX9_place : zM := (RX9, cX9_place, 3, some .int, false, 0, 0, 0, zN, none)
theorem mvX9_place : zS2 yX9_place mX9_place 3 := ⟨⟨zmem 516 (by decide +kernel) (by decide +kernel), zmem 73 (by decide +kernel) (by decide +kernel), ⟨by decide +kernel, by decide +kernel⟩, by decide +kernel, by decide, by decide +kernel, rfl, (fun h => by cases h), rfl⟩, zmem 515 (by decide +kernel) (by decide +kernel), rfl, rfl, rfl, rfl⟩
theorem meX9_place : zE mX9_place := ⟨rfl, rfl, rfl⟩
abbrev mX9_plant : zM := (RX9, cX9_plant, 7, some .int, false, 5, 0, 0, zN, none)
theorem mvX9_plant : zV2 yX9_plant mX9_plant 3 8 := ⟨⟨zmem 547 (by decide +kernel) (by decide +kernel), zmem 73 (by decide +kernel) (by decide +kernel), ⟨by decide +kernel, by decide +kernel⟩, by decide +kernel, by decide, by decide +kernel, rfl, (fun h => by cases h), rfl⟩, ⟨zmem 545 (by decide +kernel) (by decide +kernel), zmem 546 (by decide +kernel) (by decide +kernel), by decide, rfl⟩, rfl, rfl, rfl, rfl⟩
theorem meX9_plant : zE mX9_plant := ⟨rfl, rfl, rfl⟩
abbrev mX9_rank : zM := (RX9, cX9_rank, 1, some .int, false, 5, 0, 0, zN, none)
theorem mvX9_rank : zV2 yX9_rank mX9_rank 0 8 := ⟨⟨zmem 728 (by decide +kernel) (by decide +kernel), zmem 73 (by decide +kernel) (by decide +kernel), ⟨by decide +kernel, by decide +kernel⟩, by decide +kernel, by decide, by decide +kernel, rfl, (fun h => by cases h), rfl⟩, ⟨zmem 726 (by decide +kernel) (by decide +kernel), zmem 727 (by decide +kernel) (by decide +kernel), by decide, rfl⟩, rfl, rfl, rfl, rfl⟩
theorem meX9_rank : zE mX9_rank := ⟨rfl, rfl, rfl⟩
abbrev mX9_rankAt : zM := (RX9, cX9_rankAt, 2, some .int, false, 5, 0, 0, zN, none)
theorem mvX9_rankAt : zV2 yX9_rankAt mX9_rankAt 1 8 := ⟨⟨zmem 685 (by decide +kernel) (by decide +kernel), zmem 73 (by decide +kernel) (by decide +kernel), ⟨by decide +kernel, by decide +kernel⟩, by decide +kernel, by decide, by decide +kernel, rfl, (fun h => by cases h), rfl⟩, ⟨zmem 683 (by decide +kernel) (by decide +kernel), zmem 684 (by decide +kernel) (by decide +kernel), by decide, rfl⟩, rfl, rfl, rfl, rfl⟩
theorem meX9_rankAt : zE mX9_rankAt := ⟨rfl, rfl, rfl⟩
abbrev mX9_rankDrops : zM := (RX9, cX9_rankDrops, 1, some .int, false, 5, 0, 0, zN, none)
theorem mvX9_rankDrops : zV2 yX9_rankDrops mX9_rankDrops 0 8 := ⟨⟨zmem 762 (by decide +kernel) (by decide +kernel), zmem 73 (by decide +kernel) (by decide +kernel), ⟨by decide +kernel, by decide +kernel⟩, by decide +kernel, by decide, by decide +kernel, rfl, (fun h => by cases h), rfl⟩, ⟨zmem 760 (by decide +kernel) (by decide +kernel), zmem 761 (by decide +kernel) (by decide +kernel), by decide, rfl⟩, rfl, rfl, rfl, rfl⟩
theorem meX9_rankDrops : zE mX9_rankDrops := ⟨rfl, rfl, rfl⟩
abbrev mX9_read : zM := (RX9, cX9_read, 3, some .int, false, 5, 0, 0, zN, none)
theorem mvX9_read : zV2 yX9_read mX9_read 1 8 := ⟨⟨zmem 456 (by decide +kernel) (by decide +kernel), zmem 73 (by decide +kernel) (by decide +kernel), ⟨by decide +kernel, by decide +kernel⟩, by decide +kernel, by decide, by decide +kernel, rfl, (fun h => by cases h), rfl⟩, ⟨zmem 454 (by decide +kernel) (by decide +kernel), zmem 455 (by decide +kernel) (by decide +kernel), by decide, rfl⟩, rfl, rfl, rfl, rfl⟩
theorem meX9_read : zE mX9_read := ⟨rfl, rfl, rfl⟩
abbrev mX9_recovered : zM := (RX9, cX9_recovered, 3, some .int, false, 5, 0, 0, zN, none)
theorem mvX9_recovered : zV2 yX9_recovered mX9_recovered 2 8 := ⟨⟨zmem 880 (by decide +kernel) (by decide +kernel), zmem 73 (by decide +kernel) (by decide +kernel), ⟨by decide +kernel, by decide +kernel⟩, by decide +kernel, by decide, by decide +kernel, rfl, (fun h => by cases h), rfl⟩, ⟨zmem 878 (by decide +kernel) (by decide +kernel), zmem 879 (by decide +kernel) (by decide +kernel), by decide, rfl⟩, rfl, rfl, rfl, rfl⟩
theorem meX9_recovered : zE mX9_recovered := ⟨rfl, rfl, rfl⟩
abbrev mX9_selected : zM := (RX9, cX9_selected, 2, some .int, false, 5, 0, 0, zN, none)
theorem mvX9_selected : zV2 yX9_selected mX9_selected 1 8 := ⟨⟨zmem 758 (by decide +kernel) (by decide +kernel), zmem 73 (by decide +kernel) (by decide +kernel), ⟨by decide +kernel, by decide +kernel⟩, by decide +kernel, by decide, by decide +kernel, rfl, (fun h => by cases h), rfl⟩, ⟨zmem 756 (by decide +kernel) (by decide +kernel), zmem 757 (by decide +kernel) (by decide +kernel), by decide, rfl⟩, rfl, rfl, rfl, rfl⟩
theorem meX9_selected : zE mX9_selected := ⟨rfl, rfl, rfl⟩
abbrev mX9_setCoefficient : zM := (RX9, cX9_setCoefficient, 7, some .int, false, 5, 0, 0, zN, none)
theorem mvX9_setCoefficient : zV2 yX9_setCoefficient mX9_setCoefficient 5 8 := ⟨⟨zmem 510 (by decide +kernel) (by decide +kernel), zmem 73 (by decide +kernel) (by decide +kernel), ⟨by decide +kernel, by decide +kernel⟩, by decide +kernel, by decide, by decide +kernel, rfl, (fun h => by cases h), rfl⟩, ⟨zmem 508 (by decide +kernel) (by decide +kernel), zmem 509 (by decide +kernel) (by decide +kernel), by decide, rfl⟩, rfl, rfl, rfl, rfl⟩
theorem meX9_setCoefficient : zE mX9_setCoefficient := ⟨rfl, rfl, rfl⟩
abbrev mX9_setPrime : zM := (RX9, cX9_setPrime, 3, some .int, false, 5, 0, 0, zN, none)
theorem mvX9_setPrime : zV2 yX9_setPrime mX9_setPrime 1 8 := ⟨⟨zmem 383 (by decide +kernel) (by decide +kernel), zmem 73 (by decide +kernel) (by decide +kernel), ⟨by decide +kernel, by decide +kernel⟩, by decide +kernel, by decide, by decide +kernel, rfl, (fun h => by cases h), rfl⟩, ⟨zmem 381 (by decide +kernel) (by decide +kernel), zmem 382 (by decide +kernel) (by decide +kernel), by decide, rfl⟩, rfl, rfl, rfl, rfl⟩
theorem meX9_setPrime : zE mX9_setPrime := ⟨rfl, rfl, rfl⟩
abbrev mX9_shift : zM := (RX9, cX9_shift, 2, some .int, false, 5, 0, 0, zN, none)
theorem mvX9_shift : zV2 yX9_shift mX9_shift 1 8 := ⟨⟨zmem 580 (by decide +kernel) (by decide +kernel), zmem 73 (by decide +kernel) (by decide +kernel), ⟨by decide +kernel, by decide +kernel⟩, by decide +kernel, by decide, by decide +kernel, rfl, (fun h => by cases h), rfl⟩, ⟨zmem 578 (by decide +kernel) (by decide +kernel), zmem 579 (by decide +kernel) (by decide +kernel), by decide, rfl⟩, rfl, rfl, rfl, rfl⟩
theorem meX9_shift : zE mX9_shift := ⟨rfl, rfl, rfl⟩
abbrev mX9_size : zM := (RX9, cX9_size, 1, some .int, false, 5, 0, 0, zN, none)
theorem mvX9_size : zV2 yX9_size mX9_size 0 8 := ⟨⟨zmem 619 (by decide +kernel) (by decide +kernel), zmem 73 (by decide +kernel) (by decide +kernel), ⟨by decide +kernel, by decide +kernel⟩, by decide +kernel, by decide, by decide +kernel, rfl, (fun h => by cases h), rfl⟩, ⟨zmem 617 (by decide +kernel) (by decide +kernel), zmem 618 (by decide +kernel) (by decide +kernel), by decide, rfl⟩, rfl, rfl, rfl, rfl⟩
theorem meX9_size : zE mX9_size := ⟨rfl, rfl, rfl⟩
abbrev mX9_solvable : zM := (RX9, cX9_solvable, 3, some .int, false, 3, 0, 0, zN, none)
theorem mvX9_solvable : zV2 yX9_solvable mX9_solvable 0 8 := ⟨⟨zmem 872 (by decide +kernel) (by decide +kernel), zmem 73 (by decide +kernel) (by decide +kernel), ⟨by decide +kernel, by decide +kernel⟩, by decide +kernel, by decide, by decide +kernel, rfl, (fun h => by cases h), rfl⟩, ⟨zmem 870 (by decide +kernel) (by decide +kernel), zmem 871 (by decide +kernel) (by decide +kernel), by decide, rfl⟩, rfl, rfl, rfl, rfl⟩
theorem meX9_solvable : zE mX9_solvable := ⟨rfl, rfl, rfl⟩
abbrev mX9_swap : zM := (RX9, cX9_swap, 3, some .int, false, 5, 0, 0, zN, none)
theorem mvX9_swap : zV2 yX9_swap mX9_swap 2 8 := ⟨⟨zmem 560 (by decide +kernel) (by decide +kernel), zmem 73 (by decide +kernel) (by decide +kernel), ⟨by decide +kernel, by decide +kernel⟩, by decide +kernel, by decide, by decide +kernel, rfl, (fun h => by cases h), rfl⟩, ⟨zmem 558 (by decide +kernel) (by decide +kernel), zmem 559 (by decide +kernel) (by decide +kernel), by decide, rfl⟩, rfl, rfl, rfl, rfl⟩
theorem meX9_swap : zE mX9_swap := ⟨rfl, rfl, rfl⟩
abbrev mX9_type : zM := (RX9, cX9_type, 2, some .int, false, 1, 0, 0, zN, none)
theorem mvX9_type : zV2 yX9_type mX9_type 1 8 := ⟨⟨zmem 444 (by decide +kernel) (by decide +kernel), zmem 73 (by decide +kernel) (by decide +kernel), ⟨by decide +kernel, by decide +kernel⟩, by decide +kernel, by decide, by decide +kernel, rfl, (fun h => by cases h), rfl⟩, ⟨zmem 442 (by decide +kernel) (by decide +kernel), zmem 443 (by decide +kernel) (by decide +kernel), by decide, rfl⟩, rfl, rfl, rfl, rfl⟩
theorem meX9_type : zE mX9_type := ⟨rfl, rfl, rfl⟩
abbrev mX9_undo : zM := (RX9, cX9_undo, 1, some .int, false, 4, 0, 0, zN, none)
theorem mvX9_undo : zV2 yX9_undo mX9_undo 0 8 := ⟨⟨zmem 892 (by decide +kernel) (by decide +kernel), zmem 73 (by decide +kernel) (by decide +kernel), ⟨by decide +kernel, by decide +kernel⟩, by decide +kernel, by decide, by decide +kernel, rfl, (fun h => by cases h), rfl⟩, ⟨zmem 890 (by decide +kernel) (by decide +kernel), zmem 891 (by decide +kernel) (by decide +kernel), by decide, rfl⟩, rfl, rfl, rfl, rfl⟩
theorem meX9_undo : zE mX9_undo := ⟨rfl, rfl, rfl⟩
abbrev mX9_value : zM := (RX9, cX9_value, 5, some .int, false, 3, 0, 0, zN, none)
theorem mvX9_value : zV2 yX9_value mX9_value 4 8 := ⟨⟨zmem 588 (by decide +kernel) (by decide +kernel), zmem 73 (by decide +kernel) (by decide +kernel), ⟨by decide +kernel, by decide +kernel⟩, by decide +kernel, by decide, by decide +kernel, rfl, (fun h => by cases h), rfl⟩, ⟨zmem 586 (by decide +kernel) (by decide +kernel), zmem 587 (by decide +kernel) (by decide +kernel), by decide, rfl⟩, rfl, rfl, rfl, rfl⟩
theorem meX9_value : zE mX9_value := ⟨rfl, rfl, rfl⟩
theorem lk_RX9_9 : Cond.methodLink RX9 9 yX4_init ∈ zbig := zmem 98 (by decide +kernel) (by decide +kernel)
theorem lk_RX9_12 : Cond.methodLink RX9 12 yX0_init ∈ zbig := zmem 119 (by decide +kernel) (by decide +kernel)
theorem lk_RX9_17 : Cond.methodLink RX9 17 yX5_init ∈ zbig := zmem 155 (by decide +kernel) (by decide +kernel)
theorem lk_RX9_28 : Cond.methodLink RX9 28 yX2_init ∈ zbig := zmem 243 (by decide +kernel) (by decide +kernel)
theorem lk_RX9_35 : Cond.methodLink RX9 35 yX8_init ∈ zbig := zmem 263 (by decide +kernel) (by decide +kernel)
theorem lk_RX9_42 : Cond.methodLink RX9 42 yX6_init ∈ zbig := zmem 284 (by decide +kernel) (by decide +kernel)
theorem lk_RX9_57 : Cond.methodLink RX9 57 yX1_init ∈ zbig := zmem 307 (by decide +kernel) (by decide +kernel)
theorem lk_RX9_64 : Cond.methodLink RX9 64 yX9_isPrime ∈ zbig := zmem 384 (by decide +kernel) (by decide +kernel)
theorem lk_RX9_72 : Cond.methodLink RX9 72 yX9_beginChange ∈ zbig := zmem 387 (by decide +kernel) (by decide +kernel)
theorem lk_RX9_75 : Cond.methodLink RX9 75 yX4_erase ∈ zbig := zmem 434 (by decide +kernel) (by decide +kernel)
theorem lk_RX9_78 : Cond.methodLink RX9 78 yX8_append ∈ zbig := zmem 445 (by decide +kernel) (by decide +kernel)
theorem lk_RX9_84 : Cond.methodLink RX9 84 yX9_outside ∈ zbig := zmem 457 (by decide +kernel) (by decide +kernel)
theorem lk_RX9_88 : Cond.methodLink RX9 88 yX8_parse ∈ zbig := zmem 460 (by decide +kernel) (by decide +kernel)
theorem lk_RX9_96 : Cond.methodLink RX9 96 yX4_replace ∈ zbig := zmem 502 (by decide +kernel) (by decide +kernel)
theorem lk_RX9_100 : Cond.methodLink RX9 100 yX4_termCount ∈ zbig := zmem 503 (by decide +kernel) (by decide +kernel)
theorem lk_RX9_103 : Cond.methodLink RX9 103 yX9_noTerm ∈ zbig := zmem 511 (by decide +kernel) (by decide +kernel)
theorem lk_RX9_107 : Cond.methodLink RX9 107 yX9_place ∈ zbig := zmem 514 (by decide +kernel) (by decide +kernel)
theorem lk_RX9_111 : Cond.methodLink RX9 111 yX4_term ∈ zbig := zmem 517 (by decide +kernel) (by decide +kernel)
theorem lk_RX9_115 : Cond.methodLink RX9 115 yX4_setTerm ∈ zbig := zmem 521 (by decide +kernel) (by decide +kernel)
theorem lk_RX9_119 : Cond.methodLink RX9 119 yX4_scatter ∈ zbig := zmem 533 (by decide +kernel) (by decide +kernel)
theorem lk_RX9_123 : Cond.methodLink RX9 123 yX4_termCountOfAll ∈ zbig := zmem 539 (by decide +kernel) (by decide +kernel)
theorem lk_RX9_127 : Cond.methodLink RX9 127 yX4_valueOf ∈ zbig := zmem 548 (by decide +kernel) (by decide +kernel)
theorem lk_RX9_131 : Cond.methodLink RX9 131 yX3_residue ∈ zbig := zmem 556 (by decide +kernel) (by decide +kernel)
theorem lk_RX9_136 : Cond.methodLink RX9 136 yX4_exchange ∈ zbig := zmem 561 (by decide +kernel) (by decide +kernel)
theorem lk_RX9_139 : Cond.methodLink RX9 139 yX4_leavesRange ∈ zbig := zmem 569 (by decide +kernel) (by decide +kernel)
theorem lk_RX9_142 : Cond.methodLink RX9 142 yX4_addMultiple ∈ zbig := zmem 573 (by decide +kernel) (by decide +kernel)
theorem lk_RX9_146 : Cond.methodLink RX9 146 yX4_substitute ∈ zbig := zmem 581 (by decide +kernel) (by decide +kernel)
theorem lk_RX9_150 : Cond.methodLink RX9 150 yX4_degreeIn ∈ zbig := zmem 593 (by decide +kernel) (by decide +kernel)
theorem lk_RX9_153 : Cond.methodLink RX9 153 yX4_degreeInAt ∈ zbig := zmem 602 (by decide +kernel) (by decide +kernel)
theorem lk_RX9_156 : Cond.methodLink RX9 156 yX4_dropsAt ∈ zbig := zmem 610 (by decide +kernel) (by decide +kernel)
theorem lk_RX9_159 : Cond.methodLink RX9 159 yX9_noMatrix ∈ zbig := zmem 620 (by decide +kernel) (by decide +kernel)
theorem lk_RX9_166 : Cond.methodLink RX9 166 yX0_termAt ∈ zbig := zmem 670 (by decide +kernel) (by decide +kernel)
theorem lk_RX9_169 : Cond.methodLink RX9 169 yX0_at ∈ zbig := zmem 678 (by decide +kernel) (by decide +kernel)
theorem lk_RX9_173 : Cond.methodLink RX9 173 yX3_horner ∈ zbig := zmem 679 (by decide +kernel) (by decide +kernel)
theorem lk_RX9_177 : Cond.methodLink RX9 177 yX5_examine ∈ zbig := zmem 686 (by decide +kernel) (by decide +kernel)
theorem lk_RX9_180 : Cond.methodLink RX9 180 yX5_rankOf ∈ zbig := zmem 721 (by decide +kernel) (by decide +kernel)
theorem lk_RX9_183 : Cond.methodLink RX9 183 yX5_survey ∈ zbig := zmem 729 (by decide +kernel) (by decide +kernel)
theorem lk_RX9_204 : Cond.methodLink RX9 204 yX9_form ∈ zbig := zmem 771 (by decide +kernel) (by decide +kernel)
theorem lk_RX9_208 : Cond.methodLink RX9 208 yX3_topOf ∈ zbig := zmem 831 (by decide +kernel) (by decide +kernel)
theorem lk_RX9_212 : Cond.methodLink RX9 212 yX1_multiplicityOf ∈ zbig := zmem 844 (by decide +kernel) (by decide +kernel)
theorem lk_RX9_218 : Cond.methodLink RX9 218 yX6_search ∈ zbig := zmem 856 (by decide +kernel) (by decide +kernel)
theorem lk_RX9_221 : Cond.methodLink RX9 221 yX6_countAt ∈ zbig := zmem 857 (by decide +kernel) (by decide +kernel)
theorem lk_RX9_224 : Cond.methodLink RX9 224 yX6_rootAt ∈ zbig := zmem 862 (by decide +kernel) (by decide +kernel)
theorem lk_RX9_227 : Cond.methodLink RX9 227 yX5_coordinate ∈ zbig := zmem 881 (by decide +kernel) (by decide +kernel)
theorem lk_RX9_234 : Cond.methodLink RX9 234 yX2_restore ∈ zbig := zmem 893 (by decide +kernel) (by decide +kernel)
theorem lk_RX9_237 : Cond.methodLink RX9 237 yX9_forgetResults ∈ zbig := zmem 414 (by decide +kernel) (by decide +kernel)
theorem lk_RX9_240 : Cond.methodLink RX9 240 yX4_greatestDegree ∈ zbig := zmem 901 (by decide +kernel) (by decide +kernel)
theorem lk_RX9_243 : Cond.methodLink RX9 243 yX9_countPairs ∈ zbig := zmem 902 (by decide +kernel) (by decide +kernel)
theorem lk_RX9_250 : Cond.methodLink RX9 250 yX9_count ∈ zbig := zmem 912 (by decide +kernel) (by decide +kernel)
theorem lk_RX9_253 : Cond.methodLink RX9 253 yX9_degreeDrops ∈ zbig := zmem 913 (by decide +kernel) (by decide +kernel)
theorem lk_RX9_256 : Cond.methodLink RX9 256 yX9_solvable ∈ zbig := zmem 914 (by decide +kernel) (by decide +kernel)
theorem lk_RX9_259 : Cond.methodLink RX9 259 yX9_size ∈ zbig := zmem 915 (by decide +kernel) (by decide +kernel)
theorem lk_RX9_262 : Cond.methodLink RX9 262 yX9_rank ∈ zbig := zmem 916 (by decide +kernel) (by decide +kernel)
theorem lk_RX9_265 : Cond.methodLink RX9 265 yX9_pivotPoint ∈ zbig := zmem 917 (by decide +kernel) (by decide +kernel)
theorem lk_RX9_268 : Cond.methodLink RX9 268 yX9_selected ∈ zbig := zmem 918 (by decide +kernel) (by decide +kernel)
theorem lk_RX9_272 : Cond.methodLink RX9 272 yX9_rankDrops ∈ zbig := zmem 919 (by decide +kernel) (by decide +kernel)
theorem lk_RX9_275 : Cond.methodLink RX9 275 yX9_condition ∈ zbig := zmem 920 (by decide +kernel) (by decide +kernel)
theorem lk_RX9_278 : Cond.methodLink RX9 278 yX9_extraneous ∈ zbig := zmem 921 (by decide +kernel) (by decide +kernel)
theorem lk_RX9_281 : Cond.methodLink RX9 281 yX9_eliminantDegree ∈ zbig := zmem 922 (by decide +kernel) (by decide +kernel)
theorem lk_RX9_284 : Cond.methodLink RX9 284 yX9_eliminant ∈ zbig := zmem 923 (by decide +kernel) (by decide +kernel)
theorem lk_RX9_288 : Cond.methodLink RX9 288 yX9_confirmed ∈ zbig := zmem 924 (by decide +kernel) (by decide +kernel)
theorem lk_RX9_291 : Cond.methodLink RX9 291 yX2_remember ∈ zbig := zmem 391 (by decide +kernel) (by decide +kernel)
theorem lk_RX9_294 : Cond.methodLink RX9 294 yX6_forget ∈ zbig := zmem 418 (by decide +kernel) (by decide +kernel)
theorem lk_RX9_297 : Cond.methodLink RX9 297 yX0_forget ∈ zbig := zmem 422 (by decide +kernel) (by decide +kernel)
theorem lk_RX9_298 : Cond.methodLink RX9 298 yX5_forget ∈ zbig := zmem 426 (by decide +kernel) (by decide +kernel)
theorem lk_RX9_299 : Cond.methodLink RX9 299 yX1_forget ∈ zbig := zmem 430 (by decide +kernel) (by decide +kernel)
theorem lk_RX9_304 : Cond.methodLink RX9 304 yX0_measure ∈ zbig := zmem 624 (by decide +kernel) (by decide +kernel)
theorem lk_RX9_307 : Cond.methodLink RX9 307 yX0_fill ∈ zbig := zmem 632 (by decide +kernel) (by decide +kernel)
theorem lk_RX9_310 : Cond.methodLink RX9 310 yX1_compute ∈ zbig := zmem 775 (by decide +kernel) (by decide +kernel)
theorem lk_RX9_316 : Cond.methodLink RX9 316 yX1_reduce ∈ zbig := zmem 793 (by decide +kernel) (by decide +kernel)
theorem lk_RX0_31 : Cond.methodLink RX0 31 yX0_at ∈ zbig := zmem 657 (by decide +kernel) (by decide +kernel)
theorem lk_RX0_35 : Cond.methodLink RX0 35 yX4_greatestDegree ∈ zbig := zmem 628 (by decide +kernel) (by decide +kernel)
theorem lk_RX0_51 : Cond.methodLink RX0 51 yJ7_fill_53178 ∈ zbig := zmem 636 (by decide +kernel) (by decide +kernel)
theorem lk_RX0_57 : Cond.methodLink RX0 57 yX0_multiplyAcross ∈ zbig := zmem 637 (by decide +kernel) (by decide +kernel)
theorem lk_RX0_61 : Cond.methodLink RX0 61 yX0_closeBracket ∈ zbig := zmem 649 (by decide +kernel) (by decide +kernel)
theorem lk_RX0_65 : Cond.methodLink RX0 65 yX0_addBracket ∈ zbig := zmem 653 (by decide +kernel) (by decide +kernel)
theorem lk_RX0_69 : Cond.methodLink RX0 69 yX4_termsOf ∈ zbig := zmem 641 (by decide +kernel) (by decide +kernel)
theorem lk_RX0_73 : Cond.methodLink RX0 73 yX0_addCrossTerms ∈ zbig := zmem 642 (by decide +kernel) (by decide +kernel)
theorem lk_RX0_80 : Cond.methodLink RX0 80 yX3_reduceAll ∈ zbig := zmem 645 (by decide +kernel) (by decide +kernel)
theorem lk_RX0_85 : Cond.methodLink RX0 85 yX0_addTo ∈ zbig := zmem 661 (by decide +kernel) (by decide +kernel)
theorem lk_RX0_89 : Cond.methodLink RX0 89 yX3_residue ∈ zbig := zmem 665 (by decide +kernel) (by decide +kernel)
theorem lk_RX0_93 : Cond.methodLink RX0 93 yX3_horner ∈ zbig := zmem 699 (by decide +kernel) (by decide +kernel)
theorem lk_RX1_44 : Cond.methodLink RX1 44 yJ6_bitCount_0f7a4 ∈ zbig := zmem 312 (by decide +kernel) (by decide +kernel)
theorem lk_RX1_63 : Cond.methodLink RX1 63 yX1_listMembers ∈ zbig := zmem 779 (by decide +kernel) (by decide +kernel)
theorem lk_RX1_70 : Cond.methodLink RX1 70 yJ9_min_7cf53 ∈ zbig := zmem 782 (by decide +kernel) (by decide +kernel)
theorem lk_RX1_76 : Cond.methodLink RX1 76 yJ7_fill_53178 ∈ zbig := zmem 783 (by decide +kernel) (by decide +kernel)
theorem lk_RX1_82 : Cond.methodLink RX1 82 yX1_expand ∈ zbig := zmem 784 (by decide +kernel) (by decide +kernel)
theorem lk_RX1_86 : Cond.methodLink RX1 86 yX0_at ∈ zbig := zmem 788 (by decide +kernel) (by decide +kernel)
theorem lk_RX1_92 : Cond.methodLink RX1 92 yX3_addProduct ∈ zbig := zmem 789 (by decide +kernel) (by decide +kernel)
theorem lk_RX1_103 : Cond.methodLink RX1 103 yX3_reduceAll ∈ zbig := zmem 792 (by decide +kernel) (by decide +kernel)
theorem lk_RX1_112 : Cond.methodLink RX1 112 yX3_strip ∈ zbig := zmem 815 (by decide +kernel) (by decide +kernel)
theorem lk_RX1_119 : Cond.methodLink RX1 119 yX3_horner ∈ zbig := zmem 798 (by decide +kernel) (by decide +kernel)
theorem lk_RX1_122 : Cond.methodLink RX1 122 yX6_search ∈ zbig := zmem 799 (by decide +kernel) (by decide +kernel)
theorem lk_RX1_127 : Cond.methodLink RX1 127 yX6_countAt ∈ zbig := zmem 810 (by decide +kernel) (by decide +kernel)
theorem lk_RX1_130 : Cond.methodLink RX1 130 yX1_divideByLeading ∈ zbig := zmem 822 (by decide +kernel) (by decide +kernel)
theorem lk_RX1_133 : Cond.methodLink RX1 133 yX3_topOf ∈ zbig := zmem 826 (by decide +kernel) (by decide +kernel)
theorem lk_RX1_137 : Cond.methodLink RX1 137 yX3_inverse ∈ zbig := zmem 829 (by decide +kernel) (by decide +kernel)
theorem lk_RX1_140 : Cond.methodLink RX1 140 yX3_residue ∈ zbig := zmem 830 (by decide +kernel) (by decide +kernel)
theorem lk_RX2_17 : Cond.methodLink RX2 17 yX4_init ∈ zbig := zmem 249 (by decide +kernel) (by decide +kernel)
theorem lk_RX2_22 : Cond.methodLink RX2 22 yX2_stateIn ∈ zbig := zmem 395 (by decide +kernel) (by decide +kernel)
theorem lk_RX2_26 : Cond.methodLink RX2 26 yX4_copyFrom ∈ zbig := zmem 399 (by decide +kernel) (by decide +kernel)
theorem lk_RX2_33 : Cond.methodLink RX2 33 yJ9_min_7cf53 ∈ zbig := zmem 411 (by decide +kernel) (by decide +kernel)
theorem lk_RX3_7 : Cond.methodLink RX3 7 yX3_residue ∈ zbig := zmem 648 (by decide +kernel) (by decide +kernel)
theorem lk_RX3_13 : Cond.methodLink RX3 13 yX3_horner ∈ zbig := zmem 818 (by decide +kernel) (by decide +kernel)
theorem lk_RX3_17 : Cond.methodLink RX3 17 yX3_divideByRoot ∈ zbig := zmem 819 (by decide +kernel) (by decide +kernel)
theorem lk_RX4_20 : Cond.methodLink RX4 20 yX4_termsOf ∈ zbig := zmem 403 (by decide +kernel) (by decide +kernel)
theorem lk_RX4_24 : Cond.methodLink RX4 24 yJ7_fill_53178 ∈ zbig := zmem 438 (by decide +kernel) (by decide +kernel)
theorem lk_RX4_30 : Cond.methodLink RX4 30 yX4_replace ∈ zbig := zmem 407 (by decide +kernel) (by decide +kernel)
theorem lk_RX4_34 : Cond.methodLink RX4 34 yX4_termCount ∈ zbig := zmem 543 (by decide +kernel) (by decide +kernel)
theorem lk_RX4_39 : Cond.methodLink RX4 39 yX3_residue ∈ zbig := zmem 538 (by decide +kernel) (by decide +kernel)
theorem lk_RX4_45 : Cond.methodLink RX4 45 yX4_factorAt ∈ zbig := zmem 552 (by decide +kernel) (by decide +kernel)
theorem lk_RX4_49 : Cond.methodLink RX4 49 yJ9_max_7cf53 ∈ zbig := zmem 597 (by decide +kernel) (by decide +kernel)
theorem lk_RX4_54 : Cond.methodLink RX4 54 yX4_degreeIn ∈ zbig := zmem 615 (by decide +kernel) (by decide +kernel)
theorem lk_RX4_57 : Cond.methodLink RX4 57 yX4_degreeInAt ∈ zbig := zmem 614 (by decide +kernel) (by decide +kernel)
theorem lk_RX5_11 : Cond.methodLink RX5 11 yX7_init ∈ zbig := zmem 161 (by decide +kernel) (by decide +kernel)
theorem lk_RX5_52 : Cond.methodLink RX5 52 yX7_begin ∈ zbig := zmem 690 (by decide +kernel) (by decide +kernel)
theorem lk_RX5_64 : Cond.methodLink RX5 64 yX0_writeRow ∈ zbig := zmem 695 (by decide +kernel) (by decide +kernel)
theorem lk_RX5_68 : Cond.methodLink RX5 68 yX7_take ∈ zbig := zmem 700 (by decide +kernel) (by decide +kernel)
theorem lk_RX5_78 : Cond.methodLink RX5 78 yX7_ratio ∈ zbig := zmem 714 (by decide +kernel) (by decide +kernel)
theorem lk_RX5_91 : Cond.methodLink RX5 91 yX5_examine ∈ zbig := zmem 733 (by decide +kernel) (by decide +kernel)
theorem lk_RX5_94 : Cond.methodLink RX5 94 yJ9_max_7cf53 ∈ zbig := zmem 734 (by decide +kernel) (by decide +kernel)
theorem lk_RX5_100 : Cond.methodLink RX5 100 yX5_findDrops ∈ zbig := zmem 735 (by decide +kernel) (by decide +kernel)
theorem lk_RX5_103 : Cond.methodLink RX5 103 yX5_selectRows ∈ zbig := zmem 739 (by decide +kernel) (by decide +kernel)
theorem lk_RX5_106 : Cond.methodLink RX5 106 yX5_selectColumns ∈ zbig := zmem 743 (by decide +kernel) (by decide +kernel)
theorem lk_RX5_118 : Cond.methodLink RX5 118 yX0_writeColumn ∈ zbig := zmem 747 (by decide +kernel) (by decide +kernel)
theorem lk_RX6_30 : Cond.methodLink RX6 30 yX4_factorAt ∈ zbig := zmem 803 (by decide +kernel) (by decide +kernel)
theorem lk_RX6_39 : Cond.methodLink RX6 39 yX6_ordinatesOf ∈ zbig := zmem 804 (by decide +kernel) (by decide +kernel)
theorem lk_RX6_43 : Cond.methodLink RX6 43 yX3_residue ∈ zbig := zmem 808 (by decide +kernel) (by decide +kernel)
theorem lk_RX6_49 : Cond.methodLink RX6 49 yX3_horner ∈ zbig := zmem 809 (by decide +kernel) (by decide +kernel)
theorem lk_RX6_53 : Cond.methodLink RX6 53 yJ6_bitCount_0f7a4 ∈ zbig := zmem 814 (by decide +kernel) (by decide +kernel)
theorem lk_RX6_58 : Cond.methodLink RX6 58 yX6_memberOf ∈ zbig := zmem 866 (by decide +kernel) (by decide +kernel)
theorem lk_RX7_33 : Cond.methodLink RX7 33 yJ7_fill_53178 ∈ zbig := zmem 694 (by decide +kernel) (by decide +kernel)
theorem lk_RX7_39 : Cond.methodLink RX7 39 yJ9_max_7cf53 ∈ zbig := zmem 704 (by decide +kernel) (by decide +kernel)
theorem lk_RX7_45 : Cond.methodLink RX7 45 yJ9_min_7cf53 ∈ zbig := zmem 705 (by decide +kernel) (by decide +kernel)
theorem lk_RX7_48 : Cond.methodLink RX7 48 yX3_residue ∈ zbig := zmem 706 (by decide +kernel) (by decide +kernel)
theorem lk_RX7_53 : Cond.methodLink RX7 53 yX7_leadOf ∈ zbig := zmem 707 (by decide +kernel) (by decide +kernel)
theorem lk_RX7_63 : Cond.methodLink RX7 63 yX3_inverse ∈ zbig := zmem 718 (by decide +kernel) (by decide +kernel)
theorem lk_RX8_25 : Cond.methodLink RX8 25 yJ7_fill_53178 ∈ zbig := zmem 464 (by decide +kernel) (by decide +kernel)
theorem lk_RX8_31 : Cond.methodLink RX8 31 yX8_skipSpaces ∈ zbig := zmem 465 (by decide +kernel) (by decide +kernel)
theorem lk_RX8_34 : Cond.methodLink RX8 34 yX8_takeSign ∈ zbig := zmem 473 (by decide +kernel) (by decide +kernel)
theorem lk_RX8_38 : Cond.methodLink RX8 38 yX8_takeTerm ∈ zbig := zmem 477 (by decide +kernel) (by decide +kernel)
theorem lk_RX8_42 : Cond.methodLink RX8 42 yX8_peek ∈ zbig := zmem 469 (by decide +kernel) (by decide +kernel)
theorem lk_RX8_45 : Cond.methodLink RX8 45 yX8_takeNumber ∈ zbig := zmem 481 (by decide +kernel) (by decide +kernel)
theorem lk_RX8_48 : Cond.methodLink RX8 48 yX8_takeFactors ∈ zbig := zmem 488 (by decide +kernel) (by decide +kernel)
theorem lk_RX8_51 : Cond.methodLink RX8 51 yJ9_max_7cf53 ∈ zbig := zmem 485 (by decide +kernel) (by decide +kernel)
theorem lk_RX8_57 : Cond.methodLink RX8 57 yX3_residue ∈ zbig := zmem 499 (by decide +kernel) (by decide +kernel)
theorem lk_RX8_62 : Cond.methodLink RX8 62 yX8_letterOf ∈ zbig := zmem 492 (by decide +kernel) (by decide +kernel)
theorem lk_RX8_66 : Cond.methodLink RX8 66 yX8_takeExponent ∈ zbig := zmem 495 (by decide +kernel) (by decide +kernel)
theorem lk_R_law0_9 : Cond.methodLink R_law0 9 yX9_init ∈ zbig := zmem 90 (by decide +kernel) (by decide +kernel)
theorem lk_R_law0_12 : Cond.methodLink R_law0 12 yX10_init ∈ zbig := zmem 927 (by decide +kernel) (by decide +kernel)
theorem lk_R_law0_13 : Cond.methodLink R_law0 13 yX9_setPrime ∈ zbig := zmem 380 (by decide +kernel) (by decide +kernel)
theorem lk_R_law0_17 : Cond.methodLink R_law0 17 yX10_setPrime ∈ zbig := zmem 1063 (by decide +kernel) (by decide +kernel)
theorem lk_R_law0_18 : Cond.methodLink R_law0 18 yX9_type ∈ zbig := zmem 441 (by decide +kernel) (by decide +kernel)
theorem lk_R_law0_21 : Cond.methodLink R_law0 21 yX10_type ∈ zbig := zmem 1078 (by decide +kernel) (by decide +kernel)
theorem lk_R_law0_22 : Cond.methodLink R_law0 22 yX9_clearText ∈ zbig := zmem 449 (by decide +kernel) (by decide +kernel)
theorem lk_R_law0_26 : Cond.methodLink R_law0 26 yX10_clearText ∈ zbig := zmem 1082 (by decide +kernel) (by decide +kernel)
theorem lk_R_law0_27 : Cond.methodLink R_law0 27 yX9_read ∈ zbig := zmem 453 (by decide +kernel) (by decide +kernel)
theorem lk_R_law0_30 : Cond.methodLink R_law0 30 yX10_read ∈ zbig := zmem 1086 (by decide +kernel) (by decide +kernel)
theorem lk_R_law0_31 : Cond.methodLink R_law0 31 yX9_setCoefficient ∈ zbig := zmem 507 (by decide +kernel) (by decide +kernel)
theorem lk_R_law0_35 : Cond.methodLink R_law0 35 yX10_setCoefficient ∈ zbig := zmem 1118 (by decide +kernel) (by decide +kernel)
theorem lk_R_law0_36 : Cond.methodLink R_law0 36 yX9_coefficient ∈ zbig := zmem 525 (by decide +kernel) (by decide +kernel)
theorem lk_R_law0_40 : Cond.methodLink R_law0 40 yX10_coefficient ∈ zbig := zmem 1136 (by decide +kernel) (by decide +kernel)
theorem lk_R_law0_41 : Cond.methodLink R_law0 41 yX9_draw ∈ zbig := zmem 529 (by decide +kernel) (by decide +kernel)
theorem lk_R_law0_44 : Cond.methodLink R_law0 44 yX10_draw ∈ zbig := zmem 1140 (by decide +kernel) (by decide +kernel)
theorem lk_R_law0_45 : Cond.methodLink R_law0 45 yX9_plant ∈ zbig := zmem 544 (by decide +kernel) (by decide +kernel)
theorem lk_R_law0_49 : Cond.methodLink R_law0 49 yX10_plant ∈ zbig := zmem 1149 (by decide +kernel) (by decide +kernel)
theorem lk_R_law0_50 : Cond.methodLink R_law0 50 yX9_swap ∈ zbig := zmem 557 (by decide +kernel) (by decide +kernel)
theorem lk_R_law0_54 : Cond.methodLink R_law0 54 yX10_swap ∈ zbig := zmem 1161 (by decide +kernel) (by decide +kernel)
theorem lk_R_law0_55 : Cond.methodLink R_law0 55 yX9_combine ∈ zbig := zmem 565 (by decide +kernel) (by decide +kernel)
theorem lk_R_law0_59 : Cond.methodLink R_law0 59 yX10_combine ∈ zbig := zmem 1165 (by decide +kernel) (by decide +kernel)
theorem lk_R_law0_60 : Cond.methodLink R_law0 60 yX9_shift ∈ zbig := zmem 577 (by decide +kernel) (by decide +kernel)
theorem lk_R_law0_63 : Cond.methodLink R_law0 63 yX10_shift ∈ zbig := zmem 1169 (by decide +kernel) (by decide +kernel)
theorem lk_R_law0_64 : Cond.methodLink R_law0 64 yX9_value ∈ zbig := zmem 585 (by decide +kernel) (by decide +kernel)
theorem lk_R_law0_67 : Cond.methodLink R_law0 67 yX10_value ∈ zbig := zmem 1173 (by decide +kernel) (by decide +kernel)
theorem lk_R_law0_68 : Cond.methodLink R_law0 68 yX9_degree ∈ zbig := zmem 589 (by decide +kernel) (by decide +kernel)
theorem lk_R_law0_71 : Cond.methodLink R_law0 71 yX10_degree ∈ zbig := zmem 1177 (by decide +kernel) (by decide +kernel)
theorem lk_R_law0_72 : Cond.methodLink R_law0 72 yX9_degreeAt ∈ zbig := zmem 598 (by decide +kernel) (by decide +kernel)
theorem lk_R_law0_75 : Cond.methodLink R_law0 75 yX10_degreeAt ∈ zbig := zmem 1185 (by decide +kernel) (by decide +kernel)
theorem lk_R_law0_76 : Cond.methodLink R_law0 76 yX9_degreeDrops ∈ zbig := zmem 606 (by decide +kernel) (by decide +kernel)
theorem lk_R_law0_79 : Cond.methodLink R_law0 79 yX10_degreeDrops ∈ zbig := zmem 1197 (by decide +kernel) (by decide +kernel)
theorem lk_R_law0_80 : Cond.methodLink R_law0 80 yX9_size ∈ zbig := zmem 616 (by decide +kernel) (by decide +kernel)
theorem lk_R_law0_83 : Cond.methodLink R_law0 83 yX10_size ∈ zbig := zmem 1201 (by decide +kernel) (by decide +kernel)
theorem lk_R_law0_84 : Cond.methodLink R_law0 84 yX9_entry ∈ zbig := zmem 666 (by decide +kernel) (by decide +kernel)
theorem lk_R_law0_87 : Cond.methodLink R_law0 87 yX10_entry ∈ zbig := zmem 1213 (by decide +kernel) (by decide +kernel)
theorem lk_R_law0_88 : Cond.methodLink R_law0 88 yX9_entryAt ∈ zbig := zmem 674 (by decide +kernel) (by decide +kernel)
theorem lk_R_law0_91 : Cond.methodLink R_law0 91 yX10_entryAt ∈ zbig := zmem 1310 (by decide +kernel) (by decide +kernel)
theorem lk_R_law0_92 : Cond.methodLink R_law0 92 yX9_rankAt ∈ zbig := zmem 682 (by decide +kernel) (by decide +kernel)
theorem lk_R_law0_95 : Cond.methodLink R_law0 95 yX10_rankAt ∈ zbig := zmem 1314 (by decide +kernel) (by decide +kernel)
theorem lk_R_law0_96 : Cond.methodLink R_law0 96 yX9_rank ∈ zbig := zmem 725 (by decide +kernel) (by decide +kernel)
theorem lk_R_law0_99 : Cond.methodLink R_law0 99 yX10_rank ∈ zbig := zmem 1318 (by decide +kernel) (by decide +kernel)
theorem lk_R_law0_100 : Cond.methodLink R_law0 100 yX9_pivotPoint ∈ zbig := zmem 751 (by decide +kernel) (by decide +kernel)
theorem lk_R_law0_103 : Cond.methodLink R_law0 103 yX10_pivotPoint ∈ zbig := zmem 1322 (by decide +kernel) (by decide +kernel)
theorem lk_R_law0_104 : Cond.methodLink R_law0 104 yX9_selected ∈ zbig := zmem 755 (by decide +kernel) (by decide +kernel)
theorem lk_R_law0_108 : Cond.methodLink R_law0 108 yX10_selected ∈ zbig := zmem 1326 (by decide +kernel) (by decide +kernel)
theorem lk_R_law0_109 : Cond.methodLink R_law0 109 yX9_rankDrops ∈ zbig := zmem 759 (by decide +kernel) (by decide +kernel)
theorem lk_R_law0_112 : Cond.methodLink R_law0 112 yX10_rankDrops ∈ zbig := zmem 1330 (by decide +kernel) (by decide +kernel)
theorem lk_R_law0_113 : Cond.methodLink R_law0 113 yX9_condition ∈ zbig := zmem 763 (by decide +kernel) (by decide +kernel)
theorem lk_R_law0_116 : Cond.methodLink R_law0 116 yX10_condition ∈ zbig := zmem 1334 (by decide +kernel) (by decide +kernel)
theorem lk_R_law0_117 : Cond.methodLink R_law0 117 yX9_eliminantDegree ∈ zbig := zmem 767 (by decide +kernel) (by decide +kernel)
theorem lk_R_law0_120 : Cond.methodLink R_law0 120 yX10_eliminantDegree ∈ zbig := zmem 1338 (by decide +kernel) (by decide +kernel)
theorem lk_R_law0_121 : Cond.methodLink R_law0 121 yX9_eliminant ∈ zbig := zmem 832 (by decide +kernel) (by decide +kernel)
theorem lk_R_law0_125 : Cond.methodLink R_law0 125 yX10_eliminant ∈ zbig := zmem 1342 (by decide +kernel) (by decide +kernel)
theorem lk_R_law0_126 : Cond.methodLink R_law0 126 yX9_eliminantAt ∈ zbig := zmem 836 (by decide +kernel) (by decide +kernel)
theorem lk_R_law0_129 : Cond.methodLink R_law0 129 yX10_eliminantAt ∈ zbig := zmem 1346 (by decide +kernel) (by decide +kernel)
theorem lk_R_law0_130 : Cond.methodLink R_law0 130 yX9_multiplicity ∈ zbig := zmem 840 (by decide +kernel) (by decide +kernel)
theorem lk_R_law0_133 : Cond.methodLink R_law0 133 yX10_multiplicity ∈ zbig := zmem 1350 (by decide +kernel) (by decide +kernel)
theorem lk_R_law0_134 : Cond.methodLink R_law0 134 yX9_extraneous ∈ zbig := zmem 848 (by decide +kernel) (by decide +kernel)
theorem lk_R_law0_137 : Cond.methodLink R_law0 137 yX10_extraneous ∈ zbig := zmem 1354 (by decide +kernel) (by decide +kernel)
theorem lk_R_law0_138 : Cond.methodLink R_law0 138 yX9_commonRoots ∈ zbig := zmem 852 (by decide +kernel) (by decide +kernel)
theorem lk_R_law0_141 : Cond.methodLink R_law0 141 yX10_commonRoots ∈ zbig := zmem 1358 (by decide +kernel) (by decide +kernel)
theorem lk_R_law0_142 : Cond.methodLink R_law0 142 yX9_commonRoot ∈ zbig := zmem 858 (by decide +kernel) (by decide +kernel)
theorem lk_R_law0_145 : Cond.methodLink R_law0 145 yX10_commonRoot ∈ zbig := zmem 1362 (by decide +kernel) (by decide +kernel)
theorem lk_R_law0_146 : Cond.methodLink R_law0 146 yX9_solvable ∈ zbig := zmem 869 (by decide +kernel) (by decide +kernel)
theorem lk_R_law0_149 : Cond.methodLink R_law0 149 yX10_solvable ∈ zbig := zmem 1366 (by decide +kernel) (by decide +kernel)
theorem lk_R_law0_150 : Cond.methodLink R_law0 150 yX9_kernel ∈ zbig := zmem 873 (by decide +kernel) (by decide +kernel)
theorem lk_R_law0_153 : Cond.methodLink R_law0 153 yX10_kernel ∈ zbig := zmem 1370 (by decide +kernel) (by decide +kernel)
theorem lk_R_law0_154 : Cond.methodLink R_law0 154 yX9_recovered ∈ zbig := zmem 877 (by decide +kernel) (by decide +kernel)
theorem lk_R_law0_158 : Cond.methodLink R_law0 158 yX10_recovered ∈ zbig := zmem 1374 (by decide +kernel) (by decide +kernel)
theorem lk_R_law0_159 : Cond.methodLink R_law0 159 yX9_confirmed ∈ zbig := zmem 885 (by decide +kernel) (by decide +kernel)
theorem lk_R_law0_162 : Cond.methodLink R_law0 162 yX10_confirmed ∈ zbig := zmem 1394 (by decide +kernel) (by decide +kernel)
theorem lk_R_law0_163 : Cond.methodLink R_law0 163 yX9_undo ∈ zbig := zmem 889 (by decide +kernel) (by decide +kernel)
theorem lk_R_law0_166 : Cond.methodLink R_law0 166 yX10_undo ∈ zbig := zmem 1055 (by decide +kernel) (by decide +kernel)
theorem lk_R_law0_167 : Cond.methodLink R_law0 167 yX9_count ∈ zbig := zmem 897 (by decide +kernel) (by decide +kernel)
theorem lk_R_law0_170 : Cond.methodLink R_law0 170 yX10_count ∈ zbig := zmem 1402 (by decide +kernel) (by decide +kernel)
theorem lk_R_law0_171 : Cond.methodLink R_law0 171 yX9_digest ∈ zbig := zmem 906 (by decide +kernel) (by decide +kernel)
theorem lk_R_law0_175 : Cond.methodLink R_law0 175 yX10_digest ∈ zbig := zmem 1406 (by decide +kernel) (by decide +kernel)
theorem lk_RX10_76 : Cond.methodLink RX10 76 yX10_p ∈ zbig := zmem 1074 (by decide +kernel) (by decide +kernel)
theorem lk_RX10_80 : Cond.methodLink RX10 80 yX10_in ∈ zbig := zmem 1067 (by decide +kernel) (by decide +kernel)
theorem lk_RX10_84 : Cond.methodLink RX10 84 yX10_at ∈ zbig := zmem 1133 (by decide +kernel) (by decide +kernel)
theorem lk_RX10_92 : Cond.methodLink RX10 92 yX10_forgets ∈ zbig := zmem 1059 (by decide +kernel) (by decide +kernel)
theorem lk_RX10_102 : Cond.methodLink RX10 102 yX10_termsOf ∈ zbig := zmem 1114 (by decide +kernel) (by decide +kernel)
theorem lk_RX10_106 : Cond.methodLink RX10 106 yX10_begins ∈ zbig := zmem 1070 (by decide +kernel) (by decide +kernel)
theorem lk_RX10_115 : Cond.methodLink RX10 115 yX10_here ∈ zbig := zmem 1098 (by decide +kernel) (by decide +kernel)
theorem lk_RX10_118 : Cond.methodLink RX10 118 yX10_isDigit ∈ zbig := zmem 1106 (by decide +kernel) (by decide +kernel)
theorem lk_RX10_122 : Cond.methodLink RX10 122 yX10_skips ∈ zbig := zmem 1094 (by decide +kernel) (by decide +kernel)
theorem lk_RX10_128 : Cond.methodLink RX10 128 yX10_mod ∈ zbig := zmem 1110 (by decide +kernel) (by decide +kernel)
theorem lk_RX10_131 : Cond.methodLink RX10 131 yX10_readsTerm ∈ zbig := zmem 1102 (by decide +kernel) (by decide +kernel)
theorem lk_RX10_135 : Cond.methodLink RX10 135 yX10_reads ∈ zbig := zmem 1090 (by decide +kernel) (by decide +kernel)
theorem lk_RX10_138 : Cond.methodLink RX10 138 yX10_isPlace ∈ zbig := zmem 1122 (by decide +kernel) (by decide +kernel)
theorem lk_RX10_142 : Cond.methodLink RX10 142 yX10_isNumber ∈ zbig := zmem 1125 (by decide +kernel) (by decide +kernel)
theorem lk_RX10_146 : Cond.methodLink RX10 146 yX10_of ∈ zbig := zmem 1129 (by decide +kernel) (by decide +kernel)
theorem lk_RX10_150 : Cond.methodLink RX10 150 yX10_terms ∈ zbig := zmem 1145 (by decide +kernel) (by decide +kernel)
theorem lk_RX10_153 : Cond.methodLink RX10 153 yX10_power ∈ zbig := zmem 1157 (by decide +kernel) (by decide +kernel)
theorem lk_RX10_157 : Cond.methodLink RX10 157 yX10_valueOf ∈ zbig := zmem 1153 (by decide +kernel) (by decide +kernel)
theorem lk_RX10_160 : Cond.methodLink RX10 160 yX10_degreeOf ∈ zbig := zmem 1181 (by decide +kernel) (by decide +kernel)
theorem lk_RX10_163 : Cond.methodLink RX10 163 yX10_cut ∈ zbig := zmem 1193 (by decide +kernel) (by decide +kernel)
theorem lk_RX10_166 : Cond.methodLink RX10 166 yX10_cutDegree ∈ zbig := zmem 1189 (by decide +kernel) (by decide +kernel)
theorem lk_RX10_170 : Cond.methodLink RX10 170 yX10_greatest ∈ zbig := zmem 1209 (by decide +kernel) (by decide +kernel)
theorem lk_RX10_173 : Cond.methodLink RX10 173 yX10_differsInX ∈ zbig := zmem 1229 (by decide +kernel) (by decide +kernel)
theorem lk_RX10_176 : Cond.methodLink RX10 176 yX10_differsInY ∈ zbig := zmem 1233 (by decide +kernel) (by decide +kernel)
theorem lk_RX10_179 : Cond.methodLink RX10 179 yX10_multiplies ∈ zbig := zmem 1237 (by decide +kernel) (by decide +kernel)
theorem lk_RX10_183 : Cond.methodLink RX10 183 yX10_addsProduct ∈ zbig := zmem 1241 (by decide +kernel) (by decide +kernel)
theorem lk_RX10_192 : Cond.methodLink RX10 192 yX10_entryValue ∈ zbig := zmem 1253 (by decide +kernel) (by decide +kernel)
theorem lk_RX10_198 : Cond.methodLink RX10 198 yX10_inverse ∈ zbig := zmem 1265 (by decide +kernel) (by decide +kernel)
theorem lk_RX10_201 : Cond.methodLink RX10 201 yX10_keeps ∈ zbig := zmem 1261 (by decide +kernel) (by decide +kernel)
theorem lk_RX10_207 : Cond.methodLink RX10 207 yX10_lays ∈ zbig := zmem 1249 (by decide +kernel) (by decide +kernel)
theorem lk_RX10_211 : Cond.methodLink RX10 211 yX10_independent ∈ zbig := zmem 1257 (by decide +kernel) (by decide +kernel)
theorem lk_RX10_214 : Cond.methodLink RX10 214 yX10_bits ∈ zbig := zmem 1269 (by decide +kernel) (by decide +kernel)
theorem lk_RX10_229 : Cond.methodLink RX10 229 yX10_place ∈ zbig := zmem 1280 (by decide +kernel) (by decide +kernel)
theorem lk_RX10_232 : Cond.methodLink RX10 232 yX10_findsPart ∈ zbig := zmem 1276 (by decide +kernel) (by decide +kernel)
theorem lk_RX10_235 : Cond.methodLink RX10 235 yX10_knowsRoots ∈ zbig := zmem 1287 (by decide +kernel) (by decide +kernel)
theorem lk_RX10_241 : Cond.methodLink RX10 241 yX10_valueAt ∈ zbig := zmem 1295 (by decide +kernel) (by decide +kernel)
theorem lk_RX10_248 : Cond.methodLink RX10 248 yX10_divides ∈ zbig := zmem 1299 (by decide +kernel) (by decide +kernel)
theorem lk_RX10_252 : Cond.methodLink RX10 252 yX10_degreeIn ∈ zbig := zmem 1303 (by decide +kernel) (by decide +kernel)
theorem lk_RX10_259 : Cond.methodLink RX10 259 yX10_findsDixon ∈ zbig := zmem 1225 (by decide +kernel) (by decide +kernel)
theorem lk_RX10_262 : Cond.methodLink RX10 262 yX10_findsRanks ∈ zbig := zmem 1245 (by decide +kernel) (by decide +kernel)
theorem lk_RX10_265 : Cond.methodLink RX10 265 yX10_findsEliminant ∈ zbig := zmem 1272 (by decide +kernel) (by decide +kernel)
theorem lk_RX10_268 : Cond.methodLink RX10 268 yX10_reduces ∈ zbig := zmem 1283 (by decide +kernel) (by decide +kernel)
theorem lk_RX10_271 : Cond.methodLink RX10 271 yX10_isMatrix ∈ zbig := zmem 1205 (by decide +kernel) (by decide +kernel)
theorem lk_RX10_274 : Cond.methodLink RX10 274 yX10_knows ∈ zbig := zmem 1221 (by decide +kernel) (by decide +kernel)
theorem lk_RX10_277 : Cond.methodLink RX10 277 yX10_has ∈ zbig := zmem 1217 (by decide +kernel) (by decide +kernel)
theorem lk_RX10_280 : Cond.methodLink RX10 280 yX10_isCell ∈ zbig := zmem 1306 (by decide +kernel) (by decide +kernel)
theorem lk_RX10_287 : Cond.methodLink RX10 287 yX10_roots ∈ zbig := zmem 1291 (by decide +kernel) (by decide +kernel)
theorem lk_RX10_290 : Cond.methodLink RX10 290 yX10_exchanges ∈ zbig := zmem 1386 (by decide +kernel) (by decide +kernel)
theorem lk_RX10_294 : Cond.methodLink RX10 294 yX10_clears ∈ zbig := zmem 1390 (by decide +kernel) (by decide +kernel)
theorem lk_RX10_297 : Cond.methodLink RX10 297 yX10_findsKernel ∈ zbig := zmem 1382 (by decide +kernel) (by decide +kernel)
theorem lk_RX10_300 : Cond.methodLink RX10 300 yX10_recoveredAt ∈ zbig := zmem 1378 (by decide +kernel) (by decide +kernel)
theorem lk_RX10_303 : Cond.methodLink RX10 303 yX10_isConfirmed ∈ zbig := zmem 1398 (by decide +kernel) (by decide +kernel)
theorem lk_RX10_312 : Cond.methodLink RX10 312 yX10_mixes ∈ zbig := zmem 1412 (by decide +kernel) (by decide +kernel)
theorem lk_RX10_317 : Cond.methodLink RX10 317 yX10_count ∈ zbig := zmem 1411 (by decide +kernel) (by decide +kernel)
theorem lk_RX10_320 : Cond.methodLink RX10 320 yX10_degreeDrops ∈ zbig := zmem 1417 (by decide +kernel) (by decide +kernel)
theorem lk_RX10_323 : Cond.methodLink RX10 323 yX10_solvable ∈ zbig := zmem 1418 (by decide +kernel) (by decide +kernel)
theorem lk_RX10_325 : Cond.methodLink RX10 325 yX10_size ∈ zbig := zmem 1419 (by decide +kernel) (by decide +kernel)
theorem lk_RX10_328 : Cond.methodLink RX10 328 yX10_rankDrops ∈ zbig := zmem 1420 (by decide +kernel) (by decide +kernel)
theorem lk_RX10_331 : Cond.methodLink RX10 331 yX10_mixesPoly ∈ zbig := zmem 1421 (by decide +kernel) (by decide +kernel)
theorem fl_RX9_20 : zFL RX9 20 8 0 3 := ⟨by decide, by decide, zmem 358 (by decide +kernel) (by decide +kernel), rfl, rfl⟩
theorem fl_RX9_29 : zFL RX9 29 8 1 3 := ⟨by decide, by decide, zmem 359 (by decide +kernel) (by decide +kernel), rfl, rfl⟩
theorem fl_RX9_36 : zFL RX9 36 8 2 3 := ⟨by decide, by decide, zmem 360 (by decide +kernel) (by decide +kernel), rfl, rfl⟩
theorem fl_RX9_43 : zFL RX9 43 8 3 3 := ⟨by decide, by decide, zmem 361 (by decide +kernel) (by decide +kernel), rfl, rfl⟩
theorem fl_RX9_47 : zFL RX9 47 8 4 3 := ⟨by decide, by decide, zmem 362 (by decide +kernel) (by decide +kernel), rfl, rfl⟩
theorem fl_RX9_51 : zFL RX9 51 8 5 3 := ⟨by decide, by decide, zmem 363 (by decide +kernel) (by decide +kernel), rfl, rfl⟩
theorem fl_RX9_60 : zFL RX9 60 8 6 3 := ⟨by decide, by decide, zmem 364 (by decide +kernel) (by decide +kernel), rfl, rfl⟩
theorem fl_RX9_68 : zFL RX9 68 3 0 0 := ⟨by decide, by decide, zmem 105 (by decide +kernel) (by decide +kernel), rfl, rfl⟩
theorem fl_RX9_81 : zFL RX9 81 7 0 0 := ⟨by decide, by decide, zmem 268 (by decide +kernel) (by decide +kernel), rfl, rfl⟩
theorem fl_RX9_92 : zFL RX9 92 7 1 3 := ⟨by decide, by decide, zmem 270 (by decide +kernel) (by decide +kernel), rfl, rfl⟩
theorem fl_RX9_163 : zFL RX9 163 0 2 0 := ⟨by decide, by decide, zmem 129 (by decide +kernel) (by decide +kernel), rfl, rfl⟩
theorem fl_RX9_186 : zFL RX9 186 4 0 0 := ⟨by decide, by decide, zmem 188 (by decide +kernel) (by decide +kernel), rfl, rfl⟩
theorem fl_RX9_189 : zFL RX9 189 4 2 0 := ⟨by decide, by decide, zmem 192 (by decide +kernel) (by decide +kernel), rfl, rfl⟩
theorem fl_RX9_192 : zFL RX9 192 4 3 0 := ⟨by decide, by decide, zmem 195 (by decide +kernel) (by decide +kernel), rfl, rfl⟩
theorem fl_RX9_195 : zFL RX9 195 4 4 0 := ⟨by decide, by decide, zmem 198 (by decide +kernel) (by decide +kernel), rfl, rfl⟩
theorem fl_RX9_198 : zFL RX9 198 4 5 0 := ⟨by decide, by decide, zmem 200 (by decide +kernel) (by decide +kernel), rfl, rfl⟩
theorem fl_RX9_201 : zFL RX9 201 4 1 0 := ⟨by decide, by decide, zmem 190 (by decide +kernel) (by decide +kernel), rfl, rfl⟩
theorem fl_RX9_215 : zFL RX9 215 1 2 0 := ⟨by decide, by decide, zmem 323 (by decide +kernel) (by decide +kernel), rfl, rfl⟩
theorem fl_RX9_231 : zFL RX9 231 2 0 0 := ⟨by decide, by decide, zmem 251 (by decide +kernel) (by decide +kernel), rfl, rfl⟩
theorem fl_RX9_300 : zFL RX9 300 0 3 1 := ⟨by decide, by decide, zmem 131 (by decide +kernel) (by decide +kernel), rfl, rfl⟩
theorem fl_RX9_313 : zFL RX9 313 1 0 3 := ⟨by decide, by decide, zmem 319 (by decide +kernel) (by decide +kernel), rfl, rfl⟩
theorem fl_RX9_320 : zFL RX9 320 1 1 3 := ⟨by decide, by decide, zmem 321 (by decide +kernel) (by decide +kernel), rfl, rfl⟩
theorem fl_RX0_11 : zFL RX0 11 0 5 3 := ⟨by decide, by decide, zmem 133 (by decide +kernel) (by decide +kernel), rfl, rfl⟩
theorem fl_RX0_16 : zFL RX0 16 0 6 3 := ⟨by decide, by decide, zmem 134 (by decide +kernel) (by decide +kernel), rfl, rfl⟩
theorem fl_RX0_19 : zFL RX0 19 0 7 3 := ⟨by decide, by decide, zmem 135 (by decide +kernel) (by decide +kernel), rfl, rfl⟩
theorem fl_RX0_23 : zFL RX0 23 0 4 3 := ⟨by decide, by decide, zmem 132 (by decide +kernel) (by decide +kernel), rfl, rfl⟩
theorem fl_RX0_27 : zFL RX0 27 0 3 1 := ⟨by decide, by decide, zmem 130 (by decide +kernel) (by decide +kernel), rfl, rfl⟩
theorem fl_RX0_41 : zFL RX0 41 0 0 0 := ⟨by decide, by decide, zmem 125 (by decide +kernel) (by decide +kernel), rfl, rfl⟩
theorem fl_RX0_45 : zFL RX0 45 0 1 0 := ⟨by decide, by decide, zmem 126 (by decide +kernel) (by decide +kernel), rfl, rfl⟩
theorem fl_RX0_48 : zFL RX0 48 0 2 0 := ⟨by decide, by decide, zmem 128 (by decide +kernel) (by decide +kernel), rfl, rfl⟩
theorem fl_RX0_77 : zFL RX0 77 3 0 0 := ⟨by decide, by decide, zmem 109 (by decide +kernel) (by decide +kernel), rfl, rfl⟩
theorem fl_RX1_9 : zFL RX1 9 1 0 3 := ⟨by decide, by decide, zmem 318 (by decide +kernel) (by decide +kernel), rfl, rfl⟩
theorem fl_RX1_15 : zFL RX1 15 1 1 3 := ⟨by decide, by decide, zmem 320 (by decide +kernel) (by decide +kernel), rfl, rfl⟩
theorem fl_RX1_18 : zFL RX1 18 1 6 3 := ⟨by decide, by decide, zmem 327 (by decide +kernel) (by decide +kernel), rfl, rfl⟩
theorem fl_RX1_21 : zFL RX1 21 1 7 3 := ⟨by decide, by decide, zmem 328 (by decide +kernel) (by decide +kernel), rfl, rfl⟩
theorem fl_RX1_24 : zFL RX1 24 1 8 3 := ⟨by decide, by decide, zmem 329 (by decide +kernel) (by decide +kernel), rfl, rfl⟩
theorem fl_RX1_28 : zFL RX1 28 1 9 3 := ⟨by decide, by decide, zmem 330 (by decide +kernel) (by decide +kernel), rfl, rfl⟩
theorem fl_RX1_32 : zFL RX1 32 1 3 3 := ⟨by decide, by decide, zmem 324 (by decide +kernel) (by decide +kernel), rfl, rfl⟩
theorem fl_RX1_36 : zFL RX1 36 1 4 3 := ⟨by decide, by decide, zmem 325 (by decide +kernel) (by decide +kernel), rfl, rfl⟩
theorem fl_RX1_40 : zFL RX1 40 1 5 3 := ⟨by decide, by decide, zmem 326 (by decide +kernel) (by decide +kernel), rfl, rfl⟩
theorem fl_RX1_50 : zFL RX1 50 1 10 1 := ⟨by decide, by decide, zmem 331 (by decide +kernel) (by decide +kernel), rfl, rfl⟩
theorem fl_RX1_54 : zFL RX1 54 1 11 1 := ⟨by decide, by decide, zmem 332 (by decide +kernel) (by decide +kernel), rfl, rfl⟩
theorem fl_RX1_57 : zFL RX1 57 4 3 0 := ⟨by decide, by decide, zmem 193 (by decide +kernel) (by decide +kernel), rfl, rfl⟩
theorem fl_RX1_67 : zFL RX1 67 4 4 0 := ⟨by decide, by decide, zmem 196 (by decide +kernel) (by decide +kernel), rfl, rfl⟩
theorem fl_RX1_98 : zFL RX1 98 3 0 0 := ⟨by decide, by decide, zmem 108 (by decide +kernel) (by decide +kernel), rfl, rfl⟩
theorem fl_RX1_116 : zFL RX1 116 1 2 0 := ⟨by decide, by decide, zmem 322 (by decide +kernel) (by decide +kernel), rfl, rfl⟩
theorem fl_RX2_11 : zFL RX2 11 2 2 3 := ⟨by decide, by decide, zmem 253 (by decide +kernel) (by decide +kernel), rfl, rfl⟩
theorem fl_RX2_18 : zFL RX2 18 2 1 0 := ⟨by decide, by decide, zmem 252 (by decide +kernel) (by decide +kernel), rfl, rfl⟩
theorem fl_RX2_30 : zFL RX2 30 2 0 0 := ⟨by decide, by decide, zmem 250 (by decide +kernel) (by decide +kernel), rfl, rfl⟩
theorem fl_RX4_9 : zFL RX4 9 3 0 0 := ⟨by decide, by decide, zmem 104 (by decide +kernel) (by decide +kernel), rfl, rfl⟩
theorem fl_RX4_17 : zFL RX4 17 3 1 3 := ⟨by decide, by decide, zmem 110 (by decide +kernel) (by decide +kernel), rfl, rfl⟩
theorem fl_RX5_12 : zFL RX5 12 4 8 3 := ⟨by decide, by decide, zmem 203 (by decide +kernel) (by decide +kernel), rfl, rfl⟩
theorem fl_RX5_18 : zFL RX5 18 4 9 3 := ⟨by decide, by decide, zmem 204 (by decide +kernel) (by decide +kernel), rfl, rfl⟩
theorem fl_RX5_22 : zFL RX5 22 4 10 3 := ⟨by decide, by decide, zmem 205 (by decide +kernel) (by decide +kernel), rfl, rfl⟩
theorem fl_RX5_25 : zFL RX5 25 4 11 3 := ⟨by decide, by decide, zmem 206 (by decide +kernel) (by decide +kernel), rfl, rfl⟩
theorem fl_RX5_28 : zFL RX5 28 4 12 3 := ⟨by decide, by decide, zmem 207 (by decide +kernel) (by decide +kernel), rfl, rfl⟩
theorem fl_RX5_31 : zFL RX5 31 4 6 3 := ⟨by decide, by decide, zmem 201 (by decide +kernel) (by decide +kernel), rfl, rfl⟩
theorem fl_RX5_35 : zFL RX5 35 4 7 3 := ⟨by decide, by decide, zmem 202 (by decide +kernel) (by decide +kernel), rfl, rfl⟩
theorem fl_RX5_39 : zFL RX5 39 4 13 0 := ⟨by decide, by decide, zmem 208 (by decide +kernel) (by decide +kernel), rfl, rfl⟩
theorem fl_RX5_43 : zFL RX5 43 4 14 1 := ⟨by decide, by decide, zmem 209 (by decide +kernel) (by decide +kernel), rfl, rfl⟩
theorem fl_RX5_47 : zFL RX5 47 3 0 0 := ⟨by decide, by decide, zmem 106 (by decide +kernel) (by decide +kernel), rfl, rfl⟩
theorem fl_RX5_56 : zFL RX5 56 0 2 0 := ⟨by decide, by decide, zmem 127 (by decide +kernel) (by decide +kernel), rfl, rfl⟩
theorem fl_RX5_61 : zFL RX5 61 6 1 3 := ⟨by decide, by decide, zmem 169 (by decide +kernel) (by decide +kernel), rfl, rfl⟩
theorem fl_RX5_72 : zFL RX5 72 6 0 0 := ⟨by decide, by decide, zmem 167 (by decide +kernel) (by decide +kernel), rfl, rfl⟩
theorem fl_RX5_75 : zFL RX5 75 0 0 0 := ⟨by decide, by decide, zmem 124 (by decide +kernel) (by decide +kernel), rfl, rfl⟩
theorem fl_RX5_82 : zFL RX5 82 4 0 0 := ⟨by decide, by decide, zmem 187 (by decide +kernel) (by decide +kernel), rfl, rfl⟩
theorem fl_RX5_85 : zFL RX5 85 4 1 0 := ⟨by decide, by decide, zmem 189 (by decide +kernel) (by decide +kernel), rfl, rfl⟩
theorem fl_RX5_88 : zFL RX5 88 4 2 0 := ⟨by decide, by decide, zmem 191 (by decide +kernel) (by decide +kernel), rfl, rfl⟩
theorem fl_RX5_109 : zFL RX5 109 4 5 0 := ⟨by decide, by decide, zmem 199 (by decide +kernel) (by decide +kernel), rfl, rfl⟩
theorem fl_RX5_112 : zFL RX5 112 4 3 0 := ⟨by decide, by decide, zmem 194 (by decide +kernel) (by decide +kernel), rfl, rfl⟩
theorem fl_RX5_115 : zFL RX5 115 4 4 0 := ⟨by decide, by decide, zmem 197 (by decide +kernel) (by decide +kernel), rfl, rfl⟩
theorem fl_RX6_11 : zFL RX6 11 5 1 3 := ⟨by decide, by decide, zmem 290 (by decide +kernel) (by decide +kernel), rfl, rfl⟩
theorem fl_RX6_16 : zFL RX6 16 5 2 3 := ⟨by decide, by decide, zmem 291 (by decide +kernel) (by decide +kernel), rfl, rfl⟩
theorem fl_RX6_19 : zFL RX6 19 5 3 3 := ⟨by decide, by decide, zmem 292 (by decide +kernel) (by decide +kernel), rfl, rfl⟩
theorem fl_RX6_22 : zFL RX6 22 5 0 3 := ⟨by decide, by decide, zmem 289 (by decide +kernel) (by decide +kernel), rfl, rfl⟩
theorem fl_RX6_26 : zFL RX6 26 5 4 0 := ⟨by decide, by decide, zmem 293 (by decide +kernel) (by decide +kernel), rfl, rfl⟩
theorem fl_RX6_36 : zFL RX6 36 3 0 0 := ⟨by decide, by decide, zmem 107 (by decide +kernel) (by decide +kernel), rfl, rfl⟩
theorem fl_RX7_9 : zFL RX7 9 6 1 3 := ⟨by decide, by decide, zmem 168 (by decide +kernel) (by decide +kernel), rfl, rfl⟩
theorem fl_RX7_15 : zFL RX7 15 6 2 3 := ⟨by decide, by decide, zmem 170 (by decide +kernel) (by decide +kernel), rfl, rfl⟩
theorem fl_RX7_20 : zFL RX7 20 6 3 3 := ⟨by decide, by decide, zmem 171 (by decide +kernel) (by decide +kernel), rfl, rfl⟩
theorem fl_RX7_23 : zFL RX7 23 6 4 3 := ⟨by decide, by decide, zmem 172 (by decide +kernel) (by decide +kernel), rfl, rfl⟩
theorem fl_RX7_26 : zFL RX7 26 6 0 0 := ⟨by decide, by decide, zmem 166 (by decide +kernel) (by decide +kernel), rfl, rfl⟩
theorem fl_RX7_30 : zFL RX7 30 6 5 0 := ⟨by decide, by decide, zmem 173 (by decide +kernel) (by decide +kernel), rfl, rfl⟩
theorem fl_RX8_9 : zFL RX8 9 7 1 3 := ⟨by decide, by decide, zmem 269 (by decide +kernel) (by decide +kernel), rfl, rfl⟩
theorem fl_RX8_15 : zFL RX8 15 7 2 3 := ⟨by decide, by decide, zmem 271 (by decide +kernel) (by decide +kernel), rfl, rfl⟩
theorem fl_RX8_18 : zFL RX8 18 7 0 0 := ⟨by decide, by decide, zmem 267 (by decide +kernel) (by decide +kernel), rfl, rfl⟩
theorem fl_RX8_22 : zFL RX8 22 7 3 0 := ⟨by decide, by decide, zmem 272 (by decide +kernel) (by decide +kernel), rfl, rfl⟩
theorem fl_RX10_7 : zFL RX10 7 9 0 3 := ⟨by decide, by decide, zmem 931 (by decide +kernel) (by decide +kernel), rfl, rfl⟩
theorem fl_RX10_13 : zFL RX10 13 9 1 3 := ⟨by decide, by decide, zmem 932 (by decide +kernel) (by decide +kernel), rfl, rfl⟩
theorem fl_RX10_16 : zFL RX10 16 9 3 3 := ⟨by decide, by decide, zmem 934 (by decide +kernel) (by decide +kernel), rfl, rfl⟩
theorem fl_RX10_19 : zFL RX10 19 9 7 3 := ⟨by decide, by decide, zmem 938 (by decide +kernel) (by decide +kernel), rfl, rfl⟩
theorem fl_RX10_22 : zFL RX10 22 9 12 3 := ⟨by decide, by decide, zmem 943 (by decide +kernel) (by decide +kernel), rfl, rfl⟩
theorem fl_RX10_25 : zFL RX10 25 9 13 3 := ⟨by decide, by decide, zmem 944 (by decide +kernel) (by decide +kernel), rfl, rfl⟩
theorem fl_RX10_28 : zFL RX10 28 9 14 3 := ⟨by decide, by decide, zmem 945 (by decide +kernel) (by decide +kernel), rfl, rfl⟩
theorem fl_RX10_31 : zFL RX10 31 9 15 3 := ⟨by decide, by decide, zmem 946 (by decide +kernel) (by decide +kernel), rfl, rfl⟩
theorem fl_RX10_34 : zFL RX10 34 9 16 3 := ⟨by decide, by decide, zmem 947 (by decide +kernel) (by decide +kernel), rfl, rfl⟩
theorem fl_RX10_37 : zFL RX10 37 9 17 3 := ⟨by decide, by decide, zmem 948 (by decide +kernel) (by decide +kernel), rfl, rfl⟩
theorem fl_RX10_40 : zFL RX10 40 9 23 3 := ⟨by decide, by decide, zmem 954 (by decide +kernel) (by decide +kernel), rfl, rfl⟩
theorem fl_RX10_43 : zFL RX10 43 9 24 3 := ⟨by decide, by decide, zmem 955 (by decide +kernel) (by decide +kernel), rfl, rfl⟩
theorem fl_RX10_46 : zFL RX10 46 9 26 3 := ⟨by decide, by decide, zmem 957 (by decide +kernel) (by decide +kernel), rfl, rfl⟩
theorem fl_RX10_49 : zFL RX10 49 9 28 3 := ⟨by decide, by decide, zmem 959 (by decide +kernel) (by decide +kernel), rfl, rfl⟩
theorem fl_RX10_52 : zFL RX10 52 9 29 3 := ⟨by decide, by decide, zmem 960 (by decide +kernel) (by decide +kernel), rfl, rfl⟩
theorem fl_RX10_55 : zFL RX10 55 9 30 3 := ⟨by decide, by decide, zmem 961 (by decide +kernel) (by decide +kernel), rfl, rfl⟩
theorem fl_RX10_58 : zFL RX10 58 9 31 3 := ⟨by decide, by decide, zmem 962 (by decide +kernel) (by decide +kernel), rfl, rfl⟩
theorem fl_RX10_61 : zFL RX10 61 9 35 3 := ⟨by decide, by decide, zmem 966 (by decide +kernel) (by decide +kernel), rfl, rfl⟩
theorem fl_RX10_64 : zFL RX10 64 9 36 3 := ⟨by decide, by decide, zmem 967 (by decide +kernel) (by decide +kernel), rfl, rfl⟩
theorem fl_RX10_67 : zFL RX10 67 9 37 3 := ⟨by decide, by decide, zmem 968 (by decide +kernel) (by decide +kernel), rfl, rfl⟩
theorem fl_RX10_70 : zFL RX10 70 9 38 3 := ⟨by decide, by decide, zmem 969 (by decide +kernel) (by decide +kernel), rfl, rfl⟩
theorem fl_RX10_73 : zFL RX10 73 9 39 3 := ⟨by decide, by decide, zmem 970 (by decide +kernel) (by decide +kernel), rfl, rfl⟩
theorem fl_RX10_88 : zFL RX10 88 9 2 0 := ⟨by decide, by decide, zmem 933 (by decide +kernel) (by decide +kernel), rfl, rfl⟩
theorem fl_RX10_95 : zFL RX10 95 9 8 1 := ⟨by decide, by decide, zmem 939 (by decide +kernel) (by decide +kernel), rfl, rfl⟩
theorem fl_RX10_99 : zFL RX10 99 9 32 1 := ⟨by decide, by decide, zmem 963 (by decide +kernel) (by decide +kernel), rfl, rfl⟩
theorem fl_RX10_109 : zFL RX10 109 9 4 0 := ⟨by decide, by decide, zmem 935 (by decide +kernel) (by decide +kernel), rfl, rfl⟩
theorem fl_RX10_112 : zFL RX10 112 9 5 0 := ⟨by decide, by decide, zmem 936 (by decide +kernel) (by decide +kernel), rfl, rfl⟩
theorem fl_RX10_125 : zFL RX10 125 9 6 0 := ⟨by decide, by decide, zmem 937 (by decide +kernel) (by decide +kernel), rfl, rfl⟩
theorem fl_RX10_186 : zFL RX10 186 9 11 0 := ⟨by decide, by decide, zmem 942 (by decide +kernel) (by decide +kernel), rfl, rfl⟩
theorem fl_RX10_189 : zFL RX10 189 9 9 0 := ⟨by decide, by decide, zmem 940 (by decide +kernel) (by decide +kernel), rfl, rfl⟩
theorem fl_RX10_195 : zFL RX10 195 9 27 0 := ⟨by decide, by decide, zmem 958 (by decide +kernel) (by decide +kernel), rfl, rfl⟩
theorem fl_RX10_204 : zFL RX10 204 9 18 0 := ⟨by decide, by decide, zmem 949 (by decide +kernel) (by decide +kernel), rfl, rfl⟩
theorem fl_RX10_217 : zFL RX10 217 9 19 0 := ⟨by decide, by decide, zmem 950 (by decide +kernel) (by decide +kernel), rfl, rfl⟩
theorem fl_RX10_220 : zFL RX10 220 9 22 1 := ⟨by decide, by decide, zmem 953 (by decide +kernel) (by decide +kernel), rfl, rfl⟩
theorem fl_RX10_223 : zFL RX10 223 9 20 0 := ⟨by decide, by decide, zmem 951 (by decide +kernel) (by decide +kernel), rfl, rfl⟩
theorem fl_RX10_226 : zFL RX10 226 9 21 0 := ⟨by decide, by decide, zmem 952 (by decide +kernel) (by decide +kernel), rfl, rfl⟩
theorem fl_RX10_238 : zFL RX10 238 9 25 0 := ⟨by decide, by decide, zmem 956 (by decide +kernel) (by decide +kernel), rfl, rfl⟩
theorem fl_RX10_245 : zFL RX10 245 9 33 0 := ⟨by decide, by decide, zmem 964 (by decide +kernel) (by decide +kernel), rfl, rfl⟩
theorem fl_RX10_256 : zFL RX10 256 9 10 0 := ⟨by decide, by decide, zmem 941 (by decide +kernel) (by decide +kernel), rfl, rfl⟩
theorem fl_RX10_284 : zFL RX10 284 9 34 0 := ⟨by decide, by decide, zmem 965 (by decide +kernel) (by decide +kernel), rfl, rfl⟩
theorem fl_RX10_308 : zFL RX10 308 9 40 2 := ⟨by decide, by decide, zmem 971 (by decide +kernel) (by decide +kernel), rfl, rfl⟩
theorem kc_RX9_246 : Cond.constantLong RX9 246 (Int64.ofInt 18404) ∈ zbig := zmem 910 (by decide +kernel) (by decide +kernel)
theorem kc_RX9_248 : Cond.constantLong RX9 248 (Int64.ofInt 31) ∈ zbig := zmem 911 (by decide +kernel) (by decide +kernel)
theorem kc_RX4_38 : Cond.constant RX4 38 (Int32.ofInt 1103515245) ∈ zbig := zmem 537 (by decide +kernel) (by decide +kernel)
theorem kc_RX10_149 : Cond.constant RX10 149 (Int32.ofInt 1103515245) ∈ zbig := zmem 1144 (by decide +kernel) (by decide +kernel)
theorem kc_RX10_306 : Cond.constantLong RX10 306 (Int64.ofInt 31) ∈ zbig := zmem 1416 (by decide +kernel) (by decide +kernel)
theorem kc_RX10_315 : Cond.constantLong RX10 315 (Int64.ofInt 18404) ∈ zbig := zmem 1410 (by decide +kernel) (by decide +kernel)
theorem kc_RJ6_265 : Cond.constant RJ6 265 (Int32.ofInt 1431655765) ∈ zbig := zmem 315 (by decide +kernel) (by decide +kernel)
theorem kc_RJ6_266 : Cond.constant RJ6 266 (Int32.ofInt 858993459) ∈ zbig := zmem 316 (by decide +kernel) (by decide +kernel)
theorem kc_RJ6_267 : Cond.constant RJ6 267 (Int32.ofInt 252645135) ∈ zbig := zmem 317 (by decide +kernel) (by decide +kernel)
theorem is_1 : zIs zN 1 (8, 7) := ⟨by decide +kernel, by decide, by decide⟩
theorem is_2 : zIs zN 2 (3, 2) := ⟨by decide +kernel, by decide, by decide⟩
theorem is_3 : zIs zN 3 (11, 3) := ⟨by decide +kernel, by decide, by decide⟩
theorem is_7 : zIs zN 7 (0, 8) := ⟨by decide +kernel, by decide, by decide⟩
theorem is_8 : zIs zN 8 (11, 64) := ⟨by decide +kernel, by decide, by decide⟩
theorem is_73 : zIs zN 73 (11, 3) := ⟨by decide +kernel, by decide, by decide⟩
theorem is_77 : zIs zN 77 (10, 7) := ⟨by decide +kernel, by decide, by decide⟩
theorem is_78 : zIs zN 78 (4, 15) := ⟨by decide +kernel, by decide, by decide⟩
theorem is_79 : zIs zN 79 (6, 6) := ⟨by decide +kernel, by decide, by decide⟩
theorem is_80 : zIs zN 80 (10, 16) := ⟨by decide +kernel, by decide, by decide⟩
theorem is_81 : zIs zN 81 (10, 8) := ⟨by decide +kernel, by decide, by decide⟩
theorem is_82 : zIs zN 82 (11, 8) := ⟨by decide +kernel, by decide, by decide⟩
theorem is_91 : zIs zN 91 (10, 8) := ⟨by decide +kernel, by decide, by decide⟩
theorem is_92 : zIs zN 92 (10, 31) := ⟨by decide +kernel, by decide, by decide⟩
theorem is_93 : zIs zN 93 (10, 31) := ⟨by decide +kernel, by decide, by decide⟩
theorem is_94 : zIs zN 94 (10, 31) := ⟨by decide +kernel, by decide, by decide⟩
theorem is_95 : zIs zN 95 (10, 31) := ⟨by decide +kernel, by decide, by decide⟩
theorem is_96 : zIs zN 96 (2, 3) := ⟨by decide +kernel, by decide, by decide⟩
theorem is_97 : zIs zN 97 (12, 8) := ⟨by decide +kernel, by decide, by decide⟩
theorem is_98 : zIs zN 98 (3, 2) := ⟨by decide +kernel, by decide, by decide⟩
theorem is_99 : zIs zN 99 (11, 3) := ⟨by decide +kernel, by decide, by decide⟩
theorem is_103 : zIs zN 103 (3, 2) := ⟨by decide +kernel, by decide, by decide⟩
theorem is_104 : zIs zN 104 (11, 3) := ⟨by decide +kernel, by decide, by decide⟩
theorem is_108 : zIs zN 108 (3, 2) := ⟨by decide +kernel, by decide, by decide⟩
theorem is_109 : zIs zN 109 (11, 3) := ⟨by decide +kernel, by decide, by decide⟩
theorem is_113 : zIs zN 113 (3, 2) := ⟨by decide +kernel, by decide, by decide⟩
theorem is_114 : zIs zN 114 (11, 3) := ⟨by decide +kernel, by decide, by decide⟩
theorem is_118 : zIs zN 118 (3, 2) := ⟨by decide +kernel, by decide, by decide⟩
theorem is_119 : zIs zN 119 (11, 3) := ⟨by decide +kernel, by decide, by decide⟩
theorem is_123 : zIs zN 123 (3, 2) := ⟨by decide +kernel, by decide, by decide⟩
theorem is_124 : zIs zN 124 (11, 3) := ⟨by decide +kernel, by decide, by decide⟩
theorem is_128 : zIs zN 128 (3, 2) := ⟨by decide +kernel, by decide, by decide⟩
theorem is_129 : zIs zN 129 (11, 3) := ⟨by decide +kernel, by decide, by decide⟩
theorem is_133 : zIs zN 133 (3, 2) := ⟨by decide +kernel, by decide, by decide⟩
theorem is_134 : zIs zN 134 (11, 3) := ⟨by decide +kernel, by decide, by decide⟩
theorem is_138 : zIs zN 138 (7, 4) := ⟨by decide +kernel, by decide, by decide⟩
theorem is_139 : zIs zN 139 (10, 27) := ⟨by decide +kernel, by decide, by decide⟩
theorem is_140 : zIs zN 140 (10, 60) := ⟨by decide +kernel, by decide, by decide⟩
theorem is_141 : zIs zN 141 (5, 5) := ⟨by decide +kernel, by decide, by decide⟩
theorem is_142 : zIs zN 142 (11, 31) := ⟨by decide +kernel, by decide, by decide⟩
theorem is_174 : zIs zN 174 (11, 3) := ⟨by decide +kernel, by decide, by decide⟩
theorem is_178 : zIs zN 178 (11, 3) := ⟨by decide +kernel, by decide, by decide⟩
theorem is_182 : zIs zN 182 (1, 12) := ⟨by decide +kernel, by decide, by decide⟩
theorem is_183 : zIs zN 183 (10, 49) := ⟨by decide +kernel, by decide, by decide⟩
theorem is_184 : zIs zN 184 (10, 49) := ⟨by decide +kernel, by decide, by decide⟩
theorem is_185 : zIs zN 185 (10, 49) := ⟨by decide +kernel, by decide, by decide⟩
theorem is_186 : zIs zN 186 (10, 8) := ⟨by decide +kernel, by decide, by decide⟩
theorem is_187 : zIs zN 187 (10, 8) := ⟨by decide +kernel, by decide, by decide⟩
theorem is_188 : zIs zN 188 (11, 256) := ⟨by decide +kernel, by decide, by decide⟩
theorem is_445 : zIs zN 445 (9, 41) := ⟨by decide +kernel, by decide, by decide⟩
theorem is_446 : zIs zN 446 (10, 82) := ⟨by decide +kernel, by decide, by decide⟩
theorem is_447 : zIs zN 447 (10, 656) := ⟨by decide +kernel, by decide, by decide⟩
theorem is_448 : zIs zN 448 (10, 60) := ⟨by decide +kernel, by decide, by decide⟩
theorem is_449 : zIs zN 449 (10, 27) := ⟨by decide +kernel, by decide, by decide⟩
theorem is_450 : zIs zN 450 (10, 108) := ⟨by decide +kernel, by decide, by decide⟩
theorem is_451 : zIs zN 451 (10, 108) := ⟨by decide +kernel, by decide, by decide⟩
theorem is_452 : zIs zN 452 (10, 640) := ⟨by decide +kernel, by decide, by decide⟩
theorem is_453 : zIs zN 453 (10, 1344) := ⟨by decide +kernel, by decide, by decide⟩
theorem is_454 : zIs zN 454 (10, 448) := ⟨by decide +kernel, by decide, by decide⟩
theorem is_455 : zIs zN 455 (10, 31) := ⟨by decide +kernel, by decide, by decide⟩
theorem is_456 : zIs zN 456 (10, 49) := ⟨by decide +kernel, by decide, by decide⟩
theorem is_457 : zIs zN 457 (10, 49) := ⟨by decide +kernel, by decide, by decide⟩
theorem is_458 : zIs zN 458 (10, 72) := ⟨by decide +kernel, by decide, by decide⟩
theorem is_459 : zIs zN 459 (10, 64) := ⟨by decide +kernel, by decide, by decide⟩
theorem is_460 : zIs zN 460 (10, 8) := ⟨by decide +kernel, by decide, by decide⟩
theorem is_461 : zIs zN 461 (10, 12544) := ⟨by decide +kernel, by decide, by decide⟩
theorem is_462 : zIs zN 462 (10, 49) := ⟨by decide +kernel, by decide, by decide⟩
theorem is_463 : zIs zN 463 (10, 31) := ⟨by decide +kernel, by decide, by decide⟩
theorem is_464 : zIs zN 464 (10, 27) := ⟨by decide +kernel, by decide, by decide⟩
theorem is_465 : zIs zN 465 (10, 9) := ⟨by decide +kernel, by decide, by decide⟩
theorem is_466 : zIs zN 466 (10, 8) := ⟨by decide +kernel, by decide, by decide⟩
theorem is_467 : zIs zN 467 (10, 64) := ⟨by decide +kernel, by decide, by decide⟩
