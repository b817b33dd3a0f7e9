def RLaw : String := "WallHouseLaw"
abbrev cLaw : ByteArray := code
theorem k_147 : (.methodLink "WallHouseLaw" 9 ⟨"WallHouse", "<init>", "()V"⟩ : Cond) ∈ lw_good := mg (cm_3 _ (List.mem_of_getElem? (i := 27) rfl)) rfl
theorem k_148 : (.instanceMethod ⟨"WallHouse", "<init>", "()V"⟩ : Cond) ∈ lw_good := mg (cm_3 _ (List.mem_of_getElem? (i := 28) rfl)) rfl
theorem mi_147 : MIw "WallHouseLaw" 9 yX11_init 0 1 cX11_init := ⟨Or.inl k_147, rfl, k_148, ⟨by decide, by decide⟩, by decide +kernel, k_149, k_117⟩
theorem k_1633 : (.methodLink "WallHouseLaw" 12 ⟨"WallHouseModel", "<init>", "()V"⟩ : Cond) ∈ lw_good := mg (cm_40 _ (List.mem_of_getElem? (i := 33) rfl)) rfl
theorem k_1634 : (.instanceMethod ⟨"WallHouseModel", "<init>", "()V"⟩ : Cond) ∈ lw_good := mg (cm_40 _ (List.mem_of_getElem? (i := 34) rfl)) rfl
theorem mi_1633 : MIw "WallHouseLaw" 12 yX15_init 0 2 cX15_init := ⟨Or.inl k_1633, rfl, k_1634, ⟨by decide, by decide⟩, by decide +kernel, k_1635, k_129⟩
theorem k_1631 : (.classLink "WallHouseLaw" 10 "WallHouseModel" : Cond) ∈ lw_good := mg (cm_40 _ (List.mem_of_getElem? (i := 31) rfl)) rfl
theorem k_1632 : (.instantiable "WallHouseModel" 106 : Cond) ∈ lw_good := mg (cm_40 _ (List.mem_of_getElem? (i := 32) rfl)) rfl
theorem cl_15 : CL 15 "WallHouseModel" 106 dX15 := ⟨TX15, tyX15, rfl, uw_15, tyX15_ok, fun _ _ => rfl, k_1632, k_129⟩
theorem k_145 : (.classLink "WallHouseLaw" 7 "WallHouse" : Cond) ∈ lw_good := mg (cm_3 _ (List.mem_of_getElem? (i := 25) rfl)) rfl
theorem k_146 : (.instantiable "WallHouse" 19 : Cond) ∈ lw_good := mg (cm_3 _ (List.mem_of_getElem? (i := 26) rfl)) rfl
theorem cl_11 : CL 11 "WallHouse" 19 dX11 := ⟨TX11, tyX11, rfl, uw_11, tyX11_ok, fun _ _ => rfl, k_146, k_117⟩
theorem k_618 : (.methodLink "WallHouseLaw" 13 ⟨"WallHouse", "wall", "(IIII)I"⟩ : Cond) ∈ lw_good := mg (cm_15 _ (List.mem_of_getElem? (i := 18) rfl)) rfl
theorem k_620 : (.selects "WallHouse" ⟨"WallHouse", "wall", "(IIII)I"⟩ ⟨"WallHouse", "wall", "(IIII)I"⟩ : Cond) ∈ lw_good := mg (cm_15 _ (List.mem_of_getElem? (i := 20) rfl)) rfl
theorem k_619 : (.instanceMethod ⟨"WallHouse", "wall", "(IIII)I"⟩ : Cond) ∈ lw_good := mg (cm_15 _ (List.mem_of_getElem? (i := 19) rfl)) rfl
theorem mv_618 : MVw "WallHouseLaw" 13 yX11_wall 4 5 11 := ⟨k_618, k_619, k_620, ⟨by decide, by decide⟩, by decide +kernel, Or.inl ⟨_, _, k_621⟩, k_117, ⟨_, _, rfl⟩, by decide⟩
theorem k_2105 : (.methodLink "WallHouseLaw" 17 ⟨"WallHouseModel", "wall", "(IIII)I"⟩ : Cond) ∈ lw_good := mg (cm_52 _ (List.mem_of_getElem? (i := 25) rfl)) rfl
theorem k_2107 : (.selects "WallHouseModel" ⟨"WallHouseModel", "wall", "(IIII)I"⟩ ⟨"WallHouseModel", "wall", "(IIII)I"⟩ : Cond) ∈ lw_good := mg (cm_52 _ (List.mem_of_getElem? (i := 27) rfl)) rfl
theorem k_2106 : (.instanceMethod ⟨"WallHouseModel", "wall", "(IIII)I"⟩ : Cond) ∈ lw_good := mg (cm_52 _ (List.mem_of_getElem? (i := 26) rfl)) rfl
theorem mv_2105 : MVw "WallHouseLaw" 17 yX15_wall 4 5 15 := ⟨k_2105, k_2106, k_2107, ⟨by decide, by decide⟩, by decide +kernel, Or.inl ⟨_, _, k_2108⟩, k_129, ⟨_, _, rfl⟩, by decide⟩
theorem k_716 : (.methodLink "WallHouseLaw" 18 ⟨"WallHouse", "about", "(II)I"⟩ : Cond) ∈ lw_good := mg (cm_17 _ (List.mem_of_getElem? (i := 36) rfl)) rfl
theorem k_718 : (.selects "WallHouse" ⟨"WallHouse", "about", "(II)I"⟩ ⟨"WallHouse", "about", "(II)I"⟩ : Cond) ∈ lw_good := mg (cm_17 _ (List.mem_of_getElem? (i := 38) rfl)) rfl
theorem k_717 : (.instanceMethod ⟨"WallHouse", "about", "(II)I"⟩ : Cond) ∈ lw_good := mg (cm_17 _ (List.mem_of_getElem? (i := 37) rfl)) rfl
theorem mv_716 : MVw "WallHouseLaw" 18 yX11_about 2 4 11 := ⟨k_716, k_717, k_718, ⟨by decide, by decide⟩, by decide +kernel, Or.inl ⟨_, _, k_719⟩, k_117, ⟨_, _, rfl⟩, by decide⟩
theorem k_2120 : (.methodLink "WallHouseLaw" 22 ⟨"WallHouseModel", "about", "(II)I"⟩ : Cond) ∈ lw_good := mg (cm_53 _ (List.mem_of_getElem? (i := 0) rfl)) rfl
theorem k_2122 : (.selects "WallHouseModel" ⟨"WallHouseModel", "about", "(II)I"⟩ ⟨"WallHouseModel", "about", "(II)I"⟩ : Cond) ∈ lw_good := mg (cm_53 _ (List.mem_of_getElem? (i := 2) rfl)) rfl
theorem k_2121 : (.instanceMethod ⟨"WallHouseModel", "about", "(II)I"⟩ : Cond) ∈ lw_good := mg (cm_53 _ (List.mem_of_getElem? (i := 1) rfl)) rfl
theorem mv_2120 : MVw "WallHouseLaw" 22 yX15_about 2 5 15 := ⟨k_2120, k_2121, k_2122, ⟨by decide, by decide⟩, by decide +kernel, Or.inl ⟨_, _, k_2123⟩, k_129, ⟨_, _, rfl⟩, by decide⟩
theorem k_740 : (.methodLink "WallHouseLaw" 23 ⟨"WallHouse", "hole", "(IIIII)I"⟩ : Cond) ∈ lw_good := mg (cm_18 _ (List.mem_of_getElem? (i := 20) rfl)) rfl
theorem k_742 : (.selects "WallHouse" ⟨"WallHouse", "hole", "(IIIII)I"⟩ ⟨"WallHouse", "hole", "(IIIII)I"⟩ : Cond) ∈ lw_good := mg (cm_18 _ (List.mem_of_getElem? (i := 22) rfl)) rfl
theorem k_741 : (.instanceMethod ⟨"WallHouse", "hole", "(IIIII)I"⟩ : Cond) ∈ lw_good := mg (cm_18 _ (List.mem_of_getElem? (i := 21) rfl)) rfl
theorem mv_740 : MVw "WallHouseLaw" 23 yX11_hole 5 7 11 := ⟨k_740, k_741, k_742, ⟨by decide, by decide⟩, by decide +kernel, Or.inl ⟨_, _, k_743⟩, k_117, ⟨_, _, rfl⟩, by decide⟩
theorem k_2140 : (.methodLink "WallHouseLaw" 27 ⟨"WallHouseModel", "hole", "(IIIII)I"⟩ : Cond) ∈ lw_good := mg (cm_53 _ (List.mem_of_getElem? (i := 20) rfl)) rfl
theorem k_2142 : (.selects "WallHouseModel" ⟨"WallHouseModel", "hole", "(IIIII)I"⟩ ⟨"WallHouseModel", "hole", "(IIIII)I"⟩ : Cond) ∈ lw_good := mg (cm_53 _ (List.mem_of_getElem? (i := 22) rfl)) rfl
theorem k_2141 : (.instanceMethod ⟨"WallHouseModel", "hole", "(IIIII)I"⟩ : Cond) ∈ lw_good := mg (cm_53 _ (List.mem_of_getElem? (i := 21) rfl)) rfl
theorem mv_2140 : MVw "WallHouseLaw" 27 yX15_hole 5 10 15 := ⟨k_2140, k_2141, k_2142, ⟨by decide, by decide⟩, by decide +kernel, Or.inl ⟨_, _, k_2143⟩, k_129, ⟨_, _, rfl⟩, by decide⟩
theorem k_773 : (.methodLink "WallHouseLaw" 33 ⟨"WallHouse", "sold", "(II)Z"⟩ : Cond) ∈ lw_good := mg (cm_19 _ (List.mem_of_getElem? (i := 13) rfl)) rfl
theorem k_775 : (.selects "WallHouse" ⟨"WallHouse", "sold", "(II)Z"⟩ ⟨"WallHouse", "sold", "(II)Z"⟩ : Cond) ∈ lw_good := mg (cm_19 _ (List.mem_of_getElem? (i := 15) rfl)) rfl
theorem k_774 : (.instanceMethod ⟨"WallHouse", "sold", "(II)Z"⟩ : Cond) ∈ lw_good := mg (cm_19 _ (List.mem_of_getElem? (i := 14) rfl)) rfl
theorem mv_773 : MVw "WallHouseLaw" 33 yX11_sold 2 4 11 := ⟨k_773, k_774, k_775, ⟨by decide, by decide⟩, by decide +kernel, Or.inl ⟨_, _, k_776⟩, k_117, ⟨_, _, rfl⟩, by decide⟩
theorem k_2160 : (.methodLink "WallHouseLaw" 37 ⟨"WallHouseModel", "sold", "(II)Z"⟩ : Cond) ∈ lw_good := mg (cm_54 _ (List.mem_of_getElem? (i := 0) rfl)) rfl
theorem k_2162 : (.selects "WallHouseModel" ⟨"WallHouseModel", "sold", "(II)Z"⟩ ⟨"WallHouseModel", "sold", "(II)Z"⟩ : Cond) ∈ lw_good := mg (cm_54 _ (List.mem_of_getElem? (i := 2) rfl)) rfl
theorem k_2161 : (.instanceMethod ⟨"WallHouseModel", "sold", "(II)Z"⟩ : Cond) ∈ lw_good := mg (cm_54 _ (List.mem_of_getElem? (i := 1) rfl)) rfl
theorem mv_2160 : MVw "WallHouseLaw" 37 yX15_sold 2 3 15 := ⟨k_2160, k_2161, k_2162, ⟨by decide, by decide⟩, by decide +kernel, Or.inl ⟨_, _, k_2163⟩, k_129, ⟨_, _, rfl⟩, by decide⟩
theorem k_795 : (.methodLink "WallHouseLaw" 43 ⟨"WallHouse", "minutes", "(III)Z"⟩ : Cond) ∈ lw_good := mg (cm_19 _ (List.mem_of_getElem? (i := 35) rfl)) rfl
theorem k_797 : (.selects "WallHouse" ⟨"WallHouse", "minutes", "(III)Z"⟩ ⟨"WallHouse", "minutes", "(III)Z"⟩ : Cond) ∈ lw_good := mg (cm_19 _ (List.mem_of_getElem? (i := 37) rfl)) rfl
theorem k_796 : (.instanceMethod ⟨"WallHouse", "minutes", "(III)Z"⟩ : Cond) ∈ lw_good := mg (cm_19 _ (List.mem_of_getElem? (i := 36) rfl)) rfl
theorem mv_795 : MVw "WallHouseLaw" 43 yX11_minutes 3 4 11 := ⟨k_795, k_796, k_797, ⟨by decide, by decide⟩, by decide +kernel, Or.inl ⟨_, _, k_798⟩, k_117, ⟨_, _, rfl⟩, by decide⟩
theorem k_2169 : (.methodLink "WallHouseLaw" 47 ⟨"WallHouseModel", "minutes", "(III)Z"⟩ : Cond) ∈ lw_good := mg (cm_54 _ (List.mem_of_getElem? (i := 9) rfl)) rfl
theorem k_2171 : (.selects "WallHouseModel" ⟨"WallHouseModel", "minutes", "(III)Z"⟩ ⟨"WallHouseModel", "minutes", "(III)Z"⟩ : Cond) ∈ lw_good := mg (cm_54 _ (List.mem_of_getElem? (i := 11) rfl)) rfl
theorem k_2170 : (.instanceMethod ⟨"WallHouseModel", "minutes", "(III)Z"⟩ : Cond) ∈ lw_good := mg (cm_54 _ (List.mem_of_getElem? (i := 10) rfl)) rfl
theorem mv_2169 : MVw "WallHouseLaw" 47 yX15_minutes 3 4 15 := ⟨k_2169, k_2170, k_2171, ⟨by decide, by decide⟩, by decide +kernel, Or.inl ⟨_, _, k_2172⟩, k_129, ⟨_, _, rfl⟩, by decide⟩
theorem k_803 : (.methodLink "WallHouseLaw" 48 ⟨"WallHouse", "feed", "(IIIII)I"⟩ : Cond) ∈ lw_good := mg (cm_20 _ (List.mem_of_getElem? (i := 3) rfl)) rfl
theorem k_805 : (.selects "WallHouse" ⟨"WallHouse", "feed", "(IIIII)I"⟩ ⟨"WallHouse", "feed", "(IIIII)I"⟩ : Cond) ∈ lw_good := mg (cm_20 _ (List.mem_of_getElem? (i := 5) rfl)) rfl
theorem k_804 : (.instanceMethod ⟨"WallHouse", "feed", "(IIIII)I"⟩ : Cond) ∈ lw_good := mg (cm_20 _ (List.mem_of_getElem? (i := 4) rfl)) rfl
theorem mv_803 : MVw "WallHouseLaw" 48 yX11_feed 5 6 11 := ⟨k_803, k_804, k_805, ⟨by decide, by decide⟩, by decide +kernel, Or.inl ⟨_, _, k_806⟩, k_117, ⟨_, _, rfl⟩, by decide⟩
theorem k_2173 : (.methodLink "WallHouseLaw" 51 ⟨"WallHouseModel", "feed", "(IIIII)I"⟩ : Cond) ∈ lw_good := mg (cm_54 _ (List.mem_of_getElem? (i := 13) rfl)) rfl
theorem k_2175 : (.selects "WallHouseModel" ⟨"WallHouseModel", "feed", "(IIIII)I"⟩ ⟨"WallHouseModel", "feed", "(IIIII)I"⟩ : Cond) ∈ lw_good := mg (cm_54 _ (List.mem_of_getElem? (i := 15) rfl)) rfl
theorem k_2174 : (.instanceMethod ⟨"WallHouseModel", "feed", "(IIIII)I"⟩ : Cond) ∈ lw_good := mg (cm_54 _ (List.mem_of_getElem? (i := 14) rfl)) rfl
theorem mv_2173 : MVw "WallHouseLaw" 51 yX15_feed 5 8 15 := ⟨k_2173, k_2174, k_2175, ⟨by decide, by decide⟩, by decide +kernel, Or.inl ⟨_, _, k_2176⟩, k_129, ⟨_, _, rfl⟩, by decide⟩
theorem k_811 : (.methodLink "WallHouseLaw" 52 ⟨"WallHouse", "drawing", "(I)I"⟩ : Cond) ∈ lw_good := mg (cm_20 _ (List.mem_of_getElem? (i := 11) rfl)) rfl
theorem k_813 : (.selects "WallHouse" ⟨"WallHouse", "drawing", "(I)I"⟩ ⟨"WallHouse", "drawing", "(I)I"⟩ : Cond) ∈ lw_good := mg (cm_20 _ (List.mem_of_getElem? (i := 13) rfl)) rfl
theorem k_812 : (.instanceMethod ⟨"WallHouse", "drawing", "(I)I"⟩ : Cond) ∈ lw_good := mg (cm_20 _ (List.mem_of_getElem? (i := 12) rfl)) rfl
theorem mv_811 : MVw "WallHouseLaw" 52 yX11_drawing 1 2 11 := ⟨k_811, k_812, k_813, ⟨by decide, by decide⟩, by decide +kernel, Or.inl ⟨_, _, k_814⟩, k_117, ⟨_, _, rfl⟩, by decide⟩
theorem k_2185 : (.methodLink "WallHouseLaw" 56 ⟨"WallHouseModel", "drawing", "(I)I"⟩ : Cond) ∈ lw_good := mg (cm_54 _ (List.mem_of_getElem? (i := 25) rfl)) rfl
theorem k_2187 : (.selects "WallHouseModel" ⟨"WallHouseModel", "drawing", "(I)I"⟩ ⟨"WallHouseModel", "drawing", "(I)I"⟩ : Cond) ∈ lw_good := mg (cm_54 _ (List.mem_of_getElem? (i := 27) rfl)) rfl
theorem k_2186 : (.instanceMethod ⟨"WallHouseModel", "drawing", "(I)I"⟩ : Cond) ∈ lw_good := mg (cm_54 _ (List.mem_of_getElem? (i := 26) rfl)) rfl
theorem mv_2185 : MVw "WallHouseLaw" 56 yX15_drawing 1 3 15 := ⟨k_2185, k_2186, k_2187, ⟨by decide, by decide⟩, by decide +kernel, Or.inr ⟨_, _, _, k_2188⟩, k_129, ⟨_, _, rfl⟩, by decide⟩
theorem k_1090 : (.methodLink "WallHouseLaw" 57 ⟨"WallHouse", "bar", "(I)I"⟩ : Cond) ∈ lw_good := mg (cm_27 _ (List.mem_of_getElem? (i := 10) rfl)) rfl
theorem k_1092 : (.selects "WallHouse" ⟨"WallHouse", "bar", "(I)I"⟩ ⟨"WallHouse", "bar", "(I)I"⟩ : Cond) ∈ lw_good := mg (cm_27 _ (List.mem_of_getElem? (i := 12) rfl)) rfl
theorem k_1091 : (.instanceMethod ⟨"WallHouse", "bar", "(I)I"⟩ : Cond) ∈ lw_good := mg (cm_27 _ (List.mem_of_getElem? (i := 11) rfl)) rfl
theorem mv_1090 : MVw "WallHouseLaw" 57 yX11_bar 1 3 11 := ⟨k_1090, k_1091, k_1092, ⟨by decide, by decide⟩, by decide +kernel, Or.inl ⟨_, _, k_1093⟩, k_117, ⟨_, _, rfl⟩, by decide⟩
theorem k_2307 : (.methodLink "WallHouseLaw" 60 ⟨"WallHouseModel", "bar", "(I)I"⟩ : Cond) ∈ lw_good := mg (cm_57 _ (List.mem_of_getElem? (i := 27) rfl)) rfl
theorem k_2309 : (.selects "WallHouseModel" ⟨"WallHouseModel", "bar", "(I)I"⟩ ⟨"WallHouseModel", "bar", "(I)I"⟩ : Cond) ∈ lw_good := mg (cm_57 _ (List.mem_of_getElem? (i := 29) rfl)) rfl
theorem k_2308 : (.instanceMethod ⟨"WallHouseModel", "bar", "(I)I"⟩ : Cond) ∈ lw_good := mg (cm_57 _ (List.mem_of_getElem? (i := 28) rfl)) rfl
theorem mv_2307 : MVw "WallHouseLaw" 60 yX15_bar 1 5 15 := ⟨k_2307, k_2308, k_2309, ⟨by decide, by decide⟩, by decide +kernel, Or.inl ⟨_, _, k_2310⟩, k_129, ⟨_, _, rfl⟩, by decide⟩
theorem k_1104 : (.methodLink "WallHouseLaw" 61 ⟨"WallHouse", "right", "(I)I"⟩ : Cond) ∈ lw_good := mg (cm_27 _ (List.mem_of_getElem? (i := 24) rfl)) rfl
theorem k_1106 : (.selects "WallHouse" ⟨"WallHouse", "right", "(I)I"⟩ ⟨"WallHouse", "right", "(I)I"⟩ : Cond) ∈ lw_good := mg (cm_27 _ (List.mem_of_getElem? (i := 26) rfl)) rfl
theorem k_1105 : (.instanceMethod ⟨"WallHouse", "right", "(I)I"⟩ : Cond) ∈ lw_good := mg (cm_27 _ (List.mem_of_getElem? (i := 25) rfl)) rfl
theorem mv_1104 : MVw "WallHouseLaw" 61 yX11_right 1 2 11 := ⟨k_1104, k_1105, k_1106, ⟨by decide, by decide⟩, by decide +kernel, Or.inl ⟨_, _, k_1107⟩, k_117, ⟨_, _, rfl⟩, by decide⟩
theorem k_2530 : (.methodLink "WallHouseLaw" 64 ⟨"WallHouseModel", "right", "(I)I"⟩ : Cond) ∈ lw_good := mg (cm_63 _ (List.mem_of_getElem? (i := 10) rfl)) rfl
theorem k_2532 : (.selects "WallHouseModel" ⟨"WallHouseModel", "right", "(I)I"⟩ ⟨"WallHouseModel", "right", "(I)I"⟩ : Cond) ∈ lw_good := mg (cm_63 _ (List.mem_of_getElem? (i := 12) rfl)) rfl
theorem k_2531 : (.instanceMethod ⟨"WallHouseModel", "right", "(I)I"⟩ : Cond) ∈ lw_good := mg (cm_63 _ (List.mem_of_getElem? (i := 11) rfl)) rfl
theorem mv_2530 : MVw "WallHouseLaw" 64 yX15_right 1 3 15 := ⟨k_2530, k_2531, k_2532, ⟨by decide, by decide⟩, by decide +kernel, Or.inr ⟨_, _, _, k_2533⟩, k_129, ⟨_, _, rfl⟩, by decide⟩
theorem k_1130 : (.methodLink "WallHouseLaw" 65 ⟨"WallHouse", "fault", "()I"⟩ : Cond) ∈ lw_good := mg (cm_28 _ (List.mem_of_getElem? (i := 10) rfl)) rfl
theorem k_1132 : (.selects "WallHouse" ⟨"WallHouse", "fault", "()I"⟩ ⟨"WallHouse", "fault", "()I"⟩ : Cond) ∈ lw_good := mg (cm_28 _ (List.mem_of_getElem? (i := 12) rfl)) rfl
theorem k_1131 : (.instanceMethod ⟨"WallHouse", "fault", "()I"⟩ : Cond) ∈ lw_good := mg (cm_28 _ (List.mem_of_getElem? (i := 11) rfl)) rfl
theorem mv_1130 : MVw "WallHouseLaw" 65 yX11_fault 0 1 11 := ⟨k_1130, k_1131, k_1132, ⟨by decide, by decide⟩, by decide +kernel, Or.inl ⟨_, _, k_1133⟩, k_117, ⟨_, _, rfl⟩, by decide⟩
theorem k_2177 : (.methodLink "WallHouseLaw" 69 ⟨"WallHouseModel", "fault", "()I"⟩ : Cond) ∈ lw_good := mg (cm_54 _ (List.mem_of_getElem? (i := 17) rfl)) rfl
theorem k_2179 : (.selects "WallHouseModel" ⟨"WallHouseModel", "fault", "()I"⟩ ⟨"WallHouseModel", "fault", "()I"⟩ : Cond) ∈ lw_good := mg (cm_54 _ (List.mem_of_getElem? (i := 19) rfl)) rfl
theorem k_2178 : (.instanceMethod ⟨"WallHouseModel", "fault", "()I"⟩ : Cond) ∈ lw_good := mg (cm_54 _ (List.mem_of_getElem? (i := 18) rfl)) rfl
theorem mv_2177 : MVw "WallHouseLaw" 69 yX15_fault 0 1 15 := ⟨k_2177, k_2178, k_2179, ⟨by decide, by decide⟩, by decide +kernel, Or.inl ⟨_, _, k_2180⟩, k_129, ⟨_, _, rfl⟩, by decide⟩
theorem k_1134 : (.methodLink "WallHouseLaw" 70 ⟨"WallHouse", "where", "()I"⟩ : Cond) ∈ lw_good := mg (cm_28 _ (List.mem_of_getElem? (i := 14) rfl)) rfl
theorem k_1136 : (.selects "WallHouse" ⟨"WallHouse", "where", "()I"⟩ ⟨"WallHouse", "where", "()I"⟩ : Cond) ∈ lw_good := mg (cm_28 _ (List.mem_of_getElem? (i := 16) rfl)) rfl
theorem k_1135 : (.instanceMethod ⟨"WallHouse", "where", "()I"⟩ : Cond) ∈ lw_good := mg (cm_28 _ (List.mem_of_getElem? (i := 15) rfl)) rfl
theorem mv_1134 : MVw "WallHouseLaw" 70 yX11_where 0 1 11 := ⟨k_1134, k_1135, k_1136, ⟨by decide, by decide⟩, by decide +kernel, Or.inl ⟨_, _, k_1137⟩, k_117, ⟨_, _, rfl⟩, by decide⟩
theorem k_2181 : (.methodLink "WallHouseLaw" 73 ⟨"WallHouseModel", "where", "()I"⟩ : Cond) ∈ lw_good := mg (cm_54 _ (List.mem_of_getElem? (i := 21) rfl)) rfl
theorem k_2183 : (.selects "WallHouseModel" ⟨"WallHouseModel", "where", "()I"⟩ ⟨"WallHouseModel", "where", "()I"⟩ : Cond) ∈ lw_good := mg (cm_54 _ (List.mem_of_getElem? (i := 23) rfl)) rfl
theorem k_2182 : (.instanceMethod ⟨"WallHouseModel", "where", "()I"⟩ : Cond) ∈ lw_good := mg (cm_54 _ (List.mem_of_getElem? (i := 22) rfl)) rfl
theorem mv_2181 : MVw "WallHouseLaw" 73 yX15_where 0 1 15 := ⟨k_2181, k_2182, k_2183, ⟨by decide, by decide⟩, by decide +kernel, Or.inl ⟨_, _, k_2184⟩, k_129, ⟨_, _, rfl⟩, by decide⟩
theorem k_1138 : (.methodLink "WallHouseLaw" 74 ⟨"WallHouse", "sketch", "(II)I"⟩ : Cond) ∈ lw_good := mg (cm_28 _ (List.mem_of_getElem? (i := 18) rfl)) rfl
theorem k_1140 : (.selects "WallHouse" ⟨"WallHouse", "sketch", "(II)I"⟩ ⟨"WallHouse", "sketch", "(II)I"⟩ : Cond) ∈ lw_good := mg (cm_28 _ (List.mem_of_getElem? (i := 20) rfl)) rfl
theorem k_1139 : (.instanceMethod ⟨"WallHouse", "sketch", "(II)I"⟩ : Cond) ∈ lw_good := mg (cm_28 _ (List.mem_of_getElem? (i := 19) rfl)) rfl
theorem mv_1138 : MVw "WallHouseLaw" 74 yX11_sketch 2 5 11 := ⟨k_1138, k_1139, k_1140, ⟨by decide, by decide⟩, by decide +kernel, Or.inl ⟨_, _, k_1141⟩, k_117, ⟨_, _, rfl⟩, by decide⟩
theorem k_2311 : (.methodLink "WallHouseLaw" 77 ⟨"WallHouseModel", "sketch", "(II)I"⟩ : Cond) ∈ lw_good := mg (cm_57 _ (List.mem_of_getElem? (i := 31) rfl)) rfl
theorem k_2313 : (.selects "WallHouseModel" ⟨"WallHouseModel", "sketch", "(II)I"⟩ ⟨"WallHouseModel", "sketch", "(II)I"⟩ : Cond) ∈ lw_good := mg (cm_57 _ (List.mem_of_getElem? (i := 33) rfl)) rfl
theorem k_2312 : (.instanceMethod ⟨"WallHouseModel", "sketch", "(II)I"⟩ : Cond) ∈ lw_good := mg (cm_57 _ (List.mem_of_getElem? (i := 32) rfl)) rfl
theorem mv_2311 : MVw "WallHouseLaw" 77 yX15_sketch 2 5 15 := ⟨k_2311, k_2312, k_2313, ⟨by decide, by decide⟩, by decide +kernel, Or.inl ⟨_, _, k_2314⟩, k_129, ⟨_, _, rfl⟩, by decide⟩
theorem k_1223 : (.methodLink "WallHouseLaw" 78 ⟨"WallHouse", "sketched", "(II)I"⟩ : Cond) ∈ lw_good := mg (cm_30 _ (List.mem_of_getElem? (i := 23) rfl)) rfl
theorem k_1225 : (.selects "WallHouse" ⟨"WallHouse", "sketched", "(II)I"⟩ ⟨"WallHouse", "sketched", "(II)I"⟩ : Cond) ∈ lw_good := mg (cm_30 _ (List.mem_of_getElem? (i := 25) rfl)) rfl
theorem k_1224 : (.instanceMethod ⟨"WallHouse", "sketched", "(II)I"⟩ : Cond) ∈ lw_good := mg (cm_30 _ (List.mem_of_getElem? (i := 24) rfl)) rfl
theorem mv_1223 : MVw "WallHouseLaw" 78 yX11_sketched 2 4 11 := ⟨k_1223, k_1224, k_1225, ⟨by decide, by decide⟩, by decide +kernel, Or.inl ⟨_, _, k_1226⟩, k_117, ⟨_, _, rfl⟩, by decide⟩
theorem k_2355 : (.methodLink "WallHouseLaw" 81 ⟨"WallHouseModel", "sketched", "(II)I"⟩ : Cond) ∈ lw_good := mg (cm_58 _ (List.mem_of_getElem? (i := 35) rfl)) rfl
theorem k_2357 : (.selects "WallHouseModel" ⟨"WallHouseModel", "sketched", "(II)I"⟩ ⟨"WallHouseModel", "sketched", "(II)I"⟩ : Cond) ∈ lw_good := mg (cm_58 _ (List.mem_of_getElem? (i := 37) rfl)) rfl
theorem k_2356 : (.instanceMethod ⟨"WallHouseModel", "sketched", "(II)I"⟩ : Cond) ∈ lw_good := mg (cm_58 _ (List.mem_of_getElem? (i := 36) rfl)) rfl
theorem mv_2355 : MVw "WallHouseLaw" 81 yX15_sketched 2 4 15 := ⟨k_2355, k_2356, k_2357, ⟨by decide, by decide⟩, by decide +kernel, Or.inl ⟨_, _, k_2358⟩, k_129, ⟨_, _, rfl⟩, by decide⟩
theorem k_1232 : (.methodLink "WallHouseLaw" 82 ⟨"WallHouse", "sketchOf", "(I)I"⟩ : Cond) ∈ lw_good := mg (cm_30 _ (List.mem_of_getElem? (i := 32) rfl)) rfl
theorem k_1234 : (.selects "WallHouse" ⟨"WallHouse", "sketchOf", "(I)I"⟩ ⟨"WallHouse", "sketchOf", "(I)I"⟩ : Cond) ∈ lw_good := mg (cm_30 _ (List.mem_of_getElem? (i := 34) rfl)) rfl
theorem k_1233 : (.instanceMethod ⟨"WallHouse", "sketchOf", "(I)I"⟩ : Cond) ∈ lw_good := mg (cm_30 _ (List.mem_of_getElem? (i := 33) rfl)) rfl
theorem mv_1232 : MVw "WallHouseLaw" 82 yX11_sketchOf 1 2 11 := ⟨k_1232, k_1233, k_1234, ⟨by decide, by decide⟩, by decide +kernel, Or.inl ⟨_, _, k_1235⟩, k_117, ⟨_, _, rfl⟩, by decide⟩
theorem k_2359 : (.methodLink "WallHouseLaw" 85 ⟨"WallHouseModel", "sketchOf", "(I)I"⟩ : Cond) ∈ lw_good := mg (cm_58 _ (List.mem_of_getElem? (i := 39) rfl)) rfl
theorem k_2361 : (.selects "WallHouseModel" ⟨"WallHouseModel", "sketchOf", "(I)I"⟩ ⟨"WallHouseModel", "sketchOf", "(I)I"⟩ : Cond) ∈ lw_good := mg (cm_59 _ (List.mem_of_getElem? (i := 1) rfl)) rfl
theorem k_2360 : (.instanceMethod ⟨"WallHouseModel", "sketchOf", "(I)I"⟩ : Cond) ∈ lw_good := mg (cm_59 _ (List.mem_of_getElem? (i := 0) rfl)) rfl
theorem mv_2359 : MVw "WallHouseLaw" 85 yX15_sketchOf 1 4 15 := ⟨k_2359, k_2360, k_2361, ⟨by decide, by decide⟩, by decide +kernel, Or.inl ⟨_, _, k_2362⟩, k_129, ⟨_, _, rfl⟩, by decide⟩
theorem k_1243 : (.methodLink "WallHouseLaw" 86 ⟨"WallHouse", "unlike", "(I)I"⟩ : Cond) ∈ lw_good := mg (cm_31 _ (List.mem_of_getElem? (i := 3) rfl)) rfl
theorem k_1245 : (.selects "WallHouse" ⟨"WallHouse", "unlike", "(I)I"⟩ ⟨"WallHouse", "unlike", "(I)I"⟩ : Cond) ∈ lw_good := mg (cm_31 _ (List.mem_of_getElem? (i := 5) rfl)) rfl
theorem k_1244 : (.instanceMethod ⟨"WallHouse", "unlike", "(I)I"⟩ : Cond) ∈ lw_good := mg (cm_31 _ (List.mem_of_getElem? (i := 4) rfl)) rfl
theorem mv_1243 : MVw "WallHouseLaw" 86 yX11_unlike 1 5 11 := ⟨k_1243, k_1244, k_1245, ⟨by decide, by decide⟩, by decide +kernel, Or.inl ⟨_, _, k_1246⟩, k_117, ⟨_, _, rfl⟩, by decide⟩
theorem k_2363 : (.methodLink "WallHouseLaw" 89 ⟨"WallHouseModel", "unlike", "(I)I"⟩ : Cond) ∈ lw_good := mg (cm_59 _ (List.mem_of_getElem? (i := 3) rfl)) rfl
theorem k_2365 : (.selects "WallHouseModel" ⟨"WallHouseModel", "unlike", "(I)I"⟩ ⟨"WallHouseModel", "unlike", "(I)I"⟩ : Cond) ∈ lw_good := mg (cm_59 _ (List.mem_of_getElem? (i := 5) rfl)) rfl
theorem k_2364 : (.instanceMethod ⟨"WallHouseModel", "unlike", "(I)I"⟩ : Cond) ∈ lw_good := mg (cm_59 _ (List.mem_of_getElem? (i := 4) rfl)) rfl
theorem mv_2363 : MVw "WallHouseLaw" 89 yX15_unlike 1 4 15 := ⟨k_2363, k_2364, k_2365, ⟨by decide, by decide⟩, by decide +kernel, Or.inl ⟨_, _, k_2366⟩, k_129, ⟨_, _, rfl⟩, by decide⟩
theorem k_1247 : (.methodLink "WallHouseLaw" 90 ⟨"WallHouse", "painter", "(II)I"⟩ : Cond) ∈ lw_good := mg (cm_31 _ (List.mem_of_getElem? (i := 7) rfl)) rfl
theorem k_1249 : (.selects "WallHouse" ⟨"WallHouse", "painter", "(II)I"⟩ ⟨"WallHouse", "painter", "(II)I"⟩ : Cond) ∈ lw_good := mg (cm_31 _ (List.mem_of_getElem? (i := 9) rfl)) rfl
theorem k_1248 : (.instanceMethod ⟨"WallHouse", "painter", "(II)I"⟩ : Cond) ∈ lw_good := mg (cm_31 _ (List.mem_of_getElem? (i := 8) rfl)) rfl
theorem mv_1247 : MVw "WallHouseLaw" 90 yX11_painter 2 3 11 := ⟨k_1247, k_1248, k_1249, ⟨by decide, by decide⟩, by decide +kernel, Or.inl ⟨_, _, k_1250⟩, k_117, ⟨_, _, rfl⟩, by decide⟩
theorem k_2367 : (.methodLink "WallHouseLaw" 93 ⟨"WallHouseModel", "painter", "(II)I"⟩ : Cond) ∈ lw_good := mg (cm_59 _ (List.mem_of_getElem? (i := 7) rfl)) rfl
theorem k_2369 : (.selects "WallHouseModel" ⟨"WallHouseModel", "painter", "(II)I"⟩ ⟨"WallHouseModel", "painter", "(II)I"⟩ : Cond) ∈ lw_good := mg (cm_59 _ (List.mem_of_getElem? (i := 9) rfl)) rfl
theorem k_2368 : (.instanceMethod ⟨"WallHouseModel", "painter", "(II)I"⟩ : Cond) ∈ lw_good := mg (cm_59 _ (List.mem_of_getElem? (i := 8) rfl)) rfl
theorem mv_2367 : MVw "WallHouseLaw" 93 yX15_painter 2 3 15 := ⟨k_2367, k_2368, k_2369, ⟨by decide, by decide⟩, by decide +kernel, Or.inl ⟨_, _, k_2370⟩, k_129, ⟨_, _, rfl⟩, by decide⟩
theorem k_1255 : (.methodLink "WallHouseLaw" 94 ⟨"WallHouse", "wish", "(III)Z"⟩ : Cond) ∈ lw_good := mg (cm_31 _ (List.mem_of_getElem? (i := 15) rfl)) rfl
theorem k_1257 : (.selects "WallHouse" ⟨"WallHouse", "wish", "(III)Z"⟩ ⟨"WallHouse", "wish", "(III)Z"⟩ : Cond) ∈ lw_good := mg (cm_31 _ (List.mem_of_getElem? (i := 17) rfl)) rfl
theorem k_1256 : (.instanceMethod ⟨"WallHouse", "wish", "(III)Z"⟩ : Cond) ∈ lw_good := mg (cm_31 _ (List.mem_of_getElem? (i := 16) rfl)) rfl
theorem mv_1255 : MVw "WallHouseLaw" 94 yX11_wish 3 4 11 := ⟨k_1255, k_1256, k_1257, ⟨by decide, by decide⟩, by decide +kernel, Or.inl ⟨_, _, k_1258⟩, k_117, ⟨_, _, rfl⟩, by decide⟩
theorem k_2371 : (.methodLink "WallHouseLaw" 97 ⟨"WallHouseModel", "wish", "(III)Z"⟩ : Cond) ∈ lw_good := mg (cm_59 _ (List.mem_of_getElem? (i := 11) rfl)) rfl
theorem k_2373 : (.selects "WallHouseModel" ⟨"WallHouseModel", "wish", "(III)Z"⟩ ⟨"WallHouseModel", "wish", "(III)Z"⟩ : Cond) ∈ lw_good := mg (cm_59 _ (List.mem_of_getElem? (i := 13) rfl)) rfl
theorem k_2372 : (.instanceMethod ⟨"WallHouseModel", "wish", "(III)Z"⟩ : Cond) ∈ lw_good := mg (cm_59 _ (List.mem_of_getElem? (i := 12) rfl)) rfl
theorem mv_2371 : MVw "WallHouseLaw" 97 yX15_wish 3 4 15 := ⟨k_2371, k_2372, k_2373, ⟨by decide, by decide⟩, by decide +kernel, Or.inl ⟨_, _, k_2374⟩, k_129, ⟨_, _, rfl⟩, by decide⟩
theorem k_1275 : (.methodLink "WallHouseLaw" 98 ⟨"WallHouse", "vote", "(IIII)Z"⟩ : Cond) ∈ lw_good := mg (cm_31 _ (List.mem_of_getElem? (i := 35) rfl)) rfl
theorem k_1277 : (.selects "WallHouse" ⟨"WallHouse", "vote", "(IIII)Z"⟩ ⟨"WallHouse", "vote", "(IIII)Z"⟩ : Cond) ∈ lw_good := mg (cm_31 _ (List.mem_of_getElem? (i := 37) rfl)) rfl
theorem k_1276 : (.instanceMethod ⟨"WallHouse", "vote", "(IIII)Z"⟩ : Cond) ∈ lw_good := mg (cm_31 _ (List.mem_of_getElem? (i := 36) rfl)) rfl
theorem mv_1275 : MVw "WallHouseLaw" 98 yX11_vote 4 5 11 := ⟨k_1275, k_1276, k_1277, ⟨by decide, by decide⟩, by decide +kernel, Or.inl ⟨_, _, k_1278⟩, k_117, ⟨_, _, rfl⟩, by decide⟩
theorem k_2379 : (.methodLink "WallHouseLaw" 102 ⟨"WallHouseModel", "vote", "(IIII)Z"⟩ : Cond) ∈ lw_good := mg (cm_59 _ (List.mem_of_getElem? (i := 19) rfl)) rfl
theorem k_2381 : (.selects "WallHouseModel" ⟨"WallHouseModel", "vote", "(IIII)Z"⟩ ⟨"WallHouseModel", "vote", "(IIII)Z"⟩ : Cond) ∈ lw_good := mg (cm_59 _ (List.mem_of_getElem? (i := 21) rfl)) rfl
theorem k_2380 : (.instanceMethod ⟨"WallHouseModel", "vote", "(IIII)Z"⟩ : Cond) ∈ lw_good := mg (cm_59 _ (List.mem_of_getElem? (i := 20) rfl)) rfl
theorem mv_2379 : MVw "WallHouseLaw" 102 yX15_vote 4 6 15 := ⟨k_2379, k_2380, k_2381, ⟨by decide, by decide⟩, by decide +kernel, Or.inl ⟨_, _, k_2382⟩, k_129, ⟨_, _, rfl⟩, by decide⟩
theorem k_1287 : (.methodLink "WallHouseLaw" 103 ⟨"WallHouse", "liked", "(II)I"⟩ : Cond) ∈ lw_good := mg (cm_32 _ (List.mem_of_getElem? (i := 7) rfl)) rfl
theorem k_1289 : (.selects "WallHouse" ⟨"WallHouse", "liked", "(II)I"⟩ ⟨"WallHouse", "liked", "(II)I"⟩ : Cond) ∈ lw_good := mg (cm_32 _ (List.mem_of_getElem? (i := 9) rfl)) rfl
theorem k_1288 : (.instanceMethod ⟨"WallHouse", "liked", "(II)I"⟩ : Cond) ∈ lw_good := mg (cm_32 _ (List.mem_of_getElem? (i := 8) rfl)) rfl
theorem mv_1287 : MVw "WallHouseLaw" 103 yX11_liked 2 3 11 := ⟨k_1287, k_1288, k_1289, ⟨by decide, by decide⟩, by decide +kernel, Or.inl ⟨_, _, k_1290⟩, k_117, ⟨_, _, rfl⟩, by decide⟩
theorem k_2383 : (.methodLink "WallHouseLaw" 106 ⟨"WallHouseModel", "liked", "(II)I"⟩ : Cond) ∈ lw_good := mg (cm_59 _ (List.mem_of_getElem? (i := 23) rfl)) rfl
theorem k_2385 : (.selects "WallHouseModel" ⟨"WallHouseModel", "liked", "(II)I"⟩ ⟨"WallHouseModel", "liked", "(II)I"⟩ : Cond) ∈ lw_good := mg (cm_59 _ (List.mem_of_getElem? (i := 25) rfl)) rfl
theorem k_2384 : (.instanceMethod ⟨"WallHouseModel", "liked", "(II)I"⟩ : Cond) ∈ lw_good := mg (cm_59 _ (List.mem_of_getElem? (i := 24) rfl)) rfl
theorem mv_2383 : MVw "WallHouseLaw" 106 yX15_liked 2 3 15 := ⟨k_2383, k_2384, k_2385, ⟨by decide, by decide⟩, by decide +kernel, Or.inl ⟨_, _, k_2386⟩, k_129, ⟨_, _, rfl⟩, by decide⟩
theorem k_1295 : (.methodLink "WallHouseLaw" 107 ⟨"WallHouse", "give", "(I)I"⟩ : Cond) ∈ lw_good := mg (cm_32 _ (List.mem_of_getElem? (i := 15) rfl)) rfl
theorem k_1297 : (.selects "WallHouse" ⟨"WallHouse", "give", "(I)I"⟩ ⟨"WallHouse", "give", "(I)I"⟩ : Cond) ∈ lw_good := mg (cm_32 _ (List.mem_of_getElem? (i := 17) rfl)) rfl
theorem k_1296 : (.instanceMethod ⟨"WallHouse", "give", "(I)I"⟩ : Cond) ∈ lw_good := mg (cm_32 _ (List.mem_of_getElem? (i := 16) rfl)) rfl
theorem mv_1295 : MVw "WallHouseLaw" 107 yX11_give 1 2 11 := ⟨k_1295, k_1296, k_1297, ⟨by decide, by decide⟩, by decide +kernel, Or.inl ⟨_, _, k_1298⟩, k_117, ⟨_, _, rfl⟩, by decide⟩
theorem k_2391 : (.methodLink "WallHouseLaw" 110 ⟨"WallHouseModel", "give", "(I)I"⟩ : Cond) ∈ lw_good := mg (cm_59 _ (List.mem_of_getElem? (i := 31) rfl)) rfl
theorem k_2393 : (.selects "WallHouseModel" ⟨"WallHouseModel", "give", "(I)I"⟩ ⟨"WallHouseModel", "give", "(I)I"⟩ : Cond) ∈ lw_good := mg (cm_59 _ (List.mem_of_getElem? (i := 33) rfl)) rfl
theorem k_2392 : (.instanceMethod ⟨"WallHouseModel", "give", "(I)I"⟩ : Cond) ∈ lw_good := mg (cm_59 _ (List.mem_of_getElem? (i := 32) rfl)) rfl
theorem mv_2391 : MVw "WallHouseLaw" 110 yX15_give 1 5 15 := ⟨k_2391, k_2392, k_2393, ⟨by decide, by decide⟩, by decide +kernel, Or.inl ⟨_, _, k_2394⟩, k_129, ⟨_, _, rfl⟩, by decide⟩
theorem k_1369 : (.methodLink "WallHouseLaw" 111 ⟨"WallHouse", "given", "(I)I"⟩ : Cond) ∈ lw_good := mg (cm_34 _ (List.mem_of_getElem? (i := 9) rfl)) rfl
theorem k_1371 : (.selects "WallHouse" ⟨"WallHouse", "given", "(I)I"⟩ ⟨"WallHouse", "given", "(I)I"⟩ : Cond) ∈ lw_good := mg (cm_34 _ (List.mem_of_getElem? (i := 11) rfl)) rfl
theorem k_1370 : (.instanceMethod ⟨"WallHouse", "given", "(I)I"⟩ : Cond) ∈ lw_good := mg (cm_34 _ (List.mem_of_getElem? (i := 10) rfl)) rfl
theorem mv_1369 : MVw "WallHouseLaw" 111 yX11_given 1 2 11 := ⟨k_1369, k_1370, k_1371, ⟨by decide, by decide⟩, by decide +kernel, Or.inl ⟨_, _, k_1372⟩, k_117, ⟨_, _, rfl⟩, by decide⟩
theorem k_2410 : (.methodLink "WallHouseLaw" 114 ⟨"WallHouseModel", "given", "(I)I"⟩ : Cond) ∈ lw_good := mg (cm_60 _ (List.mem_of_getElem? (i := 10) rfl)) rfl
theorem k_2412 : (.selects "WallHouseModel" ⟨"WallHouseModel", "given", "(I)I"⟩ ⟨"WallHouseModel", "given", "(I)I"⟩ : Cond) ∈ lw_good := mg (cm_60 _ (List.mem_of_getElem? (i := 12) rfl)) rfl
theorem k_2411 : (.instanceMethod ⟨"WallHouseModel", "given", "(I)I"⟩ : Cond) ∈ lw_good := mg (cm_60 _ (List.mem_of_getElem? (i := 11) rfl)) rfl
theorem mv_2410 : MVw "WallHouseLaw" 114 yX15_given 1 2 15 := ⟨k_2410, k_2411, k_2412, ⟨by decide, by decide⟩, by decide +kernel, Or.inl ⟨_, _, k_2413⟩, k_129, ⟨_, _, rfl⟩, by decide⟩
theorem k_1377 : (.methodLink "WallHouseLaw" 115 ⟨"WallHouse", "work", "(III)I"⟩ : Cond) ∈ lw_good := mg (cm_34 _ (List.mem_of_getElem? (i := 17) rfl)) rfl
theorem k_1379 : (.selects "WallHouse" ⟨"WallHouse", "work", "(III)I"⟩ ⟨"WallHouse", "work", "(III)I"⟩ : Cond) ∈ lw_good := mg (cm_34 _ (List.mem_of_getElem? (i := 19) rfl)) rfl
theorem k_1378 : (.instanceMethod ⟨"WallHouse", "work", "(III)I"⟩ : Cond) ∈ lw_good := mg (cm_34 _ (List.mem_of_getElem? (i := 18) rfl)) rfl
theorem mv_1377 : MVw "WallHouseLaw" 115 yX11_work 3 6 11 := ⟨k_1377, k_1378, k_1379, ⟨by decide, by decide⟩, by decide +kernel, Or.inl ⟨_, _, k_1380⟩, k_117, ⟨_, _, rfl⟩, by decide⟩
theorem k_2414 : (.methodLink "WallHouseLaw" 119 ⟨"WallHouseModel", "work", "(III)I"⟩ : Cond) ∈ lw_good := mg (cm_60 _ (List.mem_of_getElem? (i := 14) rfl)) rfl
theorem k_2416 : (.selects "WallHouseModel" ⟨"WallHouseModel", "work", "(III)I"⟩ ⟨"WallHouseModel", "work", "(III)I"⟩ : Cond) ∈ lw_good := mg (cm_60 _ (List.mem_of_getElem? (i := 16) rfl)) rfl
theorem k_2415 : (.instanceMethod ⟨"WallHouseModel", "work", "(III)I"⟩ : Cond) ∈ lw_good := mg (cm_60 _ (List.mem_of_getElem? (i := 15) rfl)) rfl
theorem mv_2414 : MVw "WallHouseLaw" 119 yX15_work 3 7 15 := ⟨k_2414, k_2415, k_2416, ⟨by decide, by decide⟩, by decide +kernel, Or.inl ⟨_, _, k_2417⟩, k_129, ⟨_, _, rfl⟩, by decide⟩
theorem k_1395 : (.methodLink "WallHouseLaw" 120 ⟨"WallHouse", "workOf", "(II)I"⟩ : Cond) ∈ lw_good := mg (cm_34 _ (List.mem_of_getElem? (i := 35) rfl)) rfl
theorem k_1397 : (.selects "WallHouse" ⟨"WallHouse", "workOf", "(II)I"⟩ ⟨"WallHouse", "workOf", "(II)I"⟩ : Cond) ∈ lw_good := mg (cm_34 _ (List.mem_of_getElem? (i := 37) rfl)) rfl
theorem k_1396 : (.instanceMethod ⟨"WallHouse", "workOf", "(II)I"⟩ : Cond) ∈ lw_good := mg (cm_34 _ (List.mem_of_getElem? (i := 36) rfl)) rfl
theorem mv_1395 : MVw "WallHouseLaw" 120 yX11_workOf 2 3 11 := ⟨k_1395, k_1396, k_1397, ⟨by decide, by decide⟩, by decide +kernel, Or.inl ⟨_, _, k_1398⟩, k_117, ⟨_, _, rfl⟩, by decide⟩
theorem k_2418 : (.methodLink "WallHouseLaw" 123 ⟨"WallHouseModel", "workOf", "(II)I"⟩ : Cond) ∈ lw_good := mg (cm_60 _ (List.mem_of_getElem? (i := 18) rfl)) rfl
theorem k_2420 : (.selects "WallHouseModel" ⟨"WallHouseModel", "workOf", "(II)I"⟩ ⟨"WallHouseModel", "workOf", "(II)I"⟩ : Cond) ∈ lw_good := mg (cm_60 _ (List.mem_of_getElem? (i := 20) rfl)) rfl
theorem k_2419 : (.instanceMethod ⟨"WallHouseModel", "workOf", "(II)I"⟩ : Cond) ∈ lw_good := mg (cm_60 _ (List.mem_of_getElem? (i := 19) rfl)) rfl
theorem mv_2418 : MVw "WallHouseLaw" 123 yX15_workOf 2 3 15 := ⟨k_2418, k_2419, k_2420, ⟨by decide, by decide⟩, by decide +kernel, Or.inl ⟨_, _, k_2421⟩, k_129, ⟨_, _, rfl⟩, by decide⟩
theorem k_1400 : (.methodLink "WallHouseLaw" 124 ⟨"WallHouse", "weather", "(III)Z"⟩ : Cond) ∈ lw_good := mg (cm_35 _ (List.mem_of_getElem? (i := 0) rfl)) rfl
theorem k_1402 : (.selects "WallHouse" ⟨"WallHouse", "weather", "(III)Z"⟩ ⟨"WallHouse", "weather", "(III)Z"⟩ : Cond) ∈ lw_good := mg (cm_35 _ (List.mem_of_getElem? (i := 2) rfl)) rfl
theorem k_1401 : (.instanceMethod ⟨"WallHouse", "weather", "(III)Z"⟩ : Cond) ∈ lw_good := mg (cm_35 _ (List.mem_of_getElem? (i := 1) rfl)) rfl
theorem mv_1400 : MVw "WallHouseLaw" 124 yX11_weather 3 4 11 := ⟨k_1400, k_1401, k_1402, ⟨by decide, by decide⟩, by decide +kernel, Or.inl ⟨_, _, k_1403⟩, k_117, ⟨_, _, rfl⟩, by decide⟩
theorem k_2426 : (.methodLink "WallHouseLaw" 127 ⟨"WallHouseModel", "weather", "(III)Z"⟩ : Cond) ∈ lw_good := mg (cm_60 _ (List.mem_of_getElem? (i := 26) rfl)) rfl
theorem k_2428 : (.selects "WallHouseModel" ⟨"WallHouseModel", "weather", "(III)Z"⟩ ⟨"WallHouseModel", "weather", "(III)Z"⟩ : Cond) ∈ lw_good := mg (cm_60 _ (List.mem_of_getElem? (i := 28) rfl)) rfl
theorem k_2427 : (.instanceMethod ⟨"WallHouseModel", "weather", "(III)Z"⟩ : Cond) ∈ lw_good := mg (cm_60 _ (List.mem_of_getElem? (i := 27) rfl)) rfl
theorem mv_2426 : MVw "WallHouseLaw" 127 yX15_weather 3 4 15 := ⟨k_2426, k_2427, k_2428, ⟨by decide, by decide⟩, by decide +kernel, Or.inl ⟨_, _, k_2429⟩, k_129, ⟨_, _, rfl⟩, by decide⟩
theorem k_1408 : (.methodLink "WallHouseLaw" 128 ⟨"WallHouse", "lifts", "(I)Z"⟩ : Cond) ∈ lw_good := mg (cm_35 _ (List.mem_of_getElem? (i := 8) rfl)) rfl
theorem k_1410 : (.selects "WallHouse" ⟨"WallHouse", "lifts", "(I)Z"⟩ ⟨"WallHouse", "lifts", "(I)Z"⟩ : Cond) ∈ lw_good := mg (cm_35 _ (List.mem_of_getElem? (i := 10) rfl)) rfl
theorem k_1409 : (.instanceMethod ⟨"WallHouse", "lifts", "(I)Z"⟩ : Cond) ∈ lw_good := mg (cm_35 _ (List.mem_of_getElem? (i := 9) rfl)) rfl
theorem mv_1408 : MVw "WallHouseLaw" 128 yX11_lifts 1 2 11 := ⟨k_1408, k_1409, k_1410, ⟨by decide, by decide⟩, by decide +kernel, Or.inl ⟨_, _, k_1411⟩, k_117, ⟨_, _, rfl⟩, by decide⟩
theorem k_2430 : (.methodLink "WallHouseLaw" 132 ⟨"WallHouseModel", "lifts", "(I)Z"⟩ : Cond) ∈ lw_good := mg (cm_60 _ (List.mem_of_getElem? (i := 30) rfl)) rfl
theorem k_2432 : (.selects "WallHouseModel" ⟨"WallHouseModel", "lifts", "(I)Z"⟩ ⟨"WallHouseModel", "lifts", "(I)Z"⟩ : Cond) ∈ lw_good := mg (cm_60 _ (List.mem_of_getElem? (i := 32) rfl)) rfl
theorem k_2431 : (.instanceMethod ⟨"WallHouseModel", "lifts", "(I)Z"⟩ : Cond) ∈ lw_good := mg (cm_60 _ (List.mem_of_getElem? (i := 31) rfl)) rfl
theorem mv_2430 : MVw "WallHouseLaw" 132 yX15_lifts 1 2 15 := ⟨k_2430, k_2431, k_2432, ⟨by decide, by decide⟩, by decide +kernel, Or.inl ⟨_, _, k_2433⟩, k_129, ⟨_, _, rfl⟩, by decide⟩
theorem k_1412 : (.methodLink "WallHouseLaw" 133 ⟨"WallHouse", "end", "(I)I"⟩ : Cond) ∈ lw_good := mg (cm_35 _ (List.mem_of_getElem? (i := 12) rfl)) rfl
theorem k_1414 : (.selects "WallHouse" ⟨"WallHouse", "end", "(I)I"⟩ ⟨"WallHouse", "end", "(I)I"⟩ : Cond) ∈ lw_good := mg (cm_35 _ (List.mem_of_getElem? (i := 14) rfl)) rfl
theorem k_1413 : (.instanceMethod ⟨"WallHouse", "end", "(I)I"⟩ : Cond) ∈ lw_good := mg (cm_35 _ (List.mem_of_getElem? (i := 13) rfl)) rfl
theorem mv_1412 : MVw "WallHouseLaw" 133 yX11_end 1 2 11 := ⟨k_1412, k_1413, k_1414, ⟨by decide, by decide⟩, by decide +kernel, Or.inl ⟨_, _, k_1415⟩, k_117, ⟨_, _, rfl⟩, by decide⟩
theorem k_2434 : (.methodLink "WallHouseLaw" 136 ⟨"WallHouseModel", "end", "(I)I"⟩ : Cond) ∈ lw_good := mg (cm_60 _ (List.mem_of_getElem? (i := 34) rfl)) rfl
theorem k_2436 : (.selects "WallHouseModel" ⟨"WallHouseModel", "end", "(I)I"⟩ ⟨"WallHouseModel", "end", "(I)I"⟩ : Cond) ∈ lw_good := mg (cm_60 _ (List.mem_of_getElem? (i := 36) rfl)) rfl
theorem k_2435 : (.instanceMethod ⟨"WallHouseModel", "end", "(I)I"⟩ : Cond) ∈ lw_good := mg (cm_60 _ (List.mem_of_getElem? (i := 35) rfl)) rfl
theorem mv_2434 : MVw "WallHouseLaw" 136 yX15_end 1 4 15 := ⟨k_2434, k_2435, k_2436, ⟨by decide, by decide⟩, by decide +kernel, Or.inl ⟨_, _, k_2437⟩, k_129, ⟨_, _, rfl⟩, by decide⟩
theorem k_1429 : (.methodLink "WallHouseLaw" 137 ⟨"WallHouse", "ready", "(I)I"⟩ : Cond) ∈ lw_good := mg (cm_35 _ (List.mem_of_getElem? (i := 29) rfl)) rfl
theorem k_1431 : (.selects "WallHouse" ⟨"WallHouse", "ready", "(I)I"⟩ ⟨"WallHouse", "ready", "(I)I"⟩ : Cond) ∈ lw_good := mg (cm_35 _ (List.mem_of_getElem? (i := 31) rfl)) rfl
theorem k_1430 : (.instanceMethod ⟨"WallHouse", "ready", "(I)I"⟩ : Cond) ∈ lw_good := mg (cm_35 _ (List.mem_of_getElem? (i := 30) rfl)) rfl
theorem mv_1429 : MVw "WallHouseLaw" 137 yX11_ready 1 2 11 := ⟨k_1429, k_1430, k_1431, ⟨by decide, by decide⟩, by decide +kernel, Or.inl ⟨_, _, k_1432⟩, k_117, ⟨_, _, rfl⟩, by decide⟩
theorem k_2450 : (.methodLink "WallHouseLaw" 140 ⟨"WallHouseModel", "ready", "(I)I"⟩ : Cond) ∈ lw_good := mg (cm_61 _ (List.mem_of_getElem? (i := 10) rfl)) rfl
theorem k_2452 : (.selects "WallHouseModel" ⟨"WallHouseModel", "ready", "(I)I"⟩ ⟨"WallHouseModel", "ready", "(I)I"⟩ : Cond) ∈ lw_good := mg (cm_61 _ (List.mem_of_getElem? (i := 12) rfl)) rfl
theorem k_2451 : (.instanceMethod ⟨"WallHouseModel", "ready", "(I)I"⟩ : Cond) ∈ lw_good := mg (cm_61 _ (List.mem_of_getElem? (i := 11) rfl)) rfl
theorem mv_2450 : MVw "WallHouseLaw" 140 yX15_ready 1 4 15 := ⟨k_2450, k_2451, k_2452, ⟨by decide, by decide⟩, by decide +kernel, Or.inl ⟨_, _, k_2453⟩, k_129, ⟨_, _, rfl⟩, by decide⟩
theorem k_1437 : (.methodLink "WallHouseLaw" 141 ⟨"WallHouse", "tin", "(II)I"⟩ : Cond) ∈ lw_good := mg (cm_35 _ (List.mem_of_getElem? (i := 37) rfl)) rfl
theorem k_1439 : (.selects "WallHouse" ⟨"WallHouse", "tin", "(II)I"⟩ ⟨"WallHouse", "tin", "(II)I"⟩ : Cond) ∈ lw_good := mg (cm_35 _ (List.mem_of_getElem? (i := 39) rfl)) rfl
theorem k_1438 : (.instanceMethod ⟨"WallHouse", "tin", "(II)I"⟩ : Cond) ∈ lw_good := mg (cm_35 _ (List.mem_of_getElem? (i := 38) rfl)) rfl
theorem mv_1437 : MVw "WallHouseLaw" 141 yX11_tin 2 3 11 := ⟨k_1437, k_1438, k_1439, ⟨by decide, by decide⟩, by decide +kernel, Or.inl ⟨_, _, k_1440⟩, k_117, ⟨_, _, rfl⟩, by decide⟩
theorem k_2454 : (.methodLink "WallHouseLaw" 144 ⟨"WallHouseModel", "tin", "(II)I"⟩ : Cond) ∈ lw_good := mg (cm_61 _ (List.mem_of_getElem? (i := 14) rfl)) rfl
theorem k_2456 : (.selects "WallHouseModel" ⟨"WallHouseModel", "tin", "(II)I"⟩ ⟨"WallHouseModel", "tin", "(II)I"⟩ : Cond) ∈ lw_good := mg (cm_61 _ (List.mem_of_getElem? (i := 16) rfl)) rfl
theorem k_2455 : (.instanceMethod ⟨"WallHouseModel", "tin", "(II)I"⟩ : Cond) ∈ lw_good := mg (cm_61 _ (List.mem_of_getElem? (i := 15) rfl)) rfl
theorem mv_2454 : MVw "WallHouseLaw" 144 yX15_tin 2 3 15 := ⟨k_2454, k_2455, k_2456, ⟨by decide, by decide⟩, by decide +kernel, Or.inl ⟨_, _, k_2457⟩, k_129, ⟨_, _, rfl⟩, by decide⟩
theorem k_1445 : (.methodLink "WallHouseLaw" 145 ⟨"WallHouse", "left", "(I)I"⟩ : Cond) ∈ lw_good := mg (cm_36 _ (List.mem_of_getElem? (i := 5) rfl)) rfl
theorem k_1447 : (.selects "WallHouse" ⟨"WallHouse", "left", "(I)I"⟩ ⟨"WallHouse", "left", "(I)I"⟩ : Cond) ∈ lw_good := mg (cm_36 _ (List.mem_of_getElem? (i := 7) rfl)) rfl
theorem k_1446 : (.instanceMethod ⟨"WallHouse", "left", "(I)I"⟩ : Cond) ∈ lw_good := mg (cm_36 _ (List.mem_of_getElem? (i := 6) rfl)) rfl
theorem mv_1445 : MVw "WallHouseLaw" 145 yX11_left 1 2 11 := ⟨k_1445, k_1446, k_1447, ⟨by decide, by decide⟩, by decide +kernel, Or.inl ⟨_, _, k_1448⟩, k_117, ⟨_, _, rfl⟩, by decide⟩
theorem k_2458 : (.methodLink "WallHouseLaw" 148 ⟨"WallHouseModel", "left", "(I)I"⟩ : Cond) ∈ lw_good := mg (cm_61 _ (List.mem_of_getElem? (i := 18) rfl)) rfl
theorem k_2460 : (.selects "WallHouseModel" ⟨"WallHouseModel", "left", "(I)I"⟩ ⟨"WallHouseModel", "left", "(I)I"⟩ : Cond) ∈ lw_good := mg (cm_61 _ (List.mem_of_getElem? (i := 20) rfl)) rfl
theorem k_2459 : (.instanceMethod ⟨"WallHouseModel", "left", "(I)I"⟩ : Cond) ∈ lw_good := mg (cm_61 _ (List.mem_of_getElem? (i := 19) rfl)) rfl
theorem mv_2458 : MVw "WallHouseLaw" 148 yX15_left 1 2 15 := ⟨k_2458, k_2459, k_2460, ⟨by decide, by decide⟩, by decide +kernel, Or.inl ⟨_, _, k_2461⟩, k_129, ⟨_, _, rfl⟩, by decide⟩
theorem k_1453 : (.methodLink "WallHouseLaw" 149 ⟨"WallHouse", "pass", "(I)I"⟩ : Cond) ∈ lw_good := mg (cm_36 _ (List.mem_of_getElem? (i := 13) rfl)) rfl
theorem k_1455 : (.selects "WallHouse" ⟨"WallHouse", "pass", "(I)I"⟩ ⟨"WallHouse", "pass", "(I)I"⟩ : Cond) ∈ lw_good := mg (cm_36 _ (List.mem_of_getElem? (i := 15) rfl)) rfl
theorem k_1454 : (.instanceMethod ⟨"WallHouse", "pass", "(I)I"⟩ : Cond) ∈ lw_good := mg (cm_36 _ (List.mem_of_getElem? (i := 14) rfl)) rfl
theorem mv_1453 : MVw "WallHouseLaw" 149 yX11_pass 1 2 11 := ⟨k_1453, k_1454, k_1455, ⟨by decide, by decide⟩, by decide +kernel, Or.inl ⟨_, _, k_1456⟩, k_117, ⟨_, _, rfl⟩, by decide⟩
theorem k_2462 : (.methodLink "WallHouseLaw" 152 ⟨"WallHouseModel", "pass", "(I)I"⟩ : Cond) ∈ lw_good := mg (cm_61 _ (List.mem_of_getElem? (i := 22) rfl)) rfl
theorem k_2464 : (.selects "WallHouseModel" ⟨"WallHouseModel", "pass", "(I)I"⟩ ⟨"WallHouseModel", "pass", "(I)I"⟩ : Cond) ∈ lw_good := mg (cm_61 _ (List.mem_of_getElem? (i := 24) rfl)) rfl
theorem k_2463 : (.instanceMethod ⟨"WallHouseModel", "pass", "(I)I"⟩ : Cond) ∈ lw_good := mg (cm_61 _ (List.mem_of_getElem? (i := 23) rfl)) rfl
theorem mv_2462 : MVw "WallHouseLaw" 152 yX15_pass 1 5 15 := ⟨k_2462, k_2463, k_2464, ⟨by decide, by decide⟩, by decide +kernel, Or.inl ⟨_, _, k_2465⟩, k_129, ⟨_, _, rfl⟩, by decide⟩
theorem k_1473 : (.methodLink "WallHouseLaw" 153 ⟨"WallHouse", "cell", "(III)I"⟩ : Cond) ∈ lw_good := mg (cm_36 _ (List.mem_of_getElem? (i := 33) rfl)) rfl
theorem k_1475 : (.selects "WallHouse" ⟨"WallHouse", "cell", "(III)I"⟩ ⟨"WallHouse", "cell", "(III)I"⟩ : Cond) ∈ lw_good := mg (cm_36 _ (List.mem_of_getElem? (i := 35) rfl)) rfl
theorem k_1474 : (.instanceMethod ⟨"WallHouse", "cell", "(III)I"⟩ : Cond) ∈ lw_good := mg (cm_36 _ (List.mem_of_getElem? (i := 34) rfl)) rfl
theorem mv_1473 : MVw "WallHouseLaw" 153 yX11_cell 3 6 11 := ⟨k_1473, k_1474, k_1475, ⟨by decide, by decide⟩, by decide +kernel, Or.inl ⟨_, _, k_1476⟩, k_117, ⟨_, _, rfl⟩, by decide⟩
theorem k_2470 : (.methodLink "WallHouseLaw" 156 ⟨"WallHouseModel", "cell", "(III)I"⟩ : Cond) ∈ lw_good := mg (cm_61 _ (List.mem_of_getElem? (i := 30) rfl)) rfl
theorem k_2472 : (.selects "WallHouseModel" ⟨"WallHouseModel", "cell", "(III)I"⟩ ⟨"WallHouseModel", "cell", "(III)I"⟩ : Cond) ∈ lw_good := mg (cm_61 _ (List.mem_of_getElem? (i := 32) rfl)) rfl
theorem k_2471 : (.instanceMethod ⟨"WallHouseModel", "cell", "(III)I"⟩ : Cond) ∈ lw_good := mg (cm_61 _ (List.mem_of_getElem? (i := 31) rfl)) rfl
theorem mv_2470 : MVw "WallHouseLaw" 156 yX15_cell 3 5 15 := ⟨k_2470, k_2471, k_2472, ⟨by decide, by decide⟩, by decide +kernel, Or.inl ⟨_, _, k_2473⟩, k_129, ⟨_, _, rfl⟩, by decide⟩
theorem k_1482 : (.methodLink "WallHouseLaw" 157 ⟨"WallHouse", "looks", "(II)I"⟩ : Cond) ∈ lw_good := mg (cm_37 _ (List.mem_of_getElem? (i := 2) rfl)) rfl
theorem k_1484 : (.selects "WallHouse" ⟨"WallHouse", "looks", "(II)I"⟩ ⟨"WallHouse", "looks", "(II)I"⟩ : Cond) ∈ lw_good := mg (cm_37 _ (List.mem_of_getElem? (i := 4) rfl)) rfl
theorem k_1483 : (.instanceMethod ⟨"WallHouse", "looks", "(II)I"⟩ : Cond) ∈ lw_good := mg (cm_37 _ (List.mem_of_getElem? (i := 3) rfl)) rfl
theorem mv_1482 : MVw "WallHouseLaw" 157 yX11_looks 2 4 11 := ⟨k_1482, k_1483, k_1484, ⟨by decide, by decide⟩, by decide +kernel, Or.inl ⟨_, _, k_1485⟩, k_117, ⟨_, _, rfl⟩, by decide⟩
theorem k_2478 : (.methodLink "WallHouseLaw" 160 ⟨"WallHouseModel", "looks", "(II)I"⟩ : Cond) ∈ lw_good := mg (cm_61 _ (List.mem_of_getElem? (i := 38) rfl)) rfl
theorem k_2480 : (.selects "WallHouseModel" ⟨"WallHouseModel", "looks", "(II)I"⟩ ⟨"WallHouseModel", "looks", "(II)I"⟩ : Cond) ∈ lw_good := mg (cm_62 _ (List.mem_of_getElem? (i := 0) rfl)) rfl
theorem k_2479 : (.instanceMethod ⟨"WallHouseModel", "looks", "(II)I"⟩ : Cond) ∈ lw_good := mg (cm_61 _ (List.mem_of_getElem? (i := 39) rfl)) rfl
theorem mv_2478 : MVw "WallHouseLaw" 160 yX15_looks 2 3 15 := ⟨k_2478, k_2479, k_2480, ⟨by decide, by decide⟩, by decide +kernel, Or.inl ⟨_, _, k_2481⟩, k_129, ⟨_, _, rfl⟩, by decide⟩
theorem k_1492 : (.methodLink "WallHouseLaw" 161 ⟨"WallHouse", "pale", "(I)I"⟩ : Cond) ∈ lw_good := mg (cm_37 _ (List.mem_of_getElem? (i := 12) rfl)) rfl
theorem k_1494 : (.selects "WallHouse" ⟨"WallHouse", "pale", "(I)I"⟩ ⟨"WallHouse", "pale", "(I)I"⟩ : Cond) ∈ lw_good := mg (cm_37 _ (List.mem_of_getElem? (i := 14) rfl)) rfl
theorem k_1493 : (.instanceMethod ⟨"WallHouse", "pale", "(I)I"⟩ : Cond) ∈ lw_good := mg (cm_37 _ (List.mem_of_getElem? (i := 13) rfl)) rfl
theorem mv_1492 : MVw "WallHouseLaw" 161 yX11_pale 1 5 11 := ⟨k_1492, k_1493, k_1494, ⟨by decide, by decide⟩, by decide +kernel, Or.inl ⟨_, _, k_1495⟩, k_117, ⟨_, _, rfl⟩, by decide⟩
theorem k_2486 : (.methodLink "WallHouseLaw" 164 ⟨"WallHouseModel", "pale", "(I)I"⟩ : Cond) ∈ lw_good := mg (cm_62 _ (List.mem_of_getElem? (i := 6) rfl)) rfl
theorem k_2488 : (.selects "WallHouseModel" ⟨"WallHouseModel", "pale", "(I)I"⟩ ⟨"WallHouseModel", "pale", "(I)I"⟩ : Cond) ∈ lw_good := mg (cm_62 _ (List.mem_of_getElem? (i := 8) rfl)) rfl
theorem k_2487 : (.instanceMethod ⟨"WallHouseModel", "pale", "(I)I"⟩ : Cond) ∈ lw_good := mg (cm_62 _ (List.mem_of_getElem? (i := 7) rfl)) rfl
theorem mv_2486 : MVw "WallHouseLaw" 164 yX15_pale 1 7 15 := ⟨k_2486, k_2487, k_2488, ⟨by decide, by decide⟩, by decide +kernel, Or.inl ⟨_, _, k_2489⟩, k_129, ⟨_, _, rfl⟩, by decide⟩
theorem k_1501 : (.methodLink "WallHouseLaw" 165 ⟨"WallHouse", "tag", "(II)I"⟩ : Cond) ∈ lw_good := mg (cm_37 _ (List.mem_of_getElem? (i := 21) rfl)) rfl
theorem k_1503 : (.selects "WallHouse" ⟨"WallHouse", "tag", "(II)I"⟩ ⟨"WallHouse", "tag", "(II)I"⟩ : Cond) ∈ lw_good := mg (cm_37 _ (List.mem_of_getElem? (i := 23) rfl)) rfl
theorem k_1502 : (.instanceMethod ⟨"WallHouse", "tag", "(II)I"⟩ : Cond) ∈ lw_good := mg (cm_37 _ (List.mem_of_getElem? (i := 22) rfl)) rfl
theorem mv_1501 : MVw "WallHouseLaw" 165 yX11_tag 2 3 11 := ⟨k_1501, k_1502, k_1503, ⟨by decide, by decide⟩, by decide +kernel, Or.inl ⟨_, _, k_1504⟩, k_117, ⟨_, _, rfl⟩, by decide⟩
theorem k_2490 : (.methodLink "WallHouseLaw" 168 ⟨"WallHouseModel", "tag", "(II)I"⟩ : Cond) ∈ lw_good := mg (cm_62 _ (List.mem_of_getElem? (i := 10) rfl)) rfl
theorem k_2492 : (.selects "WallHouseModel" ⟨"WallHouseModel", "tag", "(II)I"⟩ ⟨"WallHouseModel", "tag", "(II)I"⟩ : Cond) ∈ lw_good := mg (cm_62 _ (List.mem_of_getElem? (i := 12) rfl)) rfl
theorem k_2491 : (.instanceMethod ⟨"WallHouseModel", "tag", "(II)I"⟩ : Cond) ∈ lw_good := mg (cm_62 _ (List.mem_of_getElem? (i := 11) rfl)) rfl
theorem mv_2490 : MVw "WallHouseLaw" 168 yX15_tag 2 3 15 := ⟨k_2490, k_2491, k_2492, ⟨by decide, by decide⟩, by decide +kernel, Or.inl ⟨_, _, k_2493⟩, k_129, ⟨_, _, rfl⟩, by decide⟩
theorem k_1509 : (.methodLink "WallHouseLaw" 169 ⟨"WallHouse", "clean", "(I)Z"⟩ : Cond) ∈ lw_good := mg (cm_37 _ (List.mem_of_getElem? (i := 29) rfl)) rfl
theorem k_1511 : (.selects "WallHouse" ⟨"WallHouse", "clean", "(I)Z"⟩ ⟨"WallHouse", "clean", "(I)Z"⟩ : Cond) ∈ lw_good := mg (cm_37 _ (List.mem_of_getElem? (i := 31) rfl)) rfl
theorem k_1510 : (.instanceMethod ⟨"WallHouse", "clean", "(I)Z"⟩ : Cond) ∈ lw_good := mg (cm_37 _ (List.mem_of_getElem? (i := 30) rfl)) rfl
theorem mv_1509 : MVw "WallHouseLaw" 169 yX11_clean 1 2 11 := ⟨k_1509, k_1510, k_1511, ⟨by decide, by decide⟩, by decide +kernel, Or.inl ⟨_, _, k_1512⟩, k_117, ⟨_, _, rfl⟩, by decide⟩
theorem k_2494 : (.methodLink "WallHouseLaw" 172 ⟨"WallHouseModel", "clean", "(I)Z"⟩ : Cond) ∈ lw_good := mg (cm_62 _ (List.mem_of_getElem? (i := 14) rfl)) rfl
theorem k_2496 : (.selects "WallHouseModel" ⟨"WallHouseModel", "clean", "(I)Z"⟩ ⟨"WallHouseModel", "clean", "(I)Z"⟩ : Cond) ∈ lw_good := mg (cm_62 _ (List.mem_of_getElem? (i := 16) rfl)) rfl
theorem k_2495 : (.instanceMethod ⟨"WallHouseModel", "clean", "(I)Z"⟩ : Cond) ∈ lw_good := mg (cm_62 _ (List.mem_of_getElem? (i := 15) rfl)) rfl
theorem mv_2494 : MVw "WallHouseLaw" 172 yX15_clean 1 2 15 := ⟨k_2494, k_2495, k_2496, ⟨by decide, by decide⟩, by decide +kernel, Or.inl ⟨_, _, k_2497⟩, k_129, ⟨_, _, rfl⟩, by decide⟩
theorem k_1522 : (.methodLink "WallHouseLaw" 173 ⟨"WallHouse", "late", "()I"⟩ : Cond) ∈ lw_good := mg (cm_38 _ (List.mem_of_getElem? (i := 2) rfl)) rfl
theorem k_1524 : (.selects "WallHouse" ⟨"WallHouse", "late", "()I"⟩ ⟨"WallHouse", "late", "()I"⟩ : Cond) ∈ lw_good := mg (cm_38 _ (List.mem_of_getElem? (i := 4) rfl)) rfl
theorem k_1523 : (.instanceMethod ⟨"WallHouse", "late", "()I"⟩ : Cond) ∈ lw_good := mg (cm_38 _ (List.mem_of_getElem? (i := 3) rfl)) rfl
theorem mv_1522 : MVw "WallHouseLaw" 173 yX11_late 0 1 11 := ⟨k_1522, k_1523, k_1524, ⟨by decide, by decide⟩, by decide +kernel, Or.inl ⟨_, _, k_1525⟩, k_117, ⟨_, _, rfl⟩, by decide⟩
theorem k_2498 : (.methodLink "WallHouseLaw" 176 ⟨"WallHouseModel", "late", "()I"⟩ : Cond) ∈ lw_good := mg (cm_62 _ (List.mem_of_getElem? (i := 18) rfl)) rfl
theorem k_2500 : (.selects "WallHouseModel" ⟨"WallHouseModel", "late", "()I"⟩ ⟨"WallHouseModel", "late", "()I"⟩ : Cond) ∈ lw_good := mg (cm_62 _ (List.mem_of_getElem? (i := 20) rfl)) rfl
theorem k_2499 : (.instanceMethod ⟨"WallHouseModel", "late", "()I"⟩ : Cond) ∈ lw_good := mg (cm_62 _ (List.mem_of_getElem? (i := 19) rfl)) rfl
theorem mv_2498 : MVw "WallHouseLaw" 176 yX15_late 0 3 15 := ⟨k_2498, k_2499, k_2500, ⟨by decide, by decide⟩, by decide +kernel, Or.inl ⟨_, _, k_2501⟩, k_129, ⟨_, _, rfl⟩, by decide⟩
theorem k_1530 : (.methodLink "WallHouseLaw" 177 ⟨"WallHouse", "round", "(I)I"⟩ : Cond) ∈ lw_good := mg (cm_38 _ (List.mem_of_getElem? (i := 10) rfl)) rfl
theorem k_1532 : (.selects "WallHouse" ⟨"WallHouse", "round", "(I)I"⟩ ⟨"WallHouse", "round", "(I)I"⟩ : Cond) ∈ lw_good := mg (cm_38 _ (List.mem_of_getElem? (i := 12) rfl)) rfl
theorem k_1531 : (.instanceMethod ⟨"WallHouse", "round", "(I)I"⟩ : Cond) ∈ lw_good := mg (cm_38 _ (List.mem_of_getElem? (i := 11) rfl)) rfl
theorem mv_1530 : MVw "WallHouseLaw" 177 yX11_round 1 2 11 := ⟨k_1530, k_1531, k_1532, ⟨by decide, by decide⟩, by decide +kernel, Or.inl ⟨_, _, k_1533⟩, k_117, ⟨_, _, rfl⟩, by decide⟩
theorem k_2502 : (.methodLink "WallHouseLaw" 180 ⟨"WallHouseModel", "round", "(I)I"⟩ : Cond) ∈ lw_good := mg (cm_62 _ (List.mem_of_getElem? (i := 22) rfl)) rfl
theorem k_2504 : (.selects "WallHouseModel" ⟨"WallHouseModel", "round", "(I)I"⟩ ⟨"WallHouseModel", "round", "(I)I"⟩ : Cond) ∈ lw_good := mg (cm_62 _ (List.mem_of_getElem? (i := 24) rfl)) rfl
theorem k_2503 : (.instanceMethod ⟨"WallHouseModel", "round", "(I)I"⟩ : Cond) ∈ lw_good := mg (cm_62 _ (List.mem_of_getElem? (i := 23) rfl)) rfl
theorem mv_2502 : MVw "WallHouseLaw" 180 yX15_round 1 8 15 := ⟨k_2502, k_2503, k_2504, ⟨by decide, by decide⟩, by decide +kernel, Or.inl ⟨_, _, k_2505⟩, k_129, ⟨_, _, rfl⟩, by decide⟩
theorem k_1554 : (.methodLink "WallHouseLaw" 181 ⟨"WallHouse", "themes", "(II)Z"⟩ : Cond) ∈ lw_good := mg (cm_38 _ (List.mem_of_getElem? (i := 34) rfl)) rfl
theorem k_1556 : (.selects "WallHouse" ⟨"WallHouse", "themes", "(II)Z"⟩ ⟨"WallHouse", "themes", "(II)Z"⟩ : Cond) ∈ lw_good := mg (cm_38 _ (List.mem_of_getElem? (i := 36) rfl)) rfl
theorem k_1555 : (.instanceMethod ⟨"WallHouse", "themes", "(II)Z"⟩ : Cond) ∈ lw_good := mg (cm_38 _ (List.mem_of_getElem? (i := 35) rfl)) rfl
theorem mv_1554 : MVw "WallHouseLaw" 181 yX11_themes 2 4 11 := ⟨k_1554, k_1555, k_1556, ⟨by decide, by decide⟩, by decide +kernel, Or.inl ⟨_, _, k_1557⟩, k_117, ⟨_, _, rfl⟩, by decide⟩
theorem k_2518 : (.methodLink "WallHouseLaw" 184 ⟨"WallHouseModel", "themes", "(II)Z"⟩ : Cond) ∈ lw_good := mg (cm_62 _ (List.mem_of_getElem? (i := 38) rfl)) rfl
theorem k_2520 : (.selects "WallHouseModel" ⟨"WallHouseModel", "themes", "(II)Z"⟩ ⟨"WallHouseModel", "themes", "(II)Z"⟩ : Cond) ∈ lw_good := mg (cm_63 _ (List.mem_of_getElem? (i := 0) rfl)) rfl
theorem k_2519 : (.instanceMethod ⟨"WallHouseModel", "themes", "(II)Z"⟩ : Cond) ∈ lw_good := mg (cm_62 _ (List.mem_of_getElem? (i := 39) rfl)) rfl
theorem mv_2518 : MVw "WallHouseLaw" 184 yX15_themes 2 3 15 := ⟨k_2518, k_2519, k_2520, ⟨by decide, by decide⟩, by decide +kernel, Or.inl ⟨_, _, k_2521⟩, k_129, ⟨_, _, rfl⟩, by decide⟩
theorem k_1558 : (.methodLink "WallHouseLaw" 185 ⟨"WallHouse", "trail", "(I)I"⟩ : Cond) ∈ lw_good := mg (cm_38 _ (List.mem_of_getElem? (i := 38) rfl)) rfl
theorem k_1560 : (.selects "WallHouse" ⟨"WallHouse", "trail", "(I)I"⟩ ⟨"WallHouse", "trail", "(I)I"⟩ : Cond) ∈ lw_good := mg (cm_39 _ (List.mem_of_getElem? (i := 0) rfl)) rfl
theorem k_1559 : (.instanceMethod ⟨"WallHouse", "trail", "(I)I"⟩ : Cond) ∈ lw_good := mg (cm_38 _ (List.mem_of_getElem? (i := 39) rfl)) rfl
theorem mv_1558 : MVw "WallHouseLaw" 185 yX11_trail 1 3 11 := ⟨k_1558, k_1559, k_1560, ⟨by decide, by decide⟩, by decide +kernel, Or.inl ⟨_, _, k_1561⟩, k_117, ⟨_, _, rfl⟩, by decide⟩
theorem k_2522 : (.methodLink "WallHouseLaw" 188 ⟨"WallHouseModel", "trail", "(I)I"⟩ : Cond) ∈ lw_good := mg (cm_63 _ (List.mem_of_getElem? (i := 2) rfl)) rfl
theorem k_2524 : (.selects "WallHouseModel" ⟨"WallHouseModel", "trail", "(I)I"⟩ ⟨"WallHouseModel", "trail", "(I)I"⟩ : Cond) ∈ lw_good := mg (cm_63 _ (List.mem_of_getElem? (i := 4) rfl)) rfl
theorem k_2523 : (.instanceMethod ⟨"WallHouseModel", "trail", "(I)I"⟩ : Cond) ∈ lw_good := mg (cm_63 _ (List.mem_of_getElem? (i := 3) rfl)) rfl
theorem mv_2522 : MVw "WallHouseLaw" 188 yX15_trail 1 12 15 := ⟨k_2522, k_2523, k_2524, ⟨by decide, by decide⟩, by decide +kernel, Or.inl ⟨_, _, k_2525⟩, k_129, ⟨_, _, rfl⟩, by decide⟩
theorem k_1589 : (.methodLink "WallHouseLaw" 189 ⟨"WallHouse", "trailOf", "()I"⟩ : Cond) ∈ lw_good := mg (cm_39 _ (List.mem_of_getElem? (i := 29) rfl)) rfl
theorem k_1591 : (.selects "WallHouse" ⟨"WallHouse", "trailOf", "()I"⟩ ⟨"WallHouse", "trailOf", "()I"⟩ : Cond) ∈ lw_good := mg (cm_39 _ (List.mem_of_getElem? (i := 31) rfl)) rfl
theorem k_1590 : (.instanceMethod ⟨"WallHouse", "trailOf", "()I"⟩ : Cond) ∈ lw_good := mg (cm_39 _ (List.mem_of_getElem? (i := 30) rfl)) rfl
theorem mv_1589 : MVw "WallHouseLaw" 189 yX11_trailOf 0 1 11 := ⟨k_1589, k_1590, k_1591, ⟨by decide, by decide⟩, by decide +kernel, Or.inl ⟨_, _, k_1592⟩, k_117, ⟨_, _, rfl⟩, by decide⟩
theorem k_2526 : (.methodLink "WallHouseLaw" 192 ⟨"WallHouseModel", "trailOf", "()I"⟩ : Cond) ∈ lw_good := mg (cm_63 _ (List.mem_of_getElem? (i := 6) rfl)) rfl
theorem k_2528 : (.selects "WallHouseModel" ⟨"WallHouseModel", "trailOf", "()I"⟩ ⟨"WallHouseModel", "trailOf", "()I"⟩ : Cond) ∈ lw_good := mg (cm_63 _ (List.mem_of_getElem? (i := 8) rfl)) rfl
theorem k_2527 : (.instanceMethod ⟨"WallHouseModel", "trailOf", "()I"⟩ : Cond) ∈ lw_good := mg (cm_63 _ (List.mem_of_getElem? (i := 7) rfl)) rfl
theorem mv_2526 : MVw "WallHouseLaw" 192 yX15_trailOf 0 1 15 := ⟨k_2526, k_2527, k_2528, ⟨by decide, by decide⟩, by decide +kernel, Or.inl ⟨_, _, k_2529⟩, k_129, ⟨_, _, rfl⟩, by decide⟩
theorem k_1593 : (.methodLink "WallHouseLaw" 193 ⟨"WallHouse", "gets", "(III)I"⟩ : Cond) ∈ lw_good := mg (cm_39 _ (List.mem_of_getElem? (i := 33) rfl)) rfl
theorem k_1595 : (.selects "WallHouse" ⟨"WallHouse", "gets", "(III)I"⟩ ⟨"WallHouse", "gets", "(III)I"⟩ : Cond) ∈ lw_good := mg (cm_39 _ (List.mem_of_getElem? (i := 35) rfl)) rfl
theorem k_1594 : (.instanceMethod ⟨"WallHouse", "gets", "(III)I"⟩ : Cond) ∈ lw_good := mg (cm_39 _ (List.mem_of_getElem? (i := 34) rfl)) rfl
theorem mv_1593 : MVw "WallHouseLaw" 193 yX11_gets 3 4 11 := ⟨k_1593, k_1594, k_1595, ⟨by decide, by decide⟩, by decide +kernel, Or.inl ⟨_, _, k_1596⟩, k_117, ⟨_, _, rfl⟩, by decide⟩
theorem k_2547 : (.methodLink "WallHouseLaw" 196 ⟨"WallHouseModel", "gets", "(III)I"⟩ : Cond) ∈ lw_good := mg (cm_63 _ (List.mem_of_getElem? (i := 27) rfl)) rfl
theorem k_2549 : (.selects "WallHouseModel" ⟨"WallHouseModel", "gets", "(III)I"⟩ ⟨"WallHouseModel", "gets", "(III)I"⟩ : Cond) ∈ lw_good := mg (cm_63 _ (List.mem_of_getElem? (i := 29) rfl)) rfl
theorem k_2548 : (.instanceMethod ⟨"WallHouseModel", "gets", "(III)I"⟩ : Cond) ∈ lw_good := mg (cm_63 _ (List.mem_of_getElem? (i := 28) rfl)) rfl
theorem mv_2547 : MVw "WallHouseLaw" 196 yX15_gets 3 11 15 := ⟨k_2547, k_2548, k_2549, ⟨by decide, by decide⟩, by decide +kernel, Or.inl ⟨_, _, k_2550⟩, k_129, ⟨_, _, rfl⟩, by decide⟩
theorem k_1603 : (.methodLink "WallHouseLaw" 197 ⟨"WallHouse", "led", "(IIII)I"⟩ : Cond) ∈ lw_good := mg (cm_40 _ (List.mem_of_getElem? (i := 3) rfl)) rfl
theorem k_1605 : (.selects "WallHouse" ⟨"WallHouse", "led", "(IIII)I"⟩ ⟨"WallHouse", "led", "(IIII)I"⟩ : Cond) ∈ lw_good := mg (cm_40 _ (List.mem_of_getElem? (i := 5) rfl)) rfl
theorem k_1604 : (.instanceMethod ⟨"WallHouse", "led", "(IIII)I"⟩ : Cond) ∈ lw_good := mg (cm_40 _ (List.mem_of_getElem? (i := 4) rfl)) rfl
theorem mv_1603 : MVw "WallHouseLaw" 197 yX11_led 4 7 11 := ⟨k_1603, k_1604, k_1605, ⟨by decide, by decide⟩, by decide +kernel, Or.inl ⟨_, _, k_1606⟩, k_117, ⟨_, _, rfl⟩, by decide⟩
theorem k_2551 : (.methodLink "WallHouseLaw" 200 ⟨"WallHouseModel", "led", "(IIII)I"⟩ : Cond) ∈ lw_good := mg (cm_63 _ (List.mem_of_getElem? (i := 31) rfl)) rfl
theorem k_2553 : (.selects "WallHouseModel" ⟨"WallHouseModel", "led", "(IIII)I"⟩ ⟨"WallHouseModel", "led", "(IIII)I"⟩ : Cond) ∈ lw_good := mg (cm_63 _ (List.mem_of_getElem? (i := 33) rfl)) rfl
theorem k_2552 : (.instanceMethod ⟨"WallHouseModel", "led", "(IIII)I"⟩ : Cond) ∈ lw_good := mg (cm_63 _ (List.mem_of_getElem? (i := 32) rfl)) rfl
theorem mv_2551 : MVw "WallHouseLaw" 200 yX15_led 4 6 15 := ⟨k_2551, k_2552, k_2553, ⟨by decide, by decide⟩, by decide +kernel, Or.inl ⟨_, _, k_2554⟩, k_129, ⟨_, _, rfl⟩, by decide⟩
theorem k_1611 : (.methodLink "WallHouseLaw" 201 ⟨"WallHouse", "shows", "(I)I"⟩ : Cond) ∈ lw_good := mg (cm_40 _ (List.mem_of_getElem? (i := 11) rfl)) rfl
theorem k_1613 : (.selects "WallHouse" ⟨"WallHouse", "shows", "(I)I"⟩ ⟨"WallHouse", "shows", "(I)I"⟩ : Cond) ∈ lw_good := mg (cm_40 _ (List.mem_of_getElem? (i := 13) rfl)) rfl
theorem k_1612 : (.instanceMethod ⟨"WallHouse", "shows", "(I)I"⟩ : Cond) ∈ lw_good := mg (cm_40 _ (List.mem_of_getElem? (i := 12) rfl)) rfl
theorem mv_1611 : MVw "WallHouseLaw" 201 yX11_shows 1 5 11 := ⟨k_1611, k_1612, k_1613, ⟨by decide, by decide⟩, by decide +kernel, Or.inl ⟨_, _, k_1614⟩, k_117, ⟨_, _, rfl⟩, by decide⟩
theorem k_2555 : (.methodLink "WallHouseLaw" 204 ⟨"WallHouseModel", "shows", "(I)I"⟩ : Cond) ∈ lw_good := mg (cm_63 _ (List.mem_of_getElem? (i := 35) rfl)) rfl
theorem k_2557 : (.selects "WallHouseModel" ⟨"WallHouseModel", "shows", "(I)I"⟩ ⟨"WallHouseModel", "shows", "(I)I"⟩ : Cond) ∈ lw_good := mg (cm_63 _ (List.mem_of_getElem? (i := 37) rfl)) rfl
theorem k_2556 : (.instanceMethod ⟨"WallHouseModel", "shows", "(I)I"⟩ : Cond) ∈ lw_good := mg (cm_63 _ (List.mem_of_getElem? (i := 36) rfl)) rfl
theorem mv_2555 : MVw "WallHouseLaw" 204 yX15_shows 1 5 15 := ⟨k_2555, k_2556, k_2557, ⟨by decide, by decide⟩, by decide +kernel, Or.inl ⟨_, _, k_2558⟩, k_129, ⟨_, _, rfl⟩, by decide⟩
theorem k_1619 : (.methodLink "WallHouseLaw" 205 ⟨"WallHouse", "count", "(I)I"⟩ : Cond) ∈ lw_good := mg (cm_40 _ (List.mem_of_getElem? (i := 19) rfl)) rfl
theorem k_1621 : (.selects "WallHouse" ⟨"WallHouse", "count", "(I)I"⟩ ⟨"WallHouse", "count", "(I)I"⟩ : Cond) ∈ lw_good := mg (cm_40 _ (List.mem_of_getElem? (i := 21) rfl)) rfl
theorem k_1620 : (.instanceMethod ⟨"WallHouse", "count", "(I)I"⟩ : Cond) ∈ lw_good := mg (cm_40 _ (List.mem_of_getElem? (i := 20) rfl)) rfl
theorem mv_1619 : MVw "WallHouseLaw" 205 yX11_count 1 2 11 := ⟨k_1619, k_1620, k_1621, ⟨by decide, by decide⟩, by decide +kernel, Or.inl ⟨_, _, k_1622⟩, k_117, ⟨_, _, rfl⟩, by decide⟩
theorem k_2559 : (.methodLink "WallHouseLaw" 208 ⟨"WallHouseModel", "count", "(I)I"⟩ : Cond) ∈ lw_good := mg (cm_63 _ (List.mem_of_getElem? (i := 39) rfl)) rfl
theorem k_2561 : (.selects "WallHouseModel" ⟨"WallHouseModel", "count", "(I)I"⟩ ⟨"WallHouseModel", "count", "(I)I"⟩ : Cond) ∈ lw_good := mg (cm_64 _ (List.mem_of_getElem? (i := 1) rfl)) rfl
theorem k_2560 : (.instanceMethod ⟨"WallHouseModel", "count", "(I)I"⟩ : Cond) ∈ lw_good := mg (cm_64 _ (List.mem_of_getElem? (i := 0) rfl)) rfl
theorem mv_2559 : MVw "WallHouseLaw" 208 yX15_count 1 4 15 := ⟨k_2559, k_2560, k_2561, ⟨by decide, by decide⟩, by decide +kernel, Or.inl ⟨_, _, k_2562⟩, k_129, ⟨_, _, rfl⟩, by decide⟩
theorem k_1627 : (.methodLink "WallHouseLaw" 209 ⟨"WallHouse", "trouble", "()I"⟩ : Cond) ∈ lw_good := mg (cm_40 _ (List.mem_of_getElem? (i := 27) rfl)) rfl
theorem k_1629 : (.selects "WallHouse" ⟨"WallHouse", "trouble", "()I"⟩ ⟨"WallHouse", "trouble", "()I"⟩ : Cond) ∈ lw_good := mg (cm_40 _ (List.mem_of_getElem? (i := 29) rfl)) rfl
theorem k_1628 : (.instanceMethod ⟨"WallHouse", "trouble", "()I"⟩ : Cond) ∈ lw_good := mg (cm_40 _ (List.mem_of_getElem? (i := 28) rfl)) rfl
theorem mv_1627 : MVw "WallHouseLaw" 209 yX11_trouble 0 1 11 := ⟨k_1627, k_1628, k_1629, ⟨by decide, by decide⟩, by decide +kernel, Or.inl ⟨_, _, k_1630⟩, k_117, ⟨_, _, rfl⟩, by decide⟩
theorem k_2563 : (.methodLink "WallHouseLaw" 212 ⟨"WallHouseModel", "trouble", "()I"⟩ : Cond) ∈ lw_good := mg (cm_64 _ (List.mem_of_getElem? (i := 3) rfl)) rfl
theorem k_2565 : (.selects "WallHouseModel" ⟨"WallHouseModel", "trouble", "()I"⟩ ⟨"WallHouseModel", "trouble", "()I"⟩ : Cond) ∈ lw_good := mg (cm_64 _ (List.mem_of_getElem? (i := 5) rfl)) rfl
theorem k_2564 : (.instanceMethod ⟨"WallHouseModel", "trouble", "()I"⟩ : Cond) ∈ lw_good := mg (cm_64 _ (List.mem_of_getElem? (i := 4) rfl)) rfl
theorem mv_2563 : MVw "WallHouseLaw" 212 yX15_trouble 0 1 15 := ⟨k_2563, k_2564, k_2565, ⟨by decide, by decide⟩, by decide +kernel, Or.inl ⟨_, _, k_2566⟩, k_129, ⟨_, _, rfl⟩, by decide⟩
theorem k_757 : (.methodLink "WallHouseLaw" 28 ⟨"WallHouse", "leave", "(IIIZ)Z"⟩ : Cond) ∈ lw_good := mg (cm_18 _ (List.mem_of_getElem? (i := 37) rfl)) rfl
theorem k_759 : (.selects "WallHouse" ⟨"WallHouse", "leave", "(IIIZ)Z"⟩ ⟨"WallHouse", "leave", "(IIIZ)Z"⟩ : Cond) ∈ lw_good := mg (cm_18 _ (List.mem_of_getElem? (i := 39) rfl)) rfl
theorem k_758 : (.instanceMethod ⟨"WallHouse", "leave", "(IIIZ)Z"⟩ : Cond) ∈ lw_good := mg (cm_18 _ (List.mem_of_getElem? (i := 38) rfl)) rfl
theorem mv_757 : MVw "WallHouseLaw" 28 yX11_leave 4 6 11 := ⟨k_757, k_758, k_759, ⟨by decide, by decide⟩, by decide +kernel, Or.inl ⟨_, _, k_760⟩, k_117, ⟨_, _, rfl⟩, by decide⟩
theorem k_781 : (.methodLink "WallHouseLaw" 38 ⟨"WallHouse", "beside", "(IIZ)Z"⟩ : Cond) ∈ lw_good := mg (cm_19 _ (List.mem_of_getElem? (i := 21) rfl)) rfl
theorem k_783 : (.selects "WallHouse" ⟨"WallHouse", "beside", "(IIZ)Z"⟩ ⟨"WallHouse", "beside", "(IIZ)Z"⟩ : Cond) ∈ lw_good := mg (cm_19 _ (List.mem_of_getElem? (i := 23) rfl)) rfl
theorem k_782 : (.instanceMethod ⟨"WallHouse", "beside", "(IIZ)Z"⟩ : Cond) ∈ lw_good := mg (cm_19 _ (List.mem_of_getElem? (i := 22) rfl)) rfl
theorem mv_781 : MVw "WallHouseLaw" 38 yX11_beside 3 4 11 := ⟨k_781, k_782, k_783, ⟨by decide, by decide⟩, by decide +kernel, Or.inl ⟨_, _, k_784⟩, k_117, ⟨_, _, rfl⟩, by decide⟩
theorem k_2148 : (.methodLink "WallHouseLaw" 32 ⟨"WallHouseModel", "leave", "(IIIZ)Z"⟩ : Cond) ∈ lw_good := mg (cm_53 _ (List.mem_of_getElem? (i := 28) rfl)) rfl
theorem k_2150 : (.selects "WallHouseModel" ⟨"WallHouseModel", "leave", "(IIIZ)Z"⟩ ⟨"WallHouseModel", "leave", "(IIIZ)Z"⟩ : Cond) ∈ lw_good := mg (cm_53 _ (List.mem_of_getElem? (i := 30) rfl)) rfl
theorem k_2149 : (.instanceMethod ⟨"WallHouseModel", "leave", "(IIIZ)Z"⟩ : Cond) ∈ lw_good := mg (cm_53 _ (List.mem_of_getElem? (i := 29) rfl)) rfl
theorem mv_2148 : MVw "WallHouseLaw" 32 yX15_leave 4 5 15 := ⟨k_2148, k_2149, k_2150, ⟨by decide, by decide⟩, by decide +kernel, Or.inl ⟨_, _, k_2151⟩, k_129, ⟨_, _, rfl⟩, by decide⟩
theorem k_2165 : (.methodLink "WallHouseLaw" 42 ⟨"WallHouseModel", "beside", "(IIZ)Z"⟩ : Cond) ∈ lw_good := mg (cm_54 _ (List.mem_of_getElem? (i := 5) rfl)) rfl
theorem k_2167 : (.selects "WallHouseModel" ⟨"WallHouseModel", "beside", "(IIZ)Z"⟩ ⟨"WallHouseModel", "beside", "(IIZ)Z"⟩ : Cond) ∈ lw_good := mg (cm_54 _ (List.mem_of_getElem? (i := 7) rfl)) rfl
theorem k_2166 : (.instanceMethod ⟨"WallHouseModel", "beside", "(IIZ)Z"⟩ : Cond) ∈ lw_good := mg (cm_54 _ (List.mem_of_getElem? (i := 6) rfl)) rfl
theorem mv_2165 : MVw "WallHouseLaw" 42 yX15_beside 3 4 15 := ⟨k_2165, k_2166, k_2167, ⟨by decide, by decide⟩, by decide +kernel, Or.inl ⟨_, _, k_2168⟩, k_129, ⟨_, _, rfl⟩, by decide⟩
/-! WallHouseLaw.law([I)Z -/
def f_Law_1749 (z : ZX) (k18 : Nat → Nat → Nat → Int32 → AH → Option (Int32 × AH)) (r0 : Nat) (r1 : Nat) (r2 : Nat) (i3 : Int32) (h : AH) : Option (Int32 × AH) :=
  k18 r0 r1 r2 (i3 + 6) h
set_option maxRecDepth 100000 in
set_option maxHeartbeats 4000000 in
theorem l_Law_1749 {X : MX} {l : Launch} {G : GX} {h0 : AH} {rr : Int32} {hr : AH} (C : Cx X G RLaw cLaw 4 (some .boolean) 2048 84000 h0) (C2 : Cy X l "law" []) {k18 : Nat → Nat → Nat → Int32 → AH → Option (Int32 × AH)} (hk18 : ∀ (r0 : Nat) (r1 : Nat) (r2 : Nat) (i3 : Int32) (h : AH), k18 r0 r1 r2 i3 h = some (rr, hr) → V X G h0 (QI rr hr) 18 [(0, .ref r0), (1, .ref r1), (2, .ref r2), (3, .int i3)] [] h) (r0 : Nat) (r1 : Nat) (r2 : Nat) (i3 : Int32) (h : AH) (hf : f_Law_1749 G.2.2 k18 r0 r1 r2 i3 h = some (rr, hr)) : V X G h0 (QI rr hr) 1749 [(0, .ref r0), (1, .ref r1), (2, .ref r2), (3, .int i3)] [] h := by
  unfold f_Law_1749 at hf
  refine C.seg (pe := 1752) (lv' := [(3, .int (i3 + 6)), (0, .ref r0), (1, .ref r1), (2, .ref r2)]) (st' := []) [(.iinc 3 6, 3, 6)] (by decide +kernel) rfl ?_
  refine C.goto (off := (-1734)) (tgt := 18) (by decide +kernel) (by decide) ?_
  refine Vsub [1, 2, 3, 0] rfl ?_
  exact hk18 r0 r1 r2 (i3 + 6) h hf
def f_Law_1736 (z : ZX) (k18 : Nat → Nat → Nat → Int32 → AH → Option (Int32 × AH)) (r0 : Nat) (r1 : Nat) (r2 : Nat) (i3 : Int32) (h : AH) : Option (Int32 × AH) :=
  b2 (f_X11_trouble r1 h) fun x1 h2 =>
  b2 (f_X15_trouble r2 h2) fun x3 h4 =>
  if x1 = x3 then
    f_Law_1749 z k18 r0 r1 r2 i3 h4
  else
    some (0, h4)
set_option maxRecDepth 100000 in
set_option maxHeartbeats 4000000 in
theorem l_Law_1736 {X : MX} {l : Launch} {G : GX} {h0 : AH} {rr : Int32} {hr : AH} (C : Cx X G RLaw cLaw 4 (some .boolean) 2048 84000 h0) (C2 : Cy X l "law" []) {k18 : Nat → Nat → Nat → Int32 → AH → Option (Int32 × AH)} (hk18 : ∀ (r0 : Nat) (r1 : Nat) (r2 : Nat) (i3 : Int32) (h : AH), k18 r0 r1 r2 i3 h = some (rr, hr) → V X G h0 (QI rr hr) 18 [(0, .ref r0), (1, .ref r1), (2, .ref r2), (3, .int i3)] [] h) (r0 : Nat) (r1 : Nat) (r2 : Nat) (i3 : Int32) (h : AH) (hf : f_Law_1736 G.2.2 k18 r0 r1 r2 i3 h = some (rr, hr)) : V X G h0 (QI rr hr) 1736 [(0, .ref r0), (1, .ref r1), (2, .ref r2), (3, .int i3)] [] h := by
  unfold f_Law_1736 at hf
  refine C.seg (pe := 1737) (lv' := [(0, .ref r0), (1, .ref r1), (2, .ref r2), (3, .int i3)]) (st' := [.ref r1]) [(.aload_n 1, 1, 0)] (by decide +kernel) rfl ?_
  obtain ⟨x1, h2, gx1, hf⟩ := b2_some hf
  refine C.callVr C2 [] [] mv_1627 rfl (o_X11_trouble gx1) (w_X11_trouble gx1) (by omega) (by omega) (Nat.le_of_ble_eq_true rfl) (by decide +kernel) rfl ?_
  refine C.seg (pe := 1741) (lv' := [(0, .ref r0), (1, .ref r1), (2, .ref r2), (3, .int i3)]) (st' := [.ref r2, .int x1]) [(.aload_n 2, 1, 0)] (by decide +kernel) rfl ?_
  obtain ⟨x3, h4, gx3, hf⟩ := b2_some hf
  refine C.callVr C2 [] [.int x1] mv_2563 rfl (o_X15_trouble gx3) (w_X15_trouble gx3) (by omega) (by omega) (Nat.le_of_ble_eq_true rfl) (by decide +kernel) rfl ?_
  refine C.icmp_eq (off := 5) (tgt := 1749) (pf := 1747) (by decide +kernel) (by decide) rfl (fun c5 => ?_) (fun c5 => ?_)
  · replace hf := ifp c5 hf
    exact l_Law_1749 C C2 hk18 r0 r1 r2 i3 h4 hf
  · replace hf := ifn c5 hf
    refine C.seg (pe := 1748) (lv' := [(0, .ref r0), (1, .ref r1), (2, .ref r2), (3, .int i3)]) (st' := [.int 0]) [(.iconst 0, 1, 0)] (by decide +kernel) rfl ?_
    cases hf
    exact C.retZ rfl (by decide) (by decide +kernel) ⟨rfl, rfl⟩
def f_Law_1713 (z : ZX) (k18 : Nat → Nat → Nat → Int32 → AH → Option (Int32 × AH)) (r0 : Nat) (r1 : Nat) (r2 : Nat) (i3 : Int32) (h : AH) : Option (Int32 × AH) :=
  (aI 20 h r0 (i3 + 1)).bind fun x1 =>
  b2 (f_X11_count r1 x1 h) fun x2 h3 =>
  (aI 20 h3 r0 (i3 + 1)).bind fun x4 =>
  b2 (f_X15_count r2 x4 h3) fun x5 h6 =>
  if x2 = x5 then
    f_Law_1749 z k18 r0 r1 r2 i3 h6
  else
    some (0, h6)
set_option maxRecDepth 100000 in
set_option maxHeartbeats 4000000 in
theorem l_Law_1713 {X : MX} {l : Launch} {G : GX} {h0 : AH} {rr : Int32} {hr : AH} (C : Cx X G RLaw cLaw 4 (some .boolean) 2048 84000 h0) (C2 : Cy X l "law" []) {k18 : Nat → Nat → Nat → Int32 → AH → Option (Int32 × AH)} (hk18 : ∀ (r0 : Nat) (r1 : Nat) (r2 : Nat) (i3 : Int32) (h : AH), k18 r0 r1 r2 i3 h = some (rr, hr) → V X G h0 (QI rr hr) 18 [(0, .ref r0), (1, .ref r1), (2, .ref r2), (3, .int i3)] [] h) (r0 : Nat) (r1 : Nat) (r2 : Nat) (i3 : Int32) (h : AH) (hf : f_Law_1713 G.2.2 k18 r0 r1 r2 i3 h = some (rr, hr)) : V X G h0 (QI rr hr) 1713 [(0, .ref r0), (1, .ref r1), (2, .ref r2), (3, .int i3)] [] h := by
  unfold f_Law_1713 at hf
  refine C.seg (pe := 1718) (lv' := [(0, .ref r0), (1, .ref r1), (2, .ref r2), (3, .int i3)]) (st' := [.int (i3 + 1), .ref r0, .ref r1]) [(.aload_n 1, 1, 0), (.aload_n 0, 1, 0), (.iload_n 3, 1, 0), (.iconst 1, 1, 1), (.iadd, 1, 0)] (by decide +kernel) rfl ?_
  obtain ⟨x1, gx1, hf⟩ := Option.bind_eq_some_iff.mp hf
  refine C.ald 20 rfl gx1 (by decide +kernel) rfl ?_
  obtain ⟨x2, h3, gx2, hf⟩ := b2_some hf
  refine C.callVr C2 [.int x1] [] mv_1619 rfl (o_X11_count gx2) (w_X11_count gx2) (by omega) (by omega) (Nat.le_of_ble_eq_true rfl) (by decide +kernel) rfl ?_
  refine C.seg (pe := 1727) (lv' := [(0, .ref r0), (1, .ref r1), (2, .ref r2), (3, .int i3)]) (st' := [.int (i3 + 1), .ref r0, .ref r2, .int x2]) [(.aload_n 2, 1, 0), (.aload_n 0, 1, 0), (.iload_n 3, 1, 0), (.iconst 1, 1, 1), (.iadd, 1, 0)] (by decide +kernel) rfl ?_
  obtain ⟨x4, gx4, hf⟩ := Option.bind_eq_some_iff.mp hf
  refine C.ald 20 rfl gx4 (by decide +kernel) rfl ?_
  obtain ⟨x5, h6, gx5, hf⟩ := b2_some hf
  refine C.callVr C2 [.int x4] [.int x2] mv_2559 rfl (o_X15_count gx5) (w_X15_count gx5) (by omega) (by omega) (Nat.le_of_ble_eq_true rfl) (by decide +kernel) rfl ?_
  refine C.icmp_eq (off := 18) (tgt := 1749) (pf := 1734) (by decide +kernel) (by decide) rfl (fun c7 => ?_) (fun c7 => ?_)
  · replace hf := ifp c7 hf
    exact l_Law_1749 C C2 hk18 r0 r1 r2 i3 h6 hf
  · replace hf := ifn c7 hf
    refine C.seg (pe := 1735) (lv' := [(0, .ref r0), (1, .ref r1), (2, .ref r2), (3, .int i3)]) (st' := [.int 0]) [(.iconst 0, 1, 0)] (by decide +kernel) rfl ?_
    cases hf
    exact C.retZ rfl (by decide) (by decide +kernel) ⟨rfl, rfl⟩
def f_Law_1690 (z : ZX) (k18 : Nat → Nat → Nat → Int32 → AH → Option (Int32 × AH)) (r0 : Nat) (r1 : Nat) (r2 : Nat) (i3 : Int32) (h : AH) : Option (Int32 × AH) :=
  (aI 20 h r0 (i3 + 1)).bind fun x1 =>
  b2 (f_X11_shows r1 x1 h) fun x2 h3 =>
  (aI 20 h3 r0 (i3 + 1)).bind fun x4 =>
  b2 (f_X15_shows r2 x4 h3) fun x5 h6 =>
  if x2 = x5 then
    f_Law_1749 z k18 r0 r1 r2 i3 h6
  else
    some (0, h6)
set_option maxRecDepth 100000 in
set_option maxHeartbeats 4000000 in
theorem l_Law_1690 {X : MX} {l : Launch} {G : GX} {h0 : AH} {rr : Int32} {hr : AH} (C : Cx X G RLaw cLaw 4 (some .boolean) 2048 84000 h0) (C2 : Cy X l "law" []) {k18 : Nat → Nat → Nat → Int32 → AH → Option (Int32 × AH)} (hk18 : ∀ (r0 : Nat) (r1 : Nat) (r2 : Nat) (i3 : Int32) (h : AH), k18 r0 r1 r2 i3 h = some (rr, hr) → V X G h0 (QI rr hr) 18 [(0, .ref r0), (1, .ref r1), (2, .ref r2), (3, .int i3)] [] h) (r0 : Nat) (r1 : Nat) (r2 : Nat) (i3 : Int32) (h : AH) (hf : f_Law_1690 G.2.2 k18 r0 r1 r2 i3 h = some (rr, hr)) : V X G h0 (QI rr hr) 1690 [(0, .ref r0), (1, .ref r1), (2, .ref r2), (3, .int i3)] [] h := by
  unfold f_Law_1690 at hf
  refine C.seg (pe := 1695) (lv' := [(0, .ref r0), (1, .ref r1), (2, .ref r2), (3, .int i3)]) (st' := [.int (i3 + 1), .ref r0, .ref r1]) [(.aload_n 1, 1, 0), (.aload_n 0, 1, 0), (.iload_n 3, 1, 0), (.iconst 1, 1, 1), (.iadd, 1, 0)] (by decide +kernel) rfl ?_
  obtain ⟨x1, gx1, hf⟩ := Option.bind_eq_some_iff.mp hf
  refine C.ald 20 rfl gx1 (by decide +kernel) rfl ?_
  obtain ⟨x2, h3, gx2, hf⟩ := b2_some hf
  refine C.callVr C2 [.int x1] [] mv_1611 rfl (o_X11_shows gx2) (w_X11_shows gx2) (by omega) (by omega) (Nat.le_of_ble_eq_true rfl) (by decide +kernel) rfl ?_
  refine C.seg (pe := 1704) (lv' := [(0, .ref r0), (1, .ref r1), (2, .ref r2), (3, .int i3)]) (st' := [.int (i3 + 1), .ref r0, .ref r2, .int x2]) [(.aload_n 2, 1, 0), (.aload_n 0, 1, 0), (.iload_n 3, 1, 0), (.iconst 1, 1, 1), (.iadd, 1, 0)] (by decide +kernel) rfl ?_
  obtain ⟨x4, gx4, hf⟩ := Option.bind_eq_some_iff.mp hf
  refine C.ald 20 rfl gx4 (by decide +kernel) rfl ?_
  obtain ⟨x5, h6, gx5, hf⟩ := b2_some hf
  refine C.callVr C2 [.int x4] [.int x2] mv_2555 rfl (o_X15_shows gx5) (w_X15_shows gx5) (by omega) (by omega) (Nat.le_of_ble_eq_true rfl) (by decide +kernel) rfl ?_
  refine C.icmp_eq (off := 41) (tgt := 1749) (pf := 1711) (by decide +kernel) (by decide) rfl (fun c7 => ?_) (fun c7 => ?_)
  · replace hf := ifp c7 hf
    exact l_Law_1749 C C2 hk18 r0 r1 r2 i3 h6 hf
  · replace hf := ifn c7 hf
    refine C.seg (pe := 1712) (lv' := [(0, .ref r0), (1, .ref r1), (2, .ref r2), (3, .int i3)]) (st' := [.int 0]) [(.iconst 0, 1, 0)] (by decide +kernel) rfl ?_
    cases hf
    exact C.retZ rfl (by decide) (by decide +kernel) ⟨rfl, rfl⟩
def f_Law_1637 (z : ZX) (k18 : Nat → Nat → Nat → Int32 → AH → Option (Int32 × AH)) (r0 : Nat) (r1 : Nat) (r2 : Nat) (i3 : Int32) (h : AH) : Option (Int32 × AH) :=
  (aI 20 h r0 (i3 + 1)).bind fun x1 =>
  (aI 20 h r0 (i3 + 2)).bind fun x2 =>
  (aI 20 h r0 (i3 + 3)).bind fun x3 =>
  (aI 20 h r0 (i3 + 4)).bind fun x4 =>
  b2 (f_X11_led r1 x1 x2 x3 x4 h) fun x5 h6 =>
  (aI 20 h6 r0 (i3 + 1)).bind fun x7 =>
  (aI 20 h6 r0 (i3 + 2)).bind fun x8 =>
  (aI 20 h6 r0 (i3 + 3)).bind fun x9 =>
  (aI 20 h6 r0 (i3 + 4)).bind fun x10 =>
  b2 (f_X15_led r2 x7 x8 x9 x10 h6) fun x11 h12 =>
  if x5 = x11 then
    f_Law_1749 z k18 r0 r1 r2 i3 h12
  else
    some (0, h12)
set_option maxRecDepth 100000 in
set_option maxHeartbeats 4000000 in
theorem l_Law_1637 {X : MX} {l : Launch} {G : GX} {h0 : AH} {rr : Int32} {hr : AH} (C : Cx X G RLaw cLaw 4 (some .boolean) 2048 84000 h0) (C2 : Cy X l "law" []) {k18 : Nat → Nat → Nat → Int32 → AH → Option (Int32 × AH)} (hk18 : ∀ (r0 : Nat) (r1 : Nat) (r2 : Nat) (i3 : Int32) (h : AH), k18 r0 r1 r2 i3 h = some (rr, hr) → V X G h0 (QI rr hr) 18 [(0, .ref r0), (1, .ref r1), (2, .ref r2), (3, .int i3)] [] h) (r0 : Nat) (r1 : Nat) (r2 : Nat) (i3 : Int32) (h : AH) (hf : f_Law_1637 G.2.2 k18 r0 r1 r2 i3 h = some (rr, hr)) : V X G h0 (QI rr hr) 1637 [(0, .ref r0), (1, .ref r1), (2, .ref r2), (3, .int i3)] [] h := by
  unfold f_Law_1637 at hf
  refine C.seg (pe := 1642) (lv' := [(0, .ref r0), (1, .ref r1), (2, .ref r2), (3, .int i3)]) (st' := [.int (i3 + 1), .ref r0, .ref r1]) [(.aload_n 1, 1, 0), (.aload_n 0, 1, 0), (.iload_n 3, 1, 0), (.iconst 1, 1, 1), (.iadd, 1, 0)] (by decide +kernel) rfl ?_
  obtain ⟨x1, gx1, hf⟩ := Option.bind_eq_some_iff.mp hf
  refine C.ald 20 rfl gx1 (by decide +kernel) rfl ?_
  refine C.seg (pe := 1647) (lv' := [(0, .ref r0), (1, .ref r1), (2, .ref r2), (3, .int i3)]) (st' := [.int (i3 + 2), .ref r0, .int x1, .ref r1]) [(.aload_n 0, 1, 0), (.iload_n 3, 1, 0), (.iconst 2, 1, 2), (.iadd, 1, 0)] (by decide +kernel) rfl ?_
  obtain ⟨x2, gx2, hf⟩ := Option.bind_eq_some_iff.mp hf
  refine C.ald 20 rfl gx2 (by decide +kernel) rfl ?_
  refine C.seg (pe := 1652) (lv' := [(0, .ref r0), (1, .ref r1), (2, .ref r2), (3, .int i3)]) (st' := [.int (i3 + 3), .ref r0, .int x2, .int x1, .ref r1]) [(.aload_n 0, 1, 0), (.iload_n 3, 1, 0), (.iconst 3, 1, 3), (.iadd, 1, 0)] (by decide +kernel) rfl ?_
  obtain ⟨x3, gx3, hf⟩ := Option.bind_eq_some_iff.mp hf
  refine C.ald 20 rfl gx3 (by decide +kernel) rfl ?_
  refine C.seg (pe := 1657) (lv' := [(0, .ref r0), (1, .ref r1), (2, .ref r2), (3, .int i3)]) (st' := [.int (i3 + 4), .ref r0, .int x3, .int x2, .int x1, .ref r1]) [(.aload_n 0, 1, 0), (.iload_n 3, 1, 0), (.iconst 4, 1, 4), (.iadd, 1, 0)] (by decide +kernel) rfl ?_
  obtain ⟨x4, gx4, hf⟩ := Option.bind_eq_some_iff.mp hf
  refine C.ald 20 rfl gx4 (by decide +kernel) rfl ?_
  obtain ⟨x5, h6, gx5, hf⟩ := b2_some hf
  refine C.callVr C2 [.int x1, .int x2, .int x3, .int x4] [] mv_1603 rfl (o_X11_led gx5) (w_X11_led gx5) (by omega) (by omega) (Nat.le_of_ble_eq_true rfl) (by decide +kernel) rfl ?_
  refine C.seg (pe := 1666) (lv' := [(0, .ref r0), (1, .ref r1), (2, .ref r2), (3, .int i3)]) (st' := [.int (i3 + 1), .ref r0, .ref r2, .int x5]) [(.aload_n 2, 1, 0), (.aload_n 0, 1, 0), (.iload_n 3, 1, 0), (.iconst 1, 1, 1), (.iadd, 1, 0)] (by decide +kernel) rfl ?_
  obtain ⟨x7, gx7, hf⟩ := Option.bind_eq_some_iff.mp hf
  refine C.ald 20 rfl gx7 (by decide +kernel) rfl ?_
  refine C.seg (pe := 1671) (lv' := [(0, .ref r0), (1, .ref r1), (2, .ref r2), (3, .int i3)]) (st' := [.int (i3 + 2), .ref r0, .int x7, .ref r2, .int x5]) [(.aload_n 0, 1, 0), (.iload_n 3, 1, 0), (.iconst 2, 1, 2), (.iadd, 1, 0)] (by decide +kernel) rfl ?_
  obtain ⟨x8, gx8, hf⟩ := Option.bind_eq_some_iff.mp hf
  refine C.ald 20 rfl gx8 (by decide +kernel) rfl ?_
  refine C.seg (pe := 1676) (lv' := [(0, .ref r0), (1, .ref r1), (2, .ref r2), (3, .int i3)]) (st' := [.int (i3 + 3), .ref r0, .int x8, .int x7, .ref r2, .int x5]) [(.aload_n 0, 1, 0), (.iload_n 3, 1, 0), (.iconst 3, 1, 3), (.iadd, 1, 0)] (by decide +kernel) rfl ?_
  obtain ⟨x9, gx9, hf⟩ := Option.bind_eq_some_iff.mp hf
  refine C.ald 20 rfl gx9 (by decide +kernel) rfl ?_
  refine C.seg (pe := 1681) (lv' := [(0, .ref r0), (1, .ref r1), (2, .ref r2), (3, .int i3)]) (st' := [.int (i3 + 4), .ref r0, .int x9, .int x8, .int x7, .ref r2, .int x5]) [(.aload_n 0, 1, 0), (.iload_n 3, 1, 0), (.iconst 4, 1, 4), (.iadd, 1, 0)] (by decide +kernel) rfl ?_
  obtain ⟨x10, gx10, hf⟩ := Option.bind_eq_some_iff.mp hf
  refine C.ald 20 rfl gx10 (by decide +kernel) rfl ?_
  obtain ⟨x11, h12, gx11, hf⟩ := b2_some hf
  refine C.callVr C2 [.int x7, .int x8, .int x9, .int x10] [.int x5] mv_2551 rfl (o_X15_led gx11) (w_X15_led gx11) (by omega) (by omega) (Nat.le_of_ble_eq_true rfl) (by decide +kernel) rfl ?_
  refine C.icmp_eq (off := 64) (tgt := 1749) (pf := 1688) (by decide +kernel) (by decide) rfl (fun c13 => ?_) (fun c13 => ?_)
  · replace hf := ifp c13 hf
    exact l_Law_1749 C C2 hk18 r0 r1 r2 i3 h12 hf
  · replace hf := ifn c13 hf
    refine C.seg (pe := 1689) (lv' := [(0, .ref r0), (1, .ref r1), (2, .ref r2), (3, .int i3)]) (st' := [.int 0]) [(.iconst 0, 1, 0)] (by decide +kernel) rfl ?_
    cases hf
    exact C.retZ rfl (by decide) (by decide +kernel) ⟨rfl, rfl⟩
def f_Law_1594 (z : ZX) (k18 : Nat → Nat → Nat → Int32 → AH → Option (Int32 × AH)) (r0 : Nat) (r1 : Nat) (r2 : Nat) (i3 : Int32) (h : AH) : Option (Int32 × AH) :=
  (aI 20 h r0 (i3 + 1)).bind fun x1 =>
  (aI 20 h r0 (i3 + 2)).bind fun x2 =>
  (aI 20 h r0 (i3 + 3)).bind fun x3 =>
  b2 (f_X11_gets r1 x1 x2 x3 h) fun x4 h5 =>
  (aI 20 h5 r0 (i3 + 1)).bind fun x6 =>
  (aI 20 h5 r0 (i3 + 2)).bind fun x7 =>
  (aI 20 h5 r0 (i3 + 3)).bind fun x8 =>
  b2 (f_X15_gets r2 x6 x7 x8 h5) fun x9 h10 =>
  if x4 = x9 then
    f_Law_1749 z k18 r0 r1 r2 i3 h10
  else
    some (0, h10)
set_option maxRecDepth 100000 in
set_option maxHeartbeats 4000000 in
theorem l_Law_1594 {X : MX} {l : Launch} {G : GX} {h0 : AH} {rr : Int32} {hr : AH} (C : Cx X G RLaw cLaw 4 (some .boolean) 2048 84000 h0) (C2 : Cy X l "law" []) {k18 : Nat → Nat → Nat → Int32 → AH → Option (Int32 × AH)} (hk18 : ∀ (r0 : Nat) (r1 : Nat) (r2 : Nat) (i3 : Int32) (h : AH), k18 r0 r1 r2 i3 h = some (rr, hr) → V X G h0 (QI rr hr) 18 [(0, .ref r0), (1, .ref r1), (2, .ref r2), (3, .int i3)] [] h) (r0 : Nat) (r1 : Nat) (r2 : Nat) (i3 : Int32) (h : AH) (hf : f_Law_1594 G.2.2 k18 r0 r1 r2 i3 h = some (rr, hr)) : V X G h0 (QI rr hr) 1594 [(0, .ref r0), (1, .ref r1), (2, .ref r2), (3, .int i3)] [] h := by
  unfold f_Law_1594 at hf
  refine C.seg (pe := 1599) (lv' := [(0, .ref r0), (1, .ref r1), (2, .ref r2), (3, .int i3)]) (st' := [.int (i3 + 1), .ref r0, .ref r1]) [(.aload_n 1, 1, 0), (.aload_n 0, 1, 0), (.iload_n 3, 1, 0), (.iconst 1, 1, 1), (.iadd, 1, 0)] (by decide +kernel) rfl ?_
  obtain ⟨x1, gx1, hf⟩ := Option.bind_eq_some_iff.mp hf
  refine C.ald 20 rfl gx1 (by decide +kernel) rfl ?_
  refine C.seg (pe := 1604) (lv' := [(0, .ref r0), (1, .ref r1), (2, .ref r2), (3, .int i3)]) (st' := [.int (i3 + 2), .ref r0, .int x1, .ref r1]) [(.aload_n 0, 1, 0), (.iload_n 3, 1, 0), (.iconst 2, 1, 2), (.iadd, 1, 0)] (by decide +kernel) rfl ?_
  obtain ⟨x2, gx2, hf⟩ := Option.bind_eq_some_iff.mp hf
  refine C.ald 20 rfl gx2 (by decide +kernel) rfl ?_
  refine C.seg (pe := 1609) (lv' := [(0, .ref r0), (1, .ref r1), (2, .ref r2), (3, .int i3)]) (st' := [.int (i3 + 3), .ref r0, .int x2, .int x1, .ref r1]) [(.aload_n 0, 1, 0), (.iload_n 3, 1, 0), (.iconst 3, 1, 3), (.iadd, 1, 0)] (by decide +kernel) rfl ?_
  obtain ⟨x3, gx3, hf⟩ := Option.bind_eq_some_iff.mp hf
  refine C.ald 20 rfl gx3 (by decide +kernel) rfl ?_
  obtain ⟨x4, h5, gx4, hf⟩ := b2_some hf
  refine C.callVr C2 [.int x1, .int x2, .int x3] [] mv_1593 rfl (o_X11_gets gx4) (w_X11_gets gx4) (by omega) (by omega) (Nat.le_of_ble_eq_true rfl) (by decide +kernel) rfl ?_
  refine C.seg (pe := 1618) (lv' := [(0, .ref r0), (1, .ref r1), (2, .ref r2), (3, .int i3)]) (st' := [.int (i3 + 1), .ref r0, .ref r2, .int x4]) [(.aload_n 2, 1, 0), (.aload_n 0, 1, 0), (.iload_n 3, 1, 0), (.iconst 1, 1, 1), (.iadd, 1, 0)] (by decide +kernel) rfl ?_
  obtain ⟨x6, gx6, hf⟩ := Option.bind_eq_some_iff.mp hf
  refine C.ald 20 rfl gx6 (by decide +kernel) rfl ?_
  refine C.seg (pe := 1623) (lv' := [(0, .ref r0), (1, .ref r1), (2, .ref r2), (3, .int i3)]) (st' := [.int (i3 + 2), .ref r0, .int x6, .ref r2, .int x4]) [(.aload_n 0, 1, 0), (.iload_n 3, 1, 0), (.iconst 2, 1, 2), (.iadd, 1, 0)] (by decide +kernel) rfl ?_
  obtain ⟨x7, gx7, hf⟩ := Option.bind_eq_some_iff.mp hf
  refine C.ald 20 rfl gx7 (by decide +kernel) rfl ?_
  refine C.seg (pe := 1628) (lv' := [(0, .ref r0), (1, .ref r1), (2, .ref r2), (3, .int i3)]) (st' := [.int (i3 + 3), .ref r0, .int x7, .int x6, .ref r2, .int x4]) [(.aload_n 0, 1, 0), (.iload_n 3, 1, 0), (.iconst 3, 1, 3), (.iadd, 1, 0)] (by decide +kernel) rfl ?_
  obtain ⟨x8, gx8, hf⟩ := Option.bind_eq_some_iff.mp hf
  refine C.ald 20 rfl gx8 (by decide +kernel) rfl ?_
  obtain ⟨x9, h10, gx9, hf⟩ := b2_some hf
  refine C.callVr C2 [.int x6, .int x7, .int x8] [.int x4] mv_2547 rfl (o_X15_gets gx9) (w_X15_gets gx9) (by omega) (by omega) (Nat.le_of_ble_eq_true rfl) (by decide +kernel) rfl ?_
  refine C.icmp_eq (off := 117) (tgt := 1749) (pf := 1635) (by decide +kernel) (by decide) rfl (fun c11 => ?_) (fun c11 => ?_)
  · replace hf := ifp c11 hf
    exact l_Law_1749 C C2 hk18 r0 r1 r2 i3 h10 hf
  · replace hf := ifn c11 hf
    refine C.seg (pe := 1636) (lv' := [(0, .ref r0), (1, .ref r1), (2, .ref r2), (3, .int i3)]) (st' := [.int 0]) [(.iconst 0, 1, 0)] (by decide +kernel) rfl ?_
    cases hf
    exact C.retZ rfl (by decide) (by decide +kernel) ⟨rfl, rfl⟩
def f_Law_1581 (z : ZX) (k18 : Nat → Nat → Nat → Int32 → AH → Option (Int32 × AH)) (r0 : Nat) (r1 : Nat) (r2 : Nat) (i3 : Int32) (h : AH) : Option (Int32 × AH) :=
  b2 (f_X11_trailOf r1 h) fun x1 h2 =>
  b2 (f_X15_trailOf r2 h2) fun x3 h4 =>
  if x1 = x3 then
    f_Law_1749 z k18 r0 r1 r2 i3 h4
  else
    some (0, h4)
set_option maxRecDepth 100000 in
set_option maxHeartbeats 4000000 in
theorem l_Law_1581 {X : MX} {l : Launch} {G : GX} {h0 : AH} {rr : Int32} {hr : AH} (C : Cx X G RLaw cLaw 4 (some .boolean) 2048 84000 h0) (C2 : Cy X l "law" []) {k18 : Nat → Nat → Nat → Int32 → AH → Option (Int32 × AH)} (hk18 : ∀ (r0 : Nat) (r1 : Nat) (r2 : Nat) (i3 : Int32) (h : AH), k18 r0 r1 r2 i3 h = some (rr, hr) → V X G h0 (QI rr hr) 18 [(0, .ref r0), (1, .ref r1), (2, .ref r2), (3, .int i3)] [] h) (r0 : Nat) (r1 : Nat) (r2 : Nat) (i3 : Int32) (h : AH) (hf : f_Law_1581 G.2.2 k18 r0 r1 r2 i3 h = some (rr, hr)) : V X G h0 (QI rr hr) 1581 [(0, .ref r0), (1, .ref r1), (2, .ref r2), (3, .int i3)] [] h := by
  unfold f_Law_1581 at hf
  refine C.seg (pe := 1582) (lv' := [(0, .ref r0), (1, .ref r1), (2, .ref r2), (3, .int i3)]) (st' := [.ref r1]) [(.aload_n 1, 1, 0)] (by decide +kernel) rfl ?_
  obtain ⟨x1, h2, gx1, hf⟩ := b2_some hf
  refine C.callVr C2 [] [] mv_1589 rfl (o_X11_trailOf gx1) (w_X11_trailOf gx1) (by omega) (by omega) (Nat.le_of_ble_eq_true rfl) (by decide +kernel) rfl ?_
  refine C.seg (pe := 1586) (lv' := [(0, .ref r0), (1, .ref r1), (2, .ref r2), (3, .int i3)]) (st' := [.ref r2, .int x1]) [(.aload_n 2, 1, 0)] (by decide +kernel) rfl ?_
  obtain ⟨x3, h4, gx3, hf⟩ := b2_some hf
  refine C.callVr C2 [] [.int x1] mv_2526 rfl (o_X15_trailOf gx3) (w_X15_trailOf gx3) (by omega) (by omega) (Nat.le_of_ble_eq_true rfl) (by decide +kernel) rfl ?_
  refine C.icmp_eq (off := 160) (tgt := 1749) (pf := 1592) (by decide +kernel) (by decide) rfl (fun c5 => ?_) (fun c5 => ?_)
  · replace hf := ifp c5 hf
    exact l_Law_1749 C C2 hk18 r0 r1 r2 i3 h4 hf
  · replace hf := ifn c5 hf
    refine C.seg (pe := 1593) (lv' := [(0, .ref r0), (1, .ref r1), (2, .ref r2), (3, .int i3)]) (st' := [.int 0]) [(.iconst 0, 1, 0)] (by decide +kernel) rfl ?_
    cases hf
    exact C.retZ rfl (by decide) (by decide +kernel) ⟨rfl, rfl⟩
def f_Law_1558 (z : ZX) (k18 : Nat → Nat → Nat → Int32 → AH → Option (Int32 × AH)) (r0 : Nat) (r1 : Nat) (r2 : Nat) (i3 : Int32) (h : AH) : Option (Int32 × AH) :=
  (aI 20 h r0 (i3 + 1)).bind fun x1 =>
  b2 (f_X11_trail r1 x1 h) fun x2 h3 =>
  (aI 20 h3 r0 (i3 + 1)).bind fun x4 =>
  b2 (f_X15_trail r2 x4 h3) fun x5 h6 =>
  if x2 = x5 then
    f_Law_1749 z k18 r0 r1 r2 i3 h6
  else
    some (0, h6)
set_option maxRecDepth 100000 in
set_option maxHeartbeats 4000000 in
theorem l_Law_1558 {X : MX} {l : Launch} {G : GX} {h0 : AH} {rr : Int32} {hr : AH} (C : Cx X G RLaw cLaw 4 (some .boolean) 2048 84000 h0) (C2 : Cy X l "law" []) {k18 : Nat → Nat → Nat → Int32 → AH → Option (Int32 × AH)} (hk18 : ∀ (r0 : Nat) (r1 : Nat) (r2 : Nat) (i3 : Int32) (h : AH), k18 r0 r1 r2 i3 h = some (rr, hr) → V X G h0 (QI rr hr) 18 [(0, .ref r0), (1, .ref r1), (2, .ref r2), (3, .int i3)] [] h) (r0 : Nat) (r1 : Nat) (r2 : Nat) (i3 : Int32) (h : AH) (hf : f_Law_1558 G.2.2 k18 r0 r1 r2 i3 h = some (rr, hr)) : V X G h0 (QI rr hr) 1558 [(0, .ref r0), (1, .ref r1), (2, .ref r2), (3, .int i3)] [] h := by
  unfold f_Law_1558 at hf
  refine C.seg (pe := 1563) (lv' := [(0, .ref r0), (1, .ref r1), (2, .ref r2), (3, .int i3)]) (st' := [.int (i3 + 1), .ref r0, .ref r1]) [(.aload_n 1, 1, 0), (.aload_n 0, 1, 0), (.iload_n 3, 1, 0), (.iconst 1, 1, 1), (.iadd, 1, 0)] (by decide +kernel) rfl ?_
  obtain ⟨x1, gx1, hf⟩ := Option.bind_eq_some_iff.mp hf
  refine C.ald 20 rfl gx1 (by decide +kernel) rfl ?_
  obtain ⟨x2, h3, gx2, hf⟩ := b2_some hf
  refine C.callVr C2 [.int x1] [] mv_1558 rfl (o_X11_trail gx2) (w_X11_trail gx2) (by omega) (by omega) (Nat.le_of_ble_eq_true rfl) (by decide +kernel) rfl ?_
  refine C.seg (pe := 1572) (lv' := [(0, .ref r0), (1, .ref r1), (2, .ref r2), (3, .int i3)]) (st' := [.int (i3 + 1), .ref r0, .ref r2, .int x2]) [(.aload_n 2, 1, 0), (.aload_n 0, 1, 0), (.iload_n 3, 1, 0), (.iconst 1, 1, 1), (.iadd, 1, 0)] (by decide +kernel) rfl ?_
  obtain ⟨x4, gx4, hf⟩ := Option.bind_eq_some_iff.mp hf
  refine C.ald 20 rfl gx4 (by decide +kernel) rfl ?_
  obtain ⟨x5, h6, gx5, hf⟩ := b2_some hf
  refine C.callVr C2 [.int x4] [.int x2] mv_2522 rfl (o_X15_trail gx5) (w_X15_trail gx5) (by omega) (by omega) (Nat.le_of_ble_eq_true rfl) (by decide +kernel) rfl ?_
  refine C.icmp_eq (off := 173) (tgt := 1749) (pf := 1579) (by decide +kernel) (by decide) rfl (fun c7 => ?_) (fun c7 => ?_)
  · replace hf := ifp c7 hf
    exact l_Law_1749 C C2 hk18 r0 r1 r2 i3 h6 hf
  · replace hf := ifn c7 hf
    refine C.seg (pe := 1580) (lv' := [(0, .ref r0), (1, .ref r1), (2, .ref r2), (3, .int i3)]) (st' := [.int 0]) [(.iconst 0, 1, 0)] (by decide +kernel) rfl ?_
    cases hf
    exact C.retZ rfl (by decide) (by decide +kernel) ⟨rfl, rfl⟩
def f_Law_1525 (z : ZX) (k18 : Nat → Nat → Nat → Int32 → AH → Option (Int32 × AH)) (r0 : Nat) (r1 : Nat) (r2 : Nat) (i3 : Int32) (h : AH) : Option (Int32 × AH) :=
  (aI 20 h r0 (i3 + 1)).bind fun x1 =>
  (aI 20 h r0 (i3 + 2)).bind fun x2 =>
  b2 (f_X11_themes r1 x1 x2 h) fun x3 h4 =>
  (aI 20 h4 r0 (i3 + 1)).bind fun x5 =>
  (aI 20 h4 r0 (i3 + 2)).bind fun x6 =>
  b2 (f_X15_themes r2 x5 x6 h4) fun x7 h8 =>
  if x3 = x7 then
    f_Law_1749 z k18 r0 r1 r2 i3 h8
  else
    some (0, h8)
set_option maxRecDepth 100000 in
set_option maxHeartbeats 4000000 in
theorem l_Law_1525 {X : MX} {l : Launch} {G : GX} {h0 : AH} {rr : Int32} {hr : AH} (C : Cx X G RLaw cLaw 4 (some .boolean) 2048 84000 h0) (C2 : Cy X l "law" []) {k18 : Nat → Nat → Nat → Int32 → AH → Option (Int32 × AH)} (hk18 : ∀ (r0 : Nat) (r1 : Nat) (r2 : Nat) (i3 : Int32) (h : AH), k18 r0 r1 r2 i3 h = some (rr, hr) → V X G h0 (QI rr hr) 18 [(0, .ref r0), (1, .ref r1), (2, .ref r2), (3, .int i3)] [] h) (r0 : Nat) (r1 : Nat) (r2 : Nat) (i3 : Int32) (h : AH) (hf : f_Law_1525 G.2.2 k18 r0 r1 r2 i3 h = some (rr, hr)) : V X G h0 (QI rr hr) 1525 [(0, .ref r0), (1, .ref r1), (2, .ref r2), (3, .int i3)] [] h := by
  unfold f_Law_1525 at hf
  refine C.seg (pe := 1530) (lv' := [(0, .ref r0), (1, .ref r1), (2, .ref r2), (3, .int i3)]) (st' := [.int (i3 + 1), .ref r0, .ref r1]) [(.aload_n 1, 1, 0), (.aload_n 0, 1, 0), (.iload_n 3, 1, 0), (.iconst 1, 1, 1), (.iadd, 1, 0)] (by decide +kernel) rfl ?_
  obtain ⟨x1, gx1, hf⟩ := Option.bind_eq_some_iff.mp hf
  refine C.ald 20 rfl gx1 (by decide +kernel) rfl ?_
  refine C.seg (pe := 1535) (lv' := [(0, .ref r0), (1, .ref r1), (2, .ref r2), (3, .int i3)]) (st' := [.int (i3 + 2), .ref r0, .int x1, .ref r1]) [(.aload_n 0, 1, 0), (.iload_n 3, 1, 0), (.iconst 2, 1, 2), (.iadd, 1, 0)] (by decide +kernel) rfl ?_
  obtain ⟨x2, gx2, hf⟩ := Option.bind_eq_some_iff.mp hf
  refine C.ald 20 rfl gx2 (by decide +kernel) rfl ?_
  obtain ⟨x3, h4, gx3, hf⟩ := b2_some hf
  refine C.callVr C2 [.int x1, .int x2] [] mv_1554 rfl (o_X11_themes gx3) (w_X11_themes gx3) (by omega) (by omega) (Nat.le_of_ble_eq_true rfl) (by decide +kernel) rfl ?_
  refine C.seg (pe := 1544) (lv' := [(0, .ref r0), (1, .ref r1), (2, .ref r2), (3, .int i3)]) (st' := [.int (i3 + 1), .ref r0, .ref r2, .int x3]) [(.aload_n 2, 1, 0), (.aload_n 0, 1, 0), (.iload_n 3, 1, 0), (.iconst 1, 1, 1), (.iadd, 1, 0)] (by decide +kernel) rfl ?_
  obtain ⟨x5, gx5, hf⟩ := Option.bind_eq_some_iff.mp hf
  refine C.ald 20 rfl gx5 (by decide +kernel) rfl ?_
  refine C.seg (pe := 1549) (lv' := [(0, .ref r0), (1, .ref r1), (2, .ref r2), (3, .int i3)]) (st' := [.int (i3 + 2), .ref r0, .int x5, .ref r2, .int x3]) [(.aload_n 0, 1, 0), (.iload_n 3, 1, 0), (.iconst 2, 1, 2), (.iadd, 1, 0)] (by decide +kernel) rfl ?_
  obtain ⟨x6, gx6, hf⟩ := Option.bind_eq_some_iff.mp hf
  refine C.ald 20 rfl gx6 (by decide +kernel) rfl ?_
  obtain ⟨x7, h8, gx7, hf⟩ := b2_some hf
  refine C.callVr C2 [.int x5, .int x6] [.int x3] mv_2518 rfl (o_X15_themes gx7) (w_X15_themes gx7) (by omega) (by omega) (Nat.le_of_ble_eq_true rfl) (by decide +kernel) rfl ?_
  refine C.icmp_eq (off := 196) (tgt := 1749) (pf := 1556) (by decide +kernel) (by decide) rfl (fun c9 => ?_) (fun c9 => ?_)
  · replace hf := ifp c9 hf
    exact l_Law_1749 C C2 hk18 r0 r1 r2 i3 h8 hf
  · replace hf := ifn c9 hf
    refine C.seg (pe := 1557) (lv' := [(0, .ref r0), (1, .ref r1), (2, .ref r2), (3, .int i3)]) (st' := [.int 0]) [(.iconst 0, 1, 0)] (by decide +kernel) rfl ?_
    cases hf
    exact C.retZ rfl (by decide) (by decide +kernel) ⟨rfl, rfl⟩
def f_Law_1502 (z : ZX) (k18 : Nat → Nat → Nat → Int32 → AH → Option (Int32 × AH)) (r0 : Nat) (r1 : Nat) (r2 : Nat) (i3 : Int32) (h : AH) : Option (Int32 × AH) :=
  (aI 20 h r0 (i3 + 1)).bind fun x1 =>
  b2 (f_X11_round r1 x1 h) fun x2 h3 =>
  (aI 20 h3 r0 (i3 + 1)).bind fun x4 =>
  b2 (f_X15_round r2 x4 h3) fun x5 h6 =>
  if x2 = x5 then
    f_Law_1749 z k18 r0 r1 r2 i3 h6
  else
    some (0, h6)
set_option maxRecDepth 100000 in
set_option maxHeartbeats 4000000 in
theorem l_Law_1502 {X : MX} {l : Launch} {G : GX} {h0 : AH} {rr : Int32} {hr : AH} (C : Cx X G RLaw cLaw 4 (some .boolean) 2048 84000 h0) (C2 : Cy X l "law" []) {k18 : Nat → Nat → Nat → Int32 → AH → Option (Int32 × AH)} (hk18 : ∀ (r0 : Nat) (r1 : Nat) (r2 : Nat) (i3 : Int32) (h : AH), k18 r0 r1 r2 i3 h = some (rr, hr) → V X G h0 (QI rr hr) 18 [(0, .ref r0), (1, .ref r1), (2, .ref r2), (3, .int i3)] [] h) (r0 : Nat) (r1 : Nat) (r2 : Nat) (i3 : Int32) (h : AH) (hf : f_Law_1502 G.2.2 k18 r0 r1 r2 i3 h = some (rr, hr)) : V X G h0 (QI rr hr) 1502 [(0, .ref r0), (1, .ref r1), (2, .ref r2), (3, .int i3)] [] h := by
  unfold f_Law_1502 at hf
  refine C.seg (pe := 1507) (lv' := [(0, .ref r0), (1, .ref r1), (2, .ref r2), (3, .int i3)]) (st' := [.int (i3 + 1), .ref r0, .ref r1]) [(.aload_n 1, 1, 0), (.aload_n 0, 1, 0), (.iload_n 3, 1, 0), (.iconst 1, 1, 1), (.iadd, 1, 0)] (by decide +kernel) rfl ?_
  obtain ⟨x1, gx1, hf⟩ := Option.bind_eq_some_iff.mp hf
  refine C.ald 20 rfl gx1 (by decide +kernel) rfl ?_
  obtain ⟨x2, h3, gx2, hf⟩ := b2_some hf
  refine C.callVr C2 [.int x1] [] mv_1530 rfl (o_X11_round gx2) (w_X11_round gx2) (by omega) (by omega) (Nat.le_of_ble_eq_true rfl) (by decide +kernel) rfl ?_
  refine C.seg (pe := 1516) (lv' := [(0, .ref r0), (1, .ref r1), (2, .ref r2), (3, .int i3)]) (st' := [.int (i3 + 1), .ref r0, .ref r2, .int x2]) [(.aload_n 2, 1, 0), (.aload_n 0, 1, 0), (.iload_n 3, 1, 0), (.iconst 1, 1, 1), (.iadd, 1, 0)] (by decide +kernel) rfl ?_
  obtain ⟨x4, gx4, hf⟩ := Option.bind_eq_some_iff.mp hf
  refine C.ald 20 rfl gx4 (by decide +kernel) rfl ?_
  obtain ⟨x5, h6, gx5, hf⟩ := b2_some hf
  refine C.callVr C2 [.int x4] [.int x2] mv_2502 rfl (o_X15_round gx5) (w_X15_round gx5) (by omega) (by omega) (Nat.le_of_ble_eq_true rfl) (by decide +kernel) rfl ?_
  refine C.icmp_eq (off := 229) (tgt := 1749) (pf := 1523) (by decide +kernel) (by decide) rfl (fun c7 => ?_) (fun c7 => ?_)
  · replace hf := ifp c7 hf
    exact l_Law_1749 C C2 hk18 r0 r1 r2 i3 h6 hf
  · replace hf := ifn c7 hf
    refine C.seg (pe := 1524) (lv' := [(0, .ref r0), (1, .ref r1), (2, .ref r2), (3, .int i3)]) (st' := [.int 0]) [(.iconst 0, 1, 0)] (by decide +kernel) rfl ?_
    cases hf
    exact C.retZ rfl (by decide) (by decide +kernel) ⟨rfl, rfl⟩
def f_Law_1489 (z : ZX) (k18 : Nat → Nat → Nat → Int32 → AH → Option (Int32 × AH)) (r0 : Nat) (r1 : Nat) (r2 : Nat) (i3 : Int32) (h : AH) : Option (Int32 × AH) :=
  b2 (f_X11_late r1 h) fun x1 h2 =>
  b2 (f_X15_late r2 h2) fun x3 h4 =>
  if x1 = x3 then
    f_Law_1749 z k18 r0 r1 r2 i3 h4
  else
    some (0, h4)
set_option maxRecDepth 100000 in
set_option maxHeartbeats 4000000 in
theorem l_Law_1489 {X : MX} {l : Launch} {G : GX} {h0 : AH} {rr : Int32} {hr : AH} (C : Cx X G RLaw cLaw 4 (some .boolean) 2048 84000 h0) (C2 : Cy X l "law" []) {k18 : Nat → Nat → Nat → Int32 → AH → Option (Int32 × AH)} (hk18 : ∀ (r0 : Nat) (r1 : Nat) (r2 : Nat) (i3 : Int32) (h : AH), k18 r0 r1 r2 i3 h = some (rr, hr) → V X G h0 (QI rr hr) 18 [(0, .ref r0), (1, .ref r1), (2, .ref r2), (3, .int i3)] [] h) (r0 : Nat) (r1 : Nat) (r2 : Nat) (i3 : Int32) (h : AH) (hf : f_Law_1489 G.2.2 k18 r0 r1 r2 i3 h = some (rr, hr)) : V X G h0 (QI rr hr) 1489 [(0, .ref r0), (1, .ref r1), (2, .ref r2), (3, .int i3)] [] h := by
  unfold f_Law_1489 at hf
  refine C.seg (pe := 1490) (lv' := [(0, .ref r0), (1, .ref r1), (2, .ref r2), (3, .int i3)]) (st' := [.ref r1]) [(.aload_n 1, 1, 0)] (by decide +kernel) rfl ?_
  obtain ⟨x1, h2, gx1, hf⟩ := b2_some hf
  refine C.callVr C2 [] [] mv_1522 rfl (o_X11_late gx1) (w_X11_late gx1) (by omega) (by omega) (Nat.le_of_ble_eq_true rfl) (by decide +kernel) rfl ?_
  refine C.seg (pe := 1494) (lv' := [(0, .ref r0), (1, .ref r1), (2, .ref r2), (3, .int i3)]) (st' := [.ref r2, .int x1]) [(.aload_n 2, 1, 0)] (by decide +kernel) rfl ?_
  obtain ⟨x3, h4, gx3, hf⟩ := b2_some hf
  refine C.callVr C2 [] [.int x1] mv_2498 rfl (o_X15_late gx3) (w_X15_late gx3) (by omega) (by omega) (Nat.le_of_ble_eq_true rfl) (by decide +kernel) rfl ?_
  refine C.icmp_eq (off := 252) (tgt := 1749) (pf := 1500) (by decide +kernel) (by decide) rfl (fun c5 => ?_) (fun c5 => ?_)
  · replace hf := ifp c5 hf
    exact l_Law_1749 C C2 hk18 r0 r1 r2 i3 h4 hf
  · replace hf := ifn c5 hf
    refine C.seg (pe := 1501) (lv' := [(0, .ref r0), (1, .ref r1), (2, .ref r2), (3, .int i3)]) (st' := [.int 0]) [(.iconst 0, 1, 0)] (by decide +kernel) rfl ?_
    cases hf
    exact C.retZ rfl (by decide) (by decide +kernel) ⟨rfl, rfl⟩
def f_Law_1466 (z : ZX) (k18 : Nat → Nat → Nat → Int32 → AH → Option (Int32 × AH)) (r0 : Nat) (r1 : Nat) (r2 : Nat) (i3 : Int32) (h : AH) : Option (Int32 × AH) :=
  (aI 20 h r0 (i3 + 1)).bind fun x1 =>
  b2 (f_X11_clean r1 x1 h) fun x2 h3 =>
  (aI 20 h3 r0 (i3 + 1)).bind fun x4 =>
  b2 (f_X15_clean r2 x4 h3) fun x5 h6 =>
  if x2 = x5 then
    f_Law_1749 z k18 r0 r1 r2 i3 h6
  else
    some (0, h6)
set_option maxRecDepth 100000 in
set_option maxHeartbeats 4000000 in
theorem l_Law_1466 {X : MX} {l : Launch} {G : GX} {h0 : AH} {rr : Int32} {hr : AH} (C : Cx X G RLaw cLaw 4 (some .boolean) 2048 84000 h0) (C2 : Cy X l "law" []) {k18 : Nat → Nat → Nat → Int32 → AH → Option (Int32 × AH)} (hk18 : ∀ (r0 : Nat) (r1 : Nat) (r2 : Nat) (i3 : Int32) (h : AH), k18 r0 r1 r2 i3 h = some (rr, hr) → V X G h0 (QI rr hr) 18 [(0, .ref r0), (1, .ref r1), (2, .ref r2), (3, .int i3)] [] h) (r0 : Nat) (r1 : Nat) (r2 : Nat) (i3 : Int32) (h : AH) (hf : f_Law_1466 G.2.2 k18 r0 r1 r2 i3 h = some (rr, hr)) : V X G h0 (QI rr hr) 1466 [(0, .ref r0), (1, .ref r1), (2, .ref r2), (3, .int i3)] [] h := by
  unfold f_Law_1466 at hf
  refine C.seg (pe := 1471) (lv' := [(0, .ref r0), (1, .ref r1), (2, .ref r2), (3, .int i3)]) (st' := [.int (i3 + 1), .ref r0, .ref r1]) [(.aload_n 1, 1, 0), (.aload_n 0, 1, 0), (.iload_n 3, 1, 0), (.iconst 1, 1, 1), (.iadd, 1, 0)] (by decide +kernel) rfl ?_
  obtain ⟨x1, gx1, hf⟩ := Option.bind_eq_some_iff.mp hf
  refine C.ald 20 rfl gx1 (by decide +kernel) rfl ?_
  obtain ⟨x2, h3, gx2, hf⟩ := b2_some hf
  refine C.callVr C2 [.int x1] [] mv_1509 rfl (o_X11_clean gx2) (w_X11_clean gx2) (by omega) (by omega) (Nat.le_of_ble_eq_true rfl) (by decide +kernel) rfl ?_
  refine C.seg (pe := 1480) (lv' := [(0, .ref r0), (1, .ref r1), (2, .ref r2), (3, .int i3)]) (st' := [.int (i3 + 1), .ref r0, .ref r2, .int x2]) [(.aload_n 2, 1, 0), (.aload_n 0, 1, 0), (.iload_n 3, 1, 0), (.iconst 1, 1, 1), (.iadd, 1, 0)] (by decide +kernel) rfl ?_
  obtain ⟨x4, gx4, hf⟩ := Option.bind_eq_some_iff.mp hf
  refine C.ald 20 rfl gx4 (by decide +kernel) rfl ?_
  obtain ⟨x5, h6, gx5, hf⟩ := b2_some hf
  refine C.callVr C2 [.int x4] [.int x2] mv_2494 rfl (o_X15_clean gx5) (w_X15_clean gx5) (by omega) (by omega) (Nat.le_of_ble_eq_true rfl) (by decide +kernel) rfl ?_
  refine C.icmp_eq (off := 265) (tgt := 1749) (pf := 1487) (by decide +kernel) (by decide) rfl (fun c7 => ?_) (fun c7 => ?_)
  · replace hf := ifp c7 hf
    exact l_Law_1749 C C2 hk18 r0 r1 r2 i3 h6 hf
  · replace hf := ifn c7 hf
    refine C.seg (pe := 1488) (lv' := [(0, .ref r0), (1, .ref r1), (2, .ref r2), (3, .int i3)]) (st' := [.int 0]) [(.iconst 0, 1, 0)] (by decide +kernel) rfl ?_
    cases hf
    exact C.retZ rfl (by decide) (by decide +kernel) ⟨rfl, rfl⟩
def f_Law_1433 (z : ZX) (k18 : Nat → Nat → Nat → Int32 → AH → Option (Int32 × AH)) (r0 : Nat) (r1 : Nat) (r2 : Nat) (i3 : Int32) (h : AH) : Option (Int32 × AH) :=
  (aI 20 h r0 (i3 + 1)).bind fun x1 =>
  (aI 20 h r0 (i3 + 2)).bind fun x2 =>
  b2 (f_X11_tag r1 x1 x2 h) fun x3 h4 =>
  (aI 20 h4 r0 (i3 + 1)).bind fun x5 =>
  (aI 20 h4 r0 (i3 + 2)).bind fun x6 =>
  b2 (f_X15_tag r2 x5 x6 h4) fun x7 h8 =>
  if x3 = x7 then
    f_Law_1749 z k18 r0 r1 r2 i3 h8
  else
    some (0, h8)
set_option maxRecDepth 100000 in
set_option maxHeartbeats 4000000 in
theorem l_Law_1433 {X : MX} {l : Launch} {G : GX} {h0 : AH} {rr : Int32} {hr : AH} (C : Cx X G RLaw cLaw 4 (some .boolean) 2048 84000 h0) (C2 : Cy X l "law" []) {k18 : Nat → Nat → Nat → Int32 → AH → Option (Int32 × AH)} (hk18 : ∀ (r0 : Nat) (r1 : Nat) (r2 : Nat) (i3 : Int32) (h : AH), k18 r0 r1 r2 i3 h = some (rr, hr) → V X G h0 (QI rr hr) 18 [(0, .ref r0), (1, .ref r1), (2, .ref r2), (3, .int i3)] [] h) (r0 : Nat) (r1 : Nat) (r2 : Nat) (i3 : Int32) (h : AH) (hf : f_Law_1433 G.2.2 k18 r0 r1 r2 i3 h = some (rr, hr)) : V X G h0 (QI rr hr) 1433 [(0, .ref r0), (1, .ref r1), (2, .ref r2), (3, .int i3)] [] h := by
  unfold f_Law_1433 at hf
  refine C.seg (pe := 1438) (lv' := [(0, .ref r0), (1, .ref r1), (2, .ref r2), (3, .int i3)]) (st' := [.int (i3 + 1), .ref r0, .ref r1]) [(.aload_n 1, 1, 0), (.aload_n 0, 1, 0), (.iload_n 3, 1, 0), (.iconst 1, 1, 1), (.iadd, 1, 0)] (by decide +kernel) rfl ?_
  obtain ⟨x1, gx1, hf⟩ := Option.bind_eq_some_iff.mp hf
  refine C.ald 20 rfl gx1 (by decide +kernel) rfl ?_
  refine C.seg (pe := 1443) (lv' := [(0, .ref r0), (1, .ref r1), (2, .ref r2), (3, .int i3)]) (st' := [.int (i3 + 2), .ref r0, .int x1, .ref r1]) [(.aload_n 0, 1, 0), (.iload_n 3, 1, 0), (.iconst 2, 1, 2), (.iadd, 1, 0)] (by decide +kernel) rfl ?_
  obtain ⟨x2, gx2, hf⟩ := Option.bind_eq_some_iff.mp hf
  refine C.ald 20 rfl gx2 (by decide +kernel) rfl ?_
  obtain ⟨x3, h4, gx3, hf⟩ := b2_some hf
  refine C.callVr C2 [.int x1, .int x2] [] mv_1501 rfl (o_X11_tag gx3) (w_X11_tag gx3) (by omega) (by omega) (Nat.le_of_ble_eq_true rfl) (by decide +kernel) rfl ?_
  refine C.seg (pe := 1452) (lv' := [(0, .ref r0), (1, .ref r1), (2, .ref r2), (3, .int i3)]) (st' := [.int (i3 + 1), .ref r0, .ref r2, .int x3]) [(.aload_n 2, 1, 0), (.aload_n 0, 1, 0), (.iload_n 3, 1, 0), (.iconst 1, 1, 1), (.iadd, 1, 0)] (by decide +kernel) rfl ?_
  obtain ⟨x5, gx5, hf⟩ := Option.bind_eq_some_iff.mp hf
  refine C.ald 20 rfl gx5 (by decide +kernel) rfl ?_
  refine C.seg (pe := 1457) (lv' := [(0, .ref r0), (1, .ref r1), (2, .ref r2), (3, .int i3)]) (st' := [.int (i3 + 2), .ref r0, .int x5, .ref r2, .int x3]) [(.aload_n 0, 1, 0), (.iload_n 3, 1, 0), (.iconst 2, 1, 2), (.iadd, 1, 0)] (by decide +kernel) rfl ?_
  obtain ⟨x6, gx6, hf⟩ := Option.bind_eq_some_iff.mp hf
  refine C.ald 20 rfl gx6 (by decide +kernel) rfl ?_
  obtain ⟨x7, h8, gx7, hf⟩ := b2_some hf
  refine C.callVr C2 [.int x5, .int x6] [.int x3] mv_2490 rfl (o_X15_tag gx7) (w_X15_tag gx7) (by omega) (by omega) (Nat.le_of_ble_eq_true rfl) (by decide +kernel) rfl ?_
  refine C.icmp_eq (off := 288) (tgt := 1749) (pf := 1464) (by decide +kernel) (by decide) rfl (fun c9 => ?_) (fun c9 => ?_)
  · replace hf := ifp c9 hf
    exact l_Law_1749 C C2 hk18 r0 r1 r2 i3 h8 hf
  · replace hf := ifn c9 hf
    refine C.seg (pe := 1465) (lv' := [(0, .ref r0), (1, .ref r1), (2, .ref r2), (3, .int i3)]) (st' := [.int 0]) [(.iconst 0, 1, 0)] (by decide +kernel) rfl ?_
    cases hf
    exact C.retZ rfl (by decide) (by decide +kernel) ⟨rfl, rfl⟩
def f_Law_1410 (z : ZX) (k18 : Nat → Nat → Nat → Int32 → AH → Option (Int32 × AH)) (r0 : Nat) (r1 : Nat) (r2 : Nat) (i3 : Int32) (h : AH) : Option (Int32 × AH) :=
  (aI 20 h r0 (i3 + 1)).bind fun x1 =>
  b2 (f_X11_pale z r1 x1 h) fun x2 h3 =>
  (aI 20 h3 r0 (i3 + 1)).bind fun x4 =>
  b2 (f_X15_pale r2 x4 h3) fun x5 h6 =>
  if x2 = x5 then
    f_Law_1749 z k18 r0 r1 r2 i3 h6
  else
    some (0, h6)
set_option maxRecDepth 100000 in
set_option maxHeartbeats 4000000 in
theorem l_Law_1410 {X : MX} {l : Launch} {G : GX} {h0 : AH} {rr : Int32} {hr : AH} (C : Cx X G RLaw cLaw 4 (some .boolean) 2048 84000 h0) (C2 : Cy X l "law" []) {k18 : Nat → Nat → Nat → Int32 → AH → Option (Int32 × AH)} (hk18 : ∀ (r0 : Nat) (r1 : Nat) (r2 : Nat) (i3 : Int32) (h : AH), k18 r0 r1 r2 i3 h = some (rr, hr) → V X G h0 (QI rr hr) 18 [(0, .ref r0), (1, .ref r1), (2, .ref r2), (3, .int i3)] [] h) (r0 : Nat) (r1 : Nat) (r2 : Nat) (i3 : Int32) (h : AH) (hf : f_Law_1410 G.2.2 k18 r0 r1 r2 i3 h = some (rr, hr)) : V X G h0 (QI rr hr) 1410 [(0, .ref r0), (1, .ref r1), (2, .ref r2), (3, .int i3)] [] h := by
  unfold f_Law_1410 at hf
  refine C.seg (pe := 1415) (lv' := [(0, .ref r0), (1, .ref r1), (2, .ref r2), (3, .int i3)]) (st' := [.int (i3 + 1), .ref r0, .ref r1]) [(.aload_n 1, 1, 0), (.aload_n 0, 1, 0), (.iload_n 3, 1, 0), (.iconst 1, 1, 1), (.iadd, 1, 0)] (by decide +kernel) rfl ?_
  obtain ⟨x1, gx1, hf⟩ := Option.bind_eq_some_iff.mp hf
  refine C.ald 20 rfl gx1 (by decide +kernel) rfl ?_
  obtain ⟨x2, h3, gx2, hf⟩ := b2_some hf
  refine C.callVr C2 [.int x1] [] mv_1492 rfl (o_X11_pale gx2) (w_X11_pale gx2) (by omega) (by omega) (Nat.le_of_ble_eq_true rfl) (by decide +kernel) rfl ?_
  refine C.seg (pe := 1424) (lv' := [(0, .ref r0), (1, .ref r1), (2, .ref r2), (3, .int i3)]) (st' := [.int (i3 + 1), .ref r0, .ref r2, .int x2]) [(.aload_n 2, 1, 0), (.aload_n 0, 1, 0), (.iload_n 3, 1, 0), (.iconst 1, 1, 1), (.iadd, 1, 0)] (by decide +kernel) rfl ?_
  obtain ⟨x4, gx4, hf⟩ := Option.bind_eq_some_iff.mp hf
  refine C.ald 20 rfl gx4 (by decide +kernel) rfl ?_
  obtain ⟨x5, h6, gx5, hf⟩ := b2_some hf
  refine C.callVr C2 [.int x4] [.int x2] mv_2486 rfl (o_X15_pale gx5) (w_X15_pale gx5) (by omega) (by omega) (Nat.le_of_ble_eq_true rfl) (by decide +kernel) rfl ?_
  refine C.icmp_eq (off := 321) (tgt := 1749) (pf := 1431) (by decide +kernel) (by decide) rfl (fun c7 => ?_) (fun c7 => ?_)
  · replace hf := ifp c7 hf
    exact l_Law_1749 C C2 hk18 r0 r1 r2 i3 h6 hf
  · replace hf := ifn c7 hf
    refine C.seg (pe := 1432) (lv' := [(0, .ref r0), (1, .ref r1), (2, .ref r2), (3, .int i3)]) (st' := [.int 0]) [(.iconst 0, 1, 0)] (by decide +kernel) rfl ?_
    cases hf
    exact C.retZ rfl (by decide) (by decide +kernel) ⟨rfl, rfl⟩
def f_Law_1377 (z : ZX) (k18 : Nat → Nat → Nat → Int32 → AH → Option (Int32 × AH)) (r0 : Nat) (r1 : Nat) (r2 : Nat) (i3 : Int32) (h : AH) : Option (Int32 × AH) :=
  (aI 20 h r0 (i3 + 1)).bind fun x1 =>
  (aI 20 h r0 (i3 + 2)).bind fun x2 =>
  b2 (f_X11_looks z r1 x1 x2 h) fun x3 h4 =>
  (aI 20 h4 r0 (i3 + 1)).bind fun x5 =>
  (aI 20 h4 r0 (i3 + 2)).bind fun x6 =>
  b2 (f_X15_looks r2 x5 x6 h4) fun x7 h8 =>
  if x3 = x7 then
    f_Law_1749 z k18 r0 r1 r2 i3 h8
  else
    some (0, h8)
set_option maxRecDepth 100000 in
set_option maxHeartbeats 4000000 in
theorem l_Law_1377 {X : MX} {l : Launch} {G : GX} {h0 : AH} {rr : Int32} {hr : AH} (C : Cx X G RLaw cLaw 4 (some .boolean) 2048 84000 h0) (C2 : Cy X l "law" []) {k18 : Nat → Nat → Nat → Int32 → AH → Option (Int32 × AH)} (hk18 : ∀ (r0 : Nat) (r1 : Nat) (r2 : Nat) (i3 : Int32) (h : AH), k18 r0 r1 r2 i3 h = some (rr, hr) → V X G h0 (QI rr hr) 18 [(0, .ref r0), (1, .ref r1), (2, .ref r2), (3, .int i3)] [] h) (r0 : Nat) (r1 : Nat) (r2 : Nat) (i3 : Int32) (h : AH) (hf : f_Law_1377 G.2.2 k18 r0 r1 r2 i3 h = some (rr, hr)) : V X G h0 (QI rr hr) 1377 [(0, .ref r0), (1, .ref r1), (2, .ref r2), (3, .int i3)] [] h := by
  unfold f_Law_1377 at hf
  refine C.seg (pe := 1382) (lv' := [(0, .ref r0), (1, .ref r1), (2, .ref r2), (3, .int i3)]) (st' := [.int (i3 + 1), .ref r0, .ref r1]) [(.aload_n 1, 1, 0), (.aload_n 0, 1, 0), (.iload_n 3, 1, 0), (.iconst 1, 1, 1), (.iadd, 1, 0)] (by decide +kernel) rfl ?_
  obtain ⟨x1, gx1, hf⟩ := Option.bind_eq_some_iff.mp hf
  refine C.ald 20 rfl gx1 (by decide +kernel) rfl ?_
  refine C.seg (pe := 1387) (lv' := [(0, .ref r0), (1, .ref r1), (2, .ref r2), (3, .int i3)]) (st' := [.int (i3 + 2), .ref r0, .int x1, .ref r1]) [(.aload_n 0, 1, 0), (.iload_n 3, 1, 0), (.iconst 2, 1, 2), (.iadd, 1, 0)] (by decide +kernel) rfl ?_
  obtain ⟨x2, gx2, hf⟩ := Option.bind_eq_some_iff.mp hf
  refine C.ald 20 rfl gx2 (by decide +kernel) rfl ?_
  obtain ⟨x3, h4, gx3, hf⟩ := b2_some hf
  refine C.callVr C2 [.int x1, .int x2] [] mv_1482 rfl (o_X11_looks gx3) (w_X11_looks gx3) (by omega) (by omega) (Nat.le_of_ble_eq_true rfl) (by decide +kernel) rfl ?_
  refine C.seg (pe := 1396) (lv' := [(0, .ref r0), (1, .ref r1), (2, .ref r2), (3, .int i3)]) (st' := [.int (i3 + 1), .ref r0, .ref r2, .int x3]) [(.aload_n 2, 1, 0), (.aload_n 0, 1, 0), (.iload_n 3, 1, 0), (.iconst 1, 1, 1), (.iadd, 1, 0)] (by decide +kernel) rfl ?_
  obtain ⟨x5, gx5, hf⟩ := Option.bind_eq_some_iff.mp hf
  refine C.ald 20 rfl gx5 (by decide +kernel) rfl ?_
  refine C.seg (pe := 1401) (lv' := [(0, .ref r0), (1, .ref r1), (2, .ref r2), (3, .int i3)]) (st' := [.int (i3 + 2), .ref r0, .int x5, .ref r2, .int x3]) [(.aload_n 0, 1, 0), (.iload_n 3, 1, 0), (.iconst 2, 1, 2), (.iadd, 1, 0)] (by decide +kernel) rfl ?_
  obtain ⟨x6, gx6, hf⟩ := Option.bind_eq_some_iff.mp hf
  refine C.ald 20 rfl gx6 (by decide +kernel) rfl ?_
  obtain ⟨x7, h8, gx7, hf⟩ := b2_some hf
  refine C.callVr C2 [.int x5, .int x6] [.int x3] mv_2478 rfl (o_X15_looks gx7) (w_X15_looks gx7) (by omega) (by omega) (Nat.le_of_ble_eq_true rfl) (by decide +kernel) rfl ?_
  refine C.icmp_eq (off := 344) (tgt := 1749) (pf := 1408) (by decide +kernel) (by decide) rfl (fun c9 => ?_) (fun c9 => ?_)
  · replace hf := ifp c9 hf
    exact l_Law_1749 C C2 hk18 r0 r1 r2 i3 h8 hf
  · replace hf := ifn c9 hf
    refine C.seg (pe := 1409) (lv' := [(0, .ref r0), (1, .ref r1), (2, .ref r2), (3, .int i3)]) (st' := [.int 0]) [(.iconst 0, 1, 0)] (by decide +kernel) rfl ?_
    cases hf
    exact C.retZ rfl (by decide) (by decide +kernel) ⟨rfl, rfl⟩
def f_Law_1334 (z : ZX) (k18 : Nat → Nat → Nat → Int32 → AH → Option (Int32 × AH)) (r0 : Nat) (r1 : Nat) (r2 : Nat) (i3 : Int32) (h : AH) : Option (Int32 × AH) :=
  (aI 20 h r0 (i3 + 1)).bind fun x1 =>
  (aI 20 h r0 (i3 + 2)).bind fun x2 =>
  (aI 20 h r0 (i3 + 3)).bind fun x3 =>
  b2 (f_X11_cell r1 x1 x2 x3 h) fun x4 h5 =>
  (aI 20 h5 r0 (i3 + 1)).bind fun x6 =>
  (aI 20 h5 r0 (i3 + 2)).bind fun x7 =>
  (aI 20 h5 r0 (i3 + 3)).bind fun x8 =>
  b2 (f_X15_cell r2 x6 x7 x8 h5) fun x9 h10 =>
  if x4 = x9 then
    f_Law_1749 z k18 r0 r1 r2 i3 h10
  else
    some (0, h10)
set_option maxRecDepth 100000 in
set_option maxHeartbeats 4000000 in
theorem l_Law_1334 {X : MX} {l : Launch} {G : GX} {h0 : AH} {rr : Int32} {hr : AH} (C : Cx X G RLaw cLaw 4 (some .boolean) 2048 84000 h0) (C2 : Cy X l "law" []) {k18 : Nat → Nat → Nat → Int32 → AH → Option (Int32 × AH)} (hk18 : ∀ (r0 : Nat) (r1 : Nat) (r2 : Nat) (i3 : Int32) (h : AH), k18 r0 r1 r2 i3 h = some (rr, hr) → V X G h0 (QI rr hr) 18 [(0, .ref r0), (1, .ref r1), (2, .ref r2), (3, .int i3)] [] h) (r0 : Nat) (r1 : Nat) (r2 : Nat) (i3 : Int32) (h : AH) (hf : f_Law_1334 G.2.2 k18 r0 r1 r2 i3 h = some (rr, hr)) : V X G h0 (QI rr hr) 1334 [(0, .ref r0), (1, .ref r1), (2, .ref r2), (3, .int i3)] [] h := by
  unfold f_Law_1334 at hf
  refine C.seg (pe := 1339) (lv' := [(0, .ref r0), (1, .ref r1), (2, .ref r2), (3, .int i3)]) (st' := [.int (i3 + 1), .ref r0, .ref r1]) [(.aload_n 1, 1, 0), (.aload_n 0, 1, 0), (.iload_n 3, 1, 0), (.iconst 1, 1, 1), (.iadd, 1, 0)] (by decide +kernel) rfl ?_
  obtain ⟨x1, gx1, hf⟩ := Option.bind_eq_some_iff.mp hf
  refine C.ald 20 rfl gx1 (by decide +kernel) rfl ?_
  refine C.seg (pe := 1344) (lv' := [(0, .ref r0), (1, .ref r1), (2, .ref r2), (3, .int i3)]) (st' := [.int (i3 + 2), .ref r0, .int x1, .ref r1]) [(.aload_n 0, 1, 0), (.iload_n 3, 1, 0), (.iconst 2, 1, 2), (.iadd, 1, 0)] (by decide +kernel) rfl ?_
  obtain ⟨x2, gx2, hf⟩ := Option.bind_eq_some_iff.mp hf
  refine C.ald 20 rfl gx2 (by decide +kernel) rfl ?_
  refine C.seg (pe := 1349) (lv' := [(0, .ref r0), (1, .ref r1), (2, .ref r2), (3, .int i3)]) (st' := [.int (i3 + 3), .ref r0, .int x2, .int x1, .ref r1]) [(.aload_n 0, 1, 0), (.iload_n 3, 1, 0), (.iconst 3, 1, 3), (.iadd, 1, 0)] (by decide +kernel) rfl ?_
  obtain ⟨x3, gx3, hf⟩ := Option.bind_eq_some_iff.mp hf
  refine C.ald 20 rfl gx3 (by decide +kernel) rfl ?_
  obtain ⟨x4, h5, gx4, hf⟩ := b2_some hf
  refine C.callVr C2 [.int x1, .int x2, .int x3] [] mv_1473 rfl (o_X11_cell gx4) (w_X11_cell gx4) (by omega) (by omega) (Nat.le_of_ble_eq_true rfl) (by decide +kernel) rfl ?_
  refine C.seg (pe := 1358) (lv' := [(0, .ref r0), (1, .ref r1), (2, .ref r2), (3, .int i3)]) (st' := [.int (i3 + 1), .ref r0, .ref r2, .int x4]) [(.aload_n 2, 1, 0), (.aload_n 0, 1, 0), (.iload_n 3, 1, 0), (.iconst 1, 1, 1), (.iadd, 1, 0)] (by decide +kernel) rfl ?_
  obtain ⟨x6, gx6, hf⟩ := Option.bind_eq_some_iff.mp hf
  refine C.ald 20 rfl gx6 (by decide +kernel) rfl ?_
  refine C.seg (pe := 1363) (lv' := [(0, .ref r0), (1, .ref r1), (2, .ref r2), (3, .int i3)]) (st' := [.int (i3 + 2), .ref r0, .int x6, .ref r2, .int x4]) [(.aload_n 0, 1, 0), (.iload_n 3, 1, 0), (.iconst 2, 1, 2), (.iadd, 1, 0)] (by decide +kernel) rfl ?_
  obtain ⟨x7, gx7, hf⟩ := Option.bind_eq_some_iff.mp hf
  refine C.ald 20 rfl gx7 (by decide +kernel) rfl ?_
  refine C.seg (pe := 1368) (lv' := [(0, .ref r0), (1, .ref r1), (2, .ref r2), (3, .int i3)]) (st' := [.int (i3 + 3), .ref r0, .int x7, .int x6, .ref r2, .int x4]) [(.aload_n 0, 1, 0), (.iload_n 3, 1, 0), (.iconst 3, 1, 3), (.iadd, 1, 0)] (by decide +kernel) rfl ?_
  obtain ⟨x8, gx8, hf⟩ := Option.bind_eq_some_iff.mp hf
  refine C.ald 20 rfl gx8 (by decide +kernel) rfl ?_
  obtain ⟨x9, h10, gx9, hf⟩ := b2_some hf
  refine C.callVr C2 [.int x6, .int x7, .int x8] [.int x4] mv_2470 rfl (o_X15_cell gx9) (w_X15_cell gx9) (by omega) (by omega) (Nat.le_of_ble_eq_true rfl) (by decide +kernel) rfl ?_
  refine C.icmp_eq (off := 377) (tgt := 1749) (pf := 1375) (by decide +kernel) (by decide) rfl (fun c11 => ?_) (fun c11 => ?_)
  · replace hf := ifp c11 hf
    exact l_Law_1749 C C2 hk18 r0 r1 r2 i3 h10 hf
  · replace hf := ifn c11 hf
    refine C.seg (pe := 1376) (lv' := [(0, .ref r0), (1, .ref r1), (2, .ref r2), (3, .int i3)]) (st' := [.int 0]) [(.iconst 0, 1, 0)] (by decide +kernel) rfl ?_
    cases hf
    exact C.retZ rfl (by decide) (by decide +kernel) ⟨rfl, rfl⟩
def f_Law_1311 (z : ZX) (k18 : Nat → Nat → Nat → Int32 → AH → Option (Int32 × AH)) (r0 : Nat) (r1 : Nat) (r2 : Nat) (i3 : Int32) (h : AH) : Option (Int32 × AH) :=
  (aI 20 h r0 (i3 + 1)).bind fun x1 =>
  b2 (f_X11_pass r1 x1 h) fun x2 h3 =>
  (aI 20 h3 r0 (i3 + 1)).bind fun x4 =>
  b2 (f_X15_pass r2 x4 h3) fun x5 h6 =>
  if x2 = x5 then
    f_Law_1749 z k18 r0 r1 r2 i3 h6
  else
    some (0, h6)
set_option maxRecDepth 100000 in
set_option maxHeartbeats 4000000 in
theorem l_Law_1311 {X : MX} {l : Launch} {G : GX} {h0 : AH} {rr : Int32} {hr : AH} (C : Cx X G RLaw cLaw 4 (some .boolean) 2048 84000 h0) (C2 : Cy X l "law" []) {k18 : Nat → Nat → Nat → Int32 → AH → Option (Int32 × AH)} (hk18 : ∀ (r0 : Nat) (r1 : Nat) (r2 : Nat) (i3 : Int32) (h : AH), k18 r0 r1 r2 i3 h = some (rr, hr) → V X G h0 (QI rr hr) 18 [(0, .ref r0), (1, .ref r1), (2, .ref r2), (3, .int i3)] [] h) (r0 : Nat) (r1 : Nat) (r2 : Nat) (i3 : Int32) (h : AH) (hf : f_Law_1311 G.2.2 k18 r0 r1 r2 i3 h = some (rr, hr)) : V X G h0 (QI rr hr) 1311 [(0, .ref r0), (1, .ref r1), (2, .ref r2), (3, .int i3)] [] h := by
  unfold f_Law_1311 at hf
  refine C.seg (pe := 1316) (lv' := [(0, .ref r0), (1, .ref r1), (2, .ref r2), (3, .int i3)]) (st' := [.int (i3 + 1), .ref r0, .ref r1]) [(.aload_n 1, 1, 0), (.aload_n 0, 1, 0), (.iload_n 3, 1, 0), (.iconst 1, 1, 1), (.iadd, 1, 0)] (by decide +kernel) rfl ?_
  obtain ⟨x1, gx1, hf⟩ := Option.bind_eq_some_iff.mp hf
  refine C.ald 20 rfl gx1 (by decide +kernel) rfl ?_
  obtain ⟨x2, h3, gx2, hf⟩ := b2_some hf
  refine C.callVr C2 [.int x1] [] mv_1453 rfl (o_X11_pass gx2) (w_X11_pass gx2) (by omega) (by omega) (Nat.le_of_ble_eq_true rfl) (by decide +kernel) rfl ?_
  refine C.seg (pe := 1325) (lv' := [(0, .ref r0), (1, .ref r1), (2, .ref r2), (3, .int i3)]) (st' := [.int (i3 + 1), .ref r0, .ref r2, .int x2]) [(.aload_n 2, 1, 0), (.aload_n 0, 1, 0), (.iload_n 3, 1, 0), (.iconst 1, 1, 1), (.iadd, 1, 0)] (by decide +kernel) rfl ?_
  obtain ⟨x4, gx4, hf⟩ := Option.bind_eq_some_iff.mp hf
  refine C.ald 20 rfl gx4 (by decide +kernel) rfl ?_
  obtain ⟨x5, h6, gx5, hf⟩ := b2_some hf
  refine C.callVr C2 [.int x4] [.int x2] mv_2462 rfl (o_X15_pass gx5) (w_X15_pass gx5) (by omega) (by omega) (Nat.le_of_ble_eq_true rfl) (by decide +kernel) rfl ?_
  refine C.icmp_eq (off := 420) (tgt := 1749) (pf := 1332) (by decide +kernel) (by decide) rfl (fun c7 => ?_) (fun c7 => ?_)
  · replace hf := ifp c7 hf
    exact l_Law_1749 C C2 hk18 r0 r1 r2 i3 h6 hf
  · replace hf := ifn c7 hf
    refine C.seg (pe := 1333) (lv' := [(0, .ref r0), (1, .ref r1), (2, .ref r2), (3, .int i3)]) (st' := [.int 0]) [(.iconst 0, 1, 0)] (by decide +kernel) rfl ?_
    cases hf
    exact C.retZ rfl (by decide) (by decide +kernel) ⟨rfl, rfl⟩
def f_Law_1288 (z : ZX) (k18 : Nat → Nat → Nat → Int32 → AH → Option (Int32 × AH)) (r0 : Nat) (r1 : Nat) (r2 : Nat) (i3 : Int32) (h : AH) : Option (Int32 × AH) :=
  (aI 20 h r0 (i3 + 1)).bind fun x1 =>
  b2 (f_X11_left r1 x1 h) fun x2 h3 =>
  (aI 20 h3 r0 (i3 + 1)).bind fun x4 =>
  b2 (f_X15_left r2 x4 h3) fun x5 h6 =>
  if x2 = x5 then
    f_Law_1749 z k18 r0 r1 r2 i3 h6
  else
    some (0, h6)
set_option maxRecDepth 100000 in
set_option maxHeartbeats 4000000 in
theorem l_Law_1288 {X : MX} {l : Launch} {G : GX} {h0 : AH} {rr : Int32} {hr : AH} (C : Cx X G RLaw cLaw 4 (some .boolean) 2048 84000 h0) (C2 : Cy X l "law" []) {k18 : Nat → Nat → Nat → Int32 → AH → Option (Int32 × AH)} (hk18 : ∀ (r0 : Nat) (r1 : Nat) (r2 : Nat) (i3 : Int32) (h : AH), k18 r0 r1 r2 i3 h = some (rr, hr) → V X G h0 (QI rr hr) 18 [(0, .ref r0), (1, .ref r1), (2, .ref r2), (3, .int i3)] [] h) (r0 : Nat) (r1 : Nat) (r2 : Nat) (i3 : Int32) (h : AH) (hf : f_Law_1288 G.2.2 k18 r0 r1 r2 i3 h = some (rr, hr)) : V X G h0 (QI rr hr) 1288 [(0, .ref r0), (1, .ref r1), (2, .ref r2), (3, .int i3)] [] h := by
  unfold f_Law_1288 at hf
  refine C.seg (pe := 1293) (lv' := [(0, .ref r0), (1, .ref r1), (2, .ref r2), (3, .int i3)]) (st' := [.int (i3 + 1), .ref r0, .ref r1]) [(.aload_n 1, 1, 0), (.aload_n 0, 1, 0), (.iload_n 3, 1, 0), (.iconst 1, 1, 1), (.iadd, 1, 0)] (by decide +kernel) rfl ?_
  obtain ⟨x1, gx1, hf⟩ := Option.bind_eq_some_iff.mp hf
  refine C.ald 20 rfl gx1 (by decide +kernel) rfl ?_
  obtain ⟨x2, h3, gx2, hf⟩ := b2_some hf
  refine C.callVr C2 [.int x1] [] mv_1445 rfl (o_X11_left gx2) (w_X11_left gx2) (by omega) (by omega) (Nat.le_of_ble_eq_true rfl) (by decide +kernel) rfl ?_
  refine C.seg (pe := 1302) (lv' := [(0, .ref r0), (1, .ref r1), (2, .ref r2), (3, .int i3)]) (st' := [.int (i3 + 1), .ref r0, .ref r2, .int x2]) [(.aload_n 2, 1, 0), (.aload_n 0, 1, 0), (.iload_n 3, 1, 0), (.iconst 1, 1, 1), (.iadd, 1, 0)] (by decide +kernel) rfl ?_
  obtain ⟨x4, gx4, hf⟩ := Option.bind_eq_some_iff.mp hf
  refine C.ald 20 rfl gx4 (by decide +kernel) rfl ?_
  obtain ⟨x5, h6, gx5, hf⟩ := b2_some hf
  refine C.callVr C2 [.int x4] [.int x2] mv_2458 rfl (o_X15_left gx5) (w_X15_left gx5) (by omega) (by omega) (Nat.le_of_ble_eq_true rfl) (by decide +kernel) rfl ?_
  refine C.icmp_eq (off := 443) (tgt := 1749) (pf := 1309) (by decide +kernel) (by decide) rfl (fun c7 => ?_) (fun c7 => ?_)
  · replace hf := ifp c7 hf
    exact l_Law_1749 C C2 hk18 r0 r1 r2 i3 h6 hf
  · replace hf := ifn c7 hf
    refine C.seg (pe := 1310) (lv' := [(0, .ref r0), (1, .ref r1), (2, .ref r2), (3, .int i3)]) (st' := [.int 0]) [(.iconst 0, 1, 0)] (by decide +kernel) rfl ?_
    cases hf
    exact C.retZ rfl (by decide) (by decide +kernel) ⟨rfl, rfl⟩
def f_Law_1255 (z : ZX) (k18 : Nat → Nat → Nat → Int32 → AH → Option (Int32 × AH)) (r0 : Nat) (r1 : Nat) (r2 : Nat) (i3 : Int32) (h : AH) : Option (Int32 × AH) :=
  (aI 20 h r0 (i3 + 1)).bind fun x1 =>
  (aI 20 h r0 (i3 + 2)).bind fun x2 =>
  b2 (f_X11_tin r1 x1 x2 h) fun x3 h4 =>
  (aI 20 h4 r0 (i3 + 1)).bind fun x5 =>
  (aI 20 h4 r0 (i3 + 2)).bind fun x6 =>
  b2 (f_X15_tin r2 x5 x6 h4) fun x7 h8 =>
  if x3 = x7 then
    f_Law_1749 z k18 r0 r1 r2 i3 h8
  else
    some (0, h8)
set_option maxRecDepth 100000 in
set_option maxHeartbeats 4000000 in
theorem l_Law_1255 {X : MX} {l : Launch} {G : GX} {h0 : AH} {rr : Int32} {hr : AH} (C : Cx X G RLaw cLaw 4 (some .boolean) 2048 84000 h0) (C2 : Cy X l "law" []) {k18 : Nat → Nat → Nat → Int32 → AH → Option (Int32 × AH)} (hk18 : ∀ (r0 : Nat) (r1 : Nat) (r2 : Nat) (i3 : Int32) (h : AH), k18 r0 r1 r2 i3 h = some (rr, hr) → V X G h0 (QI rr hr) 18 [(0, .ref r0), (1, .ref r1), (2, .ref r2), (3, .int i3)] [] h) (r0 : Nat) (r1 : Nat) (r2 : Nat) (i3 : Int32) (h : AH) (hf : f_Law_1255 G.2.2 k18 r0 r1 r2 i3 h = some (rr, hr)) : V X G h0 (QI rr hr) 1255 [(0, .ref r0), (1, .ref r1), (2, .ref r2), (3, .int i3)] [] h := by
  unfold f_Law_1255 at hf
  refine C.seg (pe := 1260) (lv' := [(0, .ref r0), (1, .ref r1), (2, .ref r2), (3, .int i3)]) (st' := [.int (i3 + 1), .ref r0, .ref r1]) [(.aload_n 1, 1, 0), (.aload_n 0, 1, 0), (.iload_n 3, 1, 0), (.iconst 1, 1, 1), (.iadd, 1, 0)] (by decide +kernel) rfl ?_
  obtain ⟨x1, gx1, hf⟩ := Option.bind_eq_some_iff.mp hf
  refine C.ald 20 rfl gx1 (by decide +kernel) rfl ?_
  refine C.seg (pe := 1265) (lv' := [(0, .ref r0), (1, .ref r1), (2, .ref r2), (3, .int i3)]) (st' := [.int (i3 + 2), .ref r0, .int x1, .ref r1]) [(.aload_n 0, 1, 0), (.iload_n 3, 1, 0), (.iconst 2, 1, 2), (.iadd, 1, 0)] (by decide +kernel) rfl ?_
  obtain ⟨x2, gx2, hf⟩ := Option.bind_eq_some_iff.mp hf
  refine C.ald 20 rfl gx2 (by decide +kernel) rfl ?_
  obtain ⟨x3, h4, gx3, hf⟩ := b2_some hf
  refine C.callVr C2 [.int x1, .int x2] [] mv_1437 rfl (o_X11_tin gx3) (w_X11_tin gx3) (by omega) (by omega) (Nat.le_of_ble_eq_true rfl) (by decide +kernel) rfl ?_
  refine C.seg (pe := 1274) (lv' := [(0, .ref r0), (1, .ref r1), (2, .ref r2), (3, .int i3)]) (st' := [.int (i3 + 1), .ref r0, .ref r2, .int x3]) [(.aload_n 2, 1, 0), (.aload_n 0, 1, 0), (.iload_n 3, 1, 0), (.iconst 1, 1, 1), (.iadd, 1, 0)] (by decide +kernel) rfl ?_
  obtain ⟨x5, gx5, hf⟩ := Option.bind_eq_some_iff.mp hf
  refine C.ald 20 rfl gx5 (by decide +kernel) rfl ?_
  refine C.seg (pe := 1279) (lv' := [(0, .ref r0), (1, .ref r1), (2, .ref r2), (3, .int i3)]) (st' := [.int (i3 + 2), .ref r0, .int x5, .ref r2, .int x3]) [(.aload_n 0, 1, 0), (.iload_n 3, 1, 0), (.iconst 2, 1, 2), (.iadd, 1, 0)] (by decide +kernel) rfl ?_
  obtain ⟨x6, gx6, hf⟩ := Option.bind_eq_some_iff.mp hf
  refine C.ald 20 rfl gx6 (by decide +kernel) rfl ?_
  obtain ⟨x7, h8, gx7, hf⟩ := b2_some hf
  refine C.callVr C2 [.int x5, .int x6] [.int x3] mv_2454 rfl (o_X15_tin gx7) (w_X15_tin gx7) (by omega) (by omega) (Nat.le_of_ble_eq_true rfl) (by decide +kernel) rfl ?_
  refine C.icmp_eq (off := 466) (tgt := 1749) (pf := 1286) (by decide +kernel) (by decide) rfl (fun c9 => ?_) (fun c9 => ?_)
  · replace hf := ifp c9 hf
    exact l_Law_1749 C C2 hk18 r0 r1 r2 i3 h8 hf
  · replace hf := ifn c9 hf
    refine C.seg (pe := 1287) (lv' := [(0, .ref r0), (1, .ref r1), (2, .ref r2), (3, .int i3)]) (st' := [.int 0]) [(.iconst 0, 1, 0)] (by decide +kernel) rfl ?_
    cases hf
    exact C.retZ rfl (by decide) (by decide +kernel) ⟨rfl, rfl⟩
def f_Law_1232 (z : ZX) (k18 : Nat → Nat → Nat → Int32 → AH → Option (Int32 × AH)) (r0 : Nat) (r1 : Nat) (r2 : Nat) (i3 : Int32) (h : AH) : Option (Int32 × AH) :=
  (aI 20 h r0 (i3 + 1)).bind fun x1 =>
  b2 (f_X11_ready r1 x1 h) fun x2 h3 =>
  (aI 20 h3 r0 (i3 + 1)).bind fun x4 =>
  b2 (f_X15_ready r2 x4 h3) fun x5 h6 =>
  if x2 = x5 then
    f_Law_1749 z k18 r0 r1 r2 i3 h6
  else
    some (0, h6)
set_option maxRecDepth 100000 in
set_option maxHeartbeats 4000000 in
theorem l_Law_1232 {X : MX} {l : Launch} {G : GX} {h0 : AH} {rr : Int32} {hr : AH} (C : Cx X G RLaw cLaw 4 (some .boolean) 2048 84000 h0) (C2 : Cy X l "law" []) {k18 : Nat → Nat → Nat → Int32 → AH → Option (Int32 × AH)} (hk18 : ∀ (r0 : Nat) (r1 : Nat) (r2 : Nat) (i3 : Int32) (h : AH), k18 r0 r1 r2 i3 h = some (rr, hr) → V X G h0 (QI rr hr) 18 [(0, .ref r0), (1, .ref r1), (2, .ref r2), (3, .int i3)] [] h) (r0 : Nat) (r1 : Nat) (r2 : Nat) (i3 : Int32) (h : AH) (hf : f_Law_1232 G.2.2 k18 r0 r1 r2 i3 h = some (rr, hr)) : V X G h0 (QI rr hr) 1232 [(0, .ref r0), (1, .ref r1), (2, .ref r2), (3, .int i3)] [] h := by
  unfold f_Law_1232 at hf
  refine C.seg (pe := 1237) (lv' := [(0, .ref r0), (1, .ref r1), (2, .ref r2), (3, .int i3)]) (st' := [.int (i3 + 1), .ref r0, .ref r1]) [(.aload_n 1, 1, 0), (.aload_n 0, 1, 0), (.iload_n 3, 1, 0), (.iconst 1, 1, 1), (.iadd, 1, 0)] (by decide +kernel) rfl ?_
  obtain ⟨x1, gx1, hf⟩ := Option.bind_eq_some_iff.mp hf
  refine C.ald 20 rfl gx1 (by decide +kernel) rfl ?_
  obtain ⟨x2, h3, gx2, hf⟩ := b2_some hf
  refine C.callVr C2 [.int x1] [] mv_1429 rfl (o_X11_ready gx2) (w_X11_ready gx2) (by omega) (by omega) (Nat.le_of_ble_eq_true rfl) (by decide +kernel) rfl ?_
  refine C.seg (pe := 1246) (lv' := [(0, .ref r0), (1, .ref r1), (2, .ref r2), (3, .int i3)]) (st' := [.int (i3 + 1), .ref r0, .ref r2, .int x2]) [(.aload_n 2, 1, 0), (.aload_n 0, 1, 0), (.iload_n 3, 1, 0), (.iconst 1, 1, 1), (.iadd, 1, 0)] (by decide +kernel) rfl ?_
  obtain ⟨x4, gx4, hf⟩ := Option.bind_eq_some_iff.mp hf
  refine C.ald 20 rfl gx4 (by decide +kernel) rfl ?_
  obtain ⟨x5, h6, gx5, hf⟩ := b2_some hf
  refine C.callVr C2 [.int x4] [.int x2] mv_2450 rfl (o_X15_ready gx5) (w_X15_ready gx5) (by omega) (by omega) (Nat.le_of_ble_eq_true rfl) (by decide +kernel) rfl ?_
  refine C.icmp_eq (off := 499) (tgt := 1749) (pf := 1253) (by decide +kernel) (by decide) rfl (fun c7 => ?_) (fun c7 => ?_)
  · replace hf := ifp c7 hf
    exact l_Law_1749 C C2 hk18 r0 r1 r2 i3 h6 hf
  · replace hf := ifn c7 hf
    refine C.seg (pe := 1254) (lv' := [(0, .ref r0), (1, .ref r1), (2, .ref r2), (3, .int i3)]) (st' := [.int 0]) [(.iconst 0, 1, 0)] (by decide +kernel) rfl ?_
    cases hf
    exact C.retZ rfl (by decide) (by decide +kernel) ⟨rfl, rfl⟩
def f_Law_1209 (z : ZX) (k18 : Nat → Nat → Nat → Int32 → AH → Option (Int32 × AH)) (r0 : Nat) (r1 : Nat) (r2 : Nat) (i3 : Int32) (h : AH) : Option (Int32 × AH) :=
  (aI 20 h r0 (i3 + 1)).bind fun x1 =>
  b2 (f_X11_end r1 x1 h) fun x2 h3 =>
  (aI 20 h3 r0 (i3 + 1)).bind fun x4 =>
  b2 (f_X15_end r2 x4 h3) fun x5 h6 =>
  if x2 = x5 then
    f_Law_1749 z k18 r0 r1 r2 i3 h6
  else
    some (0, h6)
set_option maxRecDepth 100000 in
set_option maxHeartbeats 4000000 in
theorem l_Law_1209 {X : MX} {l : Launch} {G : GX} {h0 : AH} {rr : Int32} {hr : AH} (C : Cx X G RLaw cLaw 4 (some .boolean) 2048 84000 h0) (C2 : Cy X l "law" []) {k18 : Nat → Nat → Nat → Int32 → AH → Option (Int32 × AH)} (hk18 : ∀ (r0 : Nat) (r1 : Nat) (r2 : Nat) (i3 : Int32) (h : AH), k18 r0 r1 r2 i3 h = some (rr, hr) → V X G h0 (QI rr hr) 18 [(0, .ref r0), (1, .ref r1), (2, .ref r2), (3, .int i3)] [] h) (r0 : Nat) (r1 : Nat) (r2 : Nat) (i3 : Int32) (h : AH) (hf : f_Law_1209 G.2.2 k18 r0 r1 r2 i3 h = some (rr, hr)) : V X G h0 (QI rr hr) 1209 [(0, .ref r0), (1, .ref r1), (2, .ref r2), (3, .int i3)] [] h := by
  unfold f_Law_1209 at hf
  refine C.seg (pe := 1214) (lv' := [(0, .ref r0), (1, .ref r1), (2, .ref r2), (3, .int i3)]) (st' := [.int (i3 + 1), .ref r0, .ref r1]) [(.aload_n 1, 1, 0), (.aload_n 0, 1, 0), (.iload_n 3, 1, 0), (.iconst 1, 1, 1), (.iadd, 1, 0)] (by decide +kernel) rfl ?_
  obtain ⟨x1, gx1, hf⟩ := Option.bind_eq_some_iff.mp hf
  refine C.ald 20 rfl gx1 (by decide +kernel) rfl ?_
  obtain ⟨x2, h3, gx2, hf⟩ := b2_some hf
  refine C.callVr C2 [.int x1] [] mv_1412 rfl (o_X11_end gx2) (w_X11_end gx2) (by omega) (by omega) (Nat.le_of_ble_eq_true rfl) (by decide +kernel) rfl ?_
  refine C.seg (pe := 1223) (lv' := [(0, .ref r0), (1, .ref r1), (2, .ref r2), (3, .int i3)]) (st' := [.int (i3 + 1), .ref r0, .ref r2, .int x2]) [(.aload_n 2, 1, 0), (.aload_n 0, 1, 0), (.iload_n 3, 1, 0), (.iconst 1, 1, 1), (.iadd, 1, 0)] (by decide +kernel) rfl ?_
  obtain ⟨x4, gx4, hf⟩ := Option.bind_eq_some_iff.mp hf
  refine C.ald 20 rfl gx4 (by decide +kernel) rfl ?_
  obtain ⟨x5, h6, gx5, hf⟩ := b2_some hf
  refine C.callVr C2 [.int x4] [.int x2] mv_2434 rfl (o_X15_end gx5) (w_X15_end gx5) (by omega) (by omega) (Nat.le_of_ble_eq_true rfl) (by decide +kernel) rfl ?_
  refine C.icmp_eq (off := 522) (tgt := 1749) (pf := 1230) (by decide +kernel) (by decide) rfl (fun c7 => ?_) (fun c7 => ?_)
  · replace hf := ifp c7 hf
    exact l_Law_1749 C C2 hk18 r0 r1 r2 i3 h6 hf
  · replace hf := ifn c7 hf
    refine C.seg (pe := 1231) (lv' := [(0, .ref r0), (1, .ref r1), (2, .ref r2), (3, .int i3)]) (st' := [.int 0]) [(.iconst 0, 1, 0)] (by decide +kernel) rfl ?_
    cases hf
    exact C.retZ rfl (by decide) (by decide +kernel) ⟨rfl, rfl⟩
def f_Law_1186 (z : ZX) (k18 : Nat → Nat → Nat → Int32 → AH → Option (Int32 × AH)) (r0 : Nat) (r1 : Nat) (r2 : Nat) (i3 : Int32) (h : AH) : Option (Int32 × AH) :=
  (aI 20 h r0 (i3 + 1)).bind fun x1 =>
  b2 (f_X11_lifts r1 x1 h) fun x2 h3 =>
  (aI 20 h3 r0 (i3 + 1)).bind fun x4 =>
  b2 (f_X15_lifts r2 x4 h3) fun x5 h6 =>
  if x2 = x5 then
    f_Law_1749 z k18 r0 r1 r2 i3 h6
  else
    some (0, h6)
set_option maxRecDepth 100000 in
set_option maxHeartbeats 4000000 in
theorem l_Law_1186 {X : MX} {l : Launch} {G : GX} {h0 : AH} {rr : Int32} {hr : AH} (C : Cx X G RLaw cLaw 4 (some .boolean) 2048 84000 h0) (C2 : Cy X l "law" []) {k18 : Nat → Nat → Nat → Int32 → AH → Option (Int32 × AH)} (hk18 : ∀ (r0 : Nat) (r1 : Nat) (r2 : Nat) (i3 : Int32) (h : AH), k18 r0 r1 r2 i3 h = some (rr, hr) → V X G h0 (QI rr hr) 18 [(0, .ref r0), (1, .ref r1), (2, .ref r2), (3, .int i3)] [] h) (r0 : Nat) (r1 : Nat) (r2 : Nat) (i3 : Int32) (h : AH) (hf : f_Law_1186 G.2.2 k18 r0 r1 r2 i3 h = some (rr, hr)) : V X G h0 (QI rr hr) 1186 [(0, .ref r0), (1, .ref r1), (2, .ref r2), (3, .int i3)] [] h := by
  unfold f_Law_1186 at hf
  refine C.seg (pe := 1191) (lv' := [(0, .ref r0), (1, .ref r1), (2, .ref r2), (3, .int i3)]) (st' := [.int (i3 + 1), .ref r0, .ref r1]) [(.aload_n 1, 1, 0), (.aload_n 0, 1, 0), (.iload_n 3, 1, 0), (.iconst 1, 1, 1), (.iadd, 1, 0)] (by decide +kernel) rfl ?_
  obtain ⟨x1, gx1, hf⟩ := Option.bind_eq_some_iff.mp hf
  refine C.ald 20 rfl gx1 (by decide +kernel) rfl ?_
  obtain ⟨x2, h3, gx2, hf⟩ := b2_some hf
  refine C.callVr C2 [.int x1] [] mv_1408 rfl (o_X11_lifts gx2) (w_X11_lifts gx2) (by omega) (by omega) (Nat.le_of_ble_eq_true rfl) (by decide +kernel) rfl ?_
  refine C.seg (pe := 1200) (lv' := [(0, .ref r0), (1, .ref r1), (2, .ref r2), (3, .int i3)]) (st' := [.int (i3 + 1), .ref r0, .ref r2, .int x2]) [(.aload_n 2, 1, 0), (.aload_n 0, 1, 0), (.iload_n 3, 1, 0), (.iconst 1, 1, 1), (.iadd, 1, 0)] (by decide +kernel) rfl ?_
  obtain ⟨x4, gx4, hf⟩ := Option.bind_eq_some_iff.mp hf
  refine C.ald 20 rfl gx4 (by decide +kernel) rfl ?_
  obtain ⟨x5, h6, gx5, hf⟩ := b2_some hf
  refine C.callVr C2 [.int x4] [.int x2] mv_2430 rfl (o_X15_lifts gx5) (w_X15_lifts gx5) (by omega) (by omega) (Nat.le_of_ble_eq_true rfl) (by decide +kernel) rfl ?_
  refine C.icmp_eq (off := 545) (tgt := 1749) (pf := 1207) (by decide +kernel) (by decide) rfl (fun c7 => ?_) (fun c7 => ?_)
  · replace hf := ifp c7 hf
    exact l_Law_1749 C C2 hk18 r0 r1 r2 i3 h6 hf
  · replace hf := ifn c7 hf
    refine C.seg (pe := 1208) (lv' := [(0, .ref r0), (1, .ref r1), (2, .ref r2), (3, .int i3)]) (st' := [.int 0]) [(.iconst 0, 1, 0)] (by decide +kernel) rfl ?_
    cases hf
    exact C.retZ rfl (by decide) (by decide +kernel) ⟨rfl, rfl⟩
def f_Law_1143 (z : ZX) (k18 : Nat → Nat → Nat → Int32 → AH → Option (Int32 × AH)) (r0 : Nat) (r1 : Nat) (r2 : Nat) (i3 : Int32) (h : AH) : Option (Int32 × AH) :=
  (aI 20 h r0 (i3 + 1)).bind fun x1 =>
  (aI 20 h r0 (i3 + 2)).bind fun x2 =>
  (aI 20 h r0 (i3 + 3)).bind fun x3 =>
  b2 (f_X11_weather r1 x1 x2 x3 h) fun x4 h5 =>
  (aI 20 h5 r0 (i3 + 1)).bind fun x6 =>
  (aI 20 h5 r0 (i3 + 2)).bind fun x7 =>
  (aI 20 h5 r0 (i3 + 3)).bind fun x8 =>
  b2 (f_X15_weather r2 x6 x7 x8 h5) fun x9 h10 =>
  if x4 = x9 then
    f_Law_1749 z k18 r0 r1 r2 i3 h10
  else
    some (0, h10)
set_option maxRecDepth 100000 in
set_option maxHeartbeats 4000000 in
theorem l_Law_1143 {X : MX} {l : Launch} {G : GX} {h0 : AH} {rr : Int32} {hr : AH} (C : Cx X G RLaw cLaw 4 (some .boolean) 2048 84000 h0) (C2 : Cy X l "law" []) {k18 : Nat → Nat → Nat → Int32 → AH → Option (Int32 × AH)} (hk18 : ∀ (r0 : Nat) (r1 : Nat) (r2 : Nat) (i3 : Int32) (h : AH), k18 r0 r1 r2 i3 h = some (rr, hr) → V X G h0 (QI rr hr) 18 [(0, .ref r0), (1, .ref r1), (2, .ref r2), (3, .int i3)] [] h) (r0 : Nat) (r1 : Nat) (r2 : Nat) (i3 : Int32) (h : AH) (hf : f_Law_1143 G.2.2 k18 r0 r1 r2 i3 h = some (rr, hr)) : V X G h0 (QI rr hr) 1143 [(0, .ref r0), (1, .ref r1), (2, .ref r2), (3, .int i3)] [] h := by
  unfold f_Law_1143 at hf
  refine C.seg (pe := 1148) (lv' := [(0, .ref r0), (1, .ref r1), (2, .ref r2), (3, .int i3)]) (st' := [.int (i3 + 1), .ref r0, .ref r1]) [(.aload_n 1, 1, 0), (.aload_n 0, 1, 0), (.iload_n 3, 1, 0), (.iconst 1, 1, 1), (.iadd, 1, 0)] (by decide +kernel) rfl ?_
  obtain ⟨x1, gx1, hf⟩ := Option.bind_eq_some_iff.mp hf
  refine C.ald 20 rfl gx1 (by decide +kernel) rfl ?_
  refine C.seg (pe := 1153) (lv' := [(0, .ref r0), (1, .ref r1), (2, .ref r2), (3, .int i3)]) (st' := [.int (i3 + 2), .ref r0, .int x1, .ref r1]) [(.aload_n 0, 1, 0), (.iload_n 3, 1, 0), (.iconst 2, 1, 2), (.iadd, 1, 0)] (by decide +kernel) rfl ?_
  obtain ⟨x2, gx2, hf⟩ := Option.bind_eq_some_iff.mp hf
  refine C.ald 20 rfl gx2 (by decide +kernel) rfl ?_
  refine C.seg (pe := 1158) (lv' := [(0, .ref r0), (1, .ref r1), (2, .ref r2), (3, .int i3)]) (st' := [.int (i3 + 3), .ref r0, .int x2, .int x1, .ref r1]) [(.aload_n 0, 1, 0), (.iload_n 3, 1, 0), (.iconst 3, 1, 3), (.iadd, 1, 0)] (by decide +kernel) rfl ?_
  obtain ⟨x3, gx3, hf⟩ := Option.bind_eq_some_iff.mp hf
  refine C.ald 20 rfl gx3 (by decide +kernel) rfl ?_
  obtain ⟨x4, h5, gx4, hf⟩ := b2_some hf
  refine C.callVr C2 [.int x1, .int x2, .int x3] [] mv_1400 rfl (o_X11_weather gx4) (w_X11_weather gx4) (by omega) (by omega) (Nat.le_of_ble_eq_true rfl) (by decide +kernel) rfl ?_
  refine C.seg (pe := 1167) (lv' := [(0, .ref r0), (1, .ref r1), (2, .ref r2), (3, .int i3)]) (st' := [.int (i3 + 1), .ref r0, .ref r2, .int x4]) [(.aload_n 2, 1, 0), (.aload_n 0, 1, 0), (.iload_n 3, 1, 0), (.iconst 1, 1, 1), (.iadd, 1, 0)] (by decide +kernel) rfl ?_
  obtain ⟨x6, gx6, hf⟩ := Option.bind_eq_some_iff.mp hf
  refine C.ald 20 rfl gx6 (by decide +kernel) rfl ?_
  refine C.seg (pe := 1172) (lv' := [(0, .ref r0), (1, .ref r1), (2, .ref r2), (3, .int i3)]) (st' := [.int (i3 + 2), .ref r0, .int x6, .ref r2, .int x4]) [(.aload_n 0, 1, 0), (.iload_n 3, 1, 0), (.iconst 2, 1, 2), (.iadd, 1, 0)] (by decide +kernel) rfl ?_
  obtain ⟨x7, gx7, hf⟩ := Option.bind_eq_some_iff.mp hf
  refine C.ald 20 rfl gx7 (by decide +kernel) rfl ?_
  refine C.seg (pe := 1177) (lv' := [(0, .ref r0), (1, .ref r1), (2, .ref r2), (3, .int i3)]) (st' := [.int (i3 + 3), .ref r0, .int x7, .int x6, .ref r2, .int x4]) [(.aload_n 0, 1, 0), (.iload_n 3, 1, 0), (.iconst 3, 1, 3), (.iadd, 1, 0)] (by decide +kernel) rfl ?_
  obtain ⟨x8, gx8, hf⟩ := Option.bind_eq_some_iff.mp hf
  refine C.ald 20 rfl gx8 (by decide +kernel) rfl ?_
  obtain ⟨x9, h10, gx9, hf⟩ := b2_some hf
  refine C.callVr C2 [.int x6, .int x7, .int x8] [.int x4] mv_2426 rfl (o_X15_weather gx9) (w_X15_weather gx9) (by omega) (by omega) (Nat.le_of_ble_eq_true rfl) (by decide +kernel) rfl ?_
  refine C.icmp_eq (off := 568) (tgt := 1749) (pf := 1184) (by decide +kernel) (by decide) rfl (fun c11 => ?_) (fun c11 => ?_)
  · replace hf := ifp c11 hf
    exact l_Law_1749 C C2 hk18 r0 r1 r2 i3 h10 hf
  · replace hf := ifn c11 hf
    refine C.seg (pe := 1185) (lv' := [(0, .ref r0), (1, .ref r1), (2, .ref r2), (3, .int i3)]) (st' := [.int 0]) [(.iconst 0, 1, 0)] (by decide +kernel) rfl ?_
    cases hf
    exact C.retZ rfl (by decide) (by decide +kernel) ⟨rfl, rfl⟩
def f_Law_1110 (z : ZX) (k18 : Nat → Nat → Nat → Int32 → AH → Option (Int32 × AH)) (r0 : Nat) (r1 : Nat) (r2 : Nat) (i3 : Int32) (h : AH) : Option (Int32 × AH) :=
  (aI 20 h r0 (i3 + 1)).bind fun x1 =>
  (aI 20 h r0 (i3 + 2)).bind fun x2 =>
  b2 (f_X11_workOf r1 x1 x2 h) fun x3 h4 =>
  (aI 20 h4 r0 (i3 + 1)).bind fun x5 =>
  (aI 20 h4 r0 (i3 + 2)).bind fun x6 =>
  b2 (f_X15_workOf r2 x5 x6 h4) fun x7 h8 =>
  if x3 = x7 then
    f_Law_1749 z k18 r0 r1 r2 i3 h8
  else
    some (0, h8)
set_option maxRecDepth 100000 in
set_option maxHeartbeats 4000000 in
theorem l_Law_1110 {X : MX} {l : Launch} {G : GX} {h0 : AH} {rr : Int32} {hr : AH} (C : Cx X G RLaw cLaw 4 (some .boolean) 2048 84000 h0) (C2 : Cy X l "law" []) {k18 : Nat → Nat → Nat → Int32 → AH → Option (Int32 × AH)} (hk18 : ∀ (r0 : Nat) (r1 : Nat) (r2 : Nat) (i3 : Int32) (h : AH), k18 r0 r1 r2 i3 h = some (rr, hr) → V X G h0 (QI rr hr) 18 [(0, .ref r0), (1, .ref r1), (2, .ref r2), (3, .int i3)] [] h) (r0 : Nat) (r1 : Nat) (r2 : Nat) (i3 : Int32) (h : AH) (hf : f_Law_1110 G.2.2 k18 r0 r1 r2 i3 h = some (rr, hr)) : V X G h0 (QI rr hr) 1110 [(0, .ref r0), (1, .ref r1), (2, .ref r2), (3, .int i3)] [] h := by
  unfold f_Law_1110 at hf
  refine C.seg (pe := 1115) (lv' := [(0, .ref r0), (1, .ref r1), (2, .ref r2), (3, .int i3)]) (st' := [.int (i3 + 1), .ref r0, .ref r1]) [(.aload_n 1, 1, 0), (.aload_n 0, 1, 0), (.iload_n 3, 1, 0), (.iconst 1, 1, 1), (.iadd, 1, 0)] (by decide +kernel) rfl ?_
  obtain ⟨x1, gx1, hf⟩ := Option.bind_eq_some_iff.mp hf
  refine C.ald 20 rfl gx1 (by decide +kernel) rfl ?_
  refine C.seg (pe := 1120) (lv' := [(0, .ref r0), (1, .ref r1), (2, .ref r2), (3, .int i3)]) (st' := [.int (i3 + 2), .ref r0, .int x1, .ref r1]) [(.aload_n 0, 1, 0), (.iload_n 3, 1, 0), (.iconst 2, 1, 2), (.iadd, 1, 0)] (by decide +kernel) rfl ?_
  obtain ⟨x2, gx2, hf⟩ := Option.bind_eq_some_iff.mp hf
  refine C.ald 20 rfl gx2 (by decide +kernel) rfl ?_
  obtain ⟨x3, h4, gx3, hf⟩ := b2_some hf
  refine C.callVr C2 [.int x1, .int x2] [] mv_1395 rfl (o_X11_workOf gx3) (w_X11_workOf gx3) (by omega) (by omega) (Nat.le_of_ble_eq_true rfl) (by decide +kernel) rfl ?_
  refine C.seg (pe := 1129) (lv' := [(0, .ref r0), (1, .ref r1), (2, .ref r2), (3, .int i3)]) (st' := [.int (i3 + 1), .ref r0, .ref r2, .int x3]) [(.aload_n 2, 1, 0), (.aload_n 0, 1, 0), (.iload_n 3, 1, 0), (.iconst 1, 1, 1), (.iadd, 1, 0)] (by decide +kernel) rfl ?_
  obtain ⟨x5, gx5, hf⟩ := Option.bind_eq_some_iff.mp hf
  refine C.ald 20 rfl gx5 (by decide +kernel) rfl ?_
  refine C.seg (pe := 1134) (lv' := [(0, .ref r0), (1, .ref r1), (2, .ref r2), (3, .int i3)]) (st' := [.int (i3 + 2), .ref r0, .int x5, .ref r2, .int x3]) [(.aload_n 0, 1, 0), (.iload_n 3, 1, 0), (.iconst 2, 1, 2), (.iadd, 1, 0)] (by decide +kernel) rfl ?_
  obtain ⟨x6, gx6, hf⟩ := Option.bind_eq_some_iff.mp hf
  refine C.ald 20 rfl gx6 (by decide +kernel) rfl ?_
  obtain ⟨x7, h8, gx7, hf⟩ := b2_some hf
  refine C.callVr C2 [.int x5, .int x6] [.int x3] mv_2418 rfl (o_X15_workOf gx7) (w_X15_workOf gx7) (by omega) (by omega) (Nat.le_of_ble_eq_true rfl) (by decide +kernel) rfl ?_
  refine C.icmp_eq (off := 611) (tgt := 1749) (pf := 1141) (by decide +kernel) (by decide) rfl (fun c9 => ?_) (fun c9 => ?_)
  · replace hf := ifp c9 hf
    exact l_Law_1749 C C2 hk18 r0 r1 r2 i3 h8 hf
  · replace hf := ifn c9 hf
    refine C.seg (pe := 1142) (lv' := [(0, .ref r0), (1, .ref r1), (2, .ref r2), (3, .int i3)]) (st' := [.int 0]) [(.iconst 0, 1, 0)] (by decide +kernel) rfl ?_
    cases hf
    exact C.retZ rfl (by decide) (by decide +kernel) ⟨rfl, rfl⟩
def f_Law_1067 (z : ZX) (k18 : Nat → Nat → Nat → Int32 → AH → Option (Int32 × AH)) (r0 : Nat) (r1 : Nat) (r2 : Nat) (i3 : Int32) (h : AH) : Option (Int32 × AH) :=
  (aI 20 h r0 (i3 + 1)).bind fun x1 =>
  (aI 20 h r0 (i3 + 2)).bind fun x2 =>
  (aI 20 h r0 (i3 + 3)).bind fun x3 =>
  b2 (f_X11_work r1 x1 x2 x3 h) fun x4 h5 =>
  (aI 20 h5 r0 (i3 + 1)).bind fun x6 =>
  (aI 20 h5 r0 (i3 + 2)).bind fun x7 =>
  (aI 20 h5 r0 (i3 + 3)).bind fun x8 =>
  b2 (f_X15_work r2 x6 x7 x8 h5) fun x9 h10 =>
  if x4 = x9 then
    f_Law_1749 z k18 r0 r1 r2 i3 h10
  else
    some (0, h10)
set_option maxRecDepth 100000 in
set_option maxHeartbeats 4000000 in
theorem l_Law_1067 {X : MX} {l : Launch} {G : GX} {h0 : AH} {rr : Int32} {hr : AH} (C : Cx X G RLaw cLaw 4 (some .boolean) 2048 84000 h0) (C2 : Cy X l "law" []) {k18 : Nat → Nat → Nat → Int32 → AH → Option (Int32 × AH)} (hk18 : ∀ (r0 : Nat) (r1 : Nat) (r2 : Nat) (i3 : Int32) (h : AH), k18 r0 r1 r2 i3 h = some (rr, hr) → V X G h0 (QI rr hr) 18 [(0, .ref r0), (1, .ref r1), (2, .ref r2), (3, .int i3)] [] h) (r0 : Nat) (r1 : Nat) (r2 : Nat) (i3 : Int32) (h : AH) (hf : f_Law_1067 G.2.2 k18 r0 r1 r2 i3 h = some (rr, hr)) : V X G h0 (QI rr hr) 1067 [(0, .ref r0), (1, .ref r1), (2, .ref r2), (3, .int i3)] [] h := by
  unfold f_Law_1067 at hf
  refine C.seg (pe := 1072) (lv' := [(0, .ref r0), (1, .ref r1), (2, .ref r2), (3, .int i3)]) (st' := [.int (i3 + 1), .ref r0, .ref r1]) [(.aload_n 1, 1, 0), (.aload_n 0, 1, 0), (.iload_n 3, 1, 0), (.iconst 1, 1, 1), (.iadd, 1, 0)] (by decide +kernel) rfl ?_
  obtain ⟨x1, gx1, hf⟩ := Option.bind_eq_some_iff.mp hf
  refine C.ald 20 rfl gx1 (by decide +kernel) rfl ?_
  refine C.seg (pe := 1077) (lv' := [(0, .ref r0), (1, .ref r1), (2, .ref r2), (3, .int i3)]) (st' := [.int (i3 + 2), .ref r0, .int x1, .ref r1]) [(.aload_n 0, 1, 0), (.iload_n 3, 1, 0), (.iconst 2, 1, 2), (.iadd, 1, 0)] (by decide +kernel) rfl ?_
  obtain ⟨x2, gx2, hf⟩ := Option.bind_eq_some_iff.mp hf
  refine C.ald 20 rfl gx2 (by decide +kernel) rfl ?_
  refine C.seg (pe := 1082) (lv' := [(0, .ref r0), (1, .ref r1), (2, .ref r2), (3, .int i3)]) (st' := [.int (i3 + 3), .ref r0, .int x2, .int x1, .ref r1]) [(.aload_n 0, 1, 0), (.iload_n 3, 1, 0), (.iconst 3, 1, 3), (.iadd, 1, 0)] (by decide +kernel) rfl ?_
  obtain ⟨x3, gx3, hf⟩ := Option.bind_eq_some_iff.mp hf
  refine C.ald 20 rfl gx3 (by decide +kernel) rfl ?_
  obtain ⟨x4, h5, gx4, hf⟩ := b2_some hf
  refine C.callVr C2 [.int x1, .int x2, .int x3] [] mv_1377 rfl (o_X11_work gx4) (w_X11_work gx4) (by omega) (by omega) (Nat.le_of_ble_eq_true rfl) (by decide +kernel) rfl ?_
  refine C.seg (pe := 1091) (lv' := [(0, .ref r0), (1, .ref r1), (2, .ref r2), (3, .int i3)]) (st' := [.int (i3 + 1), .ref r0, .ref r2, .int x4]) [(.aload_n 2, 1, 0), (.aload_n 0, 1, 0), (.iload_n 3, 1, 0), (.iconst 1, 1, 1), (.iadd, 1, 0)] (by decide +kernel) rfl ?_
  obtain ⟨x6, gx6, hf⟩ := Option.bind_eq_some_iff.mp hf
  refine C.ald 20 rfl gx6 (by decide +kernel) rfl ?_
  refine C.seg (pe := 1096) (lv' := [(0, .ref r0), (1, .ref r1), (2, .ref r2), (3, .int i3)]) (st' := [.int (i3 + 2), .ref r0, .int x6, .ref r2, .int x4]) [(.aload_n 0, 1, 0), (.iload_n 3, 1, 0), (.iconst 2, 1, 2), (.iadd, 1, 0)] (by decide +kernel) rfl ?_
  obtain ⟨x7, gx7, hf⟩ := Option.bind_eq_some_iff.mp hf
  refine C.ald 20 rfl gx7 (by decide +kernel) rfl ?_
  refine C.seg (pe := 1101) (lv' := [(0, .ref r0), (1, .ref r1), (2, .ref r2), (3, .int i3)]) (st' := [.int (i3 + 3), .ref r0, .int x7, .int x6, .ref r2, .int x4]) [(.aload_n 0, 1, 0), (.iload_n 3, 1, 0), (.iconst 3, 1, 3), (.iadd, 1, 0)] (by decide +kernel) rfl ?_
  obtain ⟨x8, gx8, hf⟩ := Option.bind_eq_some_iff.mp hf
  refine C.ald 20 rfl gx8 (by decide +kernel) rfl ?_
  obtain ⟨x9, h10, gx9, hf⟩ := b2_some hf
  refine C.callVr C2 [.int x6, .int x7, .int x8] [.int x4] mv_2414 rfl (o_X15_work gx9) (w_X15_work gx9) (by omega) (by omega) (Nat.le_of_ble_eq_true rfl) (by decide +kernel) rfl ?_
  refine C.icmp_eq (off := 644) (tgt := 1749) (pf := 1108) (by decide +kernel) (by decide) rfl (fun c11 => ?_) (fun c11 => ?_)
  · replace hf := ifp c11 hf
    exact l_Law_1749 C C2 hk18 r0 r1 r2 i3 h10 hf
  · replace hf := ifn c11 hf
    refine C.seg (pe := 1109) (lv' := [(0, .ref r0), (1, .ref r1), (2, .ref r2), (3, .int i3)]) (st' := [.int 0]) [(.iconst 0, 1, 0)] (by decide +kernel) rfl ?_
    cases hf
    exact C.retZ rfl (by decide) (by decide +kernel) ⟨rfl, rfl⟩
def f_Law_1044 (z : ZX) (k18 : Nat → Nat → Nat → Int32 → AH → Option (Int32 × AH)) (r0 : Nat) (r1 : Nat) (r2 : Nat) (i3 : Int32) (h : AH) : Option (Int32 × AH) :=
  (aI 20 h r0 (i3 + 1)).bind fun x1 =>
  b2 (f_X11_given r1 x1 h) fun x2 h3 =>
  (aI 20 h3 r0 (i3 + 1)).bind fun x4 =>
  b2 (f_X15_given r2 x4 h3) fun x5 h6 =>
  if x2 = x5 then
    f_Law_1749 z k18 r0 r1 r2 i3 h6
  else
    some (0, h6)
set_option maxRecDepth 100000 in
set_option maxHeartbeats 4000000 in
theorem l_Law_1044 {X : MX} {l : Launch} {G : GX} {h0 : AH} {rr : Int32} {hr : AH} (C : Cx X G RLaw cLaw 4 (some .boolean) 2048 84000 h0) (C2 : Cy X l "law" []) {k18 : Nat → Nat → Nat → Int32 → AH → Option (Int32 × AH)} (hk18 : ∀ (r0 : Nat) (r1 : Nat) (r2 : Nat) (i3 : Int32) (h : AH), k18 r0 r1 r2 i3 h = some (rr, hr) → V X G h0 (QI rr hr) 18 [(0, .ref r0), (1, .ref r1), (2, .ref r2), (3, .int i3)] [] h) (r0 : Nat) (r1 : Nat) (r2 : Nat) (i3 : Int32) (h : AH) (hf : f_Law_1044 G.2.2 k18 r0 r1 r2 i3 h = some (rr, hr)) : V X G h0 (QI rr hr) 1044 [(0, .ref r0), (1, .ref r1), (2, .ref r2), (3, .int i3)] [] h := by
  unfold f_Law_1044 at hf
  refine C.seg (pe := 1049) (lv' := [(0, .ref r0), (1, .ref r1), (2, .ref r2), (3, .int i3)]) (st' := [.int (i3 + 1), .ref r0, .ref r1]) [(.aload_n 1, 1, 0), (.aload_n 0, 1, 0), (.iload_n 3, 1, 0), (.iconst 1, 1, 1), (.iadd, 1, 0)] (by decide +kernel) rfl ?_
  obtain ⟨x1, gx1, hf⟩ := Option.bind_eq_some_iff.mp hf
  refine C.ald 20 rfl gx1 (by decide +kernel) rfl ?_
  obtain ⟨x2, h3, gx2, hf⟩ := b2_some hf
  refine C.callVr C2 [.int x1] [] mv_1369 rfl (o_X11_given gx2) (w_X11_given gx2) (by omega) (by omega) (Nat.le_of_ble_eq_true rfl) (by decide +kernel) rfl ?_
  refine C.seg (pe := 1058) (lv' := [(0, .ref r0), (1, .ref r1), (2, .ref r2), (3, .int i3)]) (st' := [.int (i3 + 1), .ref r0, .ref r2, .int x2]) [(.aload_n 2, 1, 0), (.aload_n 0, 1, 0), (.iload_n 3, 1, 0), (.iconst 1, 1, 1), (.iadd, 1, 0)] (by decide +kernel) rfl ?_
  obtain ⟨x4, gx4, hf⟩ := Option.bind_eq_some_iff.mp hf
  refine C.ald 20 rfl gx4 (by decide +kernel) rfl ?_
  obtain ⟨x5, h6, gx5, hf⟩ := b2_some hf
  refine C.callVr C2 [.int x4] [.int x2] mv_2410 rfl (o_X15_given gx5) (w_X15_given gx5) (by omega) (by omega) (Nat.le_of_ble_eq_true rfl) (by decide +kernel) rfl ?_
  refine C.icmp_eq (off := 687) (tgt := 1749) (pf := 1065) (by decide +kernel) (by decide) rfl (fun c7 => ?_) (fun c7 => ?_)
  · replace hf := ifp c7 hf
    exact l_Law_1749 C C2 hk18 r0 r1 r2 i3 h6 hf
  · replace hf := ifn c7 hf
    refine C.seg (pe := 1066) (lv' := [(0, .ref r0), (1, .ref r1), (2, .ref r2), (3, .int i3)]) (st' := [.int 0]) [(.iconst 0, 1, 0)] (by decide +kernel) rfl ?_
    cases hf
    exact C.retZ rfl (by decide) (by decide +kernel) ⟨rfl, rfl⟩
def f_Law_1021 (z : ZX) (k18 : Nat → Nat → Nat → Int32 → AH → Option (Int32 × AH)) (r0 : Nat) (r1 : Nat) (r2 : Nat) (i3 : Int32) (h : AH) : Option (Int32 × AH) :=
  (aI 20 h r0 (i3 + 1)).bind fun x1 =>
  b2 (f_X11_give r1 x1 h) fun x2 h3 =>
  (aI 20 h3 r0 (i3 + 1)).bind fun x4 =>
  b2 (f_X15_give r2 x4 h3) fun x5 h6 =>
  if x2 = x5 then
    f_Law_1749 z k18 r0 r1 r2 i3 h6
  else
    some (0, h6)
set_option maxRecDepth 100000 in
set_option maxHeartbeats 4000000 in
theorem l_Law_1021 {X : MX} {l : Launch} {G : GX} {h0 : AH} {rr : Int32} {hr : AH} (C : Cx X G RLaw cLaw 4 (some .boolean) 2048 84000 h0) (C2 : Cy X l "law" []) {k18 : Nat → Nat → Nat → Int32 → AH → Option (Int32 × AH)} (hk18 : ∀ (r0 : Nat) (r1 : Nat) (r2 : Nat) (i3 : Int32) (h : AH), k18 r0 r1 r2 i3 h = some (rr, hr) → V X G h0 (QI rr hr) 18 [(0, .ref r0), (1, .ref r1), (2, .ref r2), (3, .int i3)] [] h) (r0 : Nat) (r1 : Nat) (r2 : Nat) (i3 : Int32) (h : AH) (hf : f_Law_1021 G.2.2 k18 r0 r1 r2 i3 h = some (rr, hr)) : V X G h0 (QI rr hr) 1021 [(0, .ref r0), (1, .ref r1), (2, .ref r2), (3, .int i3)] [] h := by
  unfold f_Law_1021 at hf
  refine C.seg (pe := 1026) (lv' := [(0, .ref r0), (1, .ref r1), (2, .ref r2), (3, .int i3)]) (st' := [.int (i3 + 1), .ref r0, .ref r1]) [(.aload_n 1, 1, 0), (.aload_n 0, 1, 0), (.iload_n 3, 1, 0), (.iconst 1, 1, 1), (.iadd, 1, 0)] (by decide +kernel) rfl ?_
  obtain ⟨x1, gx1, hf⟩ := Option.bind_eq_some_iff.mp hf
  refine C.ald 20 rfl gx1 (by decide +kernel) rfl ?_
  obtain ⟨x2, h3, gx2, hf⟩ := b2_some hf
  refine C.callVr C2 [.int x1] [] mv_1295 rfl (o_X11_give gx2) (w_X11_give gx2) (by omega) (by omega) (Nat.le_of_ble_eq_true rfl) (by decide +kernel) rfl ?_
  refine C.seg (pe := 1035) (lv' := [(0, .ref r0), (1, .ref r1), (2, .ref r2), (3, .int i3)]) (st' := [.int (i3 + 1), .ref r0, .ref r2, .int x2]) [(.aload_n 2, 1, 0), (.aload_n 0, 1, 0), (.iload_n 3, 1, 0), (.iconst 1, 1, 1), (.iadd, 1, 0)] (by decide +kernel) rfl ?_
  obtain ⟨x4, gx4, hf⟩ := Option.bind_eq_some_iff.mp hf
  refine C.ald 20 rfl gx4 (by decide +kernel) rfl ?_
  obtain ⟨x5, h6, gx5, hf⟩ := b2_some hf
  refine C.callVr C2 [.int x4] [.int x2] mv_2391 rfl (o_X15_give gx5) (w_X15_give gx5) (by omega) (by omega) (Nat.le_of_ble_eq_true rfl) (by decide +kernel) rfl ?_
  refine C.icmp_eq (off := 710) (tgt := 1749) (pf := 1042) (by decide +kernel) (by decide) rfl (fun c7 => ?_) (fun c7 => ?_)
  · replace hf := ifp c7 hf
    exact l_Law_1749 C C2 hk18 r0 r1 r2 i3 h6 hf
  · replace hf := ifn c7 hf
    refine C.seg (pe := 1043) (lv' := [(0, .ref r0), (1, .ref r1), (2, .ref r2), (3, .int i3)]) (st' := [.int 0]) [(.iconst 0, 1, 0)] (by decide +kernel) rfl ?_
    cases hf
    exact C.retZ rfl (by decide) (by decide +kernel) ⟨rfl, rfl⟩
def f_Law_988 (z : ZX) (k18 : Nat → Nat → Nat → Int32 → AH → Option (Int32 × AH)) (r0 : Nat) (r1 : Nat) (r2 : Nat) (i3 : Int32) (h : AH) : Option (Int32 × AH) :=
  (aI 20 h r0 (i3 + 1)).bind fun x1 =>
  (aI 20 h r0 (i3 + 2)).bind fun x2 =>
  b2 (f_X11_liked r1 x1 x2 h) fun x3 h4 =>
  (aI 20 h4 r0 (i3 + 1)).bind fun x5 =>
  (aI 20 h4 r0 (i3 + 2)).bind fun x6 =>
  b2 (f_X15_liked r2 x5 x6 h4) fun x7 h8 =>
  if x3 = x7 then
    f_Law_1749 z k18 r0 r1 r2 i3 h8
  else
    some (0, h8)
set_option maxRecDepth 100000 in
set_option maxHeartbeats 4000000 in
theorem l_Law_988 {X : MX} {l : Launch} {G : GX} {h0 : AH} {rr : Int32} {hr : AH} (C : Cx X G RLaw cLaw 4 (some .boolean) 2048 84000 h0) (C2 : Cy X l "law" []) {k18 : Nat → Nat → Nat → Int32 → AH → Option (Int32 × AH)} (hk18 : ∀ (r0 : Nat) (r1 : Nat) (r2 : Nat) (i3 : Int32) (h : AH), k18 r0 r1 r2 i3 h = some (rr, hr) → V X G h0 (QI rr hr) 18 [(0, .ref r0), (1, .ref r1), (2, .ref r2), (3, .int i3)] [] h) (r0 : Nat) (r1 : Nat) (r2 : Nat) (i3 : Int32) (h : AH) (hf : f_Law_988 G.2.2 k18 r0 r1 r2 i3 h = some (rr, hr)) : V X G h0 (QI rr hr) 988 [(0, .ref r0), (1, .ref r1), (2, .ref r2), (3, .int i3)] [] h := by
  unfold f_Law_988 at hf
  refine C.seg (pe := 993) (lv' := [(0, .ref r0), (1, .ref r1), (2, .ref r2), (3, .int i3)]) (st' := [.int (i3 + 1), .ref r0, .ref r1]) [(.aload_n 1, 1, 0), (.aload_n 0, 1, 0), (.iload_n 3, 1, 0), (.iconst 1, 1, 1), (.iadd, 1, 0)] (by decide +kernel) rfl ?_
  obtain ⟨x1, gx1, hf⟩ := Option.bind_eq_some_iff.mp hf
  refine C.ald 20 rfl gx1 (by decide +kernel) rfl ?_
  refine C.seg (pe := 998) (lv' := [(0, .ref r0), (1, .ref r1), (2, .ref r2), (3, .int i3)]) (st' := [.int (i3 + 2), .ref r0, .int x1, .ref r1]) [(.aload_n 0, 1, 0), (.iload_n 3, 1, 0), (.iconst 2, 1, 2), (.iadd, 1, 0)] (by decide +kernel) rfl ?_
  obtain ⟨x2, gx2, hf⟩ := Option.bind_eq_some_iff.mp hf
  refine C.ald 20 rfl gx2 (by decide +kernel) rfl ?_
  obtain ⟨x3, h4, gx3, hf⟩ := b2_some hf
  refine C.callVr C2 [.int x1, .int x2] [] mv_1287 rfl (o_X11_liked gx3) (w_X11_liked gx3) (by omega) (by omega) (Nat.le_of_ble_eq_true rfl) (by decide +kernel) rfl ?_
  refine C.seg (pe := 1007) (lv' := [(0, .ref r0), (1, .ref r1), (2, .ref r2), (3, .int i3)]) (st' := [.int (i3 + 1), .ref r0, .ref r2, .int x3]) [(.aload_n 2, 1, 0), (.aload_n 0, 1, 0), (.iload_n 3, 1, 0), (.iconst 1, 1, 1), (.iadd, 1, 0)] (by decide +kernel) rfl ?_
  obtain ⟨x5, gx5, hf⟩ := Option.bind_eq_some_iff.mp hf
  refine C.ald 20 rfl gx5 (by decide +kernel) rfl ?_
  refine C.seg (pe := 1012) (lv' := [(0, .ref r0), (1, .ref r1), (2, .ref r2), (3, .int i3)]) (st' := [.int (i3 + 2), .ref r0, .int x5, .ref r2, .int x3]) [(.aload_n 0, 1, 0), (.iload_n 3, 1, 0), (.iconst 2, 1, 2), (.iadd, 1, 0)] (by decide +kernel) rfl ?_
  obtain ⟨x6, gx6, hf⟩ := Option.bind_eq_some_iff.mp hf
  refine C.ald 20 rfl gx6 (by decide +kernel) rfl ?_
  obtain ⟨x7, h8, gx7, hf⟩ := b2_some hf
  refine C.callVr C2 [.int x5, .int x6] [.int x3] mv_2383 rfl (o_X15_liked gx7) (w_X15_liked gx7) (by omega) (by omega) (Nat.le_of_ble_eq_true rfl) (by decide +kernel) rfl ?_
  refine C.icmp_eq (off := 733) (tgt := 1749) (pf := 1019) (by decide +kernel) (by decide) rfl (fun c9 => ?_) (fun c9 => ?_)
  · replace hf := ifp c9 hf
    exact l_Law_1749 C C2 hk18 r0 r1 r2 i3 h8 hf
  · replace hf := ifn c9 hf
    refine C.seg (pe := 1020) (lv' := [(0, .ref r0), (1, .ref r1), (2, .ref r2), (3, .int i3)]) (st' := [.int 0]) [(.iconst 0, 1, 0)] (by decide +kernel) rfl ?_
    cases hf
    exact C.retZ rfl (by decide) (by decide +kernel) ⟨rfl, rfl⟩
def f_Law_935 (z : ZX) (k18 : Nat → Nat → Nat → Int32 → AH → Option (Int32 × AH)) (r0 : Nat) (r1 : Nat) (r2 : Nat) (i3 : Int32) (h : AH) : Option (Int32 × AH) :=
  (aI 20 h r0 (i3 + 1)).bind fun x1 =>
  (aI 20 h r0 (i3 + 2)).bind fun x2 =>
  (aI 20 h r0 (i3 + 3)).bind fun x3 =>
  (aI 20 h r0 (i3 + 4)).bind fun x4 =>
  b2 (f_X11_vote r1 x1 x2 x3 x4 h) fun x5 h6 =>
  (aI 20 h6 r0 (i3 + 1)).bind fun x7 =>
  (aI 20 h6 r0 (i3 + 2)).bind fun x8 =>
  (aI 20 h6 r0 (i3 + 3)).bind fun x9 =>
  (aI 20 h6 r0 (i3 + 4)).bind fun x10 =>
  b2 (f_X15_vote r2 x7 x8 x9 x10 h6) fun x11 h12 =>
  if x5 = x11 then
    f_Law_1749 z k18 r0 r1 r2 i3 h12
  else
    some (0, h12)
set_option maxRecDepth 100000 in
set_option maxHeartbeats 4000000 in
theorem l_Law_935 {X : MX} {l : Launch} {G : GX} {h0 : AH} {rr : Int32} {hr : AH} (C : Cx X G RLaw cLaw 4 (some .boolean) 2048 84000 h0) (C2 : Cy X l "law" []) {k18 : Nat → Nat → Nat → Int32 → AH → Option (Int32 × AH)} (hk18 : ∀ (r0 : Nat) (r1 : Nat) (r2 : Nat) (i3 : Int32) (h : AH), k18 r0 r1 r2 i3 h = some (rr, hr) → V X G h0 (QI rr hr) 18 [(0, .ref r0), (1, .ref r1), (2, .ref r2), (3, .int i3)] [] h) (r0 : Nat) (r1 : Nat) (r2 : Nat) (i3 : Int32) (h : AH) (hf : f_Law_935 G.2.2 k18 r0 r1 r2 i3 h = some (rr, hr)) : V X G h0 (QI rr hr) 935 [(0, .ref r0), (1, .ref r1), (2, .ref r2), (3, .int i3)] [] h := by
  unfold f_Law_935 at hf
  refine C.seg (pe := 940) (lv' := [(0, .ref r0), (1, .ref r1), (2, .ref r2), (3, .int i3)]) (st' := [.int (i3 + 1), .ref r0, .ref r1]) [(.aload_n 1, 1, 0), (.aload_n 0, 1, 0), (.iload_n 3, 1, 0), (.iconst 1, 1, 1), (.iadd, 1, 0)] (by decide +kernel) rfl ?_
  obtain ⟨x1, gx1, hf⟩ := Option.bind_eq_some_iff.mp hf
  refine C.ald 20 rfl gx1 (by decide +kernel) rfl ?_
  refine C.seg (pe := 945) (lv' := [(0, .ref r0), (1, .ref r1), (2, .ref r2), (3, .int i3)]) (st' := [.int (i3 + 2), .ref r0, .int x1, .ref r1]) [(.aload_n 0, 1, 0), (.iload_n 3, 1, 0), (.iconst 2, 1, 2), (.iadd, 1, 0)] (by decide +kernel) rfl ?_
  obtain ⟨x2, gx2, hf⟩ := Option.bind_eq_some_iff.mp hf
  refine C.ald 20 rfl gx2 (by decide +kernel) rfl ?_
  refine C.seg (pe := 950) (lv' := [(0, .ref r0), (1, .ref r1), (2, .ref r2), (3, .int i3)]) (st' := [.int (i3 + 3), .ref r0, .int x2, .int x1, .ref r1]) [(.aload_n 0, 1, 0), (.iload_n 3, 1, 0), (.iconst 3, 1, 3), (.iadd, 1, 0)] (by decide +kernel) rfl ?_
  obtain ⟨x3, gx3, hf⟩ := Option.bind_eq_some_iff.mp hf
  refine C.ald 20 rfl gx3 (by decide +kernel) rfl ?_
  refine C.seg (pe := 955) (lv' := [(0, .ref r0), (1, .ref r1), (2, .ref r2), (3, .int i3)]) (st' := [.int (i3 + 4), .ref r0, .int x3, .int x2, .int x1, .ref r1]) [(.aload_n 0, 1, 0), (.iload_n 3, 1, 0), (.iconst 4, 1, 4), (.iadd, 1, 0)] (by decide +kernel) rfl ?_
  obtain ⟨x4, gx4, hf⟩ := Option.bind_eq_some_iff.mp hf
  refine C.ald 20 rfl gx4 (by decide +kernel) rfl ?_
  obtain ⟨x5, h6, gx5, hf⟩ := b2_some hf
  refine C.callVr C2 [.int x1, .int x2, .int x3, .int x4] [] mv_1275 rfl (o_X11_vote gx5) (w_X11_vote gx5) (by omega) (by omega) (Nat.le_of_ble_eq_true rfl) (by decide +kernel) rfl ?_
  refine C.seg (pe := 964) (lv' := [(0, .ref r0), (1, .ref r1), (2, .ref r2), (3, .int i3)]) (st' := [.int (i3 + 1), .ref r0, .ref r2, .int x5]) [(.aload_n 2, 1, 0), (.aload_n 0, 1, 0), (.iload_n 3, 1, 0), (.iconst 1, 1, 1), (.iadd, 1, 0)] (by decide +kernel) rfl ?_
  obtain ⟨x7, gx7, hf⟩ := Option.bind_eq_some_iff.mp hf
  refine C.ald 20 rfl gx7 (by decide +kernel) rfl ?_
  refine C.seg (pe := 969) (lv' := [(0, .ref r0), (1, .ref r1), (2, .ref r2), (3, .int i3)]) (st' := [.int (i3 + 2), .ref r0, .int x7, .ref r2, .int x5]) [(.aload_n 0, 1, 0), (.iload_n 3, 1, 0), (.iconst 2, 1, 2), (.iadd, 1, 0)] (by decide +kernel) rfl ?_
  obtain ⟨x8, gx8, hf⟩ := Option.bind_eq_some_iff.mp hf
  refine C.ald 20 rfl gx8 (by decide +kernel) rfl ?_
  refine C.seg (pe := 974) (lv' := [(0, .ref r0), (1, .ref r1), (2, .ref r2), (3, .int i3)]) (st' := [.int (i3 + 3), .ref r0, .int x8, .int x7, .ref r2, .int x5]) [(.aload_n 0, 1, 0), (.iload_n 3, 1, 0), (.iconst 3, 1, 3), (.iadd, 1, 0)] (by decide +kernel) rfl ?_
  obtain ⟨x9, gx9, hf⟩ := Option.bind_eq_some_iff.mp hf
  refine C.ald 20 rfl gx9 (by decide +kernel) rfl ?_
  refine C.seg (pe := 979) (lv' := [(0, .ref r0), (1, .ref r1), (2, .ref r2), (3, .int i3)]) (st' := [.int (i3 + 4), .ref r0, .int x9, .int x8, .int x7, .ref r2, .int x5]) [(.aload_n 0, 1, 0), (.iload_n 3, 1, 0), (.iconst 4, 1, 4), (.iadd, 1, 0)] (by decide +kernel) rfl ?_
  obtain ⟨x10, gx10, hf⟩ := Option.bind_eq_some_iff.mp hf
  refine C.ald 20 rfl gx10 (by decide +kernel) rfl ?_
  obtain ⟨x11, h12, gx11, hf⟩ := b2_some hf
  refine C.callVr C2 [.int x7, .int x8, .int x9, .int x10] [.int x5] mv_2379 rfl (o_X15_vote gx11) (w_X15_vote gx11) (by omega) (by omega) (Nat.le_of_ble_eq_true rfl) (by decide +kernel) rfl ?_
  refine C.icmp_eq (off := 766) (tgt := 1749) (pf := 986) (by decide +kernel) (by decide) rfl (fun c13 => ?_) (fun c13 => ?_)
  · replace hf := ifp c13 hf
    exact l_Law_1749 C C2 hk18 r0 r1 r2 i3 h12 hf
  · replace hf := ifn c13 hf
    refine C.seg (pe := 987) (lv' := [(0, .ref r0), (1, .ref r1), (2, .ref r2), (3, .int i3)]) (st' := [.int 0]) [(.iconst 0, 1, 0)] (by decide +kernel) rfl ?_
    cases hf
    exact C.retZ rfl (by decide) (by decide +kernel) ⟨rfl, rfl⟩
def f_Law_892 (z : ZX) (k18 : Nat → Nat → Nat → Int32 → AH → Option (Int32 × AH)) (r0 : Nat) (r1 : Nat) (r2 : Nat) (i3 : Int32) (h : AH) : Option (Int32 × AH) :=
  (aI 20 h r0 (i3 + 1)).bind fun x1 =>
  (aI 20 h r0 (i3 + 2)).bind fun x2 =>
  (aI 20 h r0 (i3 + 3)).bind fun x3 =>
  b2 (f_X11_wish r1 x1 x2 x3 h) fun x4 h5 =>
  (aI 20 h5 r0 (i3 + 1)).bind fun x6 =>
  (aI 20 h5 r0 (i3 + 2)).bind fun x7 =>
  (aI 20 h5 r0 (i3 + 3)).bind fun x8 =>
  b2 (f_X15_wish r2 x6 x7 x8 h5) fun x9 h10 =>
  if x4 = x9 then
    f_Law_1749 z k18 r0 r1 r2 i3 h10
  else
    some (0, h10)
set_option maxRecDepth 100000 in
set_option maxHeartbeats 4000000 in
theorem l_Law_892 {X : MX} {l : Launch} {G : GX} {h0 : AH} {rr : Int32} {hr : AH} (C : Cx X G RLaw cLaw 4 (some .boolean) 2048 84000 h0) (C2 : Cy X l "law" []) {k18 : Nat → Nat → Nat → Int32 → AH → Option (Int32 × AH)} (hk18 : ∀ (r0 : Nat) (r1 : Nat) (r2 : Nat) (i3 : Int32) (h : AH), k18 r0 r1 r2 i3 h = some (rr, hr) → V X G h0 (QI rr hr) 18 [(0, .ref r0), (1, .ref r1), (2, .ref r2), (3, .int i3)] [] h) (r0 : Nat) (r1 : Nat) (r2 : Nat) (i3 : Int32) (h : AH) (hf : f_Law_892 G.2.2 k18 r0 r1 r2 i3 h = some (rr, hr)) : V X G h0 (QI rr hr) 892 [(0, .ref r0), (1, .ref r1), (2, .ref r2), (3, .int i3)] [] h := by
  unfold f_Law_892 at hf
  refine C.seg (pe := 897) (lv' := [(0, .ref r0), (1, .ref r1), (2, .ref r2), (3, .int i3)]) (st' := [.int (i3 + 1), .ref r0, .ref r1]) [(.aload_n 1, 1, 0), (.aload_n 0, 1, 0), (.iload_n 3, 1, 0), (.iconst 1, 1, 1), (.iadd, 1, 0)] (by decide +kernel) rfl ?_
  obtain ⟨x1, gx1, hf⟩ := Option.bind_eq_some_iff.mp hf
  refine C.ald 20 rfl gx1 (by decide +kernel) rfl ?_
  refine C.seg (pe := 902) (lv' := [(0, .ref r0), (1, .ref r1), (2, .ref r2), (3, .int i3)]) (st' := [.int (i3 + 2), .ref r0, .int x1, .ref r1]) [(.aload_n 0, 1, 0), (.iload_n 3, 1, 0), (.iconst 2, 1, 2), (.iadd, 1, 0)] (by decide +kernel) rfl ?_
  obtain ⟨x2, gx2, hf⟩ := Option.bind_eq_some_iff.mp hf
  refine C.ald 20 rfl gx2 (by decide +kernel) rfl ?_
  refine C.seg (pe := 907) (lv' := [(0, .ref r0), (1, .ref r1), (2, .ref r2), (3, .int i3)]) (st' := [.int (i3 + 3), .ref r0, .int x2, .int x1, .ref r1]) [(.aload_n 0, 1, 0), (.iload_n 3, 1, 0), (.iconst 3, 1, 3), (.iadd, 1, 0)] (by decide +kernel) rfl ?_
  obtain ⟨x3, gx3, hf⟩ := Option.bind_eq_some_iff.mp hf
  refine C.ald 20 rfl gx3 (by decide +kernel) rfl ?_
  obtain ⟨x4, h5, gx4, hf⟩ := b2_some hf
  refine C.callVr C2 [.int x1, .int x2, .int x3] [] mv_1255 rfl (o_X11_wish gx4) (w_X11_wish gx4) (by omega) (by omega) (Nat.le_of_ble_eq_true rfl) (by decide +kernel) rfl ?_
  refine C.seg (pe := 916) (lv' := [(0, .ref r0), (1, .ref r1), (2, .ref r2), (3, .int i3)]) (st' := [.int (i3 + 1), .ref r0, .ref r2, .int x4]) [(.aload_n 2, 1, 0), (.aload_n 0, 1, 0), (.iload_n 3, 1, 0), (.iconst 1, 1, 1), (.iadd, 1, 0)] (by decide +kernel) rfl ?_
  obtain ⟨x6, gx6, hf⟩ := Option.bind_eq_some_iff.mp hf
  refine C.ald 20 rfl gx6 (by decide +kernel) rfl ?_
  refine C.seg (pe := 921) (lv' := [(0, .ref r0), (1, .ref r1), (2, .ref r2), (3, .int i3)]) (st' := [.int (i3 + 2), .ref r0, .int x6, .ref r2, .int x4]) [(.aload_n 0, 1, 0), (.iload_n 3, 1, 0), (.iconst 2, 1, 2), (.iadd, 1, 0)] (by decide +kernel) rfl ?_
  obtain ⟨x7, gx7, hf⟩ := Option.bind_eq_some_iff.mp hf
  refine C.ald 20 rfl gx7 (by decide +kernel) rfl ?_
  refine C.seg (pe := 926) (lv' := [(0, .ref r0), (1, .ref r1), (2, .ref r2), (3, .int i3)]) (st' := [.int (i3 + 3), .ref r0, .int x7, .int x6, .ref r2, .int x4]) [(.aload_n 0, 1, 0), (.iload_n 3, 1, 0), (.iconst 3, 1, 3), (.iadd, 1, 0)] (by decide +kernel) rfl ?_
  obtain ⟨x8, gx8, hf⟩ := Option.bind_eq_some_iff.mp hf
  refine C.ald 20 rfl gx8 (by decide +kernel) rfl ?_
  obtain ⟨x9, h10, gx9, hf⟩ := b2_some hf
  refine C.callVr C2 [.int x6, .int x7, .int x8] [.int x4] mv_2371 rfl (o_X15_wish gx9) (w_X15_wish gx9) (by omega) (by omega) (Nat.le_of_ble_eq_true rfl) (by decide +kernel) rfl ?_
  refine C.icmp_eq (off := 819) (tgt := 1749) (pf := 933) (by decide +kernel) (by decide) rfl (fun c11 => ?_) (fun c11 => ?_)
  · replace hf := ifp c11 hf
    exact l_Law_1749 C C2 hk18 r0 r1 r2 i3 h10 hf
  · replace hf := ifn c11 hf
    refine C.seg (pe := 934) (lv' := [(0, .ref r0), (1, .ref r1), (2, .ref r2), (3, .int i3)]) (st' := [.int 0]) [(.iconst 0, 1, 0)] (by decide +kernel) rfl ?_
    cases hf
    exact C.retZ rfl (by decide) (by decide +kernel) ⟨rfl, rfl⟩
def f_Law_859 (z : ZX) (k18 : Nat → Nat → Nat → Int32 → AH → Option (Int32 × AH)) (r0 : Nat) (r1 : Nat) (r2 : Nat) (i3 : Int32) (h : AH) : Option (Int32 × AH) :=
  (aI 20 h r0 (i3 + 1)).bind fun x1 =>
  (aI 20 h r0 (i3 + 2)).bind fun x2 =>
  b2 (f_X11_painter r1 x1 x2 h) fun x3 h4 =>
  (aI 20 h4 r0 (i3 + 1)).bind fun x5 =>
  (aI 20 h4 r0 (i3 + 2)).bind fun x6 =>
  b2 (f_X15_painter r2 x5 x6 h4) fun x7 h8 =>
  if x3 = x7 then
    f_Law_1749 z k18 r0 r1 r2 i3 h8
  else
    some (0, h8)
set_option maxRecDepth 100000 in
set_option maxHeartbeats 4000000 in
theorem l_Law_859 {X : MX} {l : Launch} {G : GX} {h0 : AH} {rr : Int32} {hr : AH} (C : Cx X G RLaw cLaw 4 (some .boolean) 2048 84000 h0) (C2 : Cy X l "law" []) {k18 : Nat → Nat → Nat → Int32 → AH → Option (Int32 × AH)} (hk18 : ∀ (r0 : Nat) (r1 : Nat) (r2 : Nat) (i3 : Int32) (h : AH), k18 r0 r1 r2 i3 h = some (rr, hr) → V X G h0 (QI rr hr) 18 [(0, .ref r0), (1, .ref r1), (2, .ref r2), (3, .int i3)] [] h) (r0 : Nat) (r1 : Nat) (r2 : Nat) (i3 : Int32) (h : AH) (hf : f_Law_859 G.2.2 k18 r0 r1 r2 i3 h = some (rr, hr)) : V X G h0 (QI rr hr) 859 [(0, .ref r0), (1, .ref r1), (2, .ref r2), (3, .int i3)] [] h := by
  unfold f_Law_859 at hf
  refine C.seg (pe := 864) (lv' := [(0, .ref r0), (1, .ref r1), (2, .ref r2), (3, .int i3)]) (st' := [.int (i3 + 1), .ref r0, .ref r1]) [(.aload_n 1, 1, 0), (.aload_n 0, 1, 0), (.iload_n 3, 1, 0), (.iconst 1, 1, 1), (.iadd, 1, 0)] (by decide +kernel) rfl ?_
  obtain ⟨x1, gx1, hf⟩ := Option.bind_eq_some_iff.mp hf
  refine C.ald 20 rfl gx1 (by decide +kernel) rfl ?_
  refine C.seg (pe := 869) (lv' := [(0, .ref r0), (1, .ref r1), (2, .ref r2), (3, .int i3)]) (st' := [.int (i3 + 2), .ref r0, .int x1, .ref r1]) [(.aload_n 0, 1, 0), (.iload_n 3, 1, 0), (.iconst 2, 1, 2), (.iadd, 1, 0)] (by decide +kernel) rfl ?_
  obtain ⟨x2, gx2, hf⟩ := Option.bind_eq_some_iff.mp hf
  refine C.ald 20 rfl gx2 (by decide +kernel) rfl ?_
  obtain ⟨x3, h4, gx3, hf⟩ := b2_some hf
  refine C.callVr C2 [.int x1, .int x2] [] mv_1247 rfl (o_X11_painter gx3) (w_X11_painter gx3) (by omega) (by omega) (Nat.le_of_ble_eq_true rfl) (by decide +kernel) rfl ?_
  refine C.seg (pe := 878) (lv' := [(0, .ref r0), (1, .ref r1), (2, .ref r2), (3, .int i3)]) (st' := [.int (i3 + 1), .ref r0, .ref r2, .int x3]) [(.aload_n 2, 1, 0), (.aload_n 0, 1, 0), (.iload_n 3, 1, 0), (.iconst 1, 1, 1), (.iadd, 1, 0)] (by decide +kernel) rfl ?_
  obtain ⟨x5, gx5, hf⟩ := Option.bind_eq_some_iff.mp hf
  refine C.ald 20 rfl gx5 (by decide +kernel) rfl ?_
  refine C.seg (pe := 883) (lv' := [(0, .ref r0), (1, .ref r1), (2, .ref r2), (3, .int i3)]) (st' := [.int (i3 + 2), .ref r0, .int x5, .ref r2, .int x3]) [(.aload_n 0, 1, 0), (.iload_n 3, 1, 0), (.iconst 2, 1, 2), (.iadd, 1, 0)] (by decide +kernel) rfl ?_
  obtain ⟨x6, gx6, hf⟩ := Option.bind_eq_some_iff.mp hf
  refine C.ald 20 rfl gx6 (by decide +kernel) rfl ?_
  obtain ⟨x7, h8, gx7, hf⟩ := b2_some hf
  refine C.callVr C2 [.int x5, .int x6] [.int x3] mv_2367 rfl (o_X15_painter gx7) (w_X15_painter gx7) (by omega) (by omega) (Nat.le_of_ble_eq_true rfl) (by decide +kernel) rfl ?_
  refine C.icmp_eq (off := 862) (tgt := 1749) (pf := 890) (by decide +kernel) (by decide) rfl (fun c9 => ?_) (fun c9 => ?_)
  · replace hf := ifp c9 hf
    exact l_Law_1749 C C2 hk18 r0 r1 r2 i3 h8 hf
  · replace hf := ifn c9 hf
    refine C.seg (pe := 891) (lv' := [(0, .ref r0), (1, .ref r1), (2, .ref r2), (3, .int i3)]) (st' := [.int 0]) [(.iconst 0, 1, 0)] (by decide +kernel) rfl ?_
    cases hf
    exact C.retZ rfl (by decide) (by decide +kernel) ⟨rfl, rfl⟩
def f_Law_836 (z : ZX) (k18 : Nat → Nat → Nat → Int32 → AH → Option (Int32 × AH)) (r0 : Nat) (r1 : Nat) (r2 : Nat) (i3 : Int32) (h : AH) : Option (Int32 × AH) :=
  (aI 20 h r0 (i3 + 1)).bind fun x1 =>
  b2 (f_X11_unlike r1 x1 h) fun x2 h3 =>
  (aI 20 h3 r0 (i3 + 1)).bind fun x4 =>
  b2 (f_X15_unlike r2 x4 h3) fun x5 h6 =>
  if x2 = x5 then
    f_Law_1749 z k18 r0 r1 r2 i3 h6
  else
    some (0, h6)
set_option maxRecDepth 100000 in
set_option maxHeartbeats 4000000 in
theorem l_Law_836 {X : MX} {l : Launch} {G : GX} {h0 : AH} {rr : Int32} {hr : AH} (C : Cx X G RLaw cLaw 4 (some .boolean) 2048 84000 h0) (C2 : Cy X l "law" []) {k18 : Nat → Nat → Nat → Int32 → AH → Option (Int32 × AH)} (hk18 : ∀ (r0 : Nat) (r1 : Nat) (r2 : Nat) (i3 : Int32) (h : AH), k18 r0 r1 r2 i3 h = some (rr, hr) → V X G h0 (QI rr hr) 18 [(0, .ref r0), (1, .ref r1), (2, .ref r2), (3, .int i3)] [] h) (r0 : Nat) (r1 : Nat) (r2 : Nat) (i3 : Int32) (h : AH) (hf : f_Law_836 G.2.2 k18 r0 r1 r2 i3 h = some (rr, hr)) : V X G h0 (QI rr hr) 836 [(0, .ref r0), (1, .ref r1), (2, .ref r2), (3, .int i3)] [] h := by
  unfold f_Law_836 at hf
  refine C.seg (pe := 841) (lv' := [(0, .ref r0), (1, .ref r1), (2, .ref r2), (3, .int i3)]) (st' := [.int (i3 + 1), .ref r0, .ref r1]) [(.aload_n 1, 1, 0), (.aload_n 0, 1, 0), (.iload_n 3, 1, 0), (.iconst 1, 1, 1), (.iadd, 1, 0)] (by decide +kernel) rfl ?_
  obtain ⟨x1, gx1, hf⟩ := Option.bind_eq_some_iff.mp hf
  refine C.ald 20 rfl gx1 (by decide +kernel) rfl ?_
  obtain ⟨x2, h3, gx2, hf⟩ := b2_some hf
  refine C.callVr C2 [.int x1] [] mv_1243 rfl (o_X11_unlike gx2) (w_X11_unlike gx2) (by omega) (by omega) (Nat.le_of_ble_eq_true rfl) (by decide +kernel) rfl ?_
  refine C.seg (pe := 850) (lv' := [(0, .ref r0), (1, .ref r1), (2, .ref r2), (3, .int i3)]) (st' := [.int (i3 + 1), .ref r0, .ref r2, .int x2]) [(.aload_n 2, 1, 0), (.aload_n 0, 1, 0), (.iload_n 3, 1, 0), (.iconst 1, 1, 1), (.iadd, 1, 0)] (by decide +kernel) rfl ?_
  obtain ⟨x4, gx4, hf⟩ := Option.bind_eq_some_iff.mp hf
  refine C.ald 20 rfl gx4 (by decide +kernel) rfl ?_
  obtain ⟨x5, h6, gx5, hf⟩ := b2_some hf
  refine C.callVr C2 [.int x4] [.int x2] mv_2363 rfl (o_X15_unlike gx5) (w_X15_unlike gx5) (by omega) (by omega) (Nat.le_of_ble_eq_true rfl) (by decide +kernel) rfl ?_
  refine C.icmp_eq (off := 895) (tgt := 1749) (pf := 857) (by decide +kernel) (by decide) rfl (fun c7 => ?_) (fun c7 => ?_)
  · replace hf := ifp c7 hf
    exact l_Law_1749 C C2 hk18 r0 r1 r2 i3 h6 hf
  · replace hf := ifn c7 hf
    refine C.seg (pe := 858) (lv' := [(0, .ref r0), (1, .ref r1), (2, .ref r2), (3, .int i3)]) (st' := [.int 0]) [(.iconst 0, 1, 0)] (by decide +kernel) rfl ?_
    cases hf
    exact C.retZ rfl (by decide) (by decide +kernel) ⟨rfl, rfl⟩
def f_Law_813 (z : ZX) (k18 : Nat → Nat → Nat → Int32 → AH → Option (Int32 × AH)) (r0 : Nat) (r1 : Nat) (r2 : Nat) (i3 : Int32) (h : AH) : Option (Int32 × AH) :=
  (aI 20 h r0 (i3 + 1)).bind fun x1 =>
  b2 (f_X11_sketchOf r1 x1 h) fun x2 h3 =>
  (aI 20 h3 r0 (i3 + 1)).bind fun x4 =>
  b2 (f_X15_sketchOf r2 x4 h3) fun x5 h6 =>
  if x2 = x5 then
    f_Law_1749 z k18 r0 r1 r2 i3 h6
  else
    some (0, h6)
set_option maxRecDepth 100000 in
set_option maxHeartbeats 4000000 in
theorem l_Law_813 {X : MX} {l : Launch} {G : GX} {h0 : AH} {rr : Int32} {hr : AH} (C : Cx X G RLaw cLaw 4 (some .boolean) 2048 84000 h0) (C2 : Cy X l "law" []) {k18 : Nat → Nat → Nat → Int32 → AH → Option (Int32 × AH)} (hk18 : ∀ (r0 : Nat) (r1 : Nat) (r2 : Nat) (i3 : Int32) (h : AH), k18 r0 r1 r2 i3 h = some (rr, hr) → V X G h0 (QI rr hr) 18 [(0, .ref r0), (1, .ref r1), (2, .ref r2), (3, .int i3)] [] h) (r0 : Nat) (r1 : Nat) (r2 : Nat) (i3 : Int32) (h : AH) (hf : f_Law_813 G.2.2 k18 r0 r1 r2 i3 h = some (rr, hr)) : V X G h0 (QI rr hr) 813 [(0, .ref r0), (1, .ref r1), (2, .ref r2), (3, .int i3)] [] h := by
  unfold f_Law_813 at hf
  refine C.seg (pe := 818) (lv' := [(0, .ref r0), (1, .ref r1), (2, .ref r2), (3, .int i3)]) (st' := [.int (i3 + 1), .ref r0, .ref r1]) [(.aload_n 1, 1, 0), (.aload_n 0, 1, 0), (.iload_n 3, 1, 0), (.iconst 1, 1, 1), (.iadd, 1, 0)] (by decide +kernel) rfl ?_
  obtain ⟨x1, gx1, hf⟩ := Option.bind_eq_some_iff.mp hf
  refine C.ald 20 rfl gx1 (by decide +kernel) rfl ?_
  obtain ⟨x2, h3, gx2, hf⟩ := b2_some hf
  refine C.callVr C2 [.int x1] [] mv_1232 rfl (o_X11_sketchOf gx2) (w_X11_sketchOf gx2) (by omega) (by omega) (Nat.le_of_ble_eq_true rfl) (by decide +kernel) rfl ?_
  refine C.seg (pe := 827) (lv' := [(0, .ref r0), (1, .ref r1), (2, .ref r2), (3, .int i3)]) (st' := [.int (i3 + 1), .ref r0, .ref r2, .int x2]) [(.aload_n 2, 1, 0), (.aload_n 0, 1, 0), (.iload_n 3, 1, 0), (.iconst 1, 1, 1), (.iadd, 1, 0)] (by decide +kernel) rfl ?_
  obtain ⟨x4, gx4, hf⟩ := Option.bind_eq_some_iff.mp hf
  refine C.ald 20 rfl gx4 (by decide +kernel) rfl ?_
  obtain ⟨x5, h6, gx5, hf⟩ := b2_some hf
  refine C.callVr C2 [.int x4] [.int x2] mv_2359 rfl (o_X15_sketchOf gx5) (w_X15_sketchOf gx5) (by omega) (by omega) (Nat.le_of_ble_eq_true rfl) (by decide +kernel) rfl ?_
  refine C.icmp_eq (off := 918) (tgt := 1749) (pf := 834) (by decide +kernel) (by decide) rfl (fun c7 => ?_) (fun c7 => ?_)
  · replace hf := ifp c7 hf
    exact l_Law_1749 C C2 hk18 r0 r1 r2 i3 h6 hf
  · replace hf := ifn c7 hf
    refine C.seg (pe := 835) (lv' := [(0, .ref r0), (1, .ref r1), (2, .ref r2), (3, .int i3)]) (st' := [.int 0]) [(.iconst 0, 1, 0)] (by decide +kernel) rfl ?_
    cases hf
    exact C.retZ rfl (by decide) (by decide +kernel) ⟨rfl, rfl⟩
def f_Law_780 (z : ZX) (k18 : Nat → Nat → Nat → Int32 → AH → Option (Int32 × AH)) (r0 : Nat) (r1 : Nat) (r2 : Nat) (i3 : Int32) (h : AH) : Option (Int32 × AH) :=
  (aI 20 h r0 (i3 + 1)).bind fun x1 =>
  (aI 20 h r0 (i3 + 2)).bind fun x2 =>
  b2 (f_X11_sketched r1 x1 x2 h) fun x3 h4 =>
  (aI 20 h4 r0 (i3 + 1)).bind fun x5 =>
  (aI 20 h4 r0 (i3 + 2)).bind fun x6 =>
  b2 (f_X15_sketched r2 x5 x6 h4) fun x7 h8 =>
  if x3 = x7 then
    f_Law_1749 z k18 r0 r1 r2 i3 h8
  else
    some (0, h8)
set_option maxRecDepth 100000 in
set_option maxHeartbeats 4000000 in
theorem l_Law_780 {X : MX} {l : Launch} {G : GX} {h0 : AH} {rr : Int32} {hr : AH} (C : Cx X G RLaw cLaw 4 (some .boolean) 2048 84000 h0) (C2 : Cy X l "law" []) {k18 : Nat → Nat → Nat → Int32 → AH → Option (Int32 × AH)} (hk18 : ∀ (r0 : Nat) (r1 : Nat) (r2 : Nat) (i3 : Int32) (h : AH), k18 r0 r1 r2 i3 h = some (rr, hr) → V X G h0 (QI rr hr) 18 [(0, .ref r0), (1, .ref r1), (2, .ref r2), (3, .int i3)] [] h) (r0 : Nat) (r1 : Nat) (r2 : Nat) (i3 : Int32) (h : AH) (hf : f_Law_780 G.2.2 k18 r0 r1 r2 i3 h = some (rr, hr)) : V X G h0 (QI rr hr) 780 [(0, .ref r0), (1, .ref r1), (2, .ref r2), (3, .int i3)] [] h := by
  unfold f_Law_780 at hf
  refine C.seg (pe := 785) (lv' := [(0, .ref r0), (1, .ref r1), (2, .ref r2), (3, .int i3)]) (st' := [.int (i3 + 1), .ref r0, .ref r1]) [(.aload_n 1, 1, 0), (.aload_n 0, 1, 0), (.iload_n 3, 1, 0), (.iconst 1, 1, 1), (.iadd, 1, 0)] (by decide +kernel) rfl ?_
  obtain ⟨x1, gx1, hf⟩ := Option.bind_eq_some_iff.mp hf
  refine C.ald 20 rfl gx1 (by decide +kernel) rfl ?_
  refine C.seg (pe := 790) (lv' := [(0, .ref r0), (1, .ref r1), (2, .ref r2), (3, .int i3)]) (st' := [.int (i3 + 2), .ref r0, .int x1, .ref r1]) [(.aload_n 0, 1, 0), (.iload_n 3, 1, 0), (.iconst 2, 1, 2), (.iadd, 1, 0)] (by decide +kernel) rfl ?_
  obtain ⟨x2, gx2, hf⟩ := Option.bind_eq_some_iff.mp hf
  refine C.ald 20 rfl gx2 (by decide +kernel) rfl ?_
  obtain ⟨x3, h4, gx3, hf⟩ := b2_some hf
  refine C.callVr C2 [.int x1, .int x2] [] mv_1223 rfl (o_X11_sketched gx3) (w_X11_sketched gx3) (by omega) (by omega) (Nat.le_of_ble_eq_true rfl) (by decide +kernel) rfl ?_
  refine C.seg (pe := 799) (lv' := [(0, .ref r0), (1, .ref r1), (2, .ref r2), (3, .int i3)]) (st' := [.int (i3 + 1), .ref r0, .ref r2, .int x3]) [(.aload_n 2, 1, 0), (.aload_n 0, 1, 0), (.iload_n 3, 1, 0), (.iconst 1, 1, 1), (.iadd, 1, 0)] (by decide +kernel) rfl ?_
  obtain ⟨x5, gx5, hf⟩ := Option.bind_eq_some_iff.mp hf
  refine C.ald 20 rfl gx5 (by decide +kernel) rfl ?_
  refine C.seg (pe := 804) (lv' := [(0, .ref r0), (1, .ref r1), (2, .ref r2), (3, .int i3)]) (st' := [.int (i3 + 2), .ref r0, .int x5, .ref r2, .int x3]) [(.aload_n 0, 1, 0), (.iload_n 3, 1, 0), (.iconst 2, 1, 2), (.iadd, 1, 0)] (by decide +kernel) rfl ?_
  obtain ⟨x6, gx6, hf⟩ := Option.bind_eq_some_iff.mp hf
  refine C.ald 20 rfl gx6 (by decide +kernel) rfl ?_
  obtain ⟨x7, h8, gx7, hf⟩ := b2_some hf
  refine C.callVr C2 [.int x5, .int x6] [.int x3] mv_2355 rfl (o_X15_sketched gx7) (w_X15_sketched gx7) (by omega) (by omega) (Nat.le_of_ble_eq_true rfl) (by decide +kernel) rfl ?_
  refine C.icmp_eq (off := 941) (tgt := 1749) (pf := 811) (by decide +kernel) (by decide) rfl (fun c9 => ?_) (fun c9 => ?_)
  · replace hf := ifp c9 hf
    exact l_Law_1749 C C2 hk18 r0 r1 r2 i3 h8 hf
  · replace hf := ifn c9 hf
    refine C.seg (pe := 812) (lv' := [(0, .ref r0), (1, .ref r1), (2, .ref r2), (3, .int i3)]) (st' := [.int 0]) [(.iconst 0, 1, 0)] (by decide +kernel) rfl ?_
    cases hf
    exact C.retZ rfl (by decide) (by decide +kernel) ⟨rfl, rfl⟩
def f_Law_747 (z : ZX) (k18 : Nat → Nat → Nat → Int32 → AH → Option (Int32 × AH)) (r0 : Nat) (r1 : Nat) (r2 : Nat) (i3 : Int32) (h : AH) : Option (Int32 × AH) :=
  (aI 20 h r0 (i3 + 1)).bind fun x1 =>
  (aI 20 h r0 (i3 + 2)).bind fun x2 =>
  b2 (f_X11_sketch r1 x1 x2 h) fun x3 h4 =>
  (aI 20 h4 r0 (i3 + 1)).bind fun x5 =>
  (aI 20 h4 r0 (i3 + 2)).bind fun x6 =>
  b2 (f_X15_sketch r2 x5 x6 h4) fun x7 h8 =>
  if x3 = x7 then
    f_Law_1749 z k18 r0 r1 r2 i3 h8
  else
    some (0, h8)
set_option maxRecDepth 100000 in
set_option maxHeartbeats 4000000 in
theorem l_Law_747 {X : MX} {l : Launch} {G : GX} {h0 : AH} {rr : Int32} {hr : AH} (C : Cx X G RLaw cLaw 4 (some .boolean) 2048 84000 h0) (C2 : Cy X l "law" []) {k18 : Nat → Nat → Nat → Int32 → AH → Option (Int32 × AH)} (hk18 : ∀ (r0 : Nat) (r1 : Nat) (r2 : Nat) (i3 : Int32) (h : AH), k18 r0 r1 r2 i3 h = some (rr, hr) → V X G h0 (QI rr hr) 18 [(0, .ref r0), (1, .ref r1), (2, .ref r2), (3, .int i3)] [] h) (r0 : Nat) (r1 : Nat) (r2 : Nat) (i3 : Int32) (h : AH) (hf : f_Law_747 G.2.2 k18 r0 r1 r2 i3 h = some (rr, hr)) : V X G h0 (QI rr hr) 747 [(0, .ref r0), (1, .ref r1), (2, .ref r2), (3, .int i3)] [] h := by
  unfold f_Law_747 at hf
  refine C.seg (pe := 752) (lv' := [(0, .ref r0), (1, .ref r1), (2, .ref r2), (3, .int i3)]) (st' := [.int (i3 + 1), .ref r0, .ref r1]) [(.aload_n 1, 1, 0), (.aload_n 0, 1, 0), (.iload_n 3, 1, 0), (.iconst 1, 1, 1), (.iadd, 1, 0)] (by decide +kernel) rfl ?_
  obtain ⟨x1, gx1, hf⟩ := Option.bind_eq_some_iff.mp hf
  refine C.ald 20 rfl gx1 (by decide +kernel) rfl ?_
  refine C.seg (pe := 757) (lv' := [(0, .ref r0), (1, .ref r1), (2, .ref r2), (3, .int i3)]) (st' := [.int (i3 + 2), .ref r0, .int x1, .ref r1]) [(.aload_n 0, 1, 0), (.iload_n 3, 1, 0), (.iconst 2, 1, 2), (.iadd, 1, 0)] (by decide +kernel) rfl ?_
  obtain ⟨x2, gx2, hf⟩ := Option.bind_eq_some_iff.mp hf
  refine C.ald 20 rfl gx2 (by decide +kernel) rfl ?_
  obtain ⟨x3, h4, gx3, hf⟩ := b2_some hf
  refine C.callVr C2 [.int x1, .int x2] [] mv_1138 rfl (o_X11_sketch gx3) (w_X11_sketch gx3) (by omega) (by omega) (Nat.le_of_ble_eq_true rfl) (by decide +kernel) rfl ?_
  refine C.seg (pe := 766) (lv' := [(0, .ref r0), (1, .ref r1), (2, .ref r2), (3, .int i3)]) (st' := [.int (i3 + 1), .ref r0, .ref r2, .int x3]) [(.aload_n 2, 1, 0), (.aload_n 0, 1, 0), (.iload_n 3, 1, 0), (.iconst 1, 1, 1), (.iadd, 1, 0)] (by decide +kernel) rfl ?_
  obtain ⟨x5, gx5, hf⟩ := Option.bind_eq_some_iff.mp hf
  refine C.ald 20 rfl gx5 (by decide +kernel) rfl ?_
  refine C.seg (pe := 771) (lv' := [(0, .ref r0), (1, .ref r1), (2, .ref r2), (3, .int i3)]) (st' := [.int (i3 + 2), .ref r0, .int x5, .ref r2, .int x3]) [(.aload_n 0, 1, 0), (.iload_n 3, 1, 0), (.iconst 2, 1, 2), (.iadd, 1, 0)] (by decide +kernel) rfl ?_
  obtain ⟨x6, gx6, hf⟩ := Option.bind_eq_some_iff.mp hf
  refine C.ald 20 rfl gx6 (by decide +kernel) rfl ?_
  obtain ⟨x7, h8, gx7, hf⟩ := b2_some hf
  refine C.callVr C2 [.int x5, .int x6] [.int x3] mv_2311 rfl (o_X15_sketch gx7) (w_X15_sketch gx7) (by omega) (by omega) (Nat.le_of_ble_eq_true rfl) (by decide +kernel) rfl ?_
  refine C.icmp_eq (off := 974) (tgt := 1749) (pf := 778) (by decide +kernel) (by decide) rfl (fun c9 => ?_) (fun c9 => ?_)
  · replace hf := ifp c9 hf
    exact l_Law_1749 C C2 hk18 r0 r1 r2 i3 h8 hf
  · replace hf := ifn c9 hf
    refine C.seg (pe := 779) (lv' := [(0, .ref r0), (1, .ref r1), (2, .ref r2), (3, .int i3)]) (st' := [.int 0]) [(.iconst 0, 1, 0)] (by decide +kernel) rfl ?_
    cases hf
    exact C.retZ rfl (by decide) (by decide +kernel) ⟨rfl, rfl⟩
def f_Law_734 (z : ZX) (k18 : Nat → Nat → Nat → Int32 → AH → Option (Int32 × AH)) (r0 : Nat) (r1 : Nat) (r2 : Nat) (i3 : Int32) (h : AH) : Option (Int32 × AH) :=
  b2 (f_X11_where r1 h) fun x1 h2 =>
  b2 (f_X15_where r2 h2) fun x3 h4 =>
  if x1 = x3 then
    f_Law_1749 z k18 r0 r1 r2 i3 h4
  else
    some (0, h4)
set_option maxRecDepth 100000 in
set_option maxHeartbeats 4000000 in
theorem l_Law_734 {X : MX} {l : Launch} {G : GX} {h0 : AH} {rr : Int32} {hr : AH} (C : Cx X G RLaw cLaw 4 (some .boolean) 2048 84000 h0) (C2 : Cy X l "law" []) {k18 : Nat → Nat → Nat → Int32 → AH → Option (Int32 × AH)} (hk18 : ∀ (r0 : Nat) (r1 : Nat) (r2 : Nat) (i3 : Int32) (h : AH), k18 r0 r1 r2 i3 h = some (rr, hr) → V X G h0 (QI rr hr) 18 [(0, .ref r0), (1, .ref r1), (2, .ref r2), (3, .int i3)] [] h) (r0 : Nat) (r1 : Nat) (r2 : Nat) (i3 : Int32) (h : AH) (hf : f_Law_734 G.2.2 k18 r0 r1 r2 i3 h = some (rr, hr)) : V X G h0 (QI rr hr) 734 [(0, .ref r0), (1, .ref r1), (2, .ref r2), (3, .int i3)] [] h := by
  unfold f_Law_734 at hf
  refine C.seg (pe := 735) (lv' := [(0, .ref r0), (1, .ref r1), (2, .ref r2), (3, .int i3)]) (st' := [.ref r1]) [(.aload_n 1, 1, 0)] (by decide +kernel) rfl ?_
  obtain ⟨x1, h2, gx1, hf⟩ := b2_some hf
  refine C.callVr C2 [] [] mv_1134 rfl (o_X11_where gx1) (w_X11_where gx1) (by omega) (by omega) (Nat.le_of_ble_eq_true rfl) (by decide +kernel) rfl ?_
  refine C.seg (pe := 739) (lv' := [(0, .ref r0), (1, .ref r1), (2, .ref r2), (3, .int i3)]) (st' := [.ref r2, .int x1]) [(.aload_n 2, 1, 0)] (by decide +kernel) rfl ?_
  obtain ⟨x3, h4, gx3, hf⟩ := b2_some hf
  refine C.callVr C2 [] [.int x1] mv_2181 rfl (o_X15_where gx3) (w_X15_where gx3) (by omega) (by omega) (Nat.le_of_ble_eq_true rfl) (by decide +kernel) rfl ?_
  refine C.icmp_eq (off := 1007) (tgt := 1749) (pf := 745) (by decide +kernel) (by decide) rfl (fun c5 => ?_) (fun c5 => ?_)
  · replace hf := ifp c5 hf
    exact l_Law_1749 C C2 hk18 r0 r1 r2 i3 h4 hf
  · replace hf := ifn c5 hf
    refine C.seg (pe := 746) (lv' := [(0, .ref r0), (1, .ref r1), (2, .ref r2), (3, .int i3)]) (st' := [.int 0]) [(.iconst 0, 1, 0)] (by decide +kernel) rfl ?_
    cases hf
    exact C.retZ rfl (by decide) (by decide +kernel) ⟨rfl, rfl⟩
def f_Law_721 (z : ZX) (k18 : Nat → Nat → Nat → Int32 → AH → Option (Int32 × AH)) (r0 : Nat) (r1 : Nat) (r2 : Nat) (i3 : Int32) (h : AH) : Option (Int32 × AH) :=
  b2 (f_X11_fault r1 h) fun x1 h2 =>
  b2 (f_X15_fault r2 h2) fun x3 h4 =>
  if x1 = x3 then
    f_Law_1749 z k18 r0 r1 r2 i3 h4
  else
    some (0, h4)
set_option maxRecDepth 100000 in
set_option maxHeartbeats 4000000 in
theorem l_Law_721 {X : MX} {l : Launch} {G : GX} {h0 : AH} {rr : Int32} {hr : AH} (C : Cx X G RLaw cLaw 4 (some .boolean) 2048 84000 h0) (C2 : Cy X l "law" []) {k18 : Nat → Nat → Nat → Int32 → AH → Option (Int32 × AH)} (hk18 : ∀ (r0 : Nat) (r1 : Nat) (r2 : Nat) (i3 : Int32) (h : AH), k18 r0 r1 r2 i3 h = some (rr, hr) → V X G h0 (QI rr hr) 18 [(0, .ref r0), (1, .ref r1), (2, .ref r2), (3, .int i3)] [] h) (r0 : Nat) (r1 : Nat) (r2 : Nat) (i3 : Int32) (h : AH) (hf : f_Law_721 G.2.2 k18 r0 r1 r2 i3 h = some (rr, hr)) : V X G h0 (QI rr hr) 721 [(0, .ref r0), (1, .ref r1), (2, .ref r2), (3, .int i3)] [] h := by
  unfold f_Law_721 at hf
  refine C.seg (pe := 722) (lv' := [(0, .ref r0), (1, .ref r1), (2, .ref r2), (3, .int i3)]) (st' := [.ref r1]) [(.aload_n 1, 1, 0)] (by decide +kernel) rfl ?_
  obtain ⟨x1, h2, gx1, hf⟩ := b2_some hf
  refine C.callVr C2 [] [] mv_1130 rfl (o_X11_fault gx1) (w_X11_fault gx1) (by omega) (by omega) (Nat.le_of_ble_eq_true rfl) (by decide +kernel) rfl ?_
  refine C.seg (pe := 726) (lv' := [(0, .ref r0), (1, .ref r1), (2, .ref r2), (3, .int i3)]) (st' := [.ref r2, .int x1]) [(.aload_n 2, 1, 0)] (by decide +kernel) rfl ?_
  obtain ⟨x3, h4, gx3, hf⟩ := b2_some hf
  refine C.callVr C2 [] [.int x1] mv_2177 rfl (o_X15_fault gx3) (w_X15_fault gx3) (by omega) (by omega) (Nat.le_of_ble_eq_true rfl) (by decide +kernel) rfl ?_
  refine C.icmp_eq (off := 1020) (tgt := 1749) (pf := 732) (by decide +kernel) (by decide) rfl (fun c5 => ?_) (fun c5 => ?_)
  · replace hf := ifp c5 hf
    exact l_Law_1749 C C2 hk18 r0 r1 r2 i3 h4 hf
  · replace hf := ifn c5 hf
    refine C.seg (pe := 733) (lv' := [(0, .ref r0), (1, .ref r1), (2, .ref r2), (3, .int i3)]) (st' := [.int 0]) [(.iconst 0, 1, 0)] (by decide +kernel) rfl ?_
    cases hf
    exact C.retZ rfl (by decide) (by decide +kernel) ⟨rfl, rfl⟩
def f_Law_698 (z : ZX) (k18 : Nat → Nat → Nat → Int32 → AH → Option (Int32 × AH)) (r0 : Nat) (r1 : Nat) (r2 : Nat) (i3 : Int32) (h : AH) : Option (Int32 × AH) :=
  (aI 20 h r0 (i3 + 1)).bind fun x1 =>
  b2 (f_X11_right z r1 x1 h) fun x2 h3 =>
  (aI 20 h3 r0 (i3 + 1)).bind fun x4 =>
  b2 (f_X15_right z r2 x4 h3) fun x5 h6 =>
  if x2 = x5 then
    f_Law_1749 z k18 r0 r1 r2 i3 h6
  else
    some (0, h6)
set_option maxRecDepth 100000 in
set_option maxHeartbeats 4000000 in
theorem l_Law_698 {X : MX} {l : Launch} {G : GX} {h0 : AH} {rr : Int32} {hr : AH} (C : Cx X G RLaw cLaw 4 (some .boolean) 2048 84000 h0) (C2 : Cy X l "law" []) {k18 : Nat → Nat → Nat → Int32 → AH → Option (Int32 × AH)} (hk18 : ∀ (r0 : Nat) (r1 : Nat) (r2 : Nat) (i3 : Int32) (h : AH), k18 r0 r1 r2 i3 h = some (rr, hr) → V X G h0 (QI rr hr) 18 [(0, .ref r0), (1, .ref r1), (2, .ref r2), (3, .int i3)] [] h) (r0 : Nat) (r1 : Nat) (r2 : Nat) (i3 : Int32) (h : AH) (hf : f_Law_698 G.2.2 k18 r0 r1 r2 i3 h = some (rr, hr)) : V X G h0 (QI rr hr) 698 [(0, .ref r0), (1, .ref r1), (2, .ref r2), (3, .int i3)] [] h := by
  unfold f_Law_698 at hf
  refine C.seg (pe := 703) (lv' := [(0, .ref r0), (1, .ref r1), (2, .ref r2), (3, .int i3)]) (st' := [.int (i3 + 1), .ref r0, .ref r1]) [(.aload_n 1, 1, 0), (.aload_n 0, 1, 0), (.iload_n 3, 1, 0), (.iconst 1, 1, 1), (.iadd, 1, 0)] (by decide +kernel) rfl ?_
  obtain ⟨x1, gx1, hf⟩ := Option.bind_eq_some_iff.mp hf
  refine C.ald 20 rfl gx1 (by decide +kernel) rfl ?_
  obtain ⟨x2, h3, gx2, hf⟩ := b2_some hf
  refine C.callVr C2 [.int x1] [] mv_1104 rfl (o_X11_right gx2) (w_X11_right gx2) (by omega) (by omega) (Nat.le_of_ble_eq_true rfl) (by decide +kernel) rfl ?_
  refine C.seg (pe := 712) (lv' := [(0, .ref r0), (1, .ref r1), (2, .ref r2), (3, .int i3)]) (st' := [.int (i3 + 1), .ref r0, .ref r2, .int x2]) [(.aload_n 2, 1, 0), (.aload_n 0, 1, 0), (.iload_n 3, 1, 0), (.iconst 1, 1, 1), (.iadd, 1, 0)] (by decide +kernel) rfl ?_
  obtain ⟨x4, gx4, hf⟩ := Option.bind_eq_some_iff.mp hf
  refine C.ald 20 rfl gx4 (by decide +kernel) rfl ?_
  obtain ⟨x5, h6, gx5, hf⟩ := b2_some hf
  refine C.callVr C2 [.int x4] [.int x2] mv_2530 rfl (o_X15_right gx5) (w_X15_right gx5) (by omega) (by omega) (Nat.le_of_ble_eq_true rfl) (by decide +kernel) rfl ?_
  refine C.icmp_eq (off := 1033) (tgt := 1749) (pf := 719) (by decide +kernel) (by decide) rfl (fun c7 => ?_) (fun c7 => ?_)
  · replace hf := ifp c7 hf
    exact l_Law_1749 C C2 hk18 r0 r1 r2 i3 h6 hf
  · replace hf := ifn c7 hf
    refine C.seg (pe := 720) (lv' := [(0, .ref r0), (1, .ref r1), (2, .ref r2), (3, .int i3)]) (st' := [.int 0]) [(.iconst 0, 1, 0)] (by decide +kernel) rfl ?_
    cases hf
    exact C.retZ rfl (by decide) (by decide +kernel) ⟨rfl, rfl⟩
def f_Law_675 (z : ZX) (k18 : Nat → Nat → Nat → Int32 → AH → Option (Int32 × AH)) (r0 : Nat) (r1 : Nat) (r2 : Nat) (i3 : Int32) (h : AH) : Option (Int32 × AH) :=
  (aI 20 h r0 (i3 + 1)).bind fun x1 =>
  b2 (f_X11_bar r1 x1 h) fun x2 h3 =>
  (aI 20 h3 r0 (i3 + 1)).bind fun x4 =>
  b2 (f_X15_bar r2 x4 h3) fun x5 h6 =>
  if x2 = x5 then
    f_Law_1749 z k18 r0 r1 r2 i3 h6
  else
    some (0, h6)
set_option maxRecDepth 100000 in
set_option maxHeartbeats 4000000 in
theorem l_Law_675 {X : MX} {l : Launch} {G : GX} {h0 : AH} {rr : Int32} {hr : AH} (C : Cx X G RLaw cLaw 4 (some .boolean) 2048 84000 h0) (C2 : Cy X l "law" []) {k18 : Nat → Nat → Nat → Int32 → AH → Option (Int32 × AH)} (hk18 : ∀ (r0 : Nat) (r1 : Nat) (r2 : Nat) (i3 : Int32) (h : AH), k18 r0 r1 r2 i3 h = some (rr, hr) → V X G h0 (QI rr hr) 18 [(0, .ref r0), (1, .ref r1), (2, .ref r2), (3, .int i3)] [] h) (r0 : Nat) (r1 : Nat) (r2 : Nat) (i3 : Int32) (h : AH) (hf : f_Law_675 G.2.2 k18 r0 r1 r2 i3 h = some (rr, hr)) : V X G h0 (QI rr hr) 675 [(0, .ref r0), (1, .ref r1), (2, .ref r2), (3, .int i3)] [] h := by
  unfold f_Law_675 at hf
  refine C.seg (pe := 680) (lv' := [(0, .ref r0), (1, .ref r1), (2, .ref r2), (3, .int i3)]) (st' := [.int (i3 + 1), .ref r0, .ref r1]) [(.aload_n 1, 1, 0), (.aload_n 0, 1, 0), (.iload_n 3, 1, 0), (.iconst 1, 1, 1), (.iadd, 1, 0)] (by decide +kernel) rfl ?_
  obtain ⟨x1, gx1, hf⟩ := Option.bind_eq_some_iff.mp hf
  refine C.ald 20 rfl gx1 (by decide +kernel) rfl ?_
  obtain ⟨x2, h3, gx2, hf⟩ := b2_some hf
  refine C.callVr C2 [.int x1] [] mv_1090 rfl (o_X11_bar gx2) (w_X11_bar gx2) (by omega) (by omega) (Nat.le_of_ble_eq_true rfl) (by decide +kernel) rfl ?_
  refine C.seg (pe := 689) (lv' := [(0, .ref r0), (1, .ref r1), (2, .ref r2), (3, .int i3)]) (st' := [.int (i3 + 1), .ref r0, .ref r2, .int x2]) [(.aload_n 2, 1, 0), (.aload_n 0, 1, 0), (.iload_n 3, 1, 0), (.iconst 1, 1, 1), (.iadd, 1, 0)] (by decide +kernel) rfl ?_
  obtain ⟨x4, gx4, hf⟩ := Option.bind_eq_some_iff.mp hf
  refine C.ald 20 rfl gx4 (by decide +kernel) rfl ?_
  obtain ⟨x5, h6, gx5, hf⟩ := b2_some hf
  refine C.callVr C2 [.int x4] [.int x2] mv_2307 rfl (o_X15_bar gx5) (w_X15_bar gx5) (by omega) (by omega) (Nat.le_of_ble_eq_true rfl) (by decide +kernel) rfl ?_
  refine C.icmp_eq (off := 1056) (tgt := 1749) (pf := 696) (by decide +kernel) (by decide) rfl (fun c7 => ?_) (fun c7 => ?_)
  · replace hf := ifp c7 hf
    exact l_Law_1749 C C2 hk18 r0 r1 r2 i3 h6 hf
  · replace hf := ifn c7 hf
    refine C.seg (pe := 697) (lv' := [(0, .ref r0), (1, .ref r1), (2, .ref r2), (3, .int i3)]) (st' := [.int 0]) [(.iconst 0, 1, 0)] (by decide +kernel) rfl ?_
    cases hf
    exact C.retZ rfl (by decide) (by decide +kernel) ⟨rfl, rfl⟩
def f_Law_652 (z : ZX) (k18 : Nat → Nat → Nat → Int32 → AH → Option (Int32 × AH)) (r0 : Nat) (r1 : Nat) (r2 : Nat) (i3 : Int32) (h : AH) : Option (Int32 × AH) :=
  (aI 20 h r0 (i3 + 1)).bind fun x1 =>
  b2 (f_X11_drawing z r1 x1 h) fun x2 h3 =>
  (aI 20 h3 r0 (i3 + 1)).bind fun x4 =>
  b2 (f_X15_drawing z r2 x4 h3) fun x5 h6 =>
  if x2 = x5 then
    f_Law_1749 z k18 r0 r1 r2 i3 h6
  else
    some (0, h6)
set_option maxRecDepth 100000 in
set_option maxHeartbeats 4000000 in
theorem l_Law_652 {X : MX} {l : Launch} {G : GX} {h0 : AH} {rr : Int32} {hr : AH} (C : Cx X G RLaw cLaw 4 (some .boolean) 2048 84000 h0) (C2 : Cy X l "law" []) {k18 : Nat → Nat → Nat → Int32 → AH → Option (Int32 × AH)} (hk18 : ∀ (r0 : Nat) (r1 : Nat) (r2 : Nat) (i3 : Int32) (h : AH), k18 r0 r1 r2 i3 h = some (rr, hr) → V X G h0 (QI rr hr) 18 [(0, .ref r0), (1, .ref r1), (2, .ref r2), (3, .int i3)] [] h) (r0 : Nat) (r1 : Nat) (r2 : Nat) (i3 : Int32) (h : AH) (hf : f_Law_652 G.2.2 k18 r0 r1 r2 i3 h = some (rr, hr)) : V X G h0 (QI rr hr) 652 [(0, .ref r0), (1, .ref r1), (2, .ref r2), (3, .int i3)] [] h := by
  unfold f_Law_652 at hf
  refine C.seg (pe := 657) (lv' := [(0, .ref r0), (1, .ref r1), (2, .ref r2), (3, .int i3)]) (st' := [.int (i3 + 1), .ref r0, .ref r1]) [(.aload_n 1, 1, 0), (.aload_n 0, 1, 0), (.iload_n 3, 1, 0), (.iconst 1, 1, 1), (.iadd, 1, 0)] (by decide +kernel) rfl ?_
  obtain ⟨x1, gx1, hf⟩ := Option.bind_eq_some_iff.mp hf
  refine C.ald 20 rfl gx1 (by decide +kernel) rfl ?_
  obtain ⟨x2, h3, gx2, hf⟩ := b2_some hf
  refine C.callVr C2 [.int x1] [] mv_811 rfl (o_X11_drawing gx2) (w_X11_drawing gx2) (by omega) (by omega) (Nat.le_of_ble_eq_true rfl) (by decide +kernel) rfl ?_
  refine C.seg (pe := 666) (lv' := [(0, .ref r0), (1, .ref r1), (2, .ref r2), (3, .int i3)]) (st' := [.int (i3 + 1), .ref r0, .ref r2, .int x2]) [(.aload_n 2, 1, 0), (.aload_n 0, 1, 0), (.iload_n 3, 1, 0), (.iconst 1, 1, 1), (.iadd, 1, 0)] (by decide +kernel) rfl ?_
  obtain ⟨x4, gx4, hf⟩ := Option.bind_eq_some_iff.mp hf
  refine C.ald 20 rfl gx4 (by decide +kernel) rfl ?_
  obtain ⟨x5, h6, gx5, hf⟩ := b2_some hf
  refine C.callVr C2 [.int x4] [.int x2] mv_2185 rfl (o_X15_drawing gx5) (w_X15_drawing gx5) (by omega) (by omega) (Nat.le_of_ble_eq_true rfl) (by decide +kernel) rfl ?_
  refine C.icmp_eq (off := 1079) (tgt := 1749) (pf := 673) (by decide +kernel) (by decide) rfl (fun c7 => ?_) (fun c7 => ?_)
  · replace hf := ifp c7 hf
    exact l_Law_1749 C C2 hk18 r0 r1 r2 i3 h6 hf
  · replace hf := ifn c7 hf
    refine C.seg (pe := 674) (lv' := [(0, .ref r0), (1, .ref r1), (2, .ref r2), (3, .int i3)]) (st' := [.int 0]) [(.iconst 0, 1, 0)] (by decide +kernel) rfl ?_
    cases hf
    exact C.retZ rfl (by decide) (by decide +kernel) ⟨rfl, rfl⟩
def f_Law_589 (z : ZX) (k18 : Nat → Nat → Nat → Int32 → AH → Option (Int32 × AH)) (r0 : Nat) (r1 : Nat) (r2 : Nat) (i3 : Int32) (h : AH) : Option (Int32 × AH) :=
  (aI 20 h r0 (i3 + 1)).bind fun x1 =>
  (aI 20 h r0 (i3 + 2)).bind fun x2 =>
  (aI 20 h r0 (i3 + 3)).bind fun x3 =>
  (aI 20 h r0 (i3 + 4)).bind fun x4 =>
  (aI 20 h r0 (i3 + 5)).bind fun x5 =>
  b2 (f_X11_feed r1 x1 x2 x3 x4 x5 h) fun x6 h7 =>
  (aI 20 h7 r0 (i3 + 1)).bind fun x8 =>
  (aI 20 h7 r0 (i3 + 2)).bind fun x9 =>
  (aI 20 h7 r0 (i3 + 3)).bind fun x10 =>
  (aI 20 h7 r0 (i3 + 4)).bind fun x11 =>
  (aI 20 h7 r0 (i3 + 5)).bind fun x12 =>
  b2 (f_X15_feed r2 x8 x9 x10 x11 x12 h7) fun x13 h14 =>
  if x6 = x13 then
    f_Law_1749 z k18 r0 r1 r2 i3 h14
  else
    some (0, h14)
set_option maxRecDepth 100000 in
set_option maxHeartbeats 4000000 in
theorem l_Law_589 {X : MX} {l : Launch} {G : GX} {h0 : AH} {rr : Int32} {hr : AH} (C : Cx X G RLaw cLaw 4 (some .boolean) 2048 84000 h0) (C2 : Cy X l "law" []) {k18 : Nat → Nat → Nat → Int32 → AH → Option (Int32 × AH)} (hk18 : ∀ (r0 : Nat) (r1 : Nat) (r2 : Nat) (i3 : Int32) (h : AH), k18 r0 r1 r2 i3 h = some (rr, hr) → V X G h0 (QI rr hr) 18 [(0, .ref r0), (1, .ref r1), (2, .ref r2), (3, .int i3)] [] h) (r0 : Nat) (r1 : Nat) (r2 : Nat) (i3 : Int32) (h : AH) (hf : f_Law_589 G.2.2 k18 r0 r1 r2 i3 h = some (rr, hr)) : V X G h0 (QI rr hr) 589 [(0, .ref r0), (1, .ref r1), (2, .ref r2), (3, .int i3)] [] h := by
  unfold f_Law_589 at hf
  refine C.seg (pe := 594) (lv' := [(0, .ref r0), (1, .ref r1), (2, .ref r2), (3, .int i3)]) (st' := [.int (i3 + 1), .ref r0, .ref r1]) [(.aload_n 1, 1, 0), (.aload_n 0, 1, 0), (.iload_n 3, 1, 0), (.iconst 1, 1, 1), (.iadd, 1, 0)] (by decide +kernel) rfl ?_
  obtain ⟨x1, gx1, hf⟩ := Option.bind_eq_some_iff.mp hf
  refine C.ald 20 rfl gx1 (by decide +kernel) rfl ?_
  refine C.seg (pe := 599) (lv' := [(0, .ref r0), (1, .ref r1), (2, .ref r2), (3, .int i3)]) (st' := [.int (i3 + 2), .ref r0, .int x1, .ref r1]) [(.aload_n 0, 1, 0), (.iload_n 3, 1, 0), (.iconst 2, 1, 2), (.iadd, 1, 0)] (by decide +kernel) rfl ?_
  obtain ⟨x2, gx2, hf⟩ := Option.bind_eq_some_iff.mp hf
  refine C.ald 20 rfl gx2 (by decide +kernel) rfl ?_
  refine C.seg (pe := 604) (lv' := [(0, .ref r0), (1, .ref r1), (2, .ref r2), (3, .int i3)]) (st' := [.int (i3 + 3), .ref r0, .int x2, .int x1, .ref r1]) [(.aload_n 0, 1, 0), (.iload_n 3, 1, 0), (.iconst 3, 1, 3), (.iadd, 1, 0)] (by decide +kernel) rfl ?_
  obtain ⟨x3, gx3, hf⟩ := Option.bind_eq_some_iff.mp hf
  refine C.ald 20 rfl gx3 (by decide +kernel) rfl ?_
  refine C.seg (pe := 609) (lv' := [(0, .ref r0), (1, .ref r1), (2, .ref r2), (3, .int i3)]) (st' := [.int (i3 + 4), .ref r0, .int x3, .int x2, .int x1, .ref r1]) [(.aload_n 0, 1, 0), (.iload_n 3, 1, 0), (.iconst 4, 1, 4), (.iadd, 1, 0)] (by decide +kernel) rfl ?_
  obtain ⟨x4, gx4, hf⟩ := Option.bind_eq_some_iff.mp hf
  refine C.ald 20 rfl gx4 (by decide +kernel) rfl ?_
  refine C.seg (pe := 614) (lv' := [(0, .ref r0), (1, .ref r1), (2, .ref r2), (3, .int i3)]) (st' := [.int (i3 + 5), .ref r0, .int x4, .int x3, .int x2, .int x1, .ref r1]) [(.aload_n 0, 1, 0), (.iload_n 3, 1, 0), (.iconst 5, 1, 5), (.iadd, 1, 0)] (by decide +kernel) rfl ?_
  obtain ⟨x5, gx5, hf⟩ := Option.bind_eq_some_iff.mp hf
  refine C.ald 20 rfl gx5 (by decide +kernel) rfl ?_
  obtain ⟨x6, h7, gx6, hf⟩ := b2_some hf
  refine C.callVr C2 [.int x1, .int x2, .int x3, .int x4, .int x5] [] mv_803 rfl (o_X11_feed gx6) (w_X11_feed gx6) (by omega) (by omega) (Nat.le_of_ble_eq_true rfl) (by decide +kernel) rfl ?_
  refine C.seg (pe := 623) (lv' := [(0, .ref r0), (1, .ref r1), (2, .ref r2), (3, .int i3)]) (st' := [.int (i3 + 1), .ref r0, .ref r2, .int x6]) [(.aload_n 2, 1, 0), (.aload_n 0, 1, 0), (.iload_n 3, 1, 0), (.iconst 1, 1, 1), (.iadd, 1, 0)] (by decide +kernel) rfl ?_
  obtain ⟨x8, gx8, hf⟩ := Option.bind_eq_some_iff.mp hf
  refine C.ald 20 rfl gx8 (by decide +kernel) rfl ?_
  refine C.seg (pe := 628) (lv' := [(0, .ref r0), (1, .ref r1), (2, .ref r2), (3, .int i3)]) (st' := [.int (i3 + 2), .ref r0, .int x8, .ref r2, .int x6]) [(.aload_n 0, 1, 0), (.iload_n 3, 1, 0), (.iconst 2, 1, 2), (.iadd, 1, 0)] (by decide +kernel) rfl ?_
  obtain ⟨x9, gx9, hf⟩ := Option.bind_eq_some_iff.mp hf
  refine C.ald 20 rfl gx9 (by decide +kernel) rfl ?_
  refine C.seg (pe := 633) (lv' := [(0, .ref r0), (1, .ref r1), (2, .ref r2), (3, .int i3)]) (st' := [.int (i3 + 3), .ref r0, .int x9, .int x8, .ref r2, .int x6]) [(.aload_n 0, 1, 0), (.iload_n 3, 1, 0), (.iconst 3, 1, 3), (.iadd, 1, 0)] (by decide +kernel) rfl ?_
  obtain ⟨x10, gx10, hf⟩ := Option.bind_eq_some_iff.mp hf
  refine C.ald 20 rfl gx10 (by decide +kernel) rfl ?_
  refine C.seg (pe := 638) (lv' := [(0, .ref r0), (1, .ref r1), (2, .ref r2), (3, .int i3)]) (st' := [.int (i3 + 4), .ref r0, .int x10, .int x9, .int x8, .ref r2, .int x6]) [(.aload_n 0, 1, 0), (.iload_n 3, 1, 0), (.iconst 4, 1, 4), (.iadd, 1, 0)] (by decide +kernel) rfl ?_
  obtain ⟨x11, gx11, hf⟩ := Option.bind_eq_some_iff.mp hf
  refine C.ald 20 rfl gx11 (by decide +kernel) rfl ?_
  refine C.seg (pe := 643) (lv' := [(0, .ref r0), (1, .ref r1), (2, .ref r2), (3, .int i3)]) (st' := [.int (i3 + 5), .ref r0, .int x11, .int x10, .int x9, .int x8, .ref r2, .int x6]) [(.aload_n 0, 1, 0), (.iload_n 3, 1, 0), (.iconst 5, 1, 5), (.iadd, 1, 0)] (by decide +kernel) rfl ?_
  obtain ⟨x12, gx12, hf⟩ := Option.bind_eq_some_iff.mp hf
  refine C.ald 20 rfl gx12 (by decide +kernel) rfl ?_
  obtain ⟨x13, h14, gx13, hf⟩ := b2_some hf
  refine C.callVr C2 [.int x8, .int x9, .int x10, .int x11, .int x12] [.int x6] mv_2173 rfl (o_X15_feed gx13) (w_X15_feed gx13) (by omega) (by omega) (Nat.le_of_ble_eq_true rfl) (by decide +kernel) rfl ?_
  refine C.icmp_eq (off := 1102) (tgt := 1749) (pf := 650) (by decide +kernel) (by decide) rfl (fun c15 => ?_) (fun c15 => ?_)
  · replace hf := ifp c15 hf
    exact l_Law_1749 C C2 hk18 r0 r1 r2 i3 h14 hf
  · replace hf := ifn c15 hf
    refine C.seg (pe := 651) (lv' := [(0, .ref r0), (1, .ref r1), (2, .ref r2), (3, .int i3)]) (st' := [.int 0]) [(.iconst 0, 1, 0)] (by decide +kernel) rfl ?_
    cases hf
    exact C.retZ rfl (by decide) (by decide +kernel) ⟨rfl, rfl⟩
def f_Law_546 (z : ZX) (k18 : Nat → Nat → Nat → Int32 → AH → Option (Int32 × AH)) (r0 : Nat) (r1 : Nat) (r2 : Nat) (i3 : Int32) (h : AH) : Option (Int32 × AH) :=
  (aI 20 h r0 (i3 + 1)).bind fun x1 =>
  (aI 20 h r0 (i3 + 2)).bind fun x2 =>
  (aI 20 h r0 (i3 + 3)).bind fun x3 =>
  b2 (f_X11_minutes r1 x1 x2 x3 h) fun x4 h5 =>
  (aI 20 h5 r0 (i3 + 1)).bind fun x6 =>
  (aI 20 h5 r0 (i3 + 2)).bind fun x7 =>
  (aI 20 h5 r0 (i3 + 3)).bind fun x8 =>
  b2 (f_X15_minutes r2 x6 x7 x8 h5) fun x9 h10 =>
  if x4 = x9 then
    f_Law_1749 z k18 r0 r1 r2 i3 h10
  else
    some (0, h10)
set_option maxRecDepth 100000 in
set_option maxHeartbeats 4000000 in
theorem l_Law_546 {X : MX} {l : Launch} {G : GX} {h0 : AH} {rr : Int32} {hr : AH} (C : Cx X G RLaw cLaw 4 (some .boolean) 2048 84000 h0) (C2 : Cy X l "law" []) {k18 : Nat → Nat → Nat → Int32 → AH → Option (Int32 × AH)} (hk18 : ∀ (r0 : Nat) (r1 : Nat) (r2 : Nat) (i3 : Int32) (h : AH), k18 r0 r1 r2 i3 h = some (rr, hr) → V X G h0 (QI rr hr) 18 [(0, .ref r0), (1, .ref r1), (2, .ref r2), (3, .int i3)] [] h) (r0 : Nat) (r1 : Nat) (r2 : Nat) (i3 : Int32) (h : AH) (hf : f_Law_546 G.2.2 k18 r0 r1 r2 i3 h = some (rr, hr)) : V X G h0 (QI rr hr) 546 [(0, .ref r0), (1, .ref r1), (2, .ref r2), (3, .int i3)] [] h := by
  unfold f_Law_546 at hf
  refine C.seg (pe := 551) (lv' := [(0, .ref r0), (1, .ref r1), (2, .ref r2), (3, .int i3)]) (st' := [.int (i3 + 1), .ref r0, .ref r1]) [(.aload_n 1, 1, 0), (.aload_n 0, 1, 0), (.iload_n 3, 1, 0), (.iconst 1, 1, 1), (.iadd, 1, 0)] (by decide +kernel) rfl ?_
  obtain ⟨x1, gx1, hf⟩ := Option.bind_eq_some_iff.mp hf
  refine C.ald 20 rfl gx1 (by decide +kernel) rfl ?_
  refine C.seg (pe := 556) (lv' := [(0, .ref r0), (1, .ref r1), (2, .ref r2), (3, .int i3)]) (st' := [.int (i3 + 2), .ref r0, .int x1, .ref r1]) [(.aload_n 0, 1, 0), (.iload_n 3, 1, 0), (.iconst 2, 1, 2), (.iadd, 1, 0)] (by decide +kernel) rfl ?_
  obtain ⟨x2, gx2, hf⟩ := Option.bind_eq_some_iff.mp hf
  refine C.ald 20 rfl gx2 (by decide +kernel) rfl ?_
  refine C.seg (pe := 561) (lv' := [(0, .ref r0), (1, .ref r1), (2, .ref r2), (3, .int i3)]) (st' := [.int (i3 + 3), .ref r0, .int x2, .int x1, .ref r1]) [(.aload_n 0, 1, 0), (.iload_n 3, 1, 0), (.iconst 3, 1, 3), (.iadd, 1, 0)] (by decide +kernel) rfl ?_
  obtain ⟨x3, gx3, hf⟩ := Option.bind_eq_some_iff.mp hf
  refine C.ald 20 rfl gx3 (by decide +kernel) rfl ?_
  obtain ⟨x4, h5, gx4, hf⟩ := b2_some hf
  refine C.callVr C2 [.int x1, .int x2, .int x3] [] mv_795 rfl (o_X11_minutes gx4) (w_X11_minutes gx4) (by omega) (by omega) (Nat.le_of_ble_eq_true rfl) (by decide +kernel) rfl ?_
  refine C.seg (pe := 570) (lv' := [(0, .ref r0), (1, .ref r1), (2, .ref r2), (3, .int i3)]) (st' := [.int (i3 + 1), .ref r0, .ref r2, .int x4]) [(.aload_n 2, 1, 0), (.aload_n 0, 1, 0), (.iload_n 3, 1, 0), (.iconst 1, 1, 1), (.iadd, 1, 0)] (by decide +kernel) rfl ?_
  obtain ⟨x6, gx6, hf⟩ := Option.bind_eq_some_iff.mp hf
  refine C.ald 20 rfl gx6 (by decide +kernel) rfl ?_
  refine C.seg (pe := 575) (lv' := [(0, .ref r0), (1, .ref r1), (2, .ref r2), (3, .int i3)]) (st' := [.int (i3 + 2), .ref r0, .int x6, .ref r2, .int x4]) [(.aload_n 0, 1, 0), (.iload_n 3, 1, 0), (.iconst 2, 1, 2), (.iadd, 1, 0)] (by decide +kernel) rfl ?_
  obtain ⟨x7, gx7, hf⟩ := Option.bind_eq_some_iff.mp hf
  refine C.ald 20 rfl gx7 (by decide +kernel) rfl ?_
  refine C.seg (pe := 580) (lv' := [(0, .ref r0), (1, .ref r1), (2, .ref r2), (3, .int i3)]) (st' := [.int (i3 + 3), .ref r0, .int x7, .int x6, .ref r2, .int x4]) [(.aload_n 0, 1, 0), (.iload_n 3, 1, 0), (.iconst 3, 1, 3), (.iadd, 1, 0)] (by decide +kernel) rfl ?_
  obtain ⟨x8, gx8, hf⟩ := Option.bind_eq_some_iff.mp hf
  refine C.ald 20 rfl gx8 (by decide +kernel) rfl ?_
  obtain ⟨x9, h10, gx9, hf⟩ := b2_some hf
  refine C.callVr C2 [.int x6, .int x7, .int x8] [.int x4] mv_2169 rfl (o_X15_minutes gx9) (w_X15_minutes gx9) (by omega) (by omega) (Nat.le_of_ble_eq_true rfl) (by decide +kernel) rfl ?_
  refine C.icmp_eq (off := 1165) (tgt := 1749) (pf := 587) (by decide +kernel) (by decide) rfl (fun c11 => ?_) (fun c11 => ?_)
  · replace hf := ifp c11 hf
    exact l_Law_1749 C C2 hk18 r0 r1 r2 i3 h10 hf
  · replace hf := ifn c11 hf
    refine C.seg (pe := 588) (lv' := [(0, .ref r0), (1, .ref r1), (2, .ref r2), (3, .int i3)]) (st' := [.int 0]) [(.iconst 0, 1, 0)] (by decide +kernel) rfl ?_
    cases hf
    exact C.retZ rfl (by decide) (by decide +kernel) ⟨rfl, rfl⟩
def f_Law_538 (z : ZX) (k18 : Nat → Nat → Nat → Int32 → AH → Option (Int32 × AH)) (r0 : Nat) (r1 : Nat) (r2 : Nat) (i3 : Int32) (si0 : Int32) (si1 : Int32) (si2 : Int32) (sr3 : Nat) (si4 : Int32) (h : AH) : Option (Int32 × AH) :=
  b2 (f_X15_beside sr3 si2 si1 si0 h) fun x1 h2 =>
  if si4 = x1 then
    f_Law_1749 z k18 r0 r1 r2 i3 h2
  else
    some (0, h2)
set_option maxRecDepth 100000 in
set_option maxHeartbeats 4000000 in
theorem l_Law_538 {X : MX} {l : Launch} {G : GX} {h0 : AH} {rr : Int32} {hr : AH} (C : Cx X G RLaw cLaw 4 (some .boolean) 2048 84000 h0) (C2 : Cy X l "law" []) {k18 : Nat → Nat → Nat → Int32 → AH → Option (Int32 × AH)} (hk18 : ∀ (r0 : Nat) (r1 : Nat) (r2 : Nat) (i3 : Int32) (h : AH), k18 r0 r1 r2 i3 h = some (rr, hr) → V X G h0 (QI rr hr) 18 [(0, .ref r0), (1, .ref r1), (2, .ref r2), (3, .int i3)] [] h) (r0 : Nat) (r1 : Nat) (r2 : Nat) (i3 : Int32) (si0 : Int32) (si1 : Int32) (si2 : Int32) (sr3 : Nat) (si4 : Int32) (h : AH) (hf : f_Law_538 G.2.2 k18 r0 r1 r2 i3 si0 si1 si2 sr3 si4 h = some (rr, hr)) : V X G h0 (QI rr hr) 538 [(0, .ref r0), (1, .ref r1), (2, .ref r2), (3, .int i3)] [.int si0, .int si1, .int si2, .ref sr3, .int si4] h := by
  unfold f_Law_538 at hf
  obtain ⟨x1, h2, gx1, hf⟩ := b2_some hf
  refine C.callVr C2 [.int si2, .int si1, .int si0] [.int si4] mv_2165 rfl (o_X15_beside gx1) (w_X15_beside gx1) (by omega) (by omega) (Nat.le_of_ble_eq_true rfl) (by decide +kernel) rfl ?_
  refine C.icmp_eq (off := 1208) (tgt := 1749) (pf := 544) (by decide +kernel) (by decide) rfl (fun c3 => ?_) (fun c3 => ?_)
  · replace hf := ifp c3 hf
    exact l_Law_1749 C C2 hk18 r0 r1 r2 i3 h2 hf
  · replace hf := ifn c3 hf
    refine C.seg (pe := 545) (lv' := [(0, .ref r0), (1, .ref r1), (2, .ref r2), (3, .int i3)]) (st' := [.int 0]) [(.iconst 0, 1, 0)] (by decide +kernel) rfl ?_
    cases hf
    exact C.retZ rfl (by decide) (by decide +kernel) ⟨rfl, rfl⟩
def f_Law_511 (z : ZX) (k18 : Nat → Nat → Nat → Int32 → AH → Option (Int32 × AH)) (r0 : Nat) (r1 : Nat) (r2 : Nat) (i3 : Int32) (si0 : Int32) (si1 : Int32) (si2 : Int32) (sr3 : Nat) (h : AH) : Option (Int32 × AH) :=
  b2 (f_X11_beside sr3 si2 si1 si0 h) fun x1 h2 =>
  (aI 20 h2 r0 (i3 + 1)).bind fun x3 =>
  (aI 20 h2 r0 (i3 + 2)).bind fun x4 =>
  (aI 20 h2 r0 (i3 + 3)).bind fun x5 =>
  if x5 = 0 then
    f_Law_538 z k18 r0 r1 r2 i3 0 x4 x3 r2 x1 h2
  else
    f_Law_538 z k18 r0 r1 r2 i3 1 x4 x3 r2 x1 h2
set_option maxRecDepth 100000 in
set_option maxHeartbeats 4000000 in
theorem l_Law_511 {X : MX} {l : Launch} {G : GX} {h0 : AH} {rr : Int32} {hr : AH} (C : Cx X G RLaw cLaw 4 (some .boolean) 2048 84000 h0) (C2 : Cy X l "law" []) {k18 : Nat → Nat → Nat → Int32 → AH → Option (Int32 × AH)} (hk18 : ∀ (r0 : Nat) (r1 : Nat) (r2 : Nat) (i3 : Int32) (h : AH), k18 r0 r1 r2 i3 h = some (rr, hr) → V X G h0 (QI rr hr) 18 [(0, .ref r0), (1, .ref r1), (2, .ref r2), (3, .int i3)] [] h) (r0 : Nat) (r1 : Nat) (r2 : Nat) (i3 : Int32) (si0 : Int32) (si1 : Int32) (si2 : Int32) (sr3 : Nat) (h : AH) (hf : f_Law_511 G.2.2 k18 r0 r1 r2 i3 si0 si1 si2 sr3 h = some (rr, hr)) : V X G h0 (QI rr hr) 511 [(0, .ref r0), (1, .ref r1), (2, .ref r2), (3, .int i3)] [.int si0, .int si1, .int si2, .ref sr3] h := by
  unfold f_Law_511 at hf
  obtain ⟨x1, h2, gx1, hf⟩ := b2_some hf
  refine C.callVr C2 [.int si2, .int si1, .int si0] [] mv_781 rfl (o_X11_beside gx1) (w_X11_beside gx1) (by omega) (by omega) (Nat.le_of_ble_eq_true rfl) (by decide +kernel) rfl ?_
  refine C.seg (pe := 519) (lv' := [(0, .ref r0), (1, .ref r1), (2, .ref r2), (3, .int i3)]) (st' := [.int (i3 + 1), .ref r0, .ref r2, .int x1]) [(.aload_n 2, 1, 0), (.aload_n 0, 1, 0), (.iload_n 3, 1, 0), (.iconst 1, 1, 1), (.iadd, 1, 0)] (by decide +kernel) rfl ?_
  obtain ⟨x3, gx3, hf⟩ := Option.bind_eq_some_iff.mp hf
  refine C.ald 20 rfl gx3 (by decide +kernel) rfl ?_
  refine C.seg (pe := 524) (lv' := [(0, .ref r0), (1, .ref r1), (2, .ref r2), (3, .int i3)]) (st' := [.int (i3 + 2), .ref r0, .int x3, .ref r2, .int x1]) [(.aload_n 0, 1, 0), (.iload_n 3, 1, 0), (.iconst 2, 1, 2), (.iadd, 1, 0)] (by decide +kernel) rfl ?_
  obtain ⟨x4, gx4, hf⟩ := Option.bind_eq_some_iff.mp hf
  refine C.ald 20 rfl gx4 (by decide +kernel) rfl ?_
  refine C.seg (pe := 529) (lv' := [(0, .ref r0), (1, .ref r1), (2, .ref r2), (3, .int i3)]) (st' := [.int (i3 + 3), .ref r0, .int x4, .int x3, .ref r2, .int x1]) [(.aload_n 0, 1, 0), (.iload_n 3, 1, 0), (.iconst 3, 1, 3), (.iadd, 1, 0)] (by decide +kernel) rfl ?_
  obtain ⟨x5, gx5, hf⟩ := Option.bind_eq_some_iff.mp hf
  refine C.ald 20 rfl gx5 (by decide +kernel) rfl ?_
  refine C.if_eq (off := 7) (tgt := 537) (pf := 533) (by decide +kernel) (by decide) rfl (fun c6 => ?_) (fun c6 => ?_)
  · replace hf := ifp c6 hf
    refine C.seg (pe := 538) (lv' := [(0, .ref r0), (1, .ref r1), (2, .ref r2), (3, .int i3)]) (st' := [.int 0, .int x4, .int x3, .ref r2, .int x1]) [(.iconst 0, 1, 0)] (by decide +kernel) rfl ?_
    exact l_Law_538 C C2 hk18 r0 r1 r2 i3 0 x4 x3 r2 x1 h2 hf
  · replace hf := ifn c6 hf
    refine C.seg (pe := 534) (lv' := [(0, .ref r0), (1, .ref r1), (2, .ref r2), (3, .int i3)]) (st' := [.int 1, .int x4, .int x3, .ref r2, .int x1]) [(.iconst 1, 1, 1)] (by decide +kernel) rfl ?_
    refine C.goto (off := 4) (tgt := 538) (by decide +kernel) (by decide) ?_
    exact l_Law_538 C C2 hk18 r0 r1 r2 i3 1 x4 x3 r2 x1 h2 hf
def f_Law_487 (z : ZX) (k18 : Nat → Nat → Nat → Int32 → AH → Option (Int32 × AH)) (r0 : Nat) (r1 : Nat) (r2 : Nat) (i3 : Int32) (h : AH) : Option (Int32 × AH) :=
  (aI 20 h r0 (i3 + 1)).bind fun x1 =>
  (aI 20 h r0 (i3 + 2)).bind fun x2 =>
  (aI 20 h r0 (i3 + 3)).bind fun x3 =>
  if x3 = 0 then
    f_Law_511 z k18 r0 r1 r2 i3 0 x2 x1 r1 h
  else
    f_Law_511 z k18 r0 r1 r2 i3 1 x2 x1 r1 h
set_option maxRecDepth 100000 in
set_option maxHeartbeats 4000000 in
theorem l_Law_487 {X : MX} {l : Launch} {G : GX} {h0 : AH} {rr : Int32} {hr : AH} (C : Cx X G RLaw cLaw 4 (some .boolean) 2048 84000 h0) (C2 : Cy X l "law" []) {k18 : Nat → Nat → Nat → Int32 → AH → Option (Int32 × AH)} (hk18 : ∀ (r0 : Nat) (r1 : Nat) (r2 : Nat) (i3 : Int32) (h : AH), k18 r0 r1 r2 i3 h = some (rr, hr) → V X G h0 (QI rr hr) 18 [(0, .ref r0), (1, .ref r1), (2, .ref r2), (3, .int i3)] [] h) (r0 : Nat) (r1 : Nat) (r2 : Nat) (i3 : Int32) (h : AH) (hf : f_Law_487 G.2.2 k18 r0 r1 r2 i3 h = some (rr, hr)) : V X G h0 (QI rr hr) 487 [(0, .ref r0), (1, .ref r1), (2, .ref r2), (3, .int i3)] [] h := by
  unfold f_Law_487 at hf
  refine C.seg (pe := 492) (lv' := [(0, .ref r0), (1, .ref r1), (2, .ref r2), (3, .int i3)]) (st' := [.int (i3 + 1), .ref r0, .ref r1]) [(.aload_n 1, 1, 0), (.aload_n 0, 1, 0), (.iload_n 3, 1, 0), (.iconst 1, 1, 1), (.iadd, 1, 0)] (by decide +kernel) rfl ?_
  obtain ⟨x1, gx1, hf⟩ := Option.bind_eq_some_iff.mp hf
  refine C.ald 20 rfl gx1 (by decide +kernel) rfl ?_
  refine C.seg (pe := 497) (lv' := [(0, .ref r0), (1, .ref r1), (2, .ref r2), (3, .int i3)]) (st' := [.int (i3 + 2), .ref r0, .int x1, .ref r1]) [(.aload_n 0, 1, 0), (.iload_n 3, 1, 0), (.iconst 2, 1, 2), (.iadd, 1, 0)] (by decide +kernel) rfl ?_
  obtain ⟨x2, gx2, hf⟩ := Option.bind_eq_some_iff.mp hf
  refine C.ald 20 rfl gx2 (by decide +kernel) rfl ?_
  refine C.seg (pe := 502) (lv' := [(0, .ref r0), (1, .ref r1), (2, .ref r2), (3, .int i3)]) (st' := [.int (i3 + 3), .ref r0, .int x2, .int x1, .ref r1]) [(.aload_n 0, 1, 0), (.iload_n 3, 1, 0), (.iconst 3, 1, 3), (.iadd, 1, 0)] (by decide +kernel) rfl ?_
  obtain ⟨x3, gx3, hf⟩ := Option.bind_eq_some_iff.mp hf
  refine C.ald 20 rfl gx3 (by decide +kernel) rfl ?_
  refine C.if_eq (off := 7) (tgt := 510) (pf := 506) (by decide +kernel) (by decide) rfl (fun c4 => ?_) (fun c4 => ?_)
  · replace hf := ifp c4 hf
    refine C.seg (pe := 511) (lv' := [(0, .ref r0), (1, .ref r1), (2, .ref r2), (3, .int i3)]) (st' := [.int 0, .int x2, .int x1, .ref r1]) [(.iconst 0, 1, 0)] (by decide +kernel) rfl ?_
    exact l_Law_511 C C2 hk18 r0 r1 r2 i3 0 x2 x1 r1 h hf
  · replace hf := ifn c4 hf
    refine C.seg (pe := 507) (lv' := [(0, .ref r0), (1, .ref r1), (2, .ref r2), (3, .int i3)]) (st' := [.int 1, .int x2, .int x1, .ref r1]) [(.iconst 1, 1, 1)] (by decide +kernel) rfl ?_
    refine C.goto (off := 4) (tgt := 511) (by decide +kernel) (by decide) ?_
    exact l_Law_511 C C2 hk18 r0 r1 r2 i3 1 x2 x1 r1 h hf
def f_Law_454 (z : ZX) (k18 : Nat → Nat → Nat → Int32 → AH → Option (Int32 × AH)) (r0 : Nat) (r1 : Nat) (r2 : Nat) (i3 : Int32) (h : AH) : Option (Int32 × AH) :=
  (aI 20 h r0 (i3 + 1)).bind fun x1 =>
  (aI 20 h r0 (i3 + 2)).bind fun x2 =>
  b2 (f_X11_sold r1 x1 x2 h) fun x3 h4 =>
  (aI 20 h4 r0 (i3 + 1)).bind fun x5 =>
  (aI 20 h4 r0 (i3 + 2)).bind fun x6 =>
  b2 (f_X15_sold r2 x5 x6 h4) fun x7 h8 =>
  if x3 = x7 then
    f_Law_1749 z k18 r0 r1 r2 i3 h8
  else
    some (0, h8)
set_option maxRecDepth 100000 in
set_option maxHeartbeats 4000000 in
theorem l_Law_454 {X : MX} {l : Launch} {G : GX} {h0 : AH} {rr : Int32} {hr : AH} (C : Cx X G RLaw cLaw 4 (some .boolean) 2048 84000 h0) (C2 : Cy X l "law" []) {k18 : Nat → Nat → Nat → Int32 → AH → Option (Int32 × AH)} (hk18 : ∀ (r0 : Nat) (r1 : Nat) (r2 : Nat) (i3 : Int32) (h : AH), k18 r0 r1 r2 i3 h = some (rr, hr) → V X G h0 (QI rr hr) 18 [(0, .ref r0), (1, .ref r1), (2, .ref r2), (3, .int i3)] [] h) (r0 : Nat) (r1 : Nat) (r2 : Nat) (i3 : Int32) (h : AH) (hf : f_Law_454 G.2.2 k18 r0 r1 r2 i3 h = some (rr, hr)) : V X G h0 (QI rr hr) 454 [(0, .ref r0), (1, .ref r1), (2, .ref r2), (3, .int i3)] [] h := by
  unfold f_Law_454 at hf
  refine C.seg (pe := 459) (lv' := [(0, .ref r0), (1, .ref r1), (2, .ref r2), (3, .int i3)]) (st' := [.int (i3 + 1), .ref r0, .ref r1]) [(.aload_n 1, 1, 0), (.aload_n 0, 1, 0), (.iload_n 3, 1, 0), (.iconst 1, 1, 1), (.iadd, 1, 0)] (by decide +kernel) rfl ?_
  obtain ⟨x1, gx1, hf⟩ := Option.bind_eq_some_iff.mp hf
  refine C.ald 20 rfl gx1 (by decide +kernel) rfl ?_
  refine C.seg (pe := 464) (lv' := [(0, .ref r0), (1, .ref r1), (2, .ref r2), (3, .int i3)]) (st' := [.int (i3 + 2), .ref r0, .int x1, .ref r1]) [(.aload_n 0, 1, 0), (.iload_n 3, 1, 0), (.iconst 2, 1, 2), (.iadd, 1, 0)] (by decide +kernel) rfl ?_
  obtain ⟨x2, gx2, hf⟩ := Option.bind_eq_some_iff.mp hf
  refine C.ald 20 rfl gx2 (by decide +kernel) rfl ?_
  obtain ⟨x3, h4, gx3, hf⟩ := b2_some hf
  refine C.callVr C2 [.int x1, .int x2] [] mv_773 rfl (o_X11_sold gx3) (w_X11_sold gx3) (by omega) (by omega) (Nat.le_of_ble_eq_true rfl) (by decide +kernel) rfl ?_
  refine C.seg (pe := 473) (lv' := [(0, .ref r0), (1, .ref r1), (2, .ref r2), (3, .int i3)]) (st' := [.int (i3 + 1), .ref r0, .ref r2, .int x3]) [(.aload_n 2, 1, 0), (.aload_n 0, 1, 0), (.iload_n 3, 1, 0), (.iconst 1, 1, 1), (.iadd, 1, 0)] (by decide +kernel) rfl ?_
  obtain ⟨x5, gx5, hf⟩ := Option.bind_eq_some_iff.mp hf
  refine C.ald 20 rfl gx5 (by decide +kernel) rfl ?_
  refine C.seg (pe := 478) (lv' := [(0, .ref r0), (1, .ref r1), (2, .ref r2), (3, .int i3)]) (st' := [.int (i3 + 2), .ref r0, .int x5, .ref r2, .int x3]) [(.aload_n 0, 1, 0), (.iload_n 3, 1, 0), (.iconst 2, 1, 2), (.iadd, 1, 0)] (by decide +kernel) rfl ?_
  obtain ⟨x6, gx6, hf⟩ := Option.bind_eq_some_iff.mp hf
  refine C.ald 20 rfl gx6 (by decide +kernel) rfl ?_
  obtain ⟨x7, h8, gx7, hf⟩ := b2_some hf
  refine C.callVr C2 [.int x5, .int x6] [.int x3] mv_2160 rfl (o_X15_sold gx7) (w_X15_sold gx7) (by omega) (by omega) (Nat.le_of_ble_eq_true rfl) (by decide +kernel) rfl ?_
  refine C.icmp_eq (off := 1267) (tgt := 1749) (pf := 485) (by decide +kernel) (by decide) rfl (fun c9 => ?_) (fun c9 => ?_)
  · replace hf := ifp c9 hf
    exact l_Law_1749 C C2 hk18 r0 r1 r2 i3 h8 hf
  · replace hf := ifn c9 hf
    refine C.seg (pe := 486) (lv' := [(0, .ref r0), (1, .ref r1), (2, .ref r2), (3, .int i3)]) (st' := [.int 0]) [(.iconst 0, 1, 0)] (by decide +kernel) rfl ?_
    cases hf
    exact C.retZ rfl (by decide) (by decide +kernel) ⟨rfl, rfl⟩
def f_Law_446 (z : ZX) (k18 : Nat → Nat → Nat → Int32 → AH → Option (Int32 × AH)) (r0 : Nat) (r1 : Nat) (r2 : Nat) (i3 : Int32) (si0 : Int32) (si1 : Int32) (si2 : Int32) (si3 : Int32) (sr4 : Nat) (si5 : Int32) (h : AH) : Option (Int32 × AH) :=
  b2 (f_X15_leave sr4 si3 si2 si1 si0 h) fun x1 h2 =>
  if si5 = x1 then
    f_Law_1749 z k18 r0 r1 r2 i3 h2
  else
    some (0, h2)
set_option maxRecDepth 100000 in
set_option maxHeartbeats 4000000 in
theorem l_Law_446 {X : MX} {l : Launch} {G : GX} {h0 : AH} {rr : Int32} {hr : AH} (C : Cx X G RLaw cLaw 4 (some .boolean) 2048 84000 h0) (C2 : Cy X l "law" []) {k18 : Nat → Nat → Nat → Int32 → AH → Option (Int32 × AH)} (hk18 : ∀ (r0 : Nat) (r1 : Nat) (r2 : Nat) (i3 : Int32) (h : AH), k18 r0 r1 r2 i3 h = some (rr, hr) → V X G h0 (QI rr hr) 18 [(0, .ref r0), (1, .ref r1), (2, .ref r2), (3, .int i3)] [] h) (r0 : Nat) (r1 : Nat) (r2 : Nat) (i3 : Int32) (si0 : Int32) (si1 : Int32) (si2 : Int32) (si3 : Int32) (sr4 : Nat) (si5 : Int32) (h : AH) (hf : f_Law_446 G.2.2 k18 r0 r1 r2 i3 si0 si1 si2 si3 sr4 si5 h = some (rr, hr)) : V X G h0 (QI rr hr) 446 [(0, .ref r0), (1, .ref r1), (2, .ref r2), (3, .int i3)] [.int si0, .int si1, .int si2, .int si3, .ref sr4, .int si5] h := by
  unfold f_Law_446 at hf
  obtain ⟨x1, h2, gx1, hf⟩ := b2_some hf
  refine C.callVr C2 [.int si3, .int si2, .int si1, .int si0] [.int si5] mv_2148 rfl (o_X15_leave gx1) (w_X15_leave gx1) (by omega) (by omega) (Nat.le_of_ble_eq_true rfl) (by decide +kernel) rfl ?_
  refine C.icmp_eq (off := 1300) (tgt := 1749) (pf := 452) (by decide +kernel) (by decide) rfl (fun c3 => ?_) (fun c3 => ?_)
  · replace hf := ifp c3 hf
    exact l_Law_1749 C C2 hk18 r0 r1 r2 i3 h2 hf
  · replace hf := ifn c3 hf
    refine C.seg (pe := 453) (lv' := [(0, .ref r0), (1, .ref r1), (2, .ref r2), (3, .int i3)]) (st' := [.int 0]) [(.iconst 0, 1, 0)] (by decide +kernel) rfl ?_
    cases hf
    exact C.retZ rfl (by decide) (by decide +kernel) ⟨rfl, rfl⟩
def f_Law_414 (z : ZX) (k18 : Nat → Nat → Nat → Int32 → AH → Option (Int32 × AH)) (r0 : Nat) (r1 : Nat) (r2 : Nat) (i3 : Int32) (si0 : Int32) (si1 : Int32) (si2 : Int32) (si3 : Int32) (sr4 : Nat) (h : AH) : Option (Int32 × AH) :=
  b2 (f_X11_leave sr4 si3 si2 si1 si0 h) fun x1 h2 =>
  (aI 20 h2 r0 (i3 + 1)).bind fun x3 =>
  (aI 20 h2 r0 (i3 + 2)).bind fun x4 =>
  (aI 20 h2 r0 (i3 + 3)).bind fun x5 =>
  (aI 20 h2 r0 (i3 + 4)).bind fun x6 =>
  if x6 = 0 then
    f_Law_446 z k18 r0 r1 r2 i3 0 x5 x4 x3 r2 x1 h2
  else
    f_Law_446 z k18 r0 r1 r2 i3 1 x5 x4 x3 r2 x1 h2
set_option maxRecDepth 100000 in
set_option maxHeartbeats 4000000 in
theorem l_Law_414 {X : MX} {l : Launch} {G : GX} {h0 : AH} {rr : Int32} {hr : AH} (C : Cx X G RLaw cLaw 4 (some .boolean) 2048 84000 h0) (C2 : Cy X l "law" []) {k18 : Nat → Nat → Nat → Int32 → AH → Option (Int32 × AH)} (hk18 : ∀ (r0 : Nat) (r1 : Nat) (r2 : Nat) (i3 : Int32) (h : AH), k18 r0 r1 r2 i3 h = some (rr, hr) → V X G h0 (QI rr hr) 18 [(0, .ref r0), (1, .ref r1), (2, .ref r2), (3, .int i3)] [] h) (r0 : Nat) (r1 : Nat) (r2 : Nat) (i3 : Int32) (si0 : Int32) (si1 : Int32) (si2 : Int32) (si3 : Int32) (sr4 : Nat) (h : AH) (hf : f_Law_414 G.2.2 k18 r0 r1 r2 i3 si0 si1 si2 si3 sr4 h = some (rr, hr)) : V X G h0 (QI rr hr) 414 [(0, .ref r0), (1, .ref r1), (2, .ref r2), (3, .int i3)] [.int si0, .int si1, .int si2, .int si3, .ref sr4] h := by
  unfold f_Law_414 at hf
  obtain ⟨x1, h2, gx1, hf⟩ := b2_some hf
  refine C.callVr C2 [.int si3, .int si2, .int si1, .int si0] [] mv_757 rfl (o_X11_leave gx1) (w_X11_leave gx1) (by omega) (by omega) (Nat.le_of_ble_eq_true rfl) (by decide +kernel) rfl ?_
  refine C.seg (pe := 422) (lv' := [(0, .ref r0), (1, .ref r1), (2, .ref r2), (3, .int i3)]) (st' := [.int (i3 + 1), .ref r0, .ref r2, .int x1]) [(.aload_n 2, 1, 0), (.aload_n 0, 1, 0), (.iload_n 3, 1, 0), (.iconst 1, 1, 1), (.iadd, 1, 0)] (by decide +kernel) rfl ?_
  obtain ⟨x3, gx3, hf⟩ := Option.bind_eq_some_iff.mp hf
  refine C.ald 20 rfl gx3 (by decide +kernel) rfl ?_
  refine C.seg (pe := 427) (lv' := [(0, .ref r0), (1, .ref r1), (2, .ref r2), (3, .int i3)]) (st' := [.int (i3 + 2), .ref r0, .int x3, .ref r2, .int x1]) [(.aload_n 0, 1, 0), (.iload_n 3, 1, 0), (.iconst 2, 1, 2), (.iadd, 1, 0)] (by decide +kernel) rfl ?_
  obtain ⟨x4, gx4, hf⟩ := Option.bind_eq_some_iff.mp hf
  refine C.ald 20 rfl gx4 (by decide +kernel) rfl ?_
  refine C.seg (pe := 432) (lv' := [(0, .ref r0), (1, .ref r1), (2, .ref r2), (3, .int i3)]) (st' := [.int (i3 + 3), .ref r0, .int x4, .int x3, .ref r2, .int x1]) [(.aload_n 0, 1, 0), (.iload_n 3, 1, 0), (.iconst 3, 1, 3), (.iadd, 1, 0)] (by decide +kernel) rfl ?_
  obtain ⟨x5, gx5, hf⟩ := Option.bind_eq_some_iff.mp hf
  refine C.ald 20 rfl gx5 (by decide +kernel) rfl ?_
  refine C.seg (pe := 437) (lv' := [(0, .ref r0), (1, .ref r1), (2, .ref r2), (3, .int i3)]) (st' := [.int (i3 + 4), .ref r0, .int x5, .int x4, .int x3, .ref r2, .int x1]) [(.aload_n 0, 1, 0), (.iload_n 3, 1, 0), (.iconst 4, 1, 4), (.iadd, 1, 0)] (by decide +kernel) rfl ?_
  obtain ⟨x6, gx6, hf⟩ := Option.bind_eq_some_iff.mp hf
  refine C.ald 20 rfl gx6 (by decide +kernel) rfl ?_
  refine C.if_eq (off := 7) (tgt := 445) (pf := 441) (by decide +kernel) (by decide) rfl (fun c7 => ?_) (fun c7 => ?_)
  · replace hf := ifp c7 hf
    refine C.seg (pe := 446) (lv' := [(0, .ref r0), (1, .ref r1), (2, .ref r2), (3, .int i3)]) (st' := [.int 0, .int x5, .int x4, .int x3, .ref r2, .int x1]) [(.iconst 0, 1, 0)] (by decide +kernel) rfl ?_
    exact l_Law_446 C C2 hk18 r0 r1 r2 i3 0 x5 x4 x3 r2 x1 h2 hf
  · replace hf := ifn c7 hf
    refine C.seg (pe := 442) (lv' := [(0, .ref r0), (1, .ref r1), (2, .ref r2), (3, .int i3)]) (st' := [.int 1, .int x5, .int x4, .int x3, .ref r2, .int x1]) [(.iconst 1, 1, 1)] (by decide +kernel) rfl ?_
    refine C.goto (off := 4) (tgt := 446) (by decide +kernel) (by decide) ?_
    exact l_Law_446 C C2 hk18 r0 r1 r2 i3 1 x5 x4 x3 r2 x1 h2 hf
def f_Law_385 (z : ZX) (k18 : Nat → Nat → Nat → Int32 → AH → Option (Int32 × AH)) (r0 : Nat) (r1 : Nat) (r2 : Nat) (i3 : Int32) (h : AH) : Option (Int32 × AH) :=
  (aI 20 h r0 (i3 + 1)).bind fun x1 =>
  (aI 20 h r0 (i3 + 2)).bind fun x2 =>
  (aI 20 h r0 (i3 + 3)).bind fun x3 =>
  (aI 20 h r0 (i3 + 4)).bind fun x4 =>
  if x4 = 0 then
    f_Law_414 z k18 r0 r1 r2 i3 0 x3 x2 x1 r1 h
  else
    f_Law_414 z k18 r0 r1 r2 i3 1 x3 x2 x1 r1 h
set_option maxRecDepth 100000 in
set_option maxHeartbeats 4000000 in
theorem l_Law_385 {X : MX} {l : Launch} {G : GX} {h0 : AH} {rr : Int32} {hr : AH} (C : Cx X G RLaw cLaw 4 (some .boolean) 2048 84000 h0) (C2 : Cy X l "law" []) {k18 : Nat → Nat → Nat → Int32 → AH → Option (Int32 × AH)} (hk18 : ∀ (r0 : Nat) (r1 : Nat) (r2 : Nat) (i3 : Int32) (h : AH), k18 r0 r1 r2 i3 h = some (rr, hr) → V X G h0 (QI rr hr) 18 [(0, .ref r0), (1, .ref r1), (2, .ref r2), (3, .int i3)] [] h) (r0 : Nat) (r1 : Nat) (r2 : Nat) (i3 : Int32) (h : AH) (hf : f_Law_385 G.2.2 k18 r0 r1 r2 i3 h = some (rr, hr)) : V X G h0 (QI rr hr) 385 [(0, .ref r0), (1, .ref r1), (2, .ref r2), (3, .int i3)] [] h := by
  unfold f_Law_385 at hf
  refine C.seg (pe := 390) (lv' := [(0, .ref r0), (1, .ref r1), (2, .ref r2), (3, .int i3)]) (st' := [.int (i3 + 1), .ref r0, .ref r1]) [(.aload_n 1, 1, 0), (.aload_n 0, 1, 0), (.iload_n 3, 1, 0), (.iconst 1, 1, 1), (.iadd, 1, 0)] (by decide +kernel) rfl ?_
  obtain ⟨x1, gx1, hf⟩ := Option.bind_eq_some_iff.mp hf
  refine C.ald 20 rfl gx1 (by decide +kernel) rfl ?_
  refine C.seg (pe := 395) (lv' := [(0, .ref r0), (1, .ref r1), (2, .ref r2), (3, .int i3)]) (st' := [.int (i3 + 2), .ref r0, .int x1, .ref r1]) [(.aload_n 0, 1, 0), (.iload_n 3, 1, 0), (.iconst 2, 1, 2), (.iadd, 1, 0)] (by decide +kernel) rfl ?_
  obtain ⟨x2, gx2, hf⟩ := Option.bind_eq_some_iff.mp hf
  refine C.ald 20 rfl gx2 (by decide +kernel) rfl ?_
  refine C.seg (pe := 400) (lv' := [(0, .ref r0), (1, .ref r1), (2, .ref r2), (3, .int i3)]) (st' := [.int (i3 + 3), .ref r0, .int x2, .int x1, .ref r1]) [(.aload_n 0, 1, 0), (.iload_n 3, 1, 0), (.iconst 3, 1, 3), (.iadd, 1, 0)] (by decide +kernel) rfl ?_
  obtain ⟨x3, gx3, hf⟩ := Option.bind_eq_some_iff.mp hf
  refine C.ald 20 rfl gx3 (by decide +kernel) rfl ?_
  refine C.seg (pe := 405) (lv' := [(0, .ref r0), (1, .ref r1), (2, .ref r2), (3, .int i3)]) (st' := [.int (i3 + 4), .ref r0, .int x3, .int x2, .int x1, .ref r1]) [(.aload_n 0, 1, 0), (.iload_n 3, 1, 0), (.iconst 4, 1, 4), (.iadd, 1, 0)] (by decide +kernel) rfl ?_
  obtain ⟨x4, gx4, hf⟩ := Option.bind_eq_some_iff.mp hf
  refine C.ald 20 rfl gx4 (by decide +kernel) rfl ?_
  refine C.if_eq (off := 7) (tgt := 413) (pf := 409) (by decide +kernel) (by decide) rfl (fun c5 => ?_) (fun c5 => ?_)
  · replace hf := ifp c5 hf
    refine C.seg (pe := 414) (lv' := [(0, .ref r0), (1, .ref r1), (2, .ref r2), (3, .int i3)]) (st' := [.int 0, .int x3, .int x2, .int x1, .ref r1]) [(.iconst 0, 1, 0)] (by decide +kernel) rfl ?_
    exact l_Law_414 C C2 hk18 r0 r1 r2 i3 0 x3 x2 x1 r1 h hf
  · replace hf := ifn c5 hf
    refine C.seg (pe := 410) (lv' := [(0, .ref r0), (1, .ref r1), (2, .ref r2), (3, .int i3)]) (st' := [.int 1, .int x3, .int x2, .int x1, .ref r1]) [(.iconst 1, 1, 1)] (by decide +kernel) rfl ?_
    refine C.goto (off := 4) (tgt := 414) (by decide +kernel) (by decide) ?_
    exact l_Law_414 C C2 hk18 r0 r1 r2 i3 1 x3 x2 x1 r1 h hf
def f_Law_322 (z : ZX) (k18 : Nat → Nat → Nat → Int32 → AH → Option (Int32 × AH)) (r0 : Nat) (r1 : Nat) (r2 : Nat) (i3 : Int32) (h : AH) : Option (Int32 × AH) :=
  (aI 20 h r0 (i3 + 1)).bind fun x1 =>
  (aI 20 h r0 (i3 + 2)).bind fun x2 =>
  (aI 20 h r0 (i3 + 3)).bind fun x3 =>
  (aI 20 h r0 (i3 + 4)).bind fun x4 =>
  (aI 20 h r0 (i3 + 5)).bind fun x5 =>
  b2 (f_X11_hole r1 x1 x2 x3 x4 x5 h) fun x6 h7 =>
  (aI 20 h7 r0 (i3 + 1)).bind fun x8 =>
  (aI 20 h7 r0 (i3 + 2)).bind fun x9 =>
  (aI 20 h7 r0 (i3 + 3)).bind fun x10 =>
  (aI 20 h7 r0 (i3 + 4)).bind fun x11 =>
  (aI 20 h7 r0 (i3 + 5)).bind fun x12 =>
  b2 (f_X15_hole r2 x8 x9 x10 x11 x12 h7) fun x13 h14 =>
  if x6 = x13 then
    f_Law_1749 z k18 r0 r1 r2 i3 h14
  else
    some (0, h14)
set_option maxRecDepth 100000 in
set_option maxHeartbeats 4000000 in
theorem l_Law_322 {X : MX} {l : Launch} {G : GX} {h0 : AH} {rr : Int32} {hr : AH} (C : Cx X G RLaw cLaw 4 (some .boolean) 2048 84000 h0) (C2 : Cy X l "law" []) {k18 : Nat → Nat → Nat → Int32 → AH → Option (Int32 × AH)} (hk18 : ∀ (r0 : Nat) (r1 : Nat) (r2 : Nat) (i3 : Int32) (h : AH), k18 r0 r1 r2 i3 h = some (rr, hr) → V X G h0 (QI rr hr) 18 [(0, .ref r0), (1, .ref r1), (2, .ref r2), (3, .int i3)] [] h) (r0 : Nat) (r1 : Nat) (r2 : Nat) (i3 : Int32) (h : AH) (hf : f_Law_322 G.2.2 k18 r0 r1 r2 i3 h = some (rr, hr)) : V X G h0 (QI rr hr) 322 [(0, .ref r0), (1, .ref r1), (2, .ref r2), (3, .int i3)] [] h := by
  unfold f_Law_322 at hf
  refine C.seg (pe := 327) (lv' := [(0, .ref r0), (1, .ref r1), (2, .ref r2), (3, .int i3)]) (st' := [.int (i3 + 1), .ref r0, .ref r1]) [(.aload_n 1, 1, 0), (.aload_n 0, 1, 0), (.iload_n 3, 1, 0), (.iconst 1, 1, 1), (.iadd, 1, 0)] (by decide +kernel) rfl ?_
  obtain ⟨x1, gx1, hf⟩ := Option.bind_eq_some_iff.mp hf
  refine C.ald 20 rfl gx1 (by decide +kernel) rfl ?_
  refine C.seg (pe := 332) (lv' := [(0, .ref r0), (1, .ref r1), (2, .ref r2), (3, .int i3)]) (st' := [.int (i3 + 2), .ref r0, .int x1, .ref r1]) [(.aload_n 0, 1, 0), (.iload_n 3, 1, 0), (.iconst 2, 1, 2), (.iadd, 1, 0)] (by decide +kernel) rfl ?_
  obtain ⟨x2, gx2, hf⟩ := Option.bind_eq_some_iff.mp hf
  refine C.ald 20 rfl gx2 (by decide +kernel) rfl ?_
  refine C.seg (pe := 337) (lv' := [(0, .ref r0), (1, .ref r1), (2, .ref r2), (3, .int i3)]) (st' := [.int (i3 + 3), .ref r0, .int x2, .int x1, .ref r1]) [(.aload_n 0, 1, 0), (.iload_n 3, 1, 0), (.iconst 3, 1, 3), (.iadd, 1, 0)] (by decide +kernel) rfl ?_
  obtain ⟨x3, gx3, hf⟩ := Option.bind_eq_some_iff.mp hf
  refine C.ald 20 rfl gx3 (by decide +kernel) rfl ?_
  refine C.seg (pe := 342) (lv' := [(0, .ref r0), (1, .ref r1), (2, .ref r2), (3, .int i3)]) (st' := [.int (i3 + 4), .ref r0, .int x3, .int x2, .int x1, .ref r1]) [(.aload_n 0, 1, 0), (.iload_n 3, 1, 0), (.iconst 4, 1, 4), (.iadd, 1, 0)] (by decide +kernel) rfl ?_
  obtain ⟨x4, gx4, hf⟩ := Option.bind_eq_some_iff.mp hf
  refine C.ald 20 rfl gx4 (by decide +kernel) rfl ?_
  refine C.seg (pe := 347) (lv' := [(0, .ref r0), (1, .ref r1), (2, .ref r2), (3, .int i3)]) (st' := [.int (i3 + 5), .ref r0, .int x4, .int x3, .int x2, .int x1, .ref r1]) [(.aload_n 0, 1, 0), (.iload_n 3, 1, 0), (.iconst 5, 1, 5), (.iadd, 1, 0)] (by decide +kernel) rfl ?_
  obtain ⟨x5, gx5, hf⟩ := Option.bind_eq_some_iff.mp hf
  refine C.ald 20 rfl gx5 (by decide +kernel) rfl ?_
  obtain ⟨x6, h7, gx6, hf⟩ := b2_some hf
  refine C.callVr C2 [.int x1, .int x2, .int x3, .int x4, .int x5] [] mv_740 rfl (o_X11_hole gx6) (w_X11_hole gx6) (by omega) (by omega) (Nat.le_of_ble_eq_true rfl) (by decide +kernel) rfl ?_
  refine C.seg (pe := 356) (lv' := [(0, .ref r0), (1, .ref r1), (2, .ref r2), (3, .int i3)]) (st' := [.int (i3 + 1), .ref r0, .ref r2, .int x6]) [(.aload_n 2, 1, 0), (.aload_n 0, 1, 0), (.iload_n 3, 1, 0), (.iconst 1, 1, 1), (.iadd, 1, 0)] (by decide +kernel) rfl ?_
  obtain ⟨x8, gx8, hf⟩ := Option.bind_eq_some_iff.mp hf
  refine C.ald 20 rfl gx8 (by decide +kernel) rfl ?_
  refine C.seg (pe := 361) (lv' := [(0, .ref r0), (1, .ref r1), (2, .ref r2), (3, .int i3)]) (st' := [.int (i3 + 2), .ref r0, .int x8, .ref r2, .int x6]) [(.aload_n 0, 1, 0), (.iload_n 3, 1, 0), (.iconst 2, 1, 2), (.iadd, 1, 0)] (by decide +kernel) rfl ?_
  obtain ⟨x9, gx9, hf⟩ := Option.bind_eq_some_iff.mp hf
  refine C.ald 20 rfl gx9 (by decide +kernel) rfl ?_
  refine C.seg (pe := 366) (lv' := [(0, .ref r0), (1, .ref r1), (2, .ref r2), (3, .int i3)]) (st' := [.int (i3 + 3), .ref r0, .int x9, .int x8, .ref r2, .int x6]) [(.aload_n 0, 1, 0), (.iload_n 3, 1, 0), (.iconst 3, 1, 3), (.iadd, 1, 0)] (by decide +kernel) rfl ?_
  obtain ⟨x10, gx10, hf⟩ := Option.bind_eq_some_iff.mp hf
  refine C.ald 20 rfl gx10 (by decide +kernel) rfl ?_
  refine C.seg (pe := 371) (lv' := [(0, .ref r0), (1, .ref r1), (2, .ref r2), (3, .int i3)]) (st' := [.int (i3 + 4), .ref r0, .int x10, .int x9, .int x8, .ref r2, .int x6]) [(.aload_n 0, 1, 0), (.iload_n 3, 1, 0), (.iconst 4, 1, 4), (.iadd, 1, 0)] (by decide +kernel) rfl ?_
  obtain ⟨x11, gx11, hf⟩ := Option.bind_eq_some_iff.mp hf
  refine C.ald 20 rfl gx11 (by decide +kernel) rfl ?_
  refine C.seg (pe := 376) (lv' := [(0, .ref r0), (1, .ref r1), (2, .ref r2), (3, .int i3)]) (st' := [.int (i3 + 5), .ref r0, .int x11, .int x10, .int x9, .int x8, .ref r2, .int x6]) [(.aload_n 0, 1, 0), (.iload_n 3, 1, 0), (.iconst 5, 1, 5), (.iadd, 1, 0)] (by decide +kernel) rfl ?_
  obtain ⟨x12, gx12, hf⟩ := Option.bind_eq_some_iff.mp hf
  refine C.ald 20 rfl gx12 (by decide +kernel) rfl ?_
  obtain ⟨x13, h14, gx13, hf⟩ := b2_some hf
  refine C.callVr C2 [.int x8, .int x9, .int x10, .int x11, .int x12] [.int x6] mv_2140 rfl (o_X15_hole gx13) (w_X15_hole gx13) (by omega) (by omega) (Nat.le_of_ble_eq_true rfl) (by decide +kernel) rfl ?_
  refine C.icmp_eq (off := 1369) (tgt := 1749) (pf := 383) (by decide +kernel) (by decide) rfl (fun c15 => ?_) (fun c15 => ?_)
  · replace hf := ifp c15 hf
    exact l_Law_1749 C C2 hk18 r0 r1 r2 i3 h14 hf
  · replace hf := ifn c15 hf
    refine C.seg (pe := 384) (lv' := [(0, .ref r0), (1, .ref r1), (2, .ref r2), (3, .int i3)]) (st' := [.int 0]) [(.iconst 0, 1, 0)] (by decide +kernel) rfl ?_
    cases hf
    exact C.retZ rfl (by decide) (by decide +kernel) ⟨rfl, rfl⟩
def f_Law_289 (z : ZX) (k18 : Nat → Nat → Nat → Int32 → AH → Option (Int32 × AH)) (r0 : Nat) (r1 : Nat) (r2 : Nat) (i3 : Int32) (h : AH) : Option (Int32 × AH) :=
  (aI 20 h r0 (i3 + 1)).bind fun x1 =>
  (aI 20 h r0 (i3 + 2)).bind fun x2 =>
  b2 (f_X11_about r1 x1 x2 h) fun x3 h4 =>
  (aI 20 h4 r0 (i3 + 1)).bind fun x5 =>
  (aI 20 h4 r0 (i3 + 2)).bind fun x6 =>
  b2 (f_X15_about r2 x5 x6 h4) fun x7 h8 =>
  if x3 = x7 then
    f_Law_1749 z k18 r0 r1 r2 i3 h8
  else
    some (0, h8)
set_option maxRecDepth 100000 in
set_option maxHeartbeats 4000000 in
theorem l_Law_289 {X : MX} {l : Launch} {G : GX} {h0 : AH} {rr : Int32} {hr : AH} (C : Cx X G RLaw cLaw 4 (some .boolean) 2048 84000 h0) (C2 : Cy X l "law" []) {k18 : Nat → Nat → Nat → Int32 → AH → Option (Int32 × AH)} (hk18 : ∀ (r0 : Nat) (r1 : Nat) (r2 : Nat) (i3 : Int32) (h : AH), k18 r0 r1 r2 i3 h = some (rr, hr) → V X G h0 (QI rr hr) 18 [(0, .ref r0), (1, .ref r1), (2, .ref r2), (3, .int i3)] [] h) (r0 : Nat) (r1 : Nat) (r2 : Nat) (i3 : Int32) (h : AH) (hf : f_Law_289 G.2.2 k18 r0 r1 r2 i3 h = some (rr, hr)) : V X G h0 (QI rr hr) 289 [(0, .ref r0), (1, .ref r1), (2, .ref r2), (3, .int i3)] [] h := by
  unfold f_Law_289 at hf
  refine C.seg (pe := 294) (lv' := [(0, .ref r0), (1, .ref r1), (2, .ref r2), (3, .int i3)]) (st' := [.int (i3 + 1), .ref r0, .ref r1]) [(.aload_n 1, 1, 0), (.aload_n 0, 1, 0), (.iload_n 3, 1, 0), (.iconst 1, 1, 1), (.iadd, 1, 0)] (by decide +kernel) rfl ?_
  obtain ⟨x1, gx1, hf⟩ := Option.bind_eq_some_iff.mp hf
  refine C.ald 20 rfl gx1 (by decide +kernel) rfl ?_
  refine C.seg (pe := 299) (lv' := [(0, .ref r0), (1, .ref r1), (2, .ref r2), (3, .int i3)]) (st' := [.int (i3 + 2), .ref r0, .int x1, .ref r1]) [(.aload_n 0, 1, 0), (.iload_n 3, 1, 0), (.iconst 2, 1, 2), (.iadd, 1, 0)] (by decide +kernel) rfl ?_
  obtain ⟨x2, gx2, hf⟩ := Option.bind_eq_some_iff.mp hf
  refine C.ald 20 rfl gx2 (by decide +kernel) rfl ?_
  obtain ⟨x3, h4, gx3, hf⟩ := b2_some hf
  refine C.callVr C2 [.int x1, .int x2] [] mv_716 rfl (o_X11_about gx3) (w_X11_about gx3) (by omega) (by omega) (Nat.le_of_ble_eq_true rfl) (by decide +kernel) rfl ?_
  refine C.seg (pe := 308) (lv' := [(0, .ref r0), (1, .ref r1), (2, .ref r2), (3, .int i3)]) (st' := [.int (i3 + 1), .ref r0, .ref r2, .int x3]) [(.aload_n 2, 1, 0), (.aload_n 0, 1, 0), (.iload_n 3, 1, 0), (.iconst 1, 1, 1), (.iadd, 1, 0)] (by decide +kernel) rfl ?_
  obtain ⟨x5, gx5, hf⟩ := Option.bind_eq_some_iff.mp hf
  refine C.ald 20 rfl gx5 (by decide +kernel) rfl ?_
  refine C.seg (pe := 313) (lv' := [(0, .ref r0), (1, .ref r1), (2, .ref r2), (3, .int i3)]) (st' := [.int (i3 + 2), .ref r0, .int x5, .ref r2, .int x3]) [(.aload_n 0, 1, 0), (.iload_n 3, 1, 0), (.iconst 2, 1, 2), (.iadd, 1, 0)] (by decide +kernel) rfl ?_
  obtain ⟨x6, gx6, hf⟩ := Option.bind_eq_some_iff.mp hf
  refine C.ald 20 rfl gx6 (by decide +kernel) rfl ?_
  obtain ⟨x7, h8, gx7, hf⟩ := b2_some hf
  refine C.callVr C2 [.int x5, .int x6] [.int x3] mv_2120 rfl (o_X15_about gx7) (w_X15_about gx7) (by omega) (by omega) (Nat.le_of_ble_eq_true rfl) (by decide +kernel) rfl ?_
  refine C.icmp_eq (off := 1432) (tgt := 1749) (pf := 320) (by decide +kernel) (by decide) rfl (fun c9 => ?_) (fun c9 => ?_)
  · replace hf := ifp c9 hf
    exact l_Law_1749 C C2 hk18 r0 r1 r2 i3 h8 hf
  · replace hf := ifn c9 hf
    refine C.seg (pe := 321) (lv' := [(0, .ref r0), (1, .ref r1), (2, .ref r2), (3, .int i3)]) (st' := [.int 0]) [(.iconst 0, 1, 0)] (by decide +kernel) rfl ?_
    cases hf
    exact C.retZ rfl (by decide) (by decide +kernel) ⟨rfl, rfl⟩
def f_Law_236 (z : ZX) (k18 : Nat → Nat → Nat → Int32 → AH → Option (Int32 × AH)) (r0 : Nat) (r1 : Nat) (r2 : Nat) (i3 : Int32) (h : AH) : Option (Int32 × AH) :=
  (aI 20 h r0 (i3 + 1)).bind fun x1 =>
  (aI 20 h r0 (i3 + 2)).bind fun x2 =>
  (aI 20 h r0 (i3 + 3)).bind fun x3 =>
  (aI 20 h r0 (i3 + 4)).bind fun x4 =>
  b2 (f_X11_wall r1 x1 x2 x3 x4 h) fun x5 h6 =>
  (aI 20 h6 r0 (i3 + 1)).bind fun x7 =>
  (aI 20 h6 r0 (i3 + 2)).bind fun x8 =>
  (aI 20 h6 r0 (i3 + 3)).bind fun x9 =>
  (aI 20 h6 r0 (i3 + 4)).bind fun x10 =>
  b2 (f_X15_wall r2 x7 x8 x9 x10 h6) fun x11 h12 =>
  if x5 = x11 then
    f_Law_1749 z k18 r0 r1 r2 i3 h12
  else
    some (0, h12)
set_option maxRecDepth 100000 in
set_option maxHeartbeats 4000000 in
theorem l_Law_236 {X : MX} {l : Launch} {G : GX} {h0 : AH} {rr : Int32} {hr : AH} (C : Cx X G RLaw cLaw 4 (some .boolean) 2048 84000 h0) (C2 : Cy X l "law" []) {k18 : Nat → Nat → Nat → Int32 → AH → Option (Int32 × AH)} (hk18 : ∀ (r0 : Nat) (r1 : Nat) (r2 : Nat) (i3 : Int32) (h : AH), k18 r0 r1 r2 i3 h = some (rr, hr) → V X G h0 (QI rr hr) 18 [(0, .ref r0), (1, .ref r1), (2, .ref r2), (3, .int i3)] [] h) (r0 : Nat) (r1 : Nat) (r2 : Nat) (i3 : Int32) (h : AH) (hf : f_Law_236 G.2.2 k18 r0 r1 r2 i3 h = some (rr, hr)) : V X G h0 (QI rr hr) 236 [(0, .ref r0), (1, .ref r1), (2, .ref r2), (3, .int i3)] [] h := by
  unfold f_Law_236 at hf
  refine C.seg (pe := 241) (lv' := [(0, .ref r0), (1, .ref r1), (2, .ref r2), (3, .int i3)]) (st' := [.int (i3 + 1), .ref r0, .ref r1]) [(.aload_n 1, 1, 0), (.aload_n 0, 1, 0), (.iload_n 3, 1, 0), (.iconst 1, 1, 1), (.iadd, 1, 0)] (by decide +kernel) rfl ?_
  obtain ⟨x1, gx1, hf⟩ := Option.bind_eq_some_iff.mp hf
  refine C.ald 20 rfl gx1 (by decide +kernel) rfl ?_
  refine C.seg (pe := 246) (lv' := [(0, .ref r0), (1, .ref r1), (2, .ref r2), (3, .int i3)]) (st' := [.int (i3 + 2), .ref r0, .int x1, .ref r1]) [(.aload_n 0, 1, 0), (.iload_n 3, 1, 0), (.iconst 2, 1, 2), (.iadd, 1, 0)] (by decide +kernel) rfl ?_
  obtain ⟨x2, gx2, hf⟩ := Option.bind_eq_some_iff.mp hf
  refine C.ald 20 rfl gx2 (by decide +kernel) rfl ?_
  refine C.seg (pe := 251) (lv' := [(0, .ref r0), (1, .ref r1), (2, .ref r2), (3, .int i3)]) (st' := [.int (i3 + 3), .ref r0, .int x2, .int x1, .ref r1]) [(.aload_n 0, 1, 0), (.iload_n 3, 1, 0), (.iconst 3, 1, 3), (.iadd, 1, 0)] (by decide +kernel) rfl ?_
  obtain ⟨x3, gx3, hf⟩ := Option.bind_eq_some_iff.mp hf
  refine C.ald 20 rfl gx3 (by decide +kernel) rfl ?_
  refine C.seg (pe := 256) (lv' := [(0, .ref r0), (1, .ref r1), (2, .ref r2), (3, .int i3)]) (st' := [.int (i3 + 4), .ref r0, .int x3, .int x2, .int x1, .ref r1]) [(.aload_n 0, 1, 0), (.iload_n 3, 1, 0), (.iconst 4, 1, 4), (.iadd, 1, 0)] (by decide +kernel) rfl ?_
  obtain ⟨x4, gx4, hf⟩ := Option.bind_eq_some_iff.mp hf
  refine C.ald 20 rfl gx4 (by decide +kernel) rfl ?_
  obtain ⟨x5, h6, gx5, hf⟩ := b2_some hf
  refine C.callVr C2 [.int x1, .int x2, .int x3, .int x4] [] mv_618 rfl (o_X11_wall gx5) (w_X11_wall gx5) (by omega) (by omega) (Nat.le_of_ble_eq_true rfl) (by decide +kernel) rfl ?_
  refine C.seg (pe := 265) (lv' := [(0, .ref r0), (1, .ref r1), (2, .ref r2), (3, .int i3)]) (st' := [.int (i3 + 1), .ref r0, .ref r2, .int x5]) [(.aload_n 2, 1, 0), (.aload_n 0, 1, 0), (.iload_n 3, 1, 0), (.iconst 1, 1, 1), (.iadd, 1, 0)] (by decide +kernel) rfl ?_
  obtain ⟨x7, gx7, hf⟩ := Option.bind_eq_some_iff.mp hf
  refine C.ald 20 rfl gx7 (by decide +kernel) rfl ?_
  refine C.seg (pe := 270) (lv' := [(0, .ref r0), (1, .ref r1), (2, .ref r2), (3, .int i3)]) (st' := [.int (i3 + 2), .ref r0, .int x7, .ref r2, .int x5]) [(.aload_n 0, 1, 0), (.iload_n 3, 1, 0), (.iconst 2, 1, 2), (.iadd, 1, 0)] (by decide +kernel) rfl ?_
  obtain ⟨x8, gx8, hf⟩ := Option.bind_eq_some_iff.mp hf
  refine C.ald 20 rfl gx8 (by decide +kernel) rfl ?_
  refine C.seg (pe := 275) (lv' := [(0, .ref r0), (1, .ref r1), (2, .ref r2), (3, .int i3)]) (st' := [.int (i3 + 3), .ref r0, .int x8, .int x7, .ref r2, .int x5]) [(.aload_n 0, 1, 0), (.iload_n 3, 1, 0), (.iconst 3, 1, 3), (.iadd, 1, 0)] (by decide +kernel) rfl ?_
  obtain ⟨x9, gx9, hf⟩ := Option.bind_eq_some_iff.mp hf
  refine C.ald 20 rfl gx9 (by decide +kernel) rfl ?_
  refine C.seg (pe := 280) (lv' := [(0, .ref r0), (1, .ref r1), (2, .ref r2), (3, .int i3)]) (st' := [.int (i3 + 4), .ref r0, .int x9, .int x8, .int x7, .ref r2, .int x5]) [(.aload_n 0, 1, 0), (.iload_n 3, 1, 0), (.iconst 4, 1, 4), (.iadd, 1, 0)] (by decide +kernel) rfl ?_
  obtain ⟨x10, gx10, hf⟩ := Option.bind_eq_some_iff.mp hf
  refine C.ald 20 rfl gx10 (by decide +kernel) rfl ?_
  obtain ⟨x11, h12, gx11, hf⟩ := b2_some hf
  refine C.callVr C2 [.int x7, .int x8, .int x9, .int x10] [.int x5] mv_2105 rfl (o_X15_wall gx11) (w_X15_wall gx11) (by omega) (by omega) (Nat.le_of_ble_eq_true rfl) (by decide +kernel) rfl ?_
  refine C.icmp_eq (off := 1465) (tgt := 1749) (pf := 287) (by decide +kernel) (by decide) rfl (fun c13 => ?_) (fun c13 => ?_)
  · replace hf := ifp c13 hf
    exact l_Law_1749 C C2 hk18 r0 r1 r2 i3 h12 hf
  · replace hf := ifn c13 hf
    refine C.seg (pe := 288) (lv' := [(0, .ref r0), (1, .ref r1), (2, .ref r2), (3, .int i3)]) (st' := [.int 0]) [(.iconst 0, 1, 0)] (by decide +kernel) rfl ?_
    cases hf
    exact C.retZ rfl (by decide) (by decide +kernel) ⟨rfl, rfl⟩
def f_Law_18 (z : ZX) : Nat → Nat → Nat → Nat → Int32 → AH → Option (Int32 × AH)
  | 0, _, _, _, _, _ => none
  | n + 1, r0, r1, r2, i3, h =>
    (aN h r0).bind fun x1 =>
    if x1 - 6 < i3 then
      some (1, h)
    else
      (aI 20 h r0 i3).bind fun x2 =>
      if x2 &&& 63 = 0 then
        f_Law_236 z (f_Law_18 z n) r0 r1 r2 i3 h
      else
        if x2 &&& 63 = 1 then
          f_Law_289 z (f_Law_18 z n) r0 r1 r2 i3 h
        else
          if x2 &&& 63 = 2 then
            f_Law_322 z (f_Law_18 z n) r0 r1 r2 i3 h
          else
            if x2 &&& 63 = 3 then
              f_Law_385 z (f_Law_18 z n) r0 r1 r2 i3 h
            else
              if x2 &&& 63 = 4 then
                f_Law_454 z (f_Law_18 z n) r0 r1 r2 i3 h
              else
                if x2 &&& 63 = 5 then
                  f_Law_487 z (f_Law_18 z n) r0 r1 r2 i3 h
                else
                  if x2 &&& 63 = 6 then
                    f_Law_546 z (f_Law_18 z n) r0 r1 r2 i3 h
                  else
                    if x2 &&& 63 = 7 then
                      f_Law_589 z (f_Law_18 z n) r0 r1 r2 i3 h
                    else
                      if x2 &&& 63 = 8 then
                        f_Law_652 z (f_Law_18 z n) r0 r1 r2 i3 h
                      else
                        if x2 &&& 63 = 9 then
                          f_Law_675 z (f_Law_18 z n) r0 r1 r2 i3 h
                        else
                          if x2 &&& 63 = 10 then
                            f_Law_698 z (f_Law_18 z n) r0 r1 r2 i3 h
                          else
                            if x2 &&& 63 = 11 then
                              f_Law_721 z (f_Law_18 z n) r0 r1 r2 i3 h
                            else
                              if x2 &&& 63 = 12 then
                                f_Law_734 z (f_Law_18 z n) r0 r1 r2 i3 h
                              else
                                if x2 &&& 63 = 13 then
                                  f_Law_747 z (f_Law_18 z n) r0 r1 r2 i3 h
                                else
                                  if x2 &&& 63 = 14 then
                                    f_Law_780 z (f_Law_18 z n) r0 r1 r2 i3 h
                                  else
                                    if x2 &&& 63 = 15 then
                                      f_Law_813 z (f_Law_18 z n) r0 r1 r2 i3 h
                                    else
                                      if x2 &&& 63 = 16 then
                                        f_Law_836 z (f_Law_18 z n) r0 r1 r2 i3 h
                                      else
                                        if x2 &&& 63 = 17 then
                                          f_Law_859 z (f_Law_18 z n) r0 r1 r2 i3 h
                                        else
                                          if x2 &&& 63 = 18 then
                                            f_Law_892 z (f_Law_18 z n) r0 r1 r2 i3 h
                                          else
                                            if x2 &&& 63 = 19 then
                                              f_Law_935 z (f_Law_18 z n) r0 r1 r2 i3 h
                                            else
                                              if x2 &&& 63 = 20 then
                                                f_Law_988 z (f_Law_18 z n) r0 r1 r2 i3 h
                                              else
                                                if x2 &&& 63 = 21 then
                                                  f_Law_1021 z (f_Law_18 z n) r0 r1 r2 i3 h
                                                else
                                                  if x2 &&& 63 = 22 then
                                                    f_Law_1044 z (f_Law_18 z n) r0 r1 r2 i3 h
                                                  else
                                                    if x2 &&& 63 = 23 then
                                                      f_Law_1067 z (f_Law_18 z n) r0 r1 r2 i3 h
                                                    else
                                                      if x2 &&& 63 = 24 then
                                                        f_Law_1110 z (f_Law_18 z n) r0 r1 r2 i3 h
                                                      else
                                                        if x2 &&& 63 = 25 then
                                                          f_Law_1143 z (f_Law_18 z n) r0 r1 r2 i3 h
                                                        else
                                                          if x2 &&& 63 = 26 then
                                                            f_Law_1186 z (f_Law_18 z n) r0 r1 r2 i3 h
                                                          else
                                                            if x2 &&& 63 = 27 then
                                                              f_Law_1209 z (f_Law_18 z n) r0 r1 r2 i3 h
                                                            else
                                                              if x2 &&& 63 = 28 then
                                                                f_Law_1232 z (f_Law_18 z n) r0 r1 r2 i3 h
                                                              else
                                                                if x2 &&& 63 = 29 then
                                                                  f_Law_1255 z (f_Law_18 z n) r0 r1 r2 i3 h
                                                                else
                                                                  if x2 &&& 63 = 30 then
                                                                    f_Law_1288 z (f_Law_18 z n) r0 r1 r2 i3 h
                                                                  else
                                                                    if x2 &&& 63 = 31 then
                                                                      f_Law_1311 z (f_Law_18 z n) r0 r1 r2 i3 h
                                                                    else
                                                                      if x2 &&& 63 = 32 then
                                                                        f_Law_1334 z (f_Law_18 z n) r0 r1 r2 i3 h
                                                                      else
                                                                        if x2 &&& 63 = 33 then
                                                                          f_Law_1377 z (f_Law_18 z n) r0 r1 r2 i3 h
                                                                        else
                                                                          if x2 &&& 63 = 34 then
                                                                            f_Law_1410 z (f_Law_18 z n) r0 r1 r2 i3 h
                                                                          else
                                                                            if x2 &&& 63 = 35 then
                                                                              f_Law_1433 z (f_Law_18 z n) r0 r1 r2 i3 h
                                                                            else
                                                                              if x2 &&& 63 = 36 then
                                                                                f_Law_1466 z (f_Law_18 z n) r0 r1 r2 i3 h
                                                                              else
                                                                                if x2 &&& 63 = 37 then
                                                                                  f_Law_1489 z (f_Law_18 z n) r0 r1 r2 i3 h
                                                                                else
                                                                                  if x2 &&& 63 = 38 then
                                                                                    f_Law_1502 z (f_Law_18 z n) r0 r1 r2 i3 h
                                                                                  else
                                                                                    if x2 &&& 63 = 39 then
                                                                                      f_Law_1525 z (f_Law_18 z n) r0 r1 r2 i3 h
                                                                                    else
                                                                                      if x2 &&& 63 = 40 then
                                                                                        f_Law_1558 z (f_Law_18 z n) r0 r1 r2 i3 h
                                                                                      else
                                                                                        if x2 &&& 63 = 41 then
                                                                                          f_Law_1581 z (f_Law_18 z n) r0 r1 r2 i3 h
                                                                                        else
                                                                                          if x2 &&& 63 = 42 then
                                                                                            f_Law_1594 z (f_Law_18 z n) r0 r1 r2 i3 h
                                                                                          else
                                                                                            if x2 &&& 63 = 43 then
                                                                                              f_Law_1637 z (f_Law_18 z n) r0 r1 r2 i3 h
                                                                                            else
                                                                                              if x2 &&& 63 = 44 then
                                                                                                f_Law_1690 z (f_Law_18 z n) r0 r1 r2 i3 h
                                                                                              else
                                                                                                if x2 &&& 63 = 45 then
                                                                                                  f_Law_1713 z (f_Law_18 z n) r0 r1 r2 i3 h
                                                                                                else
                                                                                                  if x2 &&& 63 = 46 then
                                                                                                    f_Law_1736 z (f_Law_18 z n) r0 r1 r2 i3 h
                                                                                                  else
                                                                                                    f_Law_1749 z (f_Law_18 z n) r0 r1 r2 i3 h
set_option maxRecDepth 100000 in
set_option maxHeartbeats 4000000 in
theorem l_Law_18 {X : MX} {l : Launch} {G : GX} {h0 : AH} {rr : Int32} {hr : AH} (C : Cx X G RLaw cLaw 4 (some .boolean) 2048 84000 h0) (C2 : Cy X l "law" []) : ∀ (n : Nat) (r0 : Nat) (r1 : Nat) (r2 : Nat) (i3 : Int32) (h : AH), f_Law_18 G.2.2 n r0 r1 r2 i3 h = some (rr, hr) → V X G h0 (QI rr hr) 18 [(0, .ref r0), (1, .ref r1), (2, .ref r2), (3, .int i3)] [] h := by
  intro n
  induction n with
  | zero => intro r0 r1 r2 i3 h hf; rw [f_Law_18] at hf; cases hf
  | succ n ih =>
    intro r0 r1 r2 i3 h hf
    rw [f_Law_18] at hf
    refine C.seg (pe := 20) (lv' := [(0, .ref r0), (1, .ref r1), (2, .ref r2), (3, .int i3)]) (st' := [.ref r0, .int i3]) [(.iload_n 3, 1, 0), (.aload_n 0, 1, 0)] (by decide +kernel) rfl ?_
    obtain ⟨x1, gx1, hf⟩ := Option.bind_eq_some_iff.mp hf
    refine C.alen gx1 (by decide +kernel) rfl ?_
    refine C.seg (pe := 24) (lv' := [(0, .ref r0), (1, .ref r1), (2, .ref r2), (3, .int i3)]) (st' := [.int (x1 - 6), .int i3]) [(.bipush 6, 2, 6), (.isub, 1, 0)] (by decide +kernel) rfl ?_
    refine C.icmp_gt (off := 1731) (tgt := 1755) (pf := 27) (by decide +kernel) (by decide) rfl (fun c50 => ?_) (fun c50 => ?_)
    · replace hf := ifp c50 hf
      refine C.seg (pe := 1756) (lv' := [(0, .ref r0), (1, .ref r1), (2, .ref r2), (3, .int i3)]) (st' := [.int 1]) [(.iconst 1, 1, 1)] (by decide +kernel) rfl ?_
      cases hf
      exact C.retZ rfl (by decide) (by decide +kernel) ⟨rfl, rfl⟩
    · replace hf := ifn c50 hf
      refine C.seg (pe := 29) (lv' := [(0, .ref r0), (1, .ref r1), (2, .ref r2), (3, .int i3)]) (st' := [.int i3, .ref r0]) [(.aload_n 0, 1, 0), (.iload_n 3, 1, 0)] (by decide +kernel) rfl ?_
      obtain ⟨x2, gx2, hf⟩ := Option.bind_eq_some_iff.mp hf
      refine C.ald 20 rfl gx2 (by decide +kernel) rfl ?_
      refine C.seg (pe := 33) (lv' := [(0, .ref r0), (1, .ref r1), (2, .ref r2), (3, .int i3)]) (st' := [.int (x2 &&& 63)]) [(.bipush 63, 2, 63), (.iand, 1, 0)] (by decide +kernel) rfl ?_
      by_cases c3 : x2 &&& 63 = 0
      · replace hf := ifp c3 hf
        refine C.tsIn (len := 203) (dflt := 1716) (a := 0) (b := 46) (offs := #[203, 256, 289, 352, 421, 454, 513, 556, 619, 642, 665, 688, 701, 714, 747, 780, 803, 826, 859, 902, 955, 988, 1011, 1034, 1077, 1110, 1153, 1176, 1199, 1222, 1255, 1278, 1301, 1344, 1377, 1400, 1433, 1456, 1469, 1492, 1525, 1548, 1561, 1604, 1657, 1680, 1703]) (k := 0) (off := 203) (tgt := 236) c3 (by decide +kernel) (by decide) (by decide) rfl (by decide) ?_
        exact l_Law_236 C C2 ih r0 r1 r2 i3 h hf
      · replace hf := ifn c3 hf
        by_cases c4 : x2 &&& 63 = 1
        · replace hf := ifp c4 hf
          refine C.tsIn (len := 203) (dflt := 1716) (a := 0) (b := 46) (offs := #[203, 256, 289, 352, 421, 454, 513, 556, 619, 642, 665, 688, 701, 714, 747, 780, 803, 826, 859, 902, 955, 988, 1011, 1034, 1077, 1110, 1153, 1176, 1199, 1222, 1255, 1278, 1301, 1344, 1377, 1400, 1433, 1456, 1469, 1492, 1525, 1548, 1561, 1604, 1657, 1680, 1703]) (k := 1) (off := 256) (tgt := 289) c4 (by decide +kernel) (by decide) (by decide) rfl (by decide) ?_
          exact l_Law_289 C C2 ih r0 r1 r2 i3 h hf
        · replace hf := ifn c4 hf
          by_cases c5 : x2 &&& 63 = 2
          · replace hf := ifp c5 hf
            refine C.tsIn (len := 203) (dflt := 1716) (a := 0) (b := 46) (offs := #[203, 256, 289, 352, 421, 454, 513, 556, 619, 642, 665, 688, 701, 714, 747, 780, 803, 826, 859, 902, 955, 988, 1011, 1034, 1077, 1110, 1153, 1176, 1199, 1222, 1255, 1278, 1301, 1344, 1377, 1400, 1433, 1456, 1469, 1492, 1525, 1548, 1561, 1604, 1657, 1680, 1703]) (k := 2) (off := 289) (tgt := 322) c5 (by decide +kernel) (by decide) (by decide) rfl (by decide) ?_
            exact l_Law_322 C C2 ih r0 r1 r2 i3 h hf
          · replace hf := ifn c5 hf
            by_cases c6 : x2 &&& 63 = 3
            · replace hf := ifp c6 hf
              refine C.tsIn (len := 203) (dflt := 1716) (a := 0) (b := 46) (offs := #[203, 256, 289, 352, 421, 454, 513, 556, 619, 642, 665, 688, 701, 714, 747, 780, 803, 826, 859, 902, 955, 988, 1011, 1034, 1077, 1110, 1153, 1176, 1199, 1222, 1255, 1278, 1301, 1344, 1377, 1400, 1433, 1456, 1469, 1492, 1525, 1548, 1561, 1604, 1657, 1680, 1703]) (k := 3) (off := 352) (tgt := 385) c6 (by decide +kernel) (by decide) (by decide) rfl (by decide) ?_
              exact l_Law_385 C C2 ih r0 r1 r2 i3 h hf
            · replace hf := ifn c6 hf
              by_cases c7 : x2 &&& 63 = 4
              · replace hf := ifp c7 hf
                refine C.tsIn (len := 203) (dflt := 1716) (a := 0) (b := 46) (offs := #[203, 256, 289, 352, 421, 454, 513, 556, 619, 642, 665, 688, 701, 714, 747, 780, 803, 826, 859, 902, 955, 988, 1011, 1034, 1077, 1110, 1153, 1176, 1199, 1222, 1255, 1278, 1301, 1344, 1377, 1400, 1433, 1456, 1469, 1492, 1525, 1548, 1561, 1604, 1657, 1680, 1703]) (k := 4) (off := 421) (tgt := 454) c7 (by decide +kernel) (by decide) (by decide) rfl (by decide) ?_
                exact l_Law_454 C C2 ih r0 r1 r2 i3 h hf
              · replace hf := ifn c7 hf
                by_cases c8 : x2 &&& 63 = 5
                · replace hf := ifp c8 hf
                  refine C.tsIn (len := 203) (dflt := 1716) (a := 0) (b := 46) (offs := #[203, 256, 289, 352, 421, 454, 513, 556, 619, 642, 665, 688, 701, 714, 747, 780, 803, 826, 859, 902, 955, 988, 1011, 1034, 1077, 1110, 1153, 1176, 1199, 1222, 1255, 1278, 1301, 1344, 1377, 1400, 1433, 1456, 1469, 1492, 1525, 1548, 1561, 1604, 1657, 1680, 1703]) (k := 5) (off := 454) (tgt := 487) c8 (by decide +kernel) (by decide) (by decide) rfl (by decide) ?_
                  exact l_Law_487 C C2 ih r0 r1 r2 i3 h hf
                · replace hf := ifn c8 hf
                  by_cases c9 : x2 &&& 63 = 6
                  · replace hf := ifp c9 hf
                    refine C.tsIn (len := 203) (dflt := 1716) (a := 0) (b := 46) (offs := #[203, 256, 289, 352, 421, 454, 513, 556, 619, 642, 665, 688, 701, 714, 747, 780, 803, 826, 859, 902, 955, 988, 1011, 1034, 1077, 1110, 1153, 1176, 1199, 1222, 1255, 1278, 1301, 1344, 1377, 1400, 1433, 1456, 1469, 1492, 1525, 1548, 1561, 1604, 1657, 1680, 1703]) (k := 6) (off := 513) (tgt := 546) c9 (by decide +kernel) (by decide) (by decide) rfl (by decide) ?_
                    exact l_Law_546 C C2 ih r0 r1 r2 i3 h hf
                  · replace hf := ifn c9 hf
                    by_cases c10 : x2 &&& 63 = 7
                    · replace hf := ifp c10 hf
                      refine C.tsIn (len := 203) (dflt := 1716) (a := 0) (b := 46) (offs := #[203, 256, 289, 352, 421, 454, 513, 556, 619, 642, 665, 688, 701, 714, 747, 780, 803, 826, 859, 902, 955, 988, 1011, 1034, 1077, 1110, 1153, 1176, 1199, 1222, 1255, 1278, 1301, 1344, 1377, 1400, 1433, 1456, 1469, 1492, 1525, 1548, 1561, 1604, 1657, 1680, 1703]) (k := 7) (off := 556) (tgt := 589) c10 (by decide +kernel) (by decide) (by decide) rfl (by decide) ?_
                      exact l_Law_589 C C2 ih r0 r1 r2 i3 h hf
                    · replace hf := ifn c10 hf
                      by_cases c11 : x2 &&& 63 = 8
                      · replace hf := ifp c11 hf
                        refine C.tsIn (len := 203) (dflt := 1716) (a := 0) (b := 46) (offs := #[203, 256, 289, 352, 421, 454, 513, 556, 619, 642, 665, 688, 701, 714, 747, 780, 803, 826, 859, 902, 955, 988, 1011, 1034, 1077, 1110, 1153, 1176, 1199, 1222, 1255, 1278, 1301, 1344, 1377, 1400, 1433, 1456, 1469, 1492, 1525, 1548, 1561, 1604, 1657, 1680, 1703]) (k := 8) (off := 619) (tgt := 652) c11 (by decide +kernel) (by decide) (by decide) rfl (by decide) ?_
                        exact l_Law_652 C C2 ih r0 r1 r2 i3 h hf
                      · replace hf := ifn c11 hf
                        by_cases c12 : x2 &&& 63 = 9
                        · replace hf := ifp c12 hf
                          refine C.tsIn (len := 203) (dflt := 1716) (a := 0) (b := 46) (offs := #[203, 256, 289, 352, 421, 454, 513, 556, 619, 642, 665, 688, 701, 714, 747, 780, 803, 826, 859, 902, 955, 988, 1011, 1034, 1077, 1110, 1153, 1176, 1199, 1222, 1255, 1278, 1301, 1344, 1377, 1400, 1433, 1456, 1469, 1492, 1525, 1548, 1561, 1604, 1657, 1680, 1703]) (k := 9) (off := 642) (tgt := 675) c12 (by decide +kernel) (by decide) (by decide) rfl (by decide) ?_
                          exact l_Law_675 C C2 ih r0 r1 r2 i3 h hf
                        · replace hf := ifn c12 hf
                          by_cases c13 : x2 &&& 63 = 10
                          · replace hf := ifp c13 hf
                            refine C.tsIn (len := 203) (dflt := 1716) (a := 0) (b := 46) (offs := #[203, 256, 289, 352, 421, 454, 513, 556, 619, 642, 665, 688, 701, 714, 747, 780, 803, 826, 859, 902, 955, 988, 1011, 1034, 1077, 1110, 1153, 1176, 1199, 1222, 1255, 1278, 1301, 1344, 1377, 1400, 1433, 1456, 1469, 1492, 1525, 1548, 1561, 1604, 1657, 1680, 1703]) (k := 10) (off := 665) (tgt := 698) c13 (by decide +kernel) (by decide) (by decide) rfl (by decide) ?_
                            exact l_Law_698 C C2 ih r0 r1 r2 i3 h hf
                          · replace hf := ifn c13 hf
                            by_cases c14 : x2 &&& 63 = 11
                            · replace hf := ifp c14 hf
                              refine C.tsIn (len := 203) (dflt := 1716) (a := 0) (b := 46) (offs := #[203, 256, 289, 352, 421, 454, 513, 556, 619, 642, 665, 688, 701, 714, 747, 780, 803, 826, 859, 902, 955, 988, 1011, 1034, 1077, 1110, 1153, 1176, 1199, 1222, 1255, 1278, 1301, 1344, 1377, 1400, 1433, 1456, 1469, 1492, 1525, 1548, 1561, 1604, 1657, 1680, 1703]) (k := 11) (off := 688) (tgt := 721) c14 (by decide +kernel) (by decide) (by decide) rfl (by decide) ?_
                              exact l_Law_721 C C2 ih r0 r1 r2 i3 h hf
                            · replace hf := ifn c14 hf
                              by_cases c15 : x2 &&& 63 = 12
                              · replace hf := ifp c15 hf
                                refine C.tsIn (len := 203) (dflt := 1716) (a := 0) (b := 46) (offs := #[203, 256, 289, 352, 421, 454, 513, 556, 619, 642, 665, 688, 701, 714, 747, 780, 803, 826, 859, 902, 955, 988, 1011, 1034, 1077, 1110, 1153, 1176, 1199, 1222, 1255, 1278, 1301, 1344, 1377, 1400, 1433, 1456, 1469, 1492, 1525, 1548, 1561, 1604, 1657, 1680, 1703]) (k := 12) (off := 701) (tgt := 734) c15 (by decide +kernel) (by decide) (by decide) rfl (by decide) ?_
                                exact l_Law_734 C C2 ih r0 r1 r2 i3 h hf
                              · replace hf := ifn c15 hf
                                by_cases c16 : x2 &&& 63 = 13
                                · replace hf := ifp c16 hf
                                  refine C.tsIn (len := 203) (dflt := 1716) (a := 0) (b := 46) (offs := #[203, 256, 289, 352, 421, 454, 513, 556, 619, 642, 665, 688, 701, 714, 747, 780, 803, 826, 859, 902, 955, 988, 1011, 1034, 1077, 1110, 1153, 1176, 1199, 1222, 1255, 1278, 1301, 1344, 1377, 1400, 1433, 1456, 1469, 1492, 1525, 1548, 1561, 1604, 1657, 1680, 1703]) (k := 13) (off := 714) (tgt := 747) c16 (by decide +kernel) (by decide) (by decide) rfl (by decide) ?_
                                  exact l_Law_747 C C2 ih r0 r1 r2 i3 h hf
                                · replace hf := ifn c16 hf
                                  by_cases c17 : x2 &&& 63 = 14
                                  · replace hf := ifp c17 hf
                                    refine C.tsIn (len := 203) (dflt := 1716) (a := 0) (b := 46) (offs := #[203, 256, 289, 352, 421, 454, 513, 556, 619, 642, 665, 688, 701, 714, 747, 780, 803, 826, 859, 902, 955, 988, 1011, 1034, 1077, 1110, 1153, 1176, 1199, 1222, 1255, 1278, 1301, 1344, 1377, 1400, 1433, 1456, 1469, 1492, 1525, 1548, 1561, 1604, 1657, 1680, 1703]) (k := 14) (off := 747) (tgt := 780) c17 (by decide +kernel) (by decide) (by decide) rfl (by decide) ?_
                                    exact l_Law_780 C C2 ih r0 r1 r2 i3 h hf
                                  · replace hf := ifn c17 hf
                                    by_cases c18 : x2 &&& 63 = 15
                                    · replace hf := ifp c18 hf
                                      refine C.tsIn (len := 203) (dflt := 1716) (a := 0) (b := 46) (offs := #[203, 256, 289, 352, 421, 454, 513, 556, 619, 642, 665, 688, 701, 714, 747, 780, 803, 826, 859, 902, 955, 988, 1011, 1034, 1077, 1110, 1153, 1176, 1199, 1222, 1255, 1278, 1301, 1344, 1377, 1400, 1433, 1456, 1469, 1492, 1525, 1548, 1561, 1604, 1657, 1680, 1703]) (k := 15) (off := 780) (tgt := 813) c18 (by decide +kernel) (by decide) (by decide) rfl (by decide) ?_
                                      exact l_Law_813 C C2 ih r0 r1 r2 i3 h hf
                                    · replace hf := ifn c18 hf
                                      by_cases c19 : x2 &&& 63 = 16
                                      · replace hf := ifp c19 hf
                                        refine C.tsIn (len := 203) (dflt := 1716) (a := 0) (b := 46) (offs := #[203, 256, 289, 352, 421, 454, 513, 556, 619, 642, 665, 688, 701, 714, 747, 780, 803, 826, 859, 902, 955, 988, 1011, 1034, 1077, 1110, 1153, 1176, 1199, 1222, 1255, 1278, 1301, 1344, 1377, 1400, 1433, 1456, 1469, 1492, 1525, 1548, 1561, 1604, 1657, 1680, 1703]) (k := 16) (off := 803) (tgt := 836) c19 (by decide +kernel) (by decide) (by decide) rfl (by decide) ?_
                                        exact l_Law_836 C C2 ih r0 r1 r2 i3 h hf
                                      · replace hf := ifn c19 hf
                                        by_cases c20 : x2 &&& 63 = 17
                                        · replace hf := ifp c20 hf
                                          refine C.tsIn (len := 203) (dflt := 1716) (a := 0) (b := 46) (offs := #[203, 256, 289, 352, 421, 454, 513, 556, 619, 642, 665, 688, 701, 714, 747, 780, 803, 826, 859, 902, 955, 988, 1011, 1034, 1077, 1110, 1153, 1176, 1199, 1222, 1255, 1278, 1301, 1344, 1377, 1400, 1433, 1456, 1469, 1492, 1525, 1548, 1561, 1604, 1657, 1680, 1703]) (k := 17) (off := 826) (tgt := 859) c20 (by decide +kernel) (by decide) (by decide) rfl (by decide) ?_
                                          exact l_Law_859 C C2 ih r0 r1 r2 i3 h hf
                                        · replace hf := ifn c20 hf
                                          by_cases c21 : x2 &&& 63 = 18
                                          · replace hf := ifp c21 hf
                                            refine C.tsIn (len := 203) (dflt := 1716) (a := 0) (b := 46) (offs := #[203, 256, 289, 352, 421, 454, 513, 556, 619, 642, 665, 688, 701, 714, 747, 780, 803, 826, 859, 902, 955, 988, 1011, 1034, 1077, 1110, 1153, 1176, 1199, 1222, 1255, 1278, 1301, 1344, 1377, 1400, 1433, 1456, 1469, 1492, 1525, 1548, 1561, 1604, 1657, 1680, 1703]) (k := 18) (off := 859) (tgt := 892) c21 (by decide +kernel) (by decide) (by decide) rfl (by decide) ?_
                                            exact l_Law_892 C C2 ih r0 r1 r2 i3 h hf
                                          · replace hf := ifn c21 hf
                                            by_cases c22 : x2 &&& 63 = 19
                                            · replace hf := ifp c22 hf
                                              refine C.tsIn (len := 203) (dflt := 1716) (a := 0) (b := 46) (offs := #[203, 256, 289, 352, 421, 454, 513, 556, 619, 642, 665, 688, 701, 714, 747, 780, 803, 826, 859, 902, 955, 988, 1011, 1034, 1077, 1110, 1153, 1176, 1199, 1222, 1255, 1278, 1301, 1344, 1377, 1400, 1433, 1456, 1469, 1492, 1525, 1548, 1561, 1604, 1657, 1680, 1703]) (k := 19) (off := 902) (tgt := 935) c22 (by decide +kernel) (by decide) (by decide) rfl (by decide) ?_
                                              exact l_Law_935 C C2 ih r0 r1 r2 i3 h hf
                                            · replace hf := ifn c22 hf
                                              by_cases c23 : x2 &&& 63 = 20
                                              · replace hf := ifp c23 hf
                                                refine C.tsIn (len := 203) (dflt := 1716) (a := 0) (b := 46) (offs := #[203, 256, 289, 352, 421, 454, 513, 556, 619, 642, 665, 688, 701, 714, 747, 780, 803, 826, 859, 902, 955, 988, 1011, 1034, 1077, 1110, 1153, 1176, 1199, 1222, 1255, 1278, 1301, 1344, 1377, 1400, 1433, 1456, 1469, 1492, 1525, 1548, 1561, 1604, 1657, 1680, 1703]) (k := 20) (off := 955) (tgt := 988) c23 (by decide +kernel) (by decide) (by decide) rfl (by decide) ?_
                                                exact l_Law_988 C C2 ih r0 r1 r2 i3 h hf
                                              · replace hf := ifn c23 hf
                                                by_cases c24 : x2 &&& 63 = 21
                                                · replace hf := ifp c24 hf
                                                  refine C.tsIn (len := 203) (dflt := 1716) (a := 0) (b := 46) (offs := #[203, 256, 289, 352, 421, 454, 513, 556, 619, 642, 665, 688, 701, 714, 747, 780, 803, 826, 859, 902, 955, 988, 1011, 1034, 1077, 1110, 1153, 1176, 1199, 1222, 1255, 1278, 1301, 1344, 1377, 1400, 1433, 1456, 1469, 1492, 1525, 1548, 1561, 1604, 1657, 1680, 1703]) (k := 21) (off := 988) (tgt := 1021) c24 (by decide +kernel) (by decide) (by decide) rfl (by decide) ?_
                                                  exact l_Law_1021 C C2 ih r0 r1 r2 i3 h hf
                                                · replace hf := ifn c24 hf
                                                  by_cases c25 : x2 &&& 63 = 22
                                                  · replace hf := ifp c25 hf
                                                    refine C.tsIn (len := 203) (dflt := 1716) (a := 0) (b := 46) (offs := #[203, 256, 289, 352, 421, 454, 513, 556, 619, 642, 665, 688, 701, 714, 747, 780, 803, 826, 859, 902, 955, 988, 1011, 1034, 1077, 1110, 1153, 1176, 1199, 1222, 1255, 1278, 1301, 1344, 1377, 1400, 1433, 1456, 1469, 1492, 1525, 1548, 1561, 1604, 1657, 1680, 1703]) (k := 22) (off := 1011) (tgt := 1044) c25 (by decide +kernel) (by decide) (by decide) rfl (by decide) ?_
                                                    exact l_Law_1044 C C2 ih r0 r1 r2 i3 h hf
                                                  · replace hf := ifn c25 hf
                                                    by_cases c26 : x2 &&& 63 = 23
                                                    · replace hf := ifp c26 hf
                                                      refine C.tsIn (len := 203) (dflt := 1716) (a := 0) (b := 46) (offs := #[203, 256, 289, 352, 421, 454, 513, 556, 619, 642, 665, 688, 701, 714, 747, 780, 803, 826, 859, 902, 955, 988, 1011, 1034, 1077, 1110, 1153, 1176, 1199, 1222, 1255, 1278, 1301, 1344, 1377, 1400, 1433, 1456, 1469, 1492, 1525, 1548, 1561, 1604, 1657, 1680, 1703]) (k := 23) (off := 1034) (tgt := 1067) c26 (by decide +kernel) (by decide) (by decide) rfl (by decide) ?_
                                                      exact l_Law_1067 C C2 ih r0 r1 r2 i3 h hf
                                                    · replace hf := ifn c26 hf
                                                      by_cases c27 : x2 &&& 63 = 24
                                                      · replace hf := ifp c27 hf
                                                        refine C.tsIn (len := 203) (dflt := 1716) (a := 0) (b := 46) (offs := #[203, 256, 289, 352, 421, 454, 513, 556, 619, 642, 665, 688, 701, 714, 747, 780, 803, 826, 859, 902, 955, 988, 1011, 1034, 1077, 1110, 1153, 1176, 1199, 1222, 1255, 1278, 1301, 1344, 1377, 1400, 1433, 1456, 1469, 1492, 1525, 1548, 1561, 1604, 1657, 1680, 1703]) (k := 24) (off := 1077) (tgt := 1110) c27 (by decide +kernel) (by decide) (by decide) rfl (by decide) ?_
                                                        exact l_Law_1110 C C2 ih r0 r1 r2 i3 h hf
                                                      · replace hf := ifn c27 hf
                                                        by_cases c28 : x2 &&& 63 = 25
                                                        · replace hf := ifp c28 hf
                                                          refine C.tsIn (len := 203) (dflt := 1716) (a := 0) (b := 46) (offs := #[203, 256, 289, 352, 421, 454, 513, 556, 619, 642, 665, 688, 701, 714, 747, 780, 803, 826, 859, 902, 955, 988, 1011, 1034, 1077, 1110, 1153, 1176, 1199, 1222, 1255, 1278, 1301, 1344, 1377, 1400, 1433, 1456, 1469, 1492, 1525, 1548, 1561, 1604, 1657, 1680, 1703]) (k := 25) (off := 1110) (tgt := 1143) c28 (by decide +kernel) (by decide) (by decide) rfl (by decide) ?_
                                                          exact l_Law_1143 C C2 ih r0 r1 r2 i3 h hf
                                                        · replace hf := ifn c28 hf
                                                          by_cases c29 : x2 &&& 63 = 26
                                                          · replace hf := ifp c29 hf
                                                            refine C.tsIn (len := 203) (dflt := 1716) (a := 0) (b := 46) (offs := #[203, 256, 289, 352, 421, 454, 513, 556, 619, 642, 665, 688, 701, 714, 747, 780, 803, 826, 859, 902, 955, 988, 1011, 1034, 1077, 1110, 1153, 1176, 1199, 1222, 1255, 1278, 1301, 1344, 1377, 1400, 1433, 1456, 1469, 1492, 1525, 1548, 1561, 1604, 1657, 1680, 1703]) (k := 26) (off := 1153) (tgt := 1186) c29 (by decide +kernel) (by decide) (by decide) rfl (by decide) ?_
                                                            exact l_Law_1186 C C2 ih r0 r1 r2 i3 h hf
                                                          · replace hf := ifn c29 hf
                                                            by_cases c30 : x2 &&& 63 = 27
                                                            · replace hf := ifp c30 hf
                                                              refine C.tsIn (len := 203) (dflt := 1716) (a := 0) (b := 46) (offs := #[203, 256, 289, 352, 421, 454, 513, 556, 619, 642, 665, 688, 701, 714, 747, 780, 803, 826, 859, 902, 955, 988, 1011, 1034, 1077, 1110, 1153, 1176, 1199, 1222, 1255, 1278, 1301, 1344, 1377, 1400, 1433, 1456, 1469, 1492, 1525, 1548, 1561, 1604, 1657, 1680, 1703]) (k := 27) (off := 1176) (tgt := 1209) c30 (by decide +kernel) (by decide) (by decide) rfl (by decide) ?_
                                                              exact l_Law_1209 C C2 ih r0 r1 r2 i3 h hf
                                                            · replace hf := ifn c30 hf
                                                              by_cases c31 : x2 &&& 63 = 28
                                                              · replace hf := ifp c31 hf
                                                                refine C.tsIn (len := 203) (dflt := 1716) (a := 0) (b := 46) (offs := #[203, 256, 289, 352, 421, 454, 513, 556, 619, 642, 665, 688, 701, 714, 747, 780, 803, 826, 859, 902, 955, 988, 1011, 1034, 1077, 1110, 1153, 1176, 1199, 1222, 1255, 1278, 1301, 1344, 1377, 1400, 1433, 1456, 1469, 1492, 1525, 1548, 1561, 1604, 1657, 1680, 1703]) (k := 28) (off := 1199) (tgt := 1232) c31 (by decide +kernel) (by decide) (by decide) rfl (by decide) ?_
                                                                exact l_Law_1232 C C2 ih r0 r1 r2 i3 h hf
                                                              · replace hf := ifn c31 hf
                                                                by_cases c32 : x2 &&& 63 = 29
                                                                · replace hf := ifp c32 hf
                                                                  refine C.tsIn (len := 203) (dflt := 1716) (a := 0) (b := 46) (offs := #[203, 256, 289, 352, 421, 454, 513, 556, 619, 642, 665, 688, 701, 714, 747, 780, 803, 826, 859, 902, 955, 988, 1011, 1034, 1077, 1110, 1153, 1176, 1199, 1222, 1255, 1278, 1301, 1344, 1377, 1400, 1433, 1456, 1469, 1492, 1525, 1548, 1561, 1604, 1657, 1680, 1703]) (k := 29) (off := 1222) (tgt := 1255) c32 (by decide +kernel) (by decide) (by decide) rfl (by decide) ?_
                                                                  exact l_Law_1255 C C2 ih r0 r1 r2 i3 h hf
                                                                · replace hf := ifn c32 hf
                                                                  by_cases c33 : x2 &&& 63 = 30
                                                                  · replace hf := ifp c33 hf
                                                                    refine C.tsIn (len := 203) (dflt := 1716) (a := 0) (b := 46) (offs := #[203, 256, 289, 352, 421, 454, 513, 556, 619, 642, 665, 688, 701, 714, 747, 780, 803, 826, 859, 902, 955, 988, 1011, 1034, 1077, 1110, 1153, 1176, 1199, 1222, 1255, 1278, 1301, 1344, 1377, 1400, 1433, 1456, 1469, 1492, 1525, 1548, 1561, 1604, 1657, 1680, 1703]) (k := 30) (off := 1255) (tgt := 1288) c33 (by decide +kernel) (by decide) (by decide) rfl (by decide) ?_
                                                                    exact l_Law_1288 C C2 ih r0 r1 r2 i3 h hf
                                                                  · replace hf := ifn c33 hf
                                                                    by_cases c34 : x2 &&& 63 = 31
                                                                    · replace hf := ifp c34 hf
                                                                      refine C.tsIn (len := 203) (dflt := 1716) (a := 0) (b := 46) (offs := #[203, 256, 289, 352, 421, 454, 513, 556, 619, 642, 665, 688, 701, 714, 747, 780, 803, 826, 859, 902, 955, 988, 1011, 1034, 1077, 1110, 1153, 1176, 1199, 1222, 1255, 1278, 1301, 1344, 1377, 1400, 1433, 1456, 1469, 1492, 1525, 1548, 1561, 1604, 1657, 1680, 1703]) (k := 31) (off := 1278) (tgt := 1311) c34 (by decide +kernel) (by decide) (by decide) rfl (by decide) ?_
                                                                      exact l_Law_1311 C C2 ih r0 r1 r2 i3 h hf
                                                                    · replace hf := ifn c34 hf
                                                                      by_cases c35 : x2 &&& 63 = 32
                                                                      · replace hf := ifp c35 hf
                                                                        refine C.tsIn (len := 203) (dflt := 1716) (a := 0) (b := 46) (offs := #[203, 256, 289, 352, 421, 454, 513, 556, 619, 642, 665, 688, 701, 714, 747, 780, 803, 826, 859, 902, 955, 988, 1011, 1034, 1077, 1110, 1153, 1176, 1199, 1222, 1255, 1278, 1301, 1344, 1377, 1400, 1433, 1456, 1469, 1492, 1525, 1548, 1561, 1604, 1657, 1680, 1703]) (k := 32) (off := 1301) (tgt := 1334) c35 (by decide +kernel) (by decide) (by decide) rfl (by decide) ?_
                                                                        exact l_Law_1334 C C2 ih r0 r1 r2 i3 h hf
                                                                      · replace hf := ifn c35 hf
                                                                        by_cases c36 : x2 &&& 63 = 33
                                                                        · replace hf := ifp c36 hf
                                                                          refine C.tsIn (len := 203) (dflt := 1716) (a := 0) (b := 46) (offs := #[203, 256, 289, 352, 421, 454, 513, 556, 619, 642, 665, 688, 701, 714, 747, 780, 803, 826, 859, 902, 955, 988, 1011, 1034, 1077, 1110, 1153, 1176, 1199, 1222, 1255, 1278, 1301, 1344, 1377, 1400, 1433, 1456, 1469, 1492, 1525, 1548, 1561, 1604, 1657, 1680, 1703]) (k := 33) (off := 1344) (tgt := 1377) c36 (by decide +kernel) (by decide) (by decide) rfl (by decide) ?_
                                                                          exact l_Law_1377 C C2 ih r0 r1 r2 i3 h hf
                                                                        · replace hf := ifn c36 hf
                                                                          by_cases c37 : x2 &&& 63 = 34
                                                                          · replace hf := ifp c37 hf
                                                                            refine C.tsIn (len := 203) (dflt := 1716) (a := 0) (b := 46) (offs := #[203, 256, 289, 352, 421, 454, 513, 556, 619, 642, 665, 688, 701, 714, 747, 780, 803, 826, 859, 902, 955, 988, 1011, 1034, 1077, 1110, 1153, 1176, 1199, 1222, 1255, 1278, 1301, 1344, 1377, 1400, 1433, 1456, 1469, 1492, 1525, 1548, 1561, 1604, 1657, 1680, 1703]) (k := 34) (off := 1377) (tgt := 1410) c37 (by decide +kernel) (by decide) (by decide) rfl (by decide) ?_
                                                                            exact l_Law_1410 C C2 ih r0 r1 r2 i3 h hf
                                                                          · replace hf := ifn c37 hf
                                                                            by_cases c38 : x2 &&& 63 = 35
                                                                            · replace hf := ifp c38 hf
                                                                              refine C.tsIn (len := 203) (dflt := 1716) (a := 0) (b := 46) (offs := #[203, 256, 289, 352, 421, 454, 513, 556, 619, 642, 665, 688, 701, 714, 747, 780, 803, 826, 859, 902, 955, 988, 1011, 1034, 1077, 1110, 1153, 1176, 1199, 1222, 1255, 1278, 1301, 1344, 1377, 1400, 1433, 1456, 1469, 1492, 1525, 1548, 1561, 1604, 1657, 1680, 1703]) (k := 35) (off := 1400) (tgt := 1433) c38 (by decide +kernel) (by decide) (by decide) rfl (by decide) ?_
                                                                              exact l_Law_1433 C C2 ih r0 r1 r2 i3 h hf
                                                                            · replace hf := ifn c38 hf
                                                                              by_cases c39 : x2 &&& 63 = 36
                                                                              · replace hf := ifp c39 hf
                                                                                refine C.tsIn (len := 203) (dflt := 1716) (a := 0) (b := 46) (offs := #[203, 256, 289, 352, 421, 454, 513, 556, 619, 642, 665, 688, 701, 714, 747, 780, 803, 826, 859, 902, 955, 988, 1011, 1034, 1077, 1110, 1153, 1176, 1199, 1222, 1255, 1278, 1301, 1344, 1377, 1400, 1433, 1456, 1469, 1492, 1525, 1548, 1561, 1604, 1657, 1680, 1703]) (k := 36) (off := 1433) (tgt := 1466) c39 (by decide +kernel) (by decide) (by decide) rfl (by decide) ?_
                                                                                exact l_Law_1466 C C2 ih r0 r1 r2 i3 h hf
                                                                              · replace hf := ifn c39 hf
                                                                                by_cases c40 : x2 &&& 63 = 37
                                                                                · replace hf := ifp c40 hf
                                                                                  refine C.tsIn (len := 203) (dflt := 1716) (a := 0) (b := 46) (offs := #[203, 256, 289, 352, 421, 454, 513, 556, 619, 642, 665, 688, 701, 714, 747, 780, 803, 826, 859, 902, 955, 988, 1011, 1034, 1077, 1110, 1153, 1176, 1199, 1222, 1255, 1278, 1301, 1344, 1377, 1400, 1433, 1456, 1469, 1492, 1525, 1548, 1561, 1604, 1657, 1680, 1703]) (k := 37) (off := 1456) (tgt := 1489) c40 (by decide +kernel) (by decide) (by decide) rfl (by decide) ?_
                                                                                  exact l_Law_1489 C C2 ih r0 r1 r2 i3 h hf
                                                                                · replace hf := ifn c40 hf
                                                                                  by_cases c41 : x2 &&& 63 = 38
                                                                                  · replace hf := ifp c41 hf
                                                                                    refine C.tsIn (len := 203) (dflt := 1716) (a := 0) (b := 46) (offs := #[203, 256, 289, 352, 421, 454, 513, 556, 619, 642, 665, 688, 701, 714, 747, 780, 803, 826, 859, 902, 955, 988, 1011, 1034, 1077, 1110, 1153, 1176, 1199, 1222, 1255, 1278, 1301, 1344, 1377, 1400, 1433, 1456, 1469, 1492, 1525, 1548, 1561, 1604, 1657, 1680, 1703]) (k := 38) (off := 1469) (tgt := 1502) c41 (by decide +kernel) (by decide) (by decide) rfl (by decide) ?_
                                                                                    exact l_Law_1502 C C2 ih r0 r1 r2 i3 h hf
                                                                                  · replace hf := ifn c41 hf
                                                                                    by_cases c42 : x2 &&& 63 = 39
                                                                                    · replace hf := ifp c42 hf
                                                                                      refine C.tsIn (len := 203) (dflt := 1716) (a := 0) (b := 46) (offs := #[203, 256, 289, 352, 421, 454, 513, 556, 619, 642, 665, 688, 701, 714, 747, 780, 803, 826, 859, 902, 955, 988, 1011, 1034, 1077, 1110, 1153, 1176, 1199, 1222, 1255, 1278, 1301, 1344, 1377, 1400, 1433, 1456, 1469, 1492, 1525, 1548, 1561, 1604, 1657, 1680, 1703]) (k := 39) (off := 1492) (tgt := 1525) c42 (by decide +kernel) (by decide) (by decide) rfl (by decide) ?_
                                                                                      exact l_Law_1525 C C2 ih r0 r1 r2 i3 h hf
                                                                                    · replace hf := ifn c42 hf
                                                                                      by_cases c43 : x2 &&& 63 = 40
                                                                                      · replace hf := ifp c43 hf
                                                                                        refine C.tsIn (len := 203) (dflt := 1716) (a := 0) (b := 46) (offs := #[203, 256, 289, 352, 421, 454, 513, 556, 619, 642, 665, 688, 701, 714, 747, 780, 803, 826, 859, 902, 955, 988, 1011, 1034, 1077, 1110, 1153, 1176, 1199, 1222, 1255, 1278, 1301, 1344, 1377, 1400, 1433, 1456, 1469, 1492, 1525, 1548, 1561, 1604, 1657, 1680, 1703]) (k := 40) (off := 1525) (tgt := 1558) c43 (by decide +kernel) (by decide) (by decide) rfl (by decide) ?_
                                                                                        exact l_Law_1558 C C2 ih r0 r1 r2 i3 h hf
                                                                                      · replace hf := ifn c43 hf
                                                                                        by_cases c44 : x2 &&& 63 = 41
                                                                                        · replace hf := ifp c44 hf
                                                                                          refine C.tsIn (len := 203) (dflt := 1716) (a := 0) (b := 46) (offs := #[203, 256, 289, 352, 421, 454, 513, 556, 619, 642, 665, 688, 701, 714, 747, 780, 803, 826, 859, 902, 955, 988, 1011, 1034, 1077, 1110, 1153, 1176, 1199, 1222, 1255, 1278, 1301, 1344, 1377, 1400, 1433, 1456, 1469, 1492, 1525, 1548, 1561, 1604, 1657, 1680, 1703]) (k := 41) (off := 1548) (tgt := 1581) c44 (by decide +kernel) (by decide) (by decide) rfl (by decide) ?_
                                                                                          exact l_Law_1581 C C2 ih r0 r1 r2 i3 h hf
                                                                                        · replace hf := ifn c44 hf
                                                                                          by_cases c45 : x2 &&& 63 = 42
                                                                                          · replace hf := ifp c45 hf
                                                                                            refine C.tsIn (len := 203) (dflt := 1716) (a := 0) (b := 46) (offs := #[203, 256, 289, 352, 421, 454, 513, 556, 619, 642, 665, 688, 701, 714, 747, 780, 803, 826, 859, 902, 955, 988, 1011, 1034, 1077, 1110, 1153, 1176, 1199, 1222, 1255, 1278, 1301, 1344, 1377, 1400, 1433, 1456, 1469, 1492, 1525, 1548, 1561, 1604, 1657, 1680, 1703]) (k := 42) (off := 1561) (tgt := 1594) c45 (by decide +kernel) (by decide) (by decide) rfl (by decide) ?_
                                                                                            exact l_Law_1594 C C2 ih r0 r1 r2 i3 h hf
                                                                                          · replace hf := ifn c45 hf
                                                                                            by_cases c46 : x2 &&& 63 = 43
                                                                                            · replace hf := ifp c46 hf
                                                                                              refine C.tsIn (len := 203) (dflt := 1716) (a := 0) (b := 46) (offs := #[203, 256, 289, 352, 421, 454, 513, 556, 619, 642, 665, 688, 701, 714, 747, 780, 803, 826, 859, 902, 955, 988, 1011, 1034, 1077, 1110, 1153, 1176, 1199, 1222, 1255, 1278, 1301, 1344, 1377, 1400, 1433, 1456, 1469, 1492, 1525, 1548, 1561, 1604, 1657, 1680, 1703]) (k := 43) (off := 1604) (tgt := 1637) c46 (by decide +kernel) (by decide) (by decide) rfl (by decide) ?_
                                                                                              exact l_Law_1637 C C2 ih r0 r1 r2 i3 h hf
                                                                                            · replace hf := ifn c46 hf
                                                                                              by_cases c47 : x2 &&& 63 = 44
                                                                                              · replace hf := ifp c47 hf
                                                                                                refine C.tsIn (len := 203) (dflt := 1716) (a := 0) (b := 46) (offs := #[203, 256, 289, 352, 421, 454, 513, 556, 619, 642, 665, 688, 701, 714, 747, 780, 803, 826, 859, 902, 955, 988, 1011, 1034, 1077, 1110, 1153, 1176, 1199, 1222, 1255, 1278, 1301, 1344, 1377, 1400, 1433, 1456, 1469, 1492, 1525, 1548, 1561, 1604, 1657, 1680, 1703]) (k := 44) (off := 1657) (tgt := 1690) c47 (by decide +kernel) (by decide) (by decide) rfl (by decide) ?_
                                                                                                exact l_Law_1690 C C2 ih r0 r1 r2 i3 h hf
                                                                                              · replace hf := ifn c47 hf
                                                                                                by_cases c48 : x2 &&& 63 = 45
                                                                                                · replace hf := ifp c48 hf
                                                                                                  refine C.tsIn (len := 203) (dflt := 1716) (a := 0) (b := 46) (offs := #[203, 256, 289, 352, 421, 454, 513, 556, 619, 642, 665, 688, 701, 714, 747, 780, 803, 826, 859, 902, 955, 988, 1011, 1034, 1077, 1110, 1153, 1176, 1199, 1222, 1255, 1278, 1301, 1344, 1377, 1400, 1433, 1456, 1469, 1492, 1525, 1548, 1561, 1604, 1657, 1680, 1703]) (k := 45) (off := 1680) (tgt := 1713) c48 (by decide +kernel) (by decide) (by decide) rfl (by decide) ?_
                                                                                                  exact l_Law_1713 C C2 ih r0 r1 r2 i3 h hf
                                                                                                · replace hf := ifn c48 hf
                                                                                                  by_cases c49 : x2 &&& 63 = 46
                                                                                                  · replace hf := ifp c49 hf
                                                                                                    refine C.tsIn (len := 203) (dflt := 1716) (a := 0) (b := 46) (offs := #[203, 256, 289, 352, 421, 454, 513, 556, 619, 642, 665, 688, 701, 714, 747, 780, 803, 826, 859, 902, 955, 988, 1011, 1034, 1077, 1110, 1153, 1176, 1199, 1222, 1255, 1278, 1301, 1344, 1377, 1400, 1433, 1456, 1469, 1492, 1525, 1548, 1561, 1604, 1657, 1680, 1703]) (k := 46) (off := 1703) (tgt := 1736) c49 (by decide +kernel) (by decide) (by decide) rfl (by decide) ?_
                                                                                                    exact l_Law_1736 C C2 ih r0 r1 r2 i3 h hf
                                                                                                  · replace hf := ifn c49 hf
                                                                                                    have qc3 := lv_neT c3 (by decide : (0 : Int32).toInt = 0)
                                                                                                    have qc4 := lv_neT c4 (by decide : (1 : Int32).toInt = 1)
                                                                                                    have qc5 := lv_neT c5 (by decide : (2 : Int32).toInt = 2)
                                                                                                    have qc6 := lv_neT c6 (by decide : (3 : Int32).toInt = 3)
                                                                                                    have qc7 := lv_neT c7 (by decide : (4 : Int32).toInt = 4)
                                                                                                    have qc8 := lv_neT c8 (by decide : (5 : Int32).toInt = 5)
                                                                                                    have qc9 := lv_neT c9 (by decide : (6 : Int32).toInt = 6)
                                                                                                    have qc10 := lv_neT c10 (by decide : (7 : Int32).toInt = 7)
                                                                                                    have qc11 := lv_neT c11 (by decide : (8 : Int32).toInt = 8)
                                                                                                    have qc12 := lv_neT c12 (by decide : (9 : Int32).toInt = 9)
                                                                                                    have qc13 := lv_neT c13 (by decide : (10 : Int32).toInt = 10)
                                                                                                    have qc14 := lv_neT c14 (by decide : (11 : Int32).toInt = 11)
                                                                                                    have qc15 := lv_neT c15 (by decide : (12 : Int32).toInt = 12)
                                                                                                    have qc16 := lv_neT c16 (by decide : (13 : Int32).toInt = 13)
                                                                                                    have qc17 := lv_neT c17 (by decide : (14 : Int32).toInt = 14)
                                                                                                    have qc18 := lv_neT c18 (by decide : (15 : Int32).toInt = 15)
                                                                                                    have qc19 := lv_neT c19 (by decide : (16 : Int32).toInt = 16)
                                                                                                    have qc20 := lv_neT c20 (by decide : (17 : Int32).toInt = 17)
                                                                                                    have qc21 := lv_neT c21 (by decide : (18 : Int32).toInt = 18)
                                                                                                    have qc22 := lv_neT c22 (by decide : (19 : Int32).toInt = 19)
                                                                                                    have qc23 := lv_neT c23 (by decide : (20 : Int32).toInt = 20)
                                                                                                    have qc24 := lv_neT c24 (by decide : (21 : Int32).toInt = 21)
                                                                                                    have qc25 := lv_neT c25 (by decide : (22 : Int32).toInt = 22)
                                                                                                    have qc26 := lv_neT c26 (by decide : (23 : Int32).toInt = 23)
                                                                                                    have qc27 := lv_neT c27 (by decide : (24 : Int32).toInt = 24)
                                                                                                    have qc28 := lv_neT c28 (by decide : (25 : Int32).toInt = 25)
                                                                                                    have qc29 := lv_neT c29 (by decide : (26 : Int32).toInt = 26)
                                                                                                    have qc30 := lv_neT c30 (by decide : (27 : Int32).toInt = 27)
                                                                                                    have qc31 := lv_neT c31 (by decide : (28 : Int32).toInt = 28)
                                                                                                    have qc32 := lv_neT c32 (by decide : (29 : Int32).toInt = 29)
                                                                                                    have qc33 := lv_neT c33 (by decide : (30 : Int32).toInt = 30)
                                                                                                    have qc34 := lv_neT c34 (by decide : (31 : Int32).toInt = 31)
                                                                                                    have qc35 := lv_neT c35 (by decide : (32 : Int32).toInt = 32)
                                                                                                    have qc36 := lv_neT c36 (by decide : (33 : Int32).toInt = 33)
                                                                                                    have qc37 := lv_neT c37 (by decide : (34 : Int32).toInt = 34)
                                                                                                    have qc38 := lv_neT c38 (by decide : (35 : Int32).toInt = 35)
                                                                                                    have qc39 := lv_neT c39 (by decide : (36 : Int32).toInt = 36)
                                                                                                    have qc40 := lv_neT c40 (by decide : (37 : Int32).toInt = 37)
                                                                                                    have qc41 := lv_neT c41 (by decide : (38 : Int32).toInt = 38)
                                                                                                    have qc42 := lv_neT c42 (by decide : (39 : Int32).toInt = 39)
                                                                                                    have qc43 := lv_neT c43 (by decide : (40 : Int32).toInt = 40)
                                                                                                    have qc44 := lv_neT c44 (by decide : (41 : Int32).toInt = 41)
                                                                                                    have qc45 := lv_neT c45 (by decide : (42 : Int32).toInt = 42)
                                                                                                    have qc46 := lv_neT c46 (by decide : (43 : Int32).toInt = 43)
                                                                                                    have qc47 := lv_neT c47 (by decide : (44 : Int32).toInt = 44)
                                                                                                    have qc48 := lv_neT c48 (by decide : (45 : Int32).toInt = 45)
                                                                                                    have qc49 := lv_neT c49 (by decide : (46 : Int32).toInt = 46)
                                                                                                    refine C.tsOut (len := 203) (dflt := 1716) (a := 0) (b := 46) (offs := #[203, 256, 289, 352, 421, 454, 513, 556, 619, 642, 665, 688, 701, 714, 747, 780, 803, 826, 859, 902, 955, 988, 1011, 1034, 1077, 1110, 1153, 1176, 1199, 1222, 1255, 1278, 1301, 1344, 1377, 1400, 1433, 1456, 1469, 1492, 1525, 1548, 1561, 1604, 1657, 1680, 1703]) (tgt := 1749) (by decide +kernel) (by omega) (by decide) ?_
                                                                                                    exact l_Law_1749 C C2 ih r0 r1 r2 i3 h hf
def f_Law (z : ZX) (p1 : Nat) (h : AH) : Option (Int32 × AH) :=
  b2 (nwO 11 19 dX11 h) fun a1 h2 =>
  (f_X11_init a1 h2).bind fun h3 =>
  b2 (nwO 15 106 dX15 h3) fun a4 h5 =>
  (f_X15_init z a4 h5).bind fun h6 =>
  f_Law_18 z FU p1 a1 a4 0 h6
set_option maxRecDepth 100000 in
set_option maxHeartbeats 4000000 in
theorem w_Law {X : MX} {l : Launch} {G : GX} {h0 : AH} (C : Cx X G RLaw cLaw 4 (some .boolean) 2048 84000 h0) (C2 : Cy X l "law" []) {p1 : Nat}{rr : Int32} {hr : AH} (hf : f_Law G.2.2 p1 h0 = some (rr, hr)) : V X G h0 (QI rr hr) 0 [(0, .ref p1)] [] h0 := by
  unfold f_Law at hf
  obtain ⟨a1, h2, ga1, hf⟩ := b2_some hf
  refine C.newo cl_11 k_145 ga1 (by decide +kernel) rfl ?_
  refine C.seg (pe := 4) (lv' := [(0, .ref p1)]) (st' := [.ref a1, .ref a1]) [(.dup, 1, 0)] (by decide +kernel) rfl ?_
  obtain ⟨h3, gh3, hf⟩ := Option.bind_eq_some_iff.mp hf
  refine C.callIr C2 [] [.ref a1] mi_147 rfl (w_X11_init gh3) (by omega) (by omega) (Nat.le_of_ble_eq_true rfl) (by decide +kernel) rfl ?_
  refine C.seg (pe := 8) (lv' := [(1, .ref a1), (0, .ref p1)]) (st' := []) [(.astore_n 1, 1, 0)] (by decide +kernel) rfl ?_
  obtain ⟨a4, h5, ga4, hf⟩ := b2_some hf
  refine C.newo cl_15 k_1631 ga4 (by decide +kernel) rfl ?_
  refine C.seg (pe := 12) (lv' := [(1, .ref a1), (0, .ref p1)]) (st' := [.ref a4, .ref a4]) [(.dup, 1, 0)] (by decide +kernel) rfl ?_
  obtain ⟨h6, gh6, hf⟩ := Option.bind_eq_some_iff.mp hf
  refine C.callIr C2 [] [.ref a4] mi_1633 rfl (w_X15_init gh6) (by omega) (by omega) (Nat.le_of_ble_eq_true rfl) (by decide +kernel) rfl ?_
  refine C.seg (pe := 18) (lv' := [(3, .int 0), (2, .ref a4), (1, .ref a1), (0, .ref p1)]) (st' := []) [(.astore_n 2, 1, 0), (.iconst 0, 1, 0), (.istore_n 3, 1, 0)] (by decide +kernel) rfl ?_
  refine Vsub [3, 2, 1, 0] rfl ?_
  exact l_Law_18 C C2 FU p1 a1 a4 0 h6 hf
