abbrev mX5_init : pw_Y := (yX5_init, cX5_init, 2, none)
abbrev mX4_init : pw_Y := (yX4_init, cX4_init, 1, none)
abbrev mX0_init : pw_Y := (yX0_init, cX0_init, 1, none)
abbrev mX1_init : pw_Y := (yX1_init, cX1_init, 2, none)
abbrev mX3_init : pw_Y := (yX3_init, cX3_init, 1, none)
abbrev mX2_init : pw_Y := (yX2_init, cX2_init, 1, none)
abbrev mX2_forgetAll : pw_Y := (yX2_forgetAll, cX2_forgetAll, 2, none)
abbrev mJ7_fill_53178 : pw_Y := (yJ7_fill_53178, cJ7_fill_53178, 4, none)
abbrev mX2_settleLaws : pw_Y := (yX2_settleLaws, cX2_settleLaws, 2, none)
abbrev mX2_settleLawsOf : pw_Y := (yX2_settleLawsOf, cX2_settleLawsOf, 5, none)
abbrev mX2_allHold : pw_Y := (yX2_allHold, cX2_allHold, 4, some .boolean)
abbrev mX5_has : pw_Y := (yX5_has, cX5_has, 2, some .boolean)
abbrev mX2_lawSays : pw_Y := (yX2_lawSays, cX2_lawSays, 4, some .boolean)
abbrev mX2_outerLetsIn : pw_Y := (yX2_outerLetsIn, cX2_outerLetsIn, 3, some .boolean)
abbrev mX5_type : pw_Y := (yX5_type, cX5_type, 2, some .int)
abbrev mX5_within : pw_Y := (yX5_within, cX5_within, 3, some .boolean)
abbrev mX5_clear : pw_Y := (yX5_clear, cX5_clear, 2, some .int)
abbrev mX5_realm : pw_Y := (yX5_realm, cX5_realm, 4, some .int)
abbrev mX4_readInto : pw_Y := (yX4_readInto, cX4_readInto, 4, some .int)
abbrev mX4_readToken : pw_Y := (yX4_readToken, cX4_readToken, 1, none)
abbrev mX4_isDigit : pw_Y := (yX4_isDigit, cX4_isDigit, 1, some .boolean)
abbrev mX4_readNumber : pw_Y := (yX4_readNumber, cX4_readNumber, 3, none)
abbrev mJ9_min_7cf53 : pw_Y := (yJ9_min_7cf53, cJ9_min_7cf53, 2, some .int)
abbrev mX4_readItem : pw_Y := (yX4_readItem, cX4_readItem, 5, some .boolean)
abbrev mX4_formOf : pw_Y := (yX4_formOf, cX4_formOf, 1, some (.array .int))
abbrev mX2_hasRoomFor : pw_Y := (yX2_hasRoomFor, cX2_hasRoomFor, 2, some .boolean)
abbrev mX4_mayBe : pw_Y := (yX4_mayBe, cX4_mayBe, 3, some .boolean)
abbrev mX2_tell : pw_Y := (yX2_tell, cX2_tell, 5, none)
abbrev mX2_tellPocket : pw_Y := (yX2_tellPocket, cX2_tellPocket, 2, none)
abbrev mX2_tellLaw : pw_Y := (yX2_tellLaw, cX2_tellLaw, 4, none)
abbrev mX2_tellSeam : pw_Y := (yX2_tellSeam, cX2_tellSeam, 3, none)
abbrev mX2_tellHole : pw_Y := (yX2_tellHole, cX2_tellHole, 4, none)
abbrev mX2_tellTreaty : pw_Y := (yX2_tellTreaty, cX2_tellTreaty, 4, none)
abbrev mX2_tellThing : pw_Y := (yX2_tellThing, cX2_tellThing, 2, none)
abbrev mX0_begin : pw_Y := (yX0_begin, cX0_begin, 2, none)
abbrev mX5_pocket : pw_Y := (yX5_pocket, cX5_pocket, 3, some .int)
abbrev mX5_isPocket : pw_Y := (yX5_isPocket, cX5_isPocket, 2, some .boolean)
abbrev mX5_filled : pw_Y := (yX5_filled, cX5_filled, 4, some .int)
abbrev mX2_depth : pw_Y := (yX2_depth, cX2_depth, 5, some .int)
abbrev mX5_thing : pw_Y := (yX5_thing, cX5_thing, 3, some .int)
abbrev mX5_isThing : pw_Y := (yX5_isThing, cX5_isThing, 2, some .boolean)
abbrev mX5_isOutlawed : pw_Y := (yX5_isOutlawed, cX5_isOutlawed, 2, some .boolean)
abbrev mX5_letsIn : pw_Y := (yX5_letsIn, cX5_letsIn, 3, some .int)
abbrev mX5_fixed : pw_Y := (yX5_fixed, cX5_fixed, 2, some .int)
abbrev mX5_now : pw_Y := (yX5_now, cX5_now, 2, some .int)
abbrev mX5_outlawed : pw_Y := (yX5_outlawed, cX5_outlawed, 3, some .int)
abbrev mX2_parts : pw_Y := (yX2_parts, cX2_parts, 4, some .int)
abbrev mX2_partOf : pw_Y := (yX2_partOf, cX2_partOf, 5, some .int)
abbrev mX5_moves : pw_Y := (yX5_moves, cX5_moves, 6, some .int)
abbrev mX2_opens : pw_Y := (yX2_opens, cX2_opens, 4, some .boolean)
abbrev mX5_hasRoom : pw_Y := (yX5_hasRoom, cX5_hasRoom, 3, some .boolean)
abbrev mX1_push : pw_Y := (yX1_push, cX1_push, 2, none)
abbrev mX0_become : pw_Y := (yX0_become, cX0_become, 2, none)
abbrev mX2_price : pw_Y := (yX2_price, cX2_price, 4, some .int)
abbrev mX5_night : pw_Y := (yX5_night, cX5_night, 3, some .int)
abbrev mX5_fallsThrough : pw_Y := (yX5_fallsThrough, cX5_fallsThrough, 4, some .boolean)
abbrev mX5_undo : pw_Y := (yX5_undo, cX5_undo, 1, some .int)
abbrev mX1_popInto : pw_Y := (yX1_popInto, cX1_popInto, 2, none)
abbrev mX5_way : pw_Y := (yX5_way, cX5_way, 4, some .int)
abbrev mX5_least : pw_Y := (yX5_least, cX5_least, 8, some .int)
abbrev mX5_lowerCosts : pw_Y := (yX5_lowerCosts, cX5_lowerCosts, 9, none)
abbrev mX5_stow : pw_Y := (yX5_stow, cX5_stow, 3, some .int)
abbrev mX3_fewestMoved : pw_Y := (yX3_fewestMoved, cX3_fewestMoved, 4, some .int)
abbrev mX3_eachHasAPlace : pw_Y := (yX3_eachHasAPlace, cX3_eachHasAPlace, 4, some .boolean)
abbrev mX3_putFrom : pw_Y := (yX3_putFrom, cX3_putFrom, 8, some .boolean)
abbrev mX5_hoard : pw_Y := (yX5_hoard, cX5_hoard, 4, some .int)
abbrev mX2_worthOf : pw_Y := (yX2_worthOf, cX2_worthOf, 6, some .int)
abbrev mJ9_max_7cf53 : pw_Y := (yJ9_max_7cf53, cJ9_max_7cf53, 2, some .int)
abbrev mX5_saves : pw_Y := (yX5_saves, cX5_saves, 9, some .int)
abbrev mX5_drops : pw_Y := (yX5_drops, cX5_drops, 3, some .int)
abbrev mX2_behindNights : pw_Y := (yX2_behindNights, cX2_behindNights, 6, some .int)
abbrev mX2_behindNight : pw_Y := (yX2_behindNight, cX2_behindNight, 4, some .int)
abbrev mX5_lay : pw_Y := (yX5_lay, cX5_lay, 5, some .int)
abbrev mX5_stitches : pw_Y := (yX5_stitches, cX5_stitches, 5, some .int)
abbrev mX2_dropsAsFarAs : pw_Y := (yX2_dropsAsFarAs, cX2_dropsAsFarAs, 6, some .boolean)
abbrev mX2_firstStitch : pw_Y := (yX2_firstStitch, cX2_firstStitch, 4, some .int)
abbrev mX5_odds : pw_Y := (yX5_odds, cX5_odds, 9, some .int)
abbrev mX5_spreadChance : pw_Y := (yX5_spreadChance, cX5_spreadChance, 5, none)
abbrev mX5_commonDivisor : pw_Y := (yX5_commonDivisor, cX5_commonDivisor, 6, some .int)
abbrev mX5_rate : pw_Y := (yX5_rate, cX5_rate, 3, some .int)
abbrev mX5_asPocket : pw_Y := (yX5_asPocket, cX5_asPocket, 2, some .int)
abbrev mX5_asCoat : pw_Y := (yX5_asCoat, cX5_asCoat, 2, some .int)
abbrev mX5_asPurse : pw_Y := (yX5_asPurse, cX5_asPurse, 2, some .int)
abbrev mX5_asLeague : pw_Y := (yX5_asLeague, cX5_asLeague, 2, some .int)
abbrev mX5_asBeggar : pw_Y := (yX5_asBeggar, cX5_asBeggar, 2, some .int)
abbrev mX5_asLining : pw_Y := (yX5_asLining, cX5_asLining, 2, some .int)
abbrev mX5_keep : pw_Y := (yX5_keep, cX5_keep, 2, some .int)
abbrev mX5_back : pw_Y := (yX5_back, cX5_back, 2, some .int)
abbrev mX5_count : pw_Y := (yX5_count, cX5_count, 2, some .int)
abbrev mX5_trace : pw_Y := (yX5_trace, cX5_trace, 1, some .long)
abbrev mX6_init : pw_Y := (yX6_init, cX6_init, 1, none)
abbrev mX6_type : pw_Y := (yX6_type, cX6_type, 2, some .int)
abbrev mX6_in : pw_Y := (yX6_in, cX6_in, 6, some .boolean)
abbrev mX6_clear : pw_Y := (yX6_clear, cX6_clear, 2, some .int)
abbrev mX6_realm : pw_Y := (yX6_realm, cX6_realm, 2, some .int)
abbrev mX6_readRealm : pw_Y := (yX6_readRealm, cX6_readRealm, 3, some .boolean)
abbrev mX6_nextToken : pw_Y := (yX6_nextToken, cX6_nextToken, 2, none)
abbrev mX6_letterAt : pw_Y := (yX6_letterAt, cX6_letterAt, 2, some .int)
abbrev mX6_readPocket : pw_Y := (yX6_readPocket, cX6_readPocket, 2, some .boolean)
abbrev mX6_takes : pw_Y := (yX6_takes, cX6_takes, 4, some .boolean)
abbrev mX6_readLaw : pw_Y := (yX6_readLaw, cX6_readLaw, 2, some .boolean)
abbrev mX6_takesTwo : pw_Y := (yX6_takesTwo, cX6_takesTwo, 1, some .boolean)
abbrev mX6_readSeam : pw_Y := (yX6_readSeam, cX6_readSeam, 1, some .boolean)
abbrev mX6_readHole : pw_Y := (yX6_readHole, cX6_readHole, 1, some .boolean)
abbrev mX6_readTreaty : pw_Y := (yX6_readTreaty, cX6_readTreaty, 1, some .boolean)
abbrev mX6_readThing : pw_Y := (yX6_readThing, cX6_readThing, 2, some .boolean)
abbrev mX6_pocket : pw_Y := (yX6_pocket, cX6_pocket, 3, some .int)
abbrev mX6_isPocket : pw_Y := (yX6_isPocket, cX6_isPocket, 2, some .boolean)
abbrev mX6_filled : pw_Y := (yX6_filled, cX6_filled, 4, some .int)
abbrev mX6_depthOf : pw_Y := (yX6_depthOf, cX6_depthOf, 4, some .int)
abbrev mX6_seamsOf : pw_Y := (yX6_seamsOf, cX6_seamsOf, 4, some .int)
abbrev mX6_thing : pw_Y := (yX6_thing, cX6_thing, 3, some .int)
abbrev mX6_isThing : pw_Y := (yX6_isThing, cX6_isThing, 2, some .boolean)
abbrev mX6_isOutlawed : pw_Y := (yX6_isOutlawed, cX6_isOutlawed, 2, some .boolean)
abbrev mX6_letting : pw_Y := (yX6_letting, cX6_letting, 6, some .int)
abbrev mX6_fixedOf : pw_Y := (yX6_fixedOf, cX6_fixedOf, 4, some .int)
abbrev mX6_holds : pw_Y := (yX6_holds, cX6_holds, 8, some .boolean)
abbrev mX6_has : pw_Y := (yX6_has, cX6_has, 2, some .boolean)
abbrev mX6_allowsOwn : pw_Y := (yX6_allowsOwn, cX6_allowsOwn, 3, some .boolean)
abbrev mX6_letsIn : pw_Y := (yX6_letsIn, cX6_letsIn, 3, some .int)
abbrev mX6_isSort : pw_Y := (yX6_isSort, cX6_isSort, 1, some .boolean)
abbrev mX6_fixed : pw_Y := (yX6_fixed, cX6_fixed, 2, some .int)
abbrev mX6_now : pw_Y := (yX6_now, cX6_now, 4, some .int)
abbrev mX6_parts : pw_Y := (yX6_parts, cX6_parts, 6, some .int)
abbrev mX6_moves : pw_Y := (yX6_moves, cX6_moves, 4, some .int)
abbrev mX6_hasRoom : pw_Y := (yX6_hasRoom, cX6_hasRoom, 3, some .boolean)
abbrev mX6_note : pw_Y := (yX6_note, cX6_note, 2, none)
abbrev mX6_taxOf : pw_Y := (yX6_taxOf, cX6_taxOf, 4, some .int)
abbrev mX6_night : pw_Y := (yX6_night, cX6_night, 4, some .int)
abbrev mX6_through : pw_Y := (yX6_through, cX6_through, 4, some .int)
abbrev mX6_undo : pw_Y := (yX6_undo, cX6_undo, 2, some .int)
abbrev mX6_way : pw_Y := (yX6_way, cX6_way, 5, some .int)
abbrev mX6_farOf : pw_Y := (yX6_farOf, cX6_farOf, 10, some .int)
abbrev mX6_saves : pw_Y := (yX6_saves, cX6_saves, 9, some .int)
abbrev mX6_stow : pw_Y := (yX6_stow, cX6_stow, 8, some .int)
abbrev mX6_elsewhere : pw_Y := (yX6_elsewhere, cX6_elsewhere, 5, some .int)
abbrev mX6_hoard : pw_Y := (yX6_hoard, cX6_hoard, 8, some .int)
abbrev mX6_drops : pw_Y := (yX6_drops, cX6_drops, 3, some .int)
abbrev mX6_dropsFrom : pw_Y := (yX6_dropsFrom, cX6_dropsFrom, 6, some .int)
abbrev mX6_lay : pw_Y := (yX6_lay, cX6_lay, 5, some .int)
abbrev mX6_stitches : pw_Y := (yX6_stitches, cX6_stitches, 7, some .int)
abbrev mX6_odds : pw_Y := (yX6_odds, cX6_odds, 10, some .int)
abbrev mX6_common : pw_Y := (yX6_common, cX6_common, 10, some .long)
abbrev mX6_rate : pw_Y := (yX6_rate, cX6_rate, 3, some .int)
abbrev mX6_asCoat : pw_Y := (yX6_asCoat, cX6_asCoat, 2, some .int)
abbrev mX6_asPocket : pw_Y := (yX6_asPocket, cX6_asPocket, 2, some .int)
abbrev mX6_asPurse : pw_Y := (yX6_asPurse, cX6_asPurse, 2, some .int)
abbrev mX6_keep : pw_Y := (yX6_keep, cX6_keep, 3, some .int)
abbrev mX6_back : pw_Y := (yX6_back, cX6_back, 3, some .int)
abbrev mX6_count : pw_Y := (yX6_count, cX6_count, 2, some .int)
abbrev mX6_trace : pw_Y := (yX6_trace, cX6_trace, 1, some .long)
theorem lyX0_0 : u_lay RX0 TX0 0 ∈ pw_tbl := (pw_in (List.mem_of_getElem? (i := 126) (by decide +kernel)) (by decide +kernel))
theorem lyX0_1 : u_lay RX0 TX0 1 ∈ pw_tbl := (pw_in (List.mem_of_getElem? (i := 128) (by decide +kernel)) (by decide +kernel))
theorem lyX0_2 : u_lay RX0 TX0 2 ∈ pw_tbl := (pw_in (List.mem_of_getElem? (i := 130) (by decide +kernel)) (by decide +kernel))
set_option maxRecDepth 20000 in
theorem inX0 : ∀ w ∈ u_ws RX0 TX0 3, w ∈ pw_tbl := show ∀ w ∈ [u_lay RX0 TX0 0, u_lay RX0 TX0 1, u_lay RX0 TX0 2], w ∈ pw_tbl from List.forall_mem_cons.mpr ⟨lyX0_0, List.forall_mem_cons.mpr ⟨lyX0_1, List.forall_mem_cons.mpr ⟨lyX0_2, fun _ h => absurd h List.not_mem_nil⟩⟩⟩
theorem lyX1_0 : u_lay RX1 TX1 0 ∈ pw_tbl := (pw_in (List.mem_of_getElem? (i := 146) (by decide +kernel)) (by decide +kernel))
theorem lyX1_1 : u_lay RX1 TX1 1 ∈ pw_tbl := (pw_in (List.mem_of_getElem? (i := 148) (by decide +kernel)) (by decide +kernel))
theorem lyX1_2 : u_lay RX1 TX1 2 ∈ pw_tbl := (pw_in (List.mem_of_getElem? (i := 150) (by decide +kernel)) (by decide +kernel))
set_option maxRecDepth 20000 in
theorem inX1 : ∀ w ∈ u_ws RX1 TX1 3, w ∈ pw_tbl := show ∀ w ∈ [u_lay RX1 TX1 0, u_lay RX1 TX1 1, u_lay RX1 TX1 2], w ∈ pw_tbl from List.forall_mem_cons.mpr ⟨lyX1_0, List.forall_mem_cons.mpr ⟨lyX1_1, List.forall_mem_cons.mpr ⟨lyX1_2, fun _ h => absurd h List.not_mem_nil⟩⟩⟩
theorem lyX2_0 : u_lay RX2 TX2 0 ∈ pw_tbl := (pw_in (List.mem_of_getElem? (i := 219) (by decide +kernel)) (by decide +kernel))
theorem lyX2_1 : u_lay RX2 TX2 1 ∈ pw_tbl := (pw_in (List.mem_of_getElem? (i := 221) (by decide +kernel)) (by decide +kernel))
theorem lyX2_2 : u_lay RX2 TX2 2 ∈ pw_tbl := (pw_in (List.mem_of_getElem? (i := 223) (by decide +kernel)) (by decide +kernel))
theorem lyX2_3 : u_lay RX2 TX2 3 ∈ pw_tbl := (pw_in (List.mem_of_getElem? (i := 225) (by decide +kernel)) (by decide +kernel))
theorem lyX2_4 : u_lay RX2 TX2 4 ∈ pw_tbl := (pw_in (List.mem_of_getElem? (i := 227) (by decide +kernel)) (by decide +kernel))
theorem lyX2_5 : u_lay RX2 TX2 5 ∈ pw_tbl := (pw_in (List.mem_of_getElem? (i := 229) (by decide +kernel)) (by decide +kernel))
theorem lyX2_6 : u_lay RX2 TX2 6 ∈ pw_tbl := (pw_in (List.mem_of_getElem? (i := 231) (by decide +kernel)) (by decide +kernel))
theorem lyX2_7 : u_lay RX2 TX2 7 ∈ pw_tbl := (pw_in (List.mem_of_getElem? (i := 233) (by decide +kernel)) (by decide +kernel))
theorem lyX2_8 : u_lay RX2 TX2 8 ∈ pw_tbl := (pw_in (List.mem_of_getElem? (i := 235) (by decide +kernel)) (by decide +kernel))
theorem lyX2_9 : u_lay RX2 TX2 9 ∈ pw_tbl := (pw_in (List.mem_of_getElem? (i := 237) (by decide +kernel)) (by decide +kernel))
theorem lyX2_10 : u_lay RX2 TX2 10 ∈ pw_tbl := (pw_in (List.mem_of_getElem? (i := 239) (by decide +kernel)) (by decide +kernel))
theorem lyX2_11 : u_lay RX2 TX2 11 ∈ pw_tbl := (pw_in (List.mem_of_getElem? (i := 241) (by decide +kernel)) (by decide +kernel))
theorem lyX2_12 : u_lay RX2 TX2 12 ∈ pw_tbl := (pw_in (List.mem_of_getElem? (i := 243) (by decide +kernel)) (by decide +kernel))
theorem lyX2_13 : u_lay RX2 TX2 13 ∈ pw_tbl := (pw_in (List.mem_of_getElem? (i := 245) (by decide +kernel)) (by decide +kernel))
theorem lyX2_14 : u_lay RX2 TX2 14 ∈ pw_tbl := (pw_in (List.mem_of_getElem? (i := 247) (by decide +kernel)) (by decide +kernel))
theorem lyX2_15 : u_lay RX2 TX2 15 ∈ pw_tbl := (pw_in (List.mem_of_getElem? (i := 249) (by decide +kernel)) (by decide +kernel))
theorem lyX2_16 : u_lay RX2 TX2 16 ∈ pw_tbl := (pw_in (List.mem_of_getElem? (i := 251) (by decide +kernel)) (by decide +kernel))
theorem lyX2_17 : u_lay RX2 TX2 17 ∈ pw_tbl := (pw_in (List.mem_of_getElem? (i := 253) (by decide +kernel)) (by decide +kernel))
theorem lyX2_18 : u_lay RX2 TX2 18 ∈ pw_tbl := (pw_in (List.mem_of_getElem? (i := 255) (by decide +kernel)) (by decide +kernel))
set_option maxRecDepth 20000 in
theorem inX2 : ∀ w ∈ u_ws RX2 TX2 19, w ∈ pw_tbl := show ∀ w ∈ [u_lay RX2 TX2 0, u_lay RX2 TX2 1, u_lay RX2 TX2 2, u_lay RX2 TX2 3, u_lay RX2 TX2 4, u_lay RX2 TX2 5, u_lay RX2 TX2 6, u_lay RX2 TX2 7, u_lay RX2 TX2 8, u_lay RX2 TX2 9, u_lay RX2 TX2 10, u_lay RX2 TX2 11, u_lay RX2 TX2 12, u_lay RX2 TX2 13, u_lay RX2 TX2 14, u_lay RX2 TX2 15, u_lay RX2 TX2 16, u_lay RX2 TX2 17, u_lay RX2 TX2 18], w ∈ pw_tbl from List.forall_mem_cons.mpr ⟨lyX2_0, List.forall_mem_cons.mpr ⟨lyX2_1, List.forall_mem_cons.mpr ⟨lyX2_2, List.forall_mem_cons.mpr ⟨lyX2_3, List.forall_mem_cons.mpr ⟨lyX2_4, List.forall_mem_cons.mpr ⟨lyX2_5, List.forall_mem_cons.mpr ⟨lyX2_6, List.forall_mem_cons.mpr ⟨lyX2_7, List.forall_mem_cons.mpr ⟨lyX2_8, List.forall_mem_cons.mpr ⟨lyX2_9, List.forall_mem_cons.mpr ⟨lyX2_10, List.forall_mem_cons.mpr ⟨lyX2_11, List.forall_mem_cons.mpr ⟨lyX2_12, List.forall_mem_cons.mpr ⟨lyX2_13, List.forall_mem_cons.mpr ⟨lyX2_14, List.forall_mem_cons.mpr ⟨lyX2_15, List.forall_mem_cons.mpr ⟨lyX2_16, List.forall_mem_cons.mpr ⟨lyX2_17, List.forall_mem_cons.mpr ⟨lyX2_18, fun _ h => absurd h List.not_mem_nil⟩⟩⟩⟩⟩⟩⟩⟩⟩⟩⟩⟩⟩⟩⟩⟩⟩⟩⟩
theorem lyX3_0 : u_lay RX3 TX3 0 ∈ pw_tbl := (pw_in (List.mem_of_getElem? (i := 162) (by decide +kernel)) (by decide +kernel))
theorem lyX3_1 : u_lay RX3 TX3 1 ∈ pw_tbl := (pw_in (List.mem_of_getElem? (i := 164) (by decide +kernel)) (by decide +kernel))
set_option maxRecDepth 20000 in
theorem inX3 : ∀ w ∈ u_ws RX3 TX3 2, w ∈ pw_tbl := show ∀ w ∈ [u_lay RX3 TX3 0, u_lay RX3 TX3 1], w ∈ pw_tbl from List.forall_mem_cons.mpr ⟨lyX3_0, List.forall_mem_cons.mpr ⟨lyX3_1, fun _ h => absurd h List.not_mem_nil⟩⟩
theorem lyX4_0 : u_lay RX4 TX4 0 ∈ pw_tbl := (pw_in (List.mem_of_getElem? (i := 97) (by decide +kernel)) (by decide +kernel))
theorem lyX4_1 : u_lay RX4 TX4 1 ∈ pw_tbl := (pw_in (List.mem_of_getElem? (i := 99) (by decide +kernel)) (by decide +kernel))
theorem lyX4_2 : u_lay RX4 TX4 2 ∈ pw_tbl := (pw_in (List.mem_of_getElem? (i := 101) (by decide +kernel)) (by decide +kernel))
theorem lyX4_3 : u_lay RX4 TX4 3 ∈ pw_tbl := (pw_in (List.mem_of_getElem? (i := 103) (by decide +kernel)) (by decide +kernel))
theorem lyX4_4 : u_lay RX4 TX4 4 ∈ pw_tbl := (pw_in (List.mem_of_getElem? (i := 105) (by decide +kernel)) (by decide +kernel))
theorem lyX4_5 : u_lay RX4 TX4 5 ∈ pw_tbl := (pw_in (List.mem_of_getElem? (i := 107) (by decide +kernel)) (by decide +kernel))
theorem lyX4_6 : u_lay RX4 TX4 6 ∈ pw_tbl := (pw_in (List.mem_of_getElem? (i := 109) (by decide +kernel)) (by decide +kernel))
set_option maxRecDepth 20000 in
theorem inX4 : ∀ w ∈ u_ws RX4 TX4 7, w ∈ pw_tbl := show ∀ w ∈ [u_lay RX4 TX4 0, u_lay RX4 TX4 1, u_lay RX4 TX4 2, u_lay RX4 TX4 3, u_lay RX4 TX4 4, u_lay RX4 TX4 5, u_lay RX4 TX4 6], w ∈ pw_tbl from List.forall_mem_cons.mpr ⟨lyX4_0, List.forall_mem_cons.mpr ⟨lyX4_1, List.forall_mem_cons.mpr ⟨lyX4_2, List.forall_mem_cons.mpr ⟨lyX4_3, List.forall_mem_cons.mpr ⟨lyX4_4, List.forall_mem_cons.mpr ⟨lyX4_5, List.forall_mem_cons.mpr ⟨lyX4_6, fun _ h => absurd h List.not_mem_nil⟩⟩⟩⟩⟩⟩⟩
theorem lyX5_0 : u_lay RX5 TX5 0 ∈ pw_tbl := (pw_in (List.mem_of_getElem? (i := 300) (by decide +kernel)) (by decide +kernel))
theorem lyX5_1 : u_lay RX5 TX5 1 ∈ pw_tbl := (pw_in (List.mem_of_getElem? (i := 302) (by decide +kernel)) (by decide +kernel))
theorem lyX5_2 : u_lay RX5 TX5 2 ∈ pw_tbl := (pw_in (List.mem_of_getElem? (i := 304) (by decide +kernel)) (by decide +kernel))
theorem lyX5_3 : u_lay RX5 TX5 3 ∈ pw_tbl := (pw_in (List.mem_of_getElem? (i := 306) (by decide +kernel)) (by decide +kernel))
theorem lyX5_4 : u_lay RX5 TX5 4 ∈ pw_tbl := (pw_in (List.mem_of_getElem? (i := 308) (by decide +kernel)) (by decide +kernel))
theorem lyX5_5 : u_lay RX5 TX5 5 ∈ pw_tbl := (pw_in (List.mem_of_getElem? (i := 310) (by decide +kernel)) (by decide +kernel))
theorem lyX5_6 : u_lay RX5 TX5 6 ∈ pw_tbl := (pw_in (List.mem_of_getElem? (i := 312) (by decide +kernel)) (by decide +kernel))
theorem lyX5_7 : u_lay RX5 TX5 7 ∈ pw_tbl := (pw_in (List.mem_of_getElem? (i := 314) (by decide +kernel)) (by decide +kernel))
theorem lyX5_8 : u_lay RX5 TX5 8 ∈ pw_tbl := (pw_in (List.mem_of_getElem? (i := 316) (by decide +kernel)) (by decide +kernel))
theorem lyX5_9 : u_lay RX5 TX5 9 ∈ pw_tbl := (pw_in (List.mem_of_getElem? (i := 318) (by decide +kernel)) (by decide +kernel))
theorem lyX5_10 : u_lay RX5 TX5 10 ∈ pw_tbl := (pw_in (List.mem_of_getElem? (i := 320) (by decide +kernel)) (by decide +kernel))
theorem lyX5_11 : u_lay RX5 TX5 11 ∈ pw_tbl := (pw_in (List.mem_of_getElem? (i := 322) (by decide +kernel)) (by decide +kernel))
set_option maxRecDepth 20000 in
theorem inX5 : ∀ w ∈ u_ws RX5 TX5 12, w ∈ pw_tbl := show ∀ w ∈ [u_lay RX5 TX5 0, u_lay RX5 TX5 1, u_lay RX5 TX5 2, u_lay RX5 TX5 3, u_lay RX5 TX5 4, u_lay RX5 TX5 5, u_lay RX5 TX5 6, u_lay RX5 TX5 7, u_lay RX5 TX5 8, u_lay RX5 TX5 9, u_lay RX5 TX5 10, u_lay RX5 TX5 11], w ∈ pw_tbl from List.forall_mem_cons.mpr ⟨lyX5_0, List.forall_mem_cons.mpr ⟨lyX5_1, List.forall_mem_cons.mpr ⟨lyX5_2, List.forall_mem_cons.mpr ⟨lyX5_3, List.forall_mem_cons.mpr ⟨lyX5_4, List.forall_mem_cons.mpr ⟨lyX5_5, List.forall_mem_cons.mpr ⟨lyX5_6, List.forall_mem_cons.mpr ⟨lyX5_7, List.forall_mem_cons.mpr ⟨lyX5_8, List.forall_mem_cons.mpr ⟨lyX5_9, List.forall_mem_cons.mpr ⟨lyX5_10, List.forall_mem_cons.mpr ⟨lyX5_11, fun _ h => absurd h List.not_mem_nil⟩⟩⟩⟩⟩⟩⟩⟩⟩⟩⟩⟩
theorem lyX6_0 : u_lay RX6 TX6 0 ∈ pw_tbl := (pw_in (List.mem_of_getElem? (i := 701) (by decide +kernel)) (by decide +kernel))
theorem lyX6_1 : u_lay RX6 TX6 1 ∈ pw_tbl := (pw_in (List.mem_of_getElem? (i := 703) (by decide +kernel)) (by decide +kernel))
theorem lyX6_2 : u_lay RX6 TX6 2 ∈ pw_tbl := (pw_in (List.mem_of_getElem? (i := 705) (by decide +kernel)) (by decide +kernel))
theorem lyX6_3 : u_lay RX6 TX6 3 ∈ pw_tbl := (pw_in (List.mem_of_getElem? (i := 707) (by decide +kernel)) (by decide +kernel))
theorem lyX6_4 : u_lay RX6 TX6 4 ∈ pw_tbl := (pw_in (List.mem_of_getElem? (i := 709) (by decide +kernel)) (by decide +kernel))
theorem lyX6_5 : u_lay RX6 TX6 5 ∈ pw_tbl := (pw_in (List.mem_of_getElem? (i := 711) (by decide +kernel)) (by decide +kernel))
theorem lyX6_6 : u_lay RX6 TX6 6 ∈ pw_tbl := (pw_in (List.mem_of_getElem? (i := 713) (by decide +kernel)) (by decide +kernel))
theorem lyX6_7 : u_lay RX6 TX6 7 ∈ pw_tbl := (pw_in (List.mem_of_getElem? (i := 715) (by decide +kernel)) (by decide +kernel))
theorem lyX6_8 : u_lay RX6 TX6 8 ∈ pw_tbl := (pw_in (List.mem_of_getElem? (i := 717) (by decide +kernel)) (by decide +kernel))
theorem lyX6_9 : u_lay RX6 TX6 9 ∈ pw_tbl := (pw_in (List.mem_of_getElem? (i := 719) (by decide +kernel)) (by decide +kernel))
theorem lyX6_10 : u_lay RX6 TX6 10 ∈ pw_tbl := (pw_in (List.mem_of_getElem? (i := 721) (by decide +kernel)) (by decide +kernel))
theorem lyX6_11 : u_lay RX6 TX6 11 ∈ pw_tbl := (pw_in (List.mem_of_getElem? (i := 723) (by decide +kernel)) (by decide +kernel))
theorem lyX6_12 : u_lay RX6 TX6 12 ∈ pw_tbl := (pw_in (List.mem_of_getElem? (i := 725) (by decide +kernel)) (by decide +kernel))
theorem lyX6_13 : u_lay RX6 TX6 13 ∈ pw_tbl := (pw_in (List.mem_of_getElem? (i := 727) (by decide +kernel)) (by decide +kernel))
theorem lyX6_14 : u_lay RX6 TX6 14 ∈ pw_tbl := (pw_in (List.mem_of_getElem? (i := 729) (by decide +kernel)) (by decide +kernel))
theorem lyX6_15 : u_lay RX6 TX6 15 ∈ pw_tbl := (pw_in (List.mem_of_getElem? (i := 731) (by decide +kernel)) (by decide +kernel))
theorem lyX6_16 : u_lay RX6 TX6 16 ∈ pw_tbl := (pw_in (List.mem_of_getElem? (i := 733) (by decide +kernel)) (by decide +kernel))
theorem lyX6_17 : u_lay RX6 TX6 17 ∈ pw_tbl := (pw_in (List.mem_of_getElem? (i := 735) (by decide +kernel)) (by decide +kernel))
theorem lyX6_18 : u_lay RX6 TX6 18 ∈ pw_tbl := (pw_in (List.mem_of_getElem? (i := 737) (by decide +kernel)) (by decide +kernel))
theorem lyX6_19 : u_lay RX6 TX6 19 ∈ pw_tbl := (pw_in (List.mem_of_getElem? (i := 739) (by decide +kernel)) (by decide +kernel))
theorem lyX6_20 : u_lay RX6 TX6 20 ∈ pw_tbl := (pw_in (List.mem_of_getElem? (i := 741) (by decide +kernel)) (by decide +kernel))
theorem lyX6_21 : u_lay RX6 TX6 21 ∈ pw_tbl := (pw_in (List.mem_of_getElem? (i := 743) (by decide +kernel)) (by decide +kernel))
theorem lyX6_22 : u_lay RX6 TX6 22 ∈ pw_tbl := (pw_in (List.mem_of_getElem? (i := 745) (by decide +kernel)) (by decide +kernel))
theorem lyX6_23 : u_lay RX6 TX6 23 ∈ pw_tbl := (pw_in (List.mem_of_getElem? (i := 747) (by decide +kernel)) (by decide +kernel))
theorem lyX6_24 : u_lay RX6 TX6 24 ∈ pw_tbl := (pw_in (List.mem_of_getElem? (i := 749) (by decide +kernel)) (by decide +kernel))
theorem lyX6_25 : u_lay RX6 TX6 25 ∈ pw_tbl := (pw_in (List.mem_of_getElem? (i := 751) (by decide +kernel)) (by decide +kernel))
theorem lyX6_26 : u_lay RX6 TX6 26 ∈ pw_tbl := (pw_in (List.mem_of_getElem? (i := 753) (by decide +kernel)) (by decide +kernel))
theorem lyX6_27 : u_lay RX6 TX6 27 ∈ pw_tbl := (pw_in (List.mem_of_getElem? (i := 755) (by decide +kernel)) (by decide +kernel))
theorem lyX6_28 : u_lay RX6 TX6 28 ∈ pw_tbl := (pw_in (List.mem_of_getElem? (i := 757) (by decide +kernel)) (by decide +kernel))
theorem lyX6_29 : u_lay RX6 TX6 29 ∈ pw_tbl := (pw_in (List.mem_of_getElem? (i := 759) (by decide +kernel)) (by decide +kernel))
theorem lyX6_30 : u_lay RX6 TX6 30 ∈ pw_tbl := (pw_in (List.mem_of_getElem? (i := 761) (by decide +kernel)) (by decide +kernel))
theorem lyX6_31 : u_lay RX6 TX6 31 ∈ pw_tbl := (pw_in (List.mem_of_getElem? (i := 763) (by decide +kernel)) (by decide +kernel))
theorem lyX6_32 : u_lay RX6 TX6 32 ∈ pw_tbl := (pw_in (List.mem_of_getElem? (i := 765) (by decide +kernel)) (by decide +kernel))
theorem lyX6_33 : u_lay RX6 TX6 33 ∈ pw_tbl := (pw_in (List.mem_of_getElem? (i := 767) (by decide +kernel)) (by decide +kernel))
theorem lyX6_34 : u_lay RX6 TX6 34 ∈ pw_tbl := (pw_in (List.mem_of_getElem? (i := 769) (by decide +kernel)) (by decide +kernel))
theorem lyX6_35 : u_lay RX6 TX6 35 ∈ pw_tbl := (pw_in (List.mem_of_getElem? (i := 771) (by decide +kernel)) (by decide +kernel))
set_option maxRecDepth 20000 in
theorem inX6 : ∀ w ∈ u_ws RX6 TX6 36, w ∈ pw_tbl := show ∀ w ∈ [u_lay RX6 TX6 0, u_lay RX6 TX6 1, u_lay RX6 TX6 2, u_lay RX6 TX6 3, u_lay RX6 TX6 4, u_lay RX6 TX6 5, u_lay RX6 TX6 6, u_lay RX6 TX6 7, u_lay RX6 TX6 8, u_lay RX6 TX6 9, u_lay RX6 TX6 10, u_lay RX6 TX6 11, u_lay RX6 TX6 12, u_lay RX6 TX6 13, u_lay RX6 TX6 14, u_lay RX6 TX6 15, u_lay RX6 TX6 16, u_lay RX6 TX6 17, u_lay RX6 TX6 18, u_lay RX6 TX6 19, u_lay RX6 TX6 20, u_lay RX6 TX6 21, u_lay RX6 TX6 22, u_lay RX6 TX6 23, u_lay RX6 TX6 24, u_lay RX6 TX6 25, u_lay RX6 TX6 26, u_lay RX6 TX6 27, u_lay RX6 TX6 28, u_lay RX6 TX6 29, u_lay RX6 TX6 30, u_lay RX6 TX6 31, u_lay RX6 TX6 32, u_lay RX6 TX6 33, u_lay RX6 TX6 34, u_lay RX6 TX6 35], w ∈ pw_tbl from List.forall_mem_cons.mpr ⟨lyX6_0, List.forall_mem_cons.mpr ⟨lyX6_1, List.forall_mem_cons.mpr ⟨lyX6_2, List.forall_mem_cons.mpr ⟨lyX6_3, List.forall_mem_cons.mpr ⟨lyX6_4, List.forall_mem_cons.mpr ⟨lyX6_5, List.forall_mem_cons.mpr ⟨lyX6_6, List.forall_mem_cons.mpr ⟨lyX6_7, List.forall_mem_cons.mpr ⟨lyX6_8, List.forall_mem_cons.mpr ⟨lyX6_9, List.forall_mem_cons.mpr ⟨lyX6_10, List.forall_mem_cons.mpr ⟨lyX6_11, List.forall_mem_cons.mpr ⟨lyX6_12, List.forall_mem_cons.mpr ⟨lyX6_13, List.forall_mem_cons.mpr ⟨lyX6_14, List.forall_mem_cons.mpr ⟨lyX6_15, List.forall_mem_cons.mpr ⟨lyX6_16, List.forall_mem_cons.mpr ⟨lyX6_17, List.forall_mem_cons.mpr ⟨lyX6_18, List.forall_mem_cons.mpr ⟨lyX6_19, List.forall_mem_cons.mpr ⟨lyX6_20, List.forall_mem_cons.mpr ⟨lyX6_21, List.forall_mem_cons.mpr ⟨lyX6_22, List.forall_mem_cons.mpr ⟨lyX6_23, List.forall_mem_cons.mpr ⟨lyX6_24, List.forall_mem_cons.mpr ⟨lyX6_25, List.forall_mem_cons.mpr ⟨lyX6_26, List.forall_mem_cons.mpr ⟨lyX6_27, List.forall_mem_cons.mpr ⟨lyX6_28, List.forall_mem_cons.mpr ⟨lyX6_29, List.forall_mem_cons.mpr ⟨lyX6_30, List.forall_mem_cons.mpr ⟨lyX6_31, List.forall_mem_cons.mpr ⟨lyX6_32, List.forall_mem_cons.mpr ⟨lyX6_33, List.forall_mem_cons.mpr ⟨lyX6_34, List.forall_mem_cons.mpr ⟨lyX6_35, fun _ h => absurd h List.not_mem_nil⟩⟩⟩⟩⟩⟩⟩⟩⟩⟩⟩⟩⟩⟩⟩⟩⟩⟩⟩⟩⟩⟩⟩⟩⟩⟩⟩⟩⟩⟩⟩⟩⟩⟩⟩⟩
theorem okX5_init : pw_ok mX5_init 0 := ⟨(pw_in (List.mem_of_getElem? (i := 64) (by decide +kernel)) (by decide +kernel)), (pw_in (List.mem_of_getElem? (i := 78) (by decide +kernel)) (by decide +kernel)), by decide +kernel, by decide⟩
theorem kL_9 : pw_CI RL 9 mX5_init 0 := ⟨okX5_init, (pw_in (List.mem_of_getElem? (i := 76) (by decide +kernel)) (by decide +kernel)), (pw_in (List.mem_of_getElem? (i := 77) (by decide +kernel)) (by decide +kernel)), rfl, rfl⟩
theorem okX6_init : pw_ok mX6_init 0 := ⟨(pw_in (List.mem_of_getElem? (i := 71) (by decide +kernel)) (by decide +kernel)), (pw_in (List.mem_of_getElem? (i := 663) (by decide +kernel)) (by decide +kernel)), by decide +kernel, by decide⟩
theorem kL_12 : pw_CI RL 12 mX6_init 0 := ⟨okX6_init, (pw_in (List.mem_of_getElem? (i := 661) (by decide +kernel)) (by decide +kernel)), (pw_in (List.mem_of_getElem? (i := 662) (by decide +kernel)) (by decide +kernel)), rfl, rfl⟩
theorem okX5_type : pw_ok mX5_type 1 := ⟨(pw_in (List.mem_of_getElem? (i := 64) (by decide +kernel)) (by decide +kernel)), (pw_in (List.mem_of_getElem? (i := 328) (by decide +kernel)) (by decide +kernel)), by decide +kernel, by decide⟩
theorem kL_13 : pw_CV RL 13 mX5_type 1 := ⟨okX5_type, (pw_in (List.mem_of_getElem? (i := 325) (by decide +kernel)) (by decide +kernel)), (pw_in (List.mem_of_getElem? (i := 326) (by decide +kernel)) (by decide +kernel)), (pw_in (List.mem_of_getElem? (i := 327) (by decide +kernel)) (by decide +kernel))⟩
theorem okX6_type : pw_ok mX6_type 1 := ⟨(pw_in (List.mem_of_getElem? (i := 71) (by decide +kernel)) (by decide +kernel)), (pw_in (List.mem_of_getElem? (i := 778) (by decide +kernel)) (by decide +kernel)), by decide +kernel, by decide⟩
theorem kL_17 : pw_CV RL 17 mX6_type 1 := ⟨okX6_type, (pw_in (List.mem_of_getElem? (i := 775) (by decide +kernel)) (by decide +kernel)), (pw_in (List.mem_of_getElem? (i := 776) (by decide +kernel)) (by decide +kernel)), (pw_in (List.mem_of_getElem? (i := 777) (by decide +kernel)) (by decide +kernel))⟩
theorem okX5_clear : pw_ok mX5_clear 0 := ⟨(pw_in (List.mem_of_getElem? (i := 64) (by decide +kernel)) (by decide +kernel)), (pw_in (List.mem_of_getElem? (i := 335) (by decide +kernel)) (by decide +kernel)), by decide +kernel, by decide⟩
theorem kL_18 : pw_CV RL 18 mX5_clear 0 := ⟨okX5_clear, (pw_in (List.mem_of_getElem? (i := 332) (by decide +kernel)) (by decide +kernel)), (pw_in (List.mem_of_getElem? (i := 333) (by decide +kernel)) (by decide +kernel)), (pw_in (List.mem_of_getElem? (i := 334) (by decide +kernel)) (by decide +kernel))⟩
theorem okX6_clear : pw_ok mX6_clear 0 := ⟨(pw_in (List.mem_of_getElem? (i := 71) (by decide +kernel)) (by decide +kernel)), (pw_in (List.mem_of_getElem? (i := 786) (by decide +kernel)) (by decide +kernel)), by decide +kernel, by decide⟩
theorem kL_22 : pw_CV RL 22 mX6_clear 0 := ⟨okX6_clear, (pw_in (List.mem_of_getElem? (i := 783) (by decide +kernel)) (by decide +kernel)), (pw_in (List.mem_of_getElem? (i := 784) (by decide +kernel)) (by decide +kernel)), (pw_in (List.mem_of_getElem? (i := 785) (by decide +kernel)) (by decide +kernel))⟩
theorem okX5_realm : pw_ok mX5_realm 0 := ⟨(pw_in (List.mem_of_getElem? (i := 64) (by decide +kernel)) (by decide +kernel)), (pw_in (List.mem_of_getElem? (i := 339) (by decide +kernel)) (by decide +kernel)), by decide +kernel, by decide⟩
theorem kL_23 : pw_CV RL 23 mX5_realm 0 := ⟨okX5_realm, (pw_in (List.mem_of_getElem? (i := 336) (by decide +kernel)) (by decide +kernel)), (pw_in (List.mem_of_getElem? (i := 337) (by decide +kernel)) (by decide +kernel)), (pw_in (List.mem_of_getElem? (i := 338) (by decide +kernel)) (by decide +kernel))⟩
theorem okX6_realm : pw_ok mX6_realm 0 := ⟨(pw_in (List.mem_of_getElem? (i := 71) (by decide +kernel)) (by decide +kernel)), (pw_in (List.mem_of_getElem? (i := 790) (by decide +kernel)) (by decide +kernel)), by decide +kernel, by decide⟩
theorem kL_26 : pw_CV RL 26 mX6_realm 0 := ⟨okX6_realm, (pw_in (List.mem_of_getElem? (i := 787) (by decide +kernel)) (by decide +kernel)), (pw_in (List.mem_of_getElem? (i := 788) (by decide +kernel)) (by decide +kernel)), (pw_in (List.mem_of_getElem? (i := 789) (by decide +kernel)) (by decide +kernel))⟩
theorem okX5_pocket : pw_ok mX5_pocket 2 := ⟨(pw_in (List.mem_of_getElem? (i := 64) (by decide +kernel)) (by decide +kernel)), (pw_in (List.mem_of_getElem? (i := 429) (by decide +kernel)) (by decide +kernel)), by decide +kernel, by decide⟩
theorem kL_27 : pw_CV RL 27 mX5_pocket 2 := ⟨okX5_pocket, (pw_in (List.mem_of_getElem? (i := 426) (by decide +kernel)) (by decide +kernel)), (pw_in (List.mem_of_getElem? (i := 427) (by decide +kernel)) (by decide +kernel)), (pw_in (List.mem_of_getElem? (i := 428) (by decide +kernel)) (by decide +kernel))⟩
theorem okX6_pocket : pw_ok mX6_pocket 2 := ⟨(pw_in (List.mem_of_getElem? (i := 71) (by decide +kernel)) (by decide +kernel)), (pw_in (List.mem_of_getElem? (i := 840) (by decide +kernel)) (by decide +kernel)), by decide +kernel, by decide⟩
theorem kL_31 : pw_CV RL 31 mX6_pocket 2 := ⟨okX6_pocket, (pw_in (List.mem_of_getElem? (i := 837) (by decide +kernel)) (by decide +kernel)), (pw_in (List.mem_of_getElem? (i := 838) (by decide +kernel)) (by decide +kernel)), (pw_in (List.mem_of_getElem? (i := 839) (by decide +kernel)) (by decide +kernel))⟩
theorem okX5_thing : pw_ok mX5_thing 2 := ⟨(pw_in (List.mem_of_getElem? (i := 64) (by decide +kernel)) (by decide +kernel)), (pw_in (List.mem_of_getElem? (i := 445) (by decide +kernel)) (by decide +kernel)), by decide +kernel, by decide⟩
theorem kL_32 : pw_CV RL 32 mX5_thing 2 := ⟨okX5_thing, (pw_in (List.mem_of_getElem? (i := 442) (by decide +kernel)) (by decide +kernel)), (pw_in (List.mem_of_getElem? (i := 443) (by decide +kernel)) (by decide +kernel)), (pw_in (List.mem_of_getElem? (i := 444) (by decide +kernel)) (by decide +kernel))⟩
theorem okX6_thing : pw_ok mX6_thing 2 := ⟨(pw_in (List.mem_of_getElem? (i := 71) (by decide +kernel)) (by decide +kernel)), (pw_in (List.mem_of_getElem? (i := 860) (by decide +kernel)) (by decide +kernel)), by decide +kernel, by decide⟩
theorem kL_35 : pw_CV RL 35 mX6_thing 2 := ⟨okX6_thing, (pw_in (List.mem_of_getElem? (i := 857) (by decide +kernel)) (by decide +kernel)), (pw_in (List.mem_of_getElem? (i := 858) (by decide +kernel)) (by decide +kernel)), (pw_in (List.mem_of_getElem? (i := 859) (by decide +kernel)) (by decide +kernel))⟩
theorem okX5_letsIn : pw_ok mX5_letsIn 2 := ⟨(pw_in (List.mem_of_getElem? (i := 64) (by decide +kernel)) (by decide +kernel)), (pw_in (List.mem_of_getElem? (i := 458) (by decide +kernel)) (by decide +kernel)), by decide +kernel, by decide⟩
theorem kL_36 : pw_CV RL 36 mX5_letsIn 2 := ⟨okX5_letsIn, (pw_in (List.mem_of_getElem? (i := 455) (by decide +kernel)) (by decide +kernel)), (pw_in (List.mem_of_getElem? (i := 456) (by decide +kernel)) (by decide +kernel)), (pw_in (List.mem_of_getElem? (i := 457) (by decide +kernel)) (by decide +kernel))⟩
theorem okX6_letsIn : pw_ok mX6_letsIn 2 := ⟨(pw_in (List.mem_of_getElem? (i := 71) (by decide +kernel)) (by decide +kernel)), (pw_in (List.mem_of_getElem? (i := 891) (by decide +kernel)) (by decide +kernel)), by decide +kernel, by decide⟩
theorem kL_39 : pw_CV RL 39 mX6_letsIn 2 := ⟨okX6_letsIn, (pw_in (List.mem_of_getElem? (i := 888) (by decide +kernel)) (by decide +kernel)), (pw_in (List.mem_of_getElem? (i := 889) (by decide +kernel)) (by decide +kernel)), (pw_in (List.mem_of_getElem? (i := 890) (by decide +kernel)) (by decide +kernel))⟩
theorem okX5_fixed : pw_ok mX5_fixed 1 := ⟨(pw_in (List.mem_of_getElem? (i := 64) (by decide +kernel)) (by decide +kernel)), (pw_in (List.mem_of_getElem? (i := 462) (by decide +kernel)) (by decide +kernel)), by decide +kernel, by decide⟩
theorem kL_40 : pw_CV RL 40 mX5_fixed 1 := ⟨okX5_fixed, (pw_in (List.mem_of_getElem? (i := 459) (by decide +kernel)) (by decide +kernel)), (pw_in (List.mem_of_getElem? (i := 460) (by decide +kernel)) (by decide +kernel)), (pw_in (List.mem_of_getElem? (i := 461) (by decide +kernel)) (by decide +kernel))⟩
theorem okX6_fixed : pw_ok mX6_fixed 1 := ⟨(pw_in (List.mem_of_getElem? (i := 71) (by decide +kernel)) (by decide +kernel)), (pw_in (List.mem_of_getElem? (i := 899) (by decide +kernel)) (by decide +kernel)), by decide +kernel, by decide⟩
theorem kL_43 : pw_CV RL 43 mX6_fixed 1 := ⟨okX6_fixed, (pw_in (List.mem_of_getElem? (i := 896) (by decide +kernel)) (by decide +kernel)), (pw_in (List.mem_of_getElem? (i := 897) (by decide +kernel)) (by decide +kernel)), (pw_in (List.mem_of_getElem? (i := 898) (by decide +kernel)) (by decide +kernel))⟩
theorem okX5_now : pw_ok mX5_now 1 := ⟨(pw_in (List.mem_of_getElem? (i := 64) (by decide +kernel)) (by decide +kernel)), (pw_in (List.mem_of_getElem? (i := 466) (by decide +kernel)) (by decide +kernel)), by decide +kernel, by decide⟩
theorem kL_44 : pw_CV RL 44 mX5_now 1 := ⟨okX5_now, (pw_in (List.mem_of_getElem? (i := 463) (by decide +kernel)) (by decide +kernel)), (pw_in (List.mem_of_getElem? (i := 464) (by decide +kernel)) (by decide +kernel)), (pw_in (List.mem_of_getElem? (i := 465) (by decide +kernel)) (by decide +kernel))⟩
theorem okX6_now : pw_ok mX6_now 1 := ⟨(pw_in (List.mem_of_getElem? (i := 71) (by decide +kernel)) (by decide +kernel)), (pw_in (List.mem_of_getElem? (i := 903) (by decide +kernel)) (by decide +kernel)), by decide +kernel, by decide⟩
theorem kL_47 : pw_CV RL 47 mX6_now 1 := ⟨okX6_now, (pw_in (List.mem_of_getElem? (i := 900) (by decide +kernel)) (by decide +kernel)), (pw_in (List.mem_of_getElem? (i := 901) (by decide +kernel)) (by decide +kernel)), (pw_in (List.mem_of_getElem? (i := 902) (by decide +kernel)) (by decide +kernel))⟩
theorem okX5_moves : pw_ok mX5_moves 2 := ⟨(pw_in (List.mem_of_getElem? (i := 64) (by decide +kernel)) (by decide +kernel)), (pw_in (List.mem_of_getElem? (i := 482) (by decide +kernel)) (by decide +kernel)), by decide +kernel, by decide⟩
theorem kL_48 : pw_CV RL 48 mX5_moves 2 := ⟨okX5_moves, (pw_in (List.mem_of_getElem? (i := 479) (by decide +kernel)) (by decide +kernel)), (pw_in (List.mem_of_getElem? (i := 480) (by decide +kernel)) (by decide +kernel)), (pw_in (List.mem_of_getElem? (i := 481) (by decide +kernel)) (by decide +kernel))⟩
theorem okX6_moves : pw_ok mX6_moves 2 := ⟨(pw_in (List.mem_of_getElem? (i := 71) (by decide +kernel)) (by decide +kernel)), (pw_in (List.mem_of_getElem? (i := 911) (by decide +kernel)) (by decide +kernel)), by decide +kernel, by decide⟩
theorem kL_51 : pw_CV RL 51 mX6_moves 2 := ⟨okX6_moves, (pw_in (List.mem_of_getElem? (i := 908) (by decide +kernel)) (by decide +kernel)), (pw_in (List.mem_of_getElem? (i := 909) (by decide +kernel)) (by decide +kernel)), (pw_in (List.mem_of_getElem? (i := 910) (by decide +kernel)) (by decide +kernel))⟩
theorem okX5_night : pw_ok mX5_night 0 := ⟨(pw_in (List.mem_of_getElem? (i := 64) (by decide +kernel)) (by decide +kernel)), (pw_in (List.mem_of_getElem? (i := 507) (by decide +kernel)) (by decide +kernel)), by decide +kernel, by decide⟩
theorem kL_52 : pw_CV RL 52 mX5_night 0 := ⟨okX5_night, (pw_in (List.mem_of_getElem? (i := 504) (by decide +kernel)) (by decide +kernel)), (pw_in (List.mem_of_getElem? (i := 505) (by decide +kernel)) (by decide +kernel)), (pw_in (List.mem_of_getElem? (i := 506) (by decide +kernel)) (by decide +kernel))⟩
theorem okX6_night : pw_ok mX6_night 0 := ⟨(pw_in (List.mem_of_getElem? (i := 71) (by decide +kernel)) (by decide +kernel)), (pw_in (List.mem_of_getElem? (i := 927) (by decide +kernel)) (by decide +kernel)), by decide +kernel, by decide⟩
theorem kL_55 : pw_CV RL 55 mX6_night 0 := ⟨okX6_night, (pw_in (List.mem_of_getElem? (i := 924) (by decide +kernel)) (by decide +kernel)), (pw_in (List.mem_of_getElem? (i := 925) (by decide +kernel)) (by decide +kernel)), (pw_in (List.mem_of_getElem? (i := 926) (by decide +kernel)) (by decide +kernel))⟩
theorem okX5_undo : pw_ok mX5_undo 0 := ⟨(pw_in (List.mem_of_getElem? (i := 64) (by decide +kernel)) (by decide +kernel)), (pw_in (List.mem_of_getElem? (i := 515) (by decide +kernel)) (by decide +kernel)), by decide +kernel, by decide⟩
theorem kL_56 : pw_CV RL 56 mX5_undo 0 := ⟨okX5_undo, (pw_in (List.mem_of_getElem? (i := 512) (by decide +kernel)) (by decide +kernel)), (pw_in (List.mem_of_getElem? (i := 513) (by decide +kernel)) (by decide +kernel)), (pw_in (List.mem_of_getElem? (i := 514) (by decide +kernel)) (by decide +kernel))⟩
theorem okX6_undo : pw_ok mX6_undo 0 := ⟨(pw_in (List.mem_of_getElem? (i := 71) (by decide +kernel)) (by decide +kernel)), (pw_in (List.mem_of_getElem? (i := 935) (by decide +kernel)) (by decide +kernel)), by decide +kernel, by decide⟩
theorem kL_59 : pw_CV RL 59 mX6_undo 0 := ⟨okX6_undo, (pw_in (List.mem_of_getElem? (i := 932) (by decide +kernel)) (by decide +kernel)), (pw_in (List.mem_of_getElem? (i := 933) (by decide +kernel)) (by decide +kernel)), (pw_in (List.mem_of_getElem? (i := 934) (by decide +kernel)) (by decide +kernel))⟩
theorem okX5_way : pw_ok mX5_way 3 := ⟨(pw_in (List.mem_of_getElem? (i := 64) (by decide +kernel)) (by decide +kernel)), (pw_in (List.mem_of_getElem? (i := 523) (by decide +kernel)) (by decide +kernel)), by decide +kernel, by decide⟩
theorem kL_60 : pw_CV RL 60 mX5_way 3 := ⟨okX5_way, (pw_in (List.mem_of_getElem? (i := 520) (by decide +kernel)) (by decide +kernel)), (pw_in (List.mem_of_getElem? (i := 521) (by decide +kernel)) (by decide +kernel)), (pw_in (List.mem_of_getElem? (i := 522) (by decide +kernel)) (by decide +kernel))⟩
theorem okX6_way : pw_ok mX6_way 3 := ⟨(pw_in (List.mem_of_getElem? (i := 71) (by decide +kernel)) (by decide +kernel)), (pw_in (List.mem_of_getElem? (i := 939) (by decide +kernel)) (by decide +kernel)), by decide +kernel, by decide⟩
theorem kL_64 : pw_CV RL 64 mX6_way 3 := ⟨okX6_way, (pw_in (List.mem_of_getElem? (i := 936) (by decide +kernel)) (by decide +kernel)), (pw_in (List.mem_of_getElem? (i := 937) (by decide +kernel)) (by decide +kernel)), (pw_in (List.mem_of_getElem? (i := 938) (by decide +kernel)) (by decide +kernel))⟩
theorem okX5_stow : pw_ok mX5_stow 1 := ⟨(pw_in (List.mem_of_getElem? (i := 64) (by decide +kernel)) (by decide +kernel)), (pw_in (List.mem_of_getElem? (i := 538) (by decide +kernel)) (by decide +kernel)), by decide +kernel, by decide⟩
theorem kL_65 : pw_CV RL 65 mX5_stow 1 := ⟨okX5_stow, (pw_in (List.mem_of_getElem? (i := 535) (by decide +kernel)) (by decide +kernel)), (pw_in (List.mem_of_getElem? (i := 536) (by decide +kernel)) (by decide +kernel)), (pw_in (List.mem_of_getElem? (i := 537) (by decide +kernel)) (by decide +kernel))⟩
theorem okX6_stow : pw_ok mX6_stow 1 := ⟨(pw_in (List.mem_of_getElem? (i := 71) (by decide +kernel)) (by decide +kernel)), (pw_in (List.mem_of_getElem? (i := 952) (by decide +kernel)) (by decide +kernel)), by decide +kernel, by decide⟩
theorem kL_68 : pw_CV RL 68 mX6_stow 1 := ⟨okX6_stow, (pw_in (List.mem_of_getElem? (i := 949) (by decide +kernel)) (by decide +kernel)), (pw_in (List.mem_of_getElem? (i := 950) (by decide +kernel)) (by decide +kernel)), (pw_in (List.mem_of_getElem? (i := 951) (by decide +kernel)) (by decide +kernel))⟩
theorem okX5_hoard : pw_ok mX5_hoard 1 := ⟨(pw_in (List.mem_of_getElem? (i := 64) (by decide +kernel)) (by decide +kernel)), (pw_in (List.mem_of_getElem? (i := 554) (by decide +kernel)) (by decide +kernel)), by decide +kernel, by decide⟩
theorem kL_69 : pw_CV RL 69 mX5_hoard 1 := ⟨okX5_hoard, (pw_in (List.mem_of_getElem? (i := 551) (by decide +kernel)) (by decide +kernel)), (pw_in (List.mem_of_getElem? (i := 552) (by decide +kernel)) (by decide +kernel)), (pw_in (List.mem_of_getElem? (i := 553) (by decide +kernel)) (by decide +kernel))⟩
theorem okX6_hoard : pw_ok mX6_hoard 1 := ⟨(pw_in (List.mem_of_getElem? (i := 71) (by decide +kernel)) (by decide +kernel)), (pw_in (List.mem_of_getElem? (i := 961) (by decide +kernel)) (by decide +kernel)), by decide +kernel, by decide⟩
theorem kL_72 : pw_CV RL 72 mX6_hoard 1 := ⟨okX6_hoard, (pw_in (List.mem_of_getElem? (i := 958) (by decide +kernel)) (by decide +kernel)), (pw_in (List.mem_of_getElem? (i := 959) (by decide +kernel)) (by decide +kernel)), (pw_in (List.mem_of_getElem? (i := 960) (by decide +kernel)) (by decide +kernel))⟩
theorem okX5_saves : pw_ok mX5_saves 2 := ⟨(pw_in (List.mem_of_getElem? (i := 64) (by decide +kernel)) (by decide +kernel)), (pw_in (List.mem_of_getElem? (i := 565) (by decide +kernel)) (by decide +kernel)), by decide +kernel, by decide⟩
theorem kL_73 : pw_CV RL 73 mX5_saves 2 := ⟨okX5_saves, (pw_in (List.mem_of_getElem? (i := 562) (by decide +kernel)) (by decide +kernel)), (pw_in (List.mem_of_getElem? (i := 563) (by decide +kernel)) (by decide +kernel)), (pw_in (List.mem_of_getElem? (i := 564) (by decide +kernel)) (by decide +kernel))⟩
theorem okX6_saves : pw_ok mX6_saves 2 := ⟨(pw_in (List.mem_of_getElem? (i := 71) (by decide +kernel)) (by decide +kernel)), (pw_in (List.mem_of_getElem? (i := 948) (by decide +kernel)) (by decide +kernel)), by decide +kernel, by decide⟩
theorem kL_76 : pw_CV RL 76 mX6_saves 2 := ⟨okX6_saves, (pw_in (List.mem_of_getElem? (i := 945) (by decide +kernel)) (by decide +kernel)), (pw_in (List.mem_of_getElem? (i := 946) (by decide +kernel)) (by decide +kernel)), (pw_in (List.mem_of_getElem? (i := 947) (by decide +kernel)) (by decide +kernel))⟩
theorem okX5_drops : pw_ok mX5_drops 2 := ⟨(pw_in (List.mem_of_getElem? (i := 64) (by decide +kernel)) (by decide +kernel)), (pw_in (List.mem_of_getElem? (i := 569) (by decide +kernel)) (by decide +kernel)), by decide +kernel, by decide⟩
theorem kL_77 : pw_CV RL 77 mX5_drops 2 := ⟨okX5_drops, (pw_in (List.mem_of_getElem? (i := 566) (by decide +kernel)) (by decide +kernel)), (pw_in (List.mem_of_getElem? (i := 567) (by decide +kernel)) (by decide +kernel)), (pw_in (List.mem_of_getElem? (i := 568) (by decide +kernel)) (by decide +kernel))⟩
theorem okX6_drops : pw_ok mX6_drops 2 := ⟨(pw_in (List.mem_of_getElem? (i := 71) (by decide +kernel)) (by decide +kernel)), (pw_in (List.mem_of_getElem? (i := 965) (by decide +kernel)) (by decide +kernel)), by decide +kernel, by decide⟩
theorem kL_80 : pw_CV RL 80 mX6_drops 2 := ⟨okX6_drops, (pw_in (List.mem_of_getElem? (i := 962) (by decide +kernel)) (by decide +kernel)), (pw_in (List.mem_of_getElem? (i := 963) (by decide +kernel)) (by decide +kernel)), (pw_in (List.mem_of_getElem? (i := 964) (by decide +kernel)) (by decide +kernel))⟩
theorem okX5_lay : pw_ok mX5_lay 2 := ⟨(pw_in (List.mem_of_getElem? (i := 64) (by decide +kernel)) (by decide +kernel)), (pw_in (List.mem_of_getElem? (i := 581) (by decide +kernel)) (by decide +kernel)), by decide +kernel, by decide⟩
theorem kL_81 : pw_CV RL 81 mX5_lay 2 := ⟨okX5_lay, (pw_in (List.mem_of_getElem? (i := 578) (by decide +kernel)) (by decide +kernel)), (pw_in (List.mem_of_getElem? (i := 579) (by decide +kernel)) (by decide +kernel)), (pw_in (List.mem_of_getElem? (i := 580) (by decide +kernel)) (by decide +kernel))⟩
theorem okX6_lay : pw_ok mX6_lay 2 := ⟨(pw_in (List.mem_of_getElem? (i := 71) (by decide +kernel)) (by decide +kernel)), (pw_in (List.mem_of_getElem? (i := 974) (by decide +kernel)) (by decide +kernel)), by decide +kernel, by decide⟩
theorem kL_84 : pw_CV RL 84 mX6_lay 2 := ⟨okX6_lay, (pw_in (List.mem_of_getElem? (i := 971) (by decide +kernel)) (by decide +kernel)), (pw_in (List.mem_of_getElem? (i := 972) (by decide +kernel)) (by decide +kernel)), (pw_in (List.mem_of_getElem? (i := 973) (by decide +kernel)) (by decide +kernel))⟩
theorem okX5_stitches : pw_ok mX5_stitches 3 := ⟨(pw_in (List.mem_of_getElem? (i := 64) (by decide +kernel)) (by decide +kernel)), (pw_in (List.mem_of_getElem? (i := 585) (by decide +kernel)) (by decide +kernel)), by decide +kernel, by decide⟩
theorem kL_85 : pw_CV RL 85 mX5_stitches 3 := ⟨okX5_stitches, (pw_in (List.mem_of_getElem? (i := 582) (by decide +kernel)) (by decide +kernel)), (pw_in (List.mem_of_getElem? (i := 583) (by decide +kernel)) (by decide +kernel)), (pw_in (List.mem_of_getElem? (i := 584) (by decide +kernel)) (by decide +kernel))⟩
theorem okX6_stitches : pw_ok mX6_stitches 3 := ⟨(pw_in (List.mem_of_getElem? (i := 71) (by decide +kernel)) (by decide +kernel)), (pw_in (List.mem_of_getElem? (i := 978) (by decide +kernel)) (by decide +kernel)), by decide +kernel, by decide⟩
theorem kL_88 : pw_CV RL 88 mX6_stitches 3 := ⟨okX6_stitches, (pw_in (List.mem_of_getElem? (i := 975) (by decide +kernel)) (by decide +kernel)), (pw_in (List.mem_of_getElem? (i := 976) (by decide +kernel)) (by decide +kernel)), (pw_in (List.mem_of_getElem? (i := 977) (by decide +kernel)) (by decide +kernel))⟩
theorem okX5_odds : pw_ok mX5_odds 5 := ⟨(pw_in (List.mem_of_getElem? (i := 64) (by decide +kernel)) (by decide +kernel)), (pw_in (List.mem_of_getElem? (i := 598) (by decide +kernel)) (by decide +kernel)), by decide +kernel, by decide⟩
theorem kL_89 : pw_CV RL 89 mX5_odds 5 := ⟨okX5_odds, (pw_in (List.mem_of_getElem? (i := 595) (by decide +kernel)) (by decide +kernel)), (pw_in (List.mem_of_getElem? (i := 596) (by decide +kernel)) (by decide +kernel)), (pw_in (List.mem_of_getElem? (i := 597) (by decide +kernel)) (by decide +kernel))⟩
theorem okX6_odds : pw_ok mX6_odds 5 := ⟨(pw_in (List.mem_of_getElem? (i := 71) (by decide +kernel)) (by decide +kernel)), (pw_in (List.mem_of_getElem? (i := 982) (by decide +kernel)) (by decide +kernel)), by decide +kernel, by decide⟩
theorem kL_93 : pw_CV RL 93 mX6_odds 5 := ⟨okX6_odds, (pw_in (List.mem_of_getElem? (i := 979) (by decide +kernel)) (by decide +kernel)), (pw_in (List.mem_of_getElem? (i := 980) (by decide +kernel)) (by decide +kernel)), (pw_in (List.mem_of_getElem? (i := 981) (by decide +kernel)) (by decide +kernel))⟩
theorem okX5_rate : pw_ok mX5_rate 2 := ⟨(pw_in (List.mem_of_getElem? (i := 64) (by decide +kernel)) (by decide +kernel)), (pw_in (List.mem_of_getElem? (i := 611) (by decide +kernel)) (by decide +kernel)), by decide +kernel, by decide⟩
theorem kL_94 : pw_CV RL 94 mX5_rate 2 := ⟨okX5_rate, (pw_in (List.mem_of_getElem? (i := 608) (by decide +kernel)) (by decide +kernel)), (pw_in (List.mem_of_getElem? (i := 609) (by decide +kernel)) (by decide +kernel)), (pw_in (List.mem_of_getElem? (i := 610) (by decide +kernel)) (by decide +kernel))⟩
theorem okX6_rate : pw_ok mX6_rate 2 := ⟨(pw_in (List.mem_of_getElem? (i := 71) (by decide +kernel)) (by decide +kernel)), (pw_in (List.mem_of_getElem? (i := 991) (by decide +kernel)) (by decide +kernel)), by decide +kernel, by decide⟩
theorem kL_97 : pw_CV RL 97 mX6_rate 2 := ⟨okX6_rate, (pw_in (List.mem_of_getElem? (i := 988) (by decide +kernel)) (by decide +kernel)), (pw_in (List.mem_of_getElem? (i := 989) (by decide +kernel)) (by decide +kernel)), (pw_in (List.mem_of_getElem? (i := 990) (by decide +kernel)) (by decide +kernel))⟩
theorem okX5_keep : pw_ok mX5_keep 1 := ⟨(pw_in (List.mem_of_getElem? (i := 64) (by decide +kernel)) (by decide +kernel)), (pw_in (List.mem_of_getElem? (i := 645) (by decide +kernel)) (by decide +kernel)), by decide +kernel, by decide⟩
theorem kL_98 : pw_CV RL 98 mX5_keep 1 := ⟨okX5_keep, (pw_in (List.mem_of_getElem? (i := 642) (by decide +kernel)) (by decide +kernel)), (pw_in (List.mem_of_getElem? (i := 643) (by decide +kernel)) (by decide +kernel)), (pw_in (List.mem_of_getElem? (i := 644) (by decide +kernel)) (by decide +kernel))⟩
theorem okX6_keep : pw_ok mX6_keep 1 := ⟨(pw_in (List.mem_of_getElem? (i := 71) (by decide +kernel)) (by decide +kernel)), (pw_in (List.mem_of_getElem? (i := 1012) (by decide +kernel)) (by decide +kernel)), by decide +kernel, by decide⟩
theorem kL_101 : pw_CV RL 101 mX6_keep 1 := ⟨okX6_keep, (pw_in (List.mem_of_getElem? (i := 1009) (by decide +kernel)) (by decide +kernel)), (pw_in (List.mem_of_getElem? (i := 1010) (by decide +kernel)) (by decide +kernel)), (pw_in (List.mem_of_getElem? (i := 1011) (by decide +kernel)) (by decide +kernel))⟩
theorem okX5_back : pw_ok mX5_back 1 := ⟨(pw_in (List.mem_of_getElem? (i := 64) (by decide +kernel)) (by decide +kernel)), (pw_in (List.mem_of_getElem? (i := 650) (by decide +kernel)) (by decide +kernel)), by decide +kernel, by decide⟩
theorem kL_102 : pw_CV RL 102 mX5_back 1 := ⟨okX5_back, (pw_in (List.mem_of_getElem? (i := 647) (by decide +kernel)) (by decide +kernel)), (pw_in (List.mem_of_getElem? (i := 648) (by decide +kernel)) (by decide +kernel)), (pw_in (List.mem_of_getElem? (i := 649) (by decide +kernel)) (by decide +kernel))⟩
theorem okX6_back : pw_ok mX6_back 1 := ⟨(pw_in (List.mem_of_getElem? (i := 71) (by decide +kernel)) (by decide +kernel)), (pw_in (List.mem_of_getElem? (i := 1016) (by decide +kernel)) (by decide +kernel)), by decide +kernel, by decide⟩
theorem kL_105 : pw_CV RL 105 mX6_back 1 := ⟨okX6_back, (pw_in (List.mem_of_getElem? (i := 1013) (by decide +kernel)) (by decide +kernel)), (pw_in (List.mem_of_getElem? (i := 1014) (by decide +kernel)) (by decide +kernel)), (pw_in (List.mem_of_getElem? (i := 1015) (by decide +kernel)) (by decide +kernel))⟩
theorem okX5_count : pw_ok mX5_count 1 := ⟨(pw_in (List.mem_of_getElem? (i := 64) (by decide +kernel)) (by decide +kernel)), (pw_in (List.mem_of_getElem? (i := 654) (by decide +kernel)) (by decide +kernel)), by decide +kernel, by decide⟩
theorem kL_106 : pw_CV RL 106 mX5_count 1 := ⟨okX5_count, (pw_in (List.mem_of_getElem? (i := 651) (by decide +kernel)) (by decide +kernel)), (pw_in (List.mem_of_getElem? (i := 652) (by decide +kernel)) (by decide +kernel)), (pw_in (List.mem_of_getElem? (i := 653) (by decide +kernel)) (by decide +kernel))⟩
theorem okX6_count : pw_ok mX6_count 1 := ⟨(pw_in (List.mem_of_getElem? (i := 71) (by decide +kernel)) (by decide +kernel)), (pw_in (List.mem_of_getElem? (i := 1020) (by decide +kernel)) (by decide +kernel)), by decide +kernel, by decide⟩
theorem kL_109 : pw_CV RL 109 mX6_count 1 := ⟨okX6_count, (pw_in (List.mem_of_getElem? (i := 1017) (by decide +kernel)) (by decide +kernel)), (pw_in (List.mem_of_getElem? (i := 1018) (by decide +kernel)) (by decide +kernel)), (pw_in (List.mem_of_getElem? (i := 1019) (by decide +kernel)) (by decide +kernel))⟩
theorem okX5_trace : pw_ok mX5_trace 0 := ⟨(pw_in (List.mem_of_getElem? (i := 64) (by decide +kernel)) (by decide +kernel)), (pw_in (List.mem_of_getElem? (i := 658) (by decide +kernel)) (by decide +kernel)), by decide +kernel, by decide⟩
theorem kL_110 : pw_CV RL 110 mX5_trace 0 := ⟨okX5_trace, (pw_in (List.mem_of_getElem? (i := 655) (by decide +kernel)) (by decide +kernel)), (pw_in (List.mem_of_getElem? (i := 656) (by decide +kernel)) (by decide +kernel)), (pw_in (List.mem_of_getElem? (i := 657) (by decide +kernel)) (by decide +kernel))⟩
theorem okX6_trace : pw_ok mX6_trace 0 := ⟨(pw_in (List.mem_of_getElem? (i := 71) (by decide +kernel)) (by decide +kernel)), (pw_in (List.mem_of_getElem? (i := 1024) (by decide +kernel)) (by decide +kernel)), by decide +kernel, by decide⟩
theorem kL_114 : pw_CV RL 114 mX6_trace 0 := ⟨okX6_trace, (pw_in (List.mem_of_getElem? (i := 1021) (by decide +kernel)) (by decide +kernel)), (pw_in (List.mem_of_getElem? (i := 1022) (by decide +kernel)) (by decide +kernel)), (pw_in (List.mem_of_getElem? (i := 1023) (by decide +kernel)) (by decide +kernel))⟩
set_option maxRecDepth 20000 in
theorem nL_7 : pw_NW RL 7 5 12 [.null, .null, .null, .null, .null, .null, .null, .null, .null, .null, .null, .long 0] := ⟨RX5, TX5, tyX5, rfl, inX5, tyX5_ok, (pw_in (List.mem_of_getElem? (i := 74) (by decide +kernel)) (by decide +kernel)), (pw_in (List.mem_of_getElem? (i := 75) (by decide +kernel)) (by decide +kernel)), (pw_in (List.mem_of_getElem? (i := 64) (by decide +kernel)) (by decide +kernel)), by decide +kernel, fun _ => rfl⟩
set_option maxRecDepth 20000 in
theorem nL_10 : pw_NW RL 10 6 36 [.null, .int 0, .null, .int 0, .null, .null, .int 0, .null, .null, .null, .int 0, .null, .null, .int 0, .long 0, .int 0, .int 0, .int 0, .int 0, .null, .int 0, .null, .null, .int 0, .null, .int 0, .null, .int 0, .null, .null, .null, .null, .null, .null, .null, .null] := ⟨RX6, TX6, tyX6, rfl, inX6, tyX6_ok, (pw_in (List.mem_of_getElem? (i := 659) (by decide +kernel)) (by decide +kernel)), (pw_in (List.mem_of_getElem? (i := 660) (by decide +kernel)) (by decide +kernel)), (pw_in (List.mem_of_getElem? (i := 71) (by decide +kernel)) (by decide +kernel)), by decide +kernel, fun _ => rfl⟩
theorem fX0_9 : pw_F RX0 9 0 0 := ⟨RX0, TX0, 3, rfl, by decide, inX0, (pw_in (List.mem_of_getElem? (i := 119) (by decide +kernel)) (by decide +kernel))⟩
theorem fX0_21 : pw_F RX0 21 0 1 := ⟨RX0, TX0, 3, rfl, by decide, inX0, (pw_in (List.mem_of_getElem? (i := 122) (by decide +kernel)) (by decide +kernel))⟩
theorem fX0_25 : pw_F RX0 25 0 2 := ⟨RX0, TX0, 3, rfl, by decide, inX0, (pw_in (List.mem_of_getElem? (i := 124) (by decide +kernel)) (by decide +kernel))⟩
theorem fX0_28 : pw_F RX0 28 2 16 := ⟨RX2, TX2, 19, rfl, by decide, inX2, (pw_in (List.mem_of_getElem? (i := 213) (by decide +kernel)) (by decide +kernel))⟩
theorem kX0_3 : Cond.methodLink RX0 3 Lib.objectInit ∈ pw_tbl := (pw_in (List.mem_of_getElem? (i := 118) (by decide +kernel)) (by decide +kernel))
theorem kX0_15 : Cond.methodLink RX0 15 arraycopyName ∈ pw_tbl := (pw_in (List.mem_of_getElem? (i := 423) (by decide +kernel)) (by decide +kernel))
theorem pX0_9 : pw_FP RX0 9 0 0 (.array .int) true := ⟨RX0, TX0, 3, tyX0, rfl, by decide, inX0, (pw_in (List.mem_of_getElem? (i := 119) (by decide +kernel)) (by decide +kernel)), tyX0_ok, nmX0, rfl, by decide +kernel, rfl⟩
theorem pX0_21 : pw_FP RX0 21 0 1 (.int) false := ⟨RX0, TX0, 3, tyX0, rfl, by decide, inX0, (pw_in (List.mem_of_getElem? (i := 122) (by decide +kernel)) (by decide +kernel)), tyX0_ok, nmX0, rfl, by decide +kernel, rfl⟩
theorem pX0_25 : pw_FP RX0 25 0 2 (.int) false := ⟨RX0, TX0, 3, tyX0, rfl, by decide, inX0, (pw_in (List.mem_of_getElem? (i := 124) (by decide +kernel)) (by decide +kernel)), tyX0_ok, nmX0, rfl, by decide +kernel, rfl⟩
theorem aX1_9 : Cond.classLink RX1 9 "PocketLaws$Now" ∈ pw_tbl := (pw_in (List.mem_of_getElem? (i := 139) (by decide +kernel)) (by decide +kernel))
theorem fX1_11 : pw_F RX1 11 1 0 := ⟨RX1, TX1, 3, rfl, by decide, inX1, (pw_in (List.mem_of_getElem? (i := 142) (by decide +kernel)) (by decide +kernel))⟩
theorem fX1_18 : pw_F RX1 18 1 2 := ⟨RX1, TX1, 3, rfl, by decide, inX1, (pw_in (List.mem_of_getElem? (i := 145) (by decide +kernel)) (by decide +kernel))⟩
theorem fX1_26 : pw_F RX1 26 1 1 := ⟨RX1, TX1, 3, rfl, by decide, inX1, (pw_in (List.mem_of_getElem? (i := 143) (by decide +kernel)) (by decide +kernel))⟩
theorem kX1_3 : Cond.methodLink RX1 3 Lib.objectInit ∈ pw_tbl := (pw_in (List.mem_of_getElem? (i := 138) (by decide +kernel)) (by decide +kernel))
theorem okX0_init : pw_ok mX0_init 0 := ⟨(pw_in (List.mem_of_getElem? (i := 66) (by decide +kernel)) (by decide +kernel)), (pw_in (List.mem_of_getElem? (i := 117) (by decide +kernel)) (by decide +kernel)), by decide +kernel, by decide⟩
theorem kX1_17 : pw_CIN RX1 17 mX0_init 0 RX5 := ⟨okX0_init, (List.mem_of_getElem? (i := 141) (by decide +kernel)), (pw_in (List.mem_of_getElem? (i := 116) (by decide +kernel)) (by decide +kernel)), rfl, rfl⟩
theorem okJ9_min_7cf53 : pw_ok mJ9_min_7cf53 2 := ⟨(pw_in (List.mem_of_getElem? (i := 72) (by decide +kernel)) (by decide +kernel)), (pw_in (List.mem_of_getElem? (i := 359) (by decide +kernel)) (by decide +kernel)), by decide +kernel, by decide⟩
theorem kX1_29 : pw_CS RX1 29 mJ9_min_7cf53 2 := ⟨okJ9_min_7cf53, (pw_in (List.mem_of_getElem? (i := 499) (by decide +kernel)) (by decide +kernel)), (pw_in (List.mem_of_getElem? (i := 358) (by decide +kernel)) (by decide +kernel))⟩
theorem okX0_become : pw_ok mX0_become 1 := ⟨(pw_in (List.mem_of_getElem? (i := 66) (by decide +kernel)) (by decide +kernel)), (pw_in (List.mem_of_getElem? (i := 498) (by decide +kernel)) (by decide +kernel)), by decide +kernel, by decide⟩
theorem kX1_22 : pw_CV RX1 22 mX0_become 1 := ⟨okX0_become, (pw_in (List.mem_of_getElem? (i := 495) (by decide +kernel)) (by decide +kernel)), (pw_in (List.mem_of_getElem? (i := 496) (by decide +kernel)) (by decide +kernel)), (pw_in (List.mem_of_getElem? (i := 497) (by decide +kernel)) (by decide +kernel))⟩
set_option maxRecDepth 20000 in
theorem nX1_9 : pw_NW RX1 9 0 3 [.null, .int 0, .int 0] := ⟨RX0, TX0, tyX0, rfl, inX0, tyX0_ok, (pw_in (List.mem_of_getElem? (i := 139) (by decide +kernel)) (by decide +kernel)), (pw_in (List.mem_of_getElem? (i := 114) (by decide +kernel)) (by decide +kernel)), (pw_in (List.mem_of_getElem? (i := 66) (by decide +kernel)) (by decide +kernel)), by decide +kernel, fun _ => rfl⟩
theorem pX1_11 : pw_FP RX1 11 1 0 (.array (.object "PocketLaws$Now")) true := ⟨RX1, TX1, 3, tyX1, rfl, by decide, inX1, (pw_in (List.mem_of_getElem? (i := 142) (by decide +kernel)) (by decide +kernel)), tyX1_ok, nmX1, rfl, by decide +kernel, rfl⟩
theorem pX1_18 : pw_FP RX1 18 1 2 (.int) false := ⟨RX1, TX1, 3, tyX1, rfl, by decide, inX1, (pw_in (List.mem_of_getElem? (i := 145) (by decide +kernel)) (by decide +kernel)), tyX1_ok, nmX1, rfl, by decide +kernel, rfl⟩
theorem pX1_26 : pw_FP RX1 26 1 1 (.int) false := ⟨RX1, TX1, 3, tyX1, rfl, by decide, inX1, (pw_in (List.mem_of_getElem? (i := 143) (by decide +kernel)) (by decide +kernel)), tyX1_ok, nmX1, rfl, by decide +kernel, rfl⟩
theorem fX2_9 : pw_F RX2 9 2 3 := ⟨RX2, TX2, 19, rfl, by decide, inX2, (pw_in (List.mem_of_getElem? (i := 185) (by decide +kernel)) (by decide +kernel))⟩
theorem fX2_15 : pw_F RX2 15 2 4 := ⟨RX2, TX2, 19, rfl, by decide, inX2, (pw_in (List.mem_of_getElem? (i := 188) (by decide +kernel)) (by decide +kernel))⟩
theorem fX2_18 : pw_F RX2 18 2 5 := ⟨RX2, TX2, 19, rfl, by decide, inX2, (pw_in (List.mem_of_getElem? (i := 190) (by decide +kernel)) (by decide +kernel))⟩
theorem fX2_21 : pw_F RX2 21 2 6 := ⟨RX2, TX2, 19, rfl, by decide, inX2, (pw_in (List.mem_of_getElem? (i := 192) (by decide +kernel)) (by decide +kernel))⟩
theorem fX2_24 : pw_F RX2 24 2 7 := ⟨RX2, TX2, 19, rfl, by decide, inX2, (pw_in (List.mem_of_getElem? (i := 194) (by decide +kernel)) (by decide +kernel))⟩
theorem fX2_27 : pw_F RX2 27 2 8 := ⟨RX2, TX2, 19, rfl, by decide, inX2, (pw_in (List.mem_of_getElem? (i := 195) (by decide +kernel)) (by decide +kernel))⟩
theorem fX2_30 : pw_F RX2 30 2 9 := ⟨RX2, TX2, 19, rfl, by decide, inX2, (pw_in (List.mem_of_getElem? (i := 196) (by decide +kernel)) (by decide +kernel))⟩
theorem fX2_33 : pw_F RX2 33 2 10 := ⟨RX2, TX2, 19, rfl, by decide, inX2, (pw_in (List.mem_of_getElem? (i := 198) (by decide +kernel)) (by decide +kernel))⟩
theorem fX2_36 : pw_F RX2 36 2 11 := ⟨RX2, TX2, 19, rfl, by decide, inX2, (pw_in (List.mem_of_getElem? (i := 200) (by decide +kernel)) (by decide +kernel))⟩
theorem fX2_41 : pw_F RX2 41 2 12 := ⟨RX2, TX2, 19, rfl, by decide, inX2, (pw_in (List.mem_of_getElem? (i := 202) (by decide +kernel)) (by decide +kernel))⟩
theorem fX2_44 : pw_F RX2 44 2 13 := ⟨RX2, TX2, 19, rfl, by decide, inX2, (pw_in (List.mem_of_getElem? (i := 204) (by decide +kernel)) (by decide +kernel))⟩
theorem fX2_47 : pw_F RX2 47 2 14 := ⟨RX2, TX2, 19, rfl, by decide, inX2, (pw_in (List.mem_of_getElem? (i := 207) (by decide +kernel)) (by decide +kernel))⟩
theorem fX2_50 : pw_F RX2 50 2 15 := ⟨RX2, TX2, 19, rfl, by decide, inX2, (pw_in (List.mem_of_getElem? (i := 210) (by decide +kernel)) (by decide +kernel))⟩
theorem fX2_53 : pw_F RX2 53 2 16 := ⟨RX2, TX2, 19, rfl, by decide, inX2, (pw_in (List.mem_of_getElem? (i := 212) (by decide +kernel)) (by decide +kernel))⟩
theorem fX2_56 : pw_F RX2 56 2 17 := ⟨RX2, TX2, 19, rfl, by decide, inX2, (pw_in (List.mem_of_getElem? (i := 214) (by decide +kernel)) (by decide +kernel))⟩
theorem fX2_59 : pw_F RX2 59 2 18 := ⟨RX2, TX2, 19, rfl, by decide, inX2, (pw_in (List.mem_of_getElem? (i := 217) (by decide +kernel)) (by decide +kernel))⟩
theorem fX2_62 : pw_F RX2 62 2 0 := ⟨RX2, TX2, 19, rfl, by decide, inX2, (pw_in (List.mem_of_getElem? (i := 176) (by decide +kernel)) (by decide +kernel))⟩
theorem fX2_66 : pw_F RX2 66 2 1 := ⟨RX2, TX2, 19, rfl, by decide, inX2, (pw_in (List.mem_of_getElem? (i := 180) (by decide +kernel)) (by decide +kernel))⟩
theorem fX2_69 : pw_F RX2 69 2 2 := ⟨RX2, TX2, 19, rfl, by decide, inX2, (pw_in (List.mem_of_getElem? (i := 183) (by decide +kernel)) (by decide +kernel))⟩
theorem kX2_3 : Cond.methodLink RX2 3 Lib.objectInit ∈ pw_tbl := (pw_in (List.mem_of_getElem? (i := 173) (by decide +kernel)) (by decide +kernel))
theorem okJ7_fill_53178 : pw_ok mJ7_fill_53178 2 := ⟨(pw_in (List.mem_of_getElem? (i := 70) (by decide +kernel)) (by decide +kernel)), (pw_in (List.mem_of_getElem? (i := 264) (by decide +kernel)) (by decide +kernel)), by decide +kernel, by decide⟩
theorem kX2_72 : pw_CS RX2 72 mJ7_fill_53178 2 := ⟨okJ7_fill_53178, (pw_in (List.mem_of_getElem? (i := 262) (by decide +kernel)) (by decide +kernel)), (pw_in (List.mem_of_getElem? (i := 263) (by decide +kernel)) (by decide +kernel))⟩
theorem okX5_has : pw_ok mX5_has 2 := ⟨(pw_in (List.mem_of_getElem? (i := 64) (by decide +kernel)) (by decide +kernel)), (pw_in (List.mem_of_getElem? (i := 279) (by decide +kernel)) (by decide +kernel)), by decide +kernel, by decide⟩
theorem kX2_107 : pw_CSN RX2 107 mX5_has 2 RX5 := ⟨okX5_has, (List.mem_of_getElem? (i := 277) (by decide +kernel)), (pw_in (List.mem_of_getElem? (i := 278) (by decide +kernel)) (by decide +kernel))⟩
theorem okX2_tellPocket : pw_ok mX2_tellPocket 1 := ⟨(pw_in (List.mem_of_getElem? (i := 69) (by decide +kernel)) (by decide +kernel)), (pw_in (List.mem_of_getElem? (i := 398) (by decide +kernel)) (by decide +kernel)), by decide +kernel, by decide⟩
theorem kX2_78 : pw_CV RX2 78 mX2_tellPocket 1 := ⟨okX2_tellPocket, (pw_in (List.mem_of_getElem? (i := 395) (by decide +kernel)) (by decide +kernel)), (pw_in (List.mem_of_getElem? (i := 397) (by decide +kernel)) (by decide +kernel)), (pw_in (List.mem_of_getElem? (i := 8) (by decide +kernel)) (by decide +kernel))⟩
theorem okX2_tellLaw : pw_ok mX2_tellLaw 3 := ⟨(pw_in (List.mem_of_getElem? (i := 69) (by decide +kernel)) (by decide +kernel)), (pw_in (List.mem_of_getElem? (i := 402) (by decide +kernel)) (by decide +kernel)), by decide +kernel, by decide⟩
theorem kX2_82 : pw_CV RX2 82 mX2_tellLaw 3 := ⟨okX2_tellLaw, (pw_in (List.mem_of_getElem? (i := 399) (by decide +kernel)) (by decide +kernel)), (pw_in (List.mem_of_getElem? (i := 401) (by decide +kernel)) (by decide +kernel)), (pw_in (List.mem_of_getElem? (i := 9) (by decide +kernel)) (by decide +kernel))⟩
theorem okX2_tellSeam : pw_ok mX2_tellSeam 2 := ⟨(pw_in (List.mem_of_getElem? (i := 69) (by decide +kernel)) (by decide +kernel)), (pw_in (List.mem_of_getElem? (i := 406) (by decide +kernel)) (by decide +kernel)), by decide +kernel, by decide⟩
theorem kX2_86 : pw_CV RX2 86 mX2_tellSeam 2 := ⟨okX2_tellSeam, (pw_in (List.mem_of_getElem? (i := 403) (by decide +kernel)) (by decide +kernel)), (pw_in (List.mem_of_getElem? (i := 405) (by decide +kernel)) (by decide +kernel)), (pw_in (List.mem_of_getElem? (i := 10) (by decide +kernel)) (by decide +kernel))⟩
theorem okX2_tellHole : pw_ok mX2_tellHole 3 := ⟨(pw_in (List.mem_of_getElem? (i := 69) (by decide +kernel)) (by decide +kernel)), (pw_in (List.mem_of_getElem? (i := 410) (by decide +kernel)) (by decide +kernel)), by decide +kernel, by decide⟩
theorem kX2_90 : pw_CV RX2 90 mX2_tellHole 3 := ⟨okX2_tellHole, (pw_in (List.mem_of_getElem? (i := 407) (by decide +kernel)) (by decide +kernel)), (pw_in (List.mem_of_getElem? (i := 409) (by decide +kernel)) (by decide +kernel)), (pw_in (List.mem_of_getElem? (i := 11) (by decide +kernel)) (by decide +kernel))⟩
theorem okX2_tellTreaty : pw_ok mX2_tellTreaty 3 := ⟨(pw_in (List.mem_of_getElem? (i := 69) (by decide +kernel)) (by decide +kernel)), (pw_in (List.mem_of_getElem? (i := 414) (by decide +kernel)) (by decide +kernel)), by decide +kernel, by decide⟩
theorem kX2_93 : pw_CV RX2 93 mX2_tellTreaty 3 := ⟨okX2_tellTreaty, (pw_in (List.mem_of_getElem? (i := 411) (by decide +kernel)) (by decide +kernel)), (pw_in (List.mem_of_getElem? (i := 413) (by decide +kernel)) (by decide +kernel)), (pw_in (List.mem_of_getElem? (i := 12) (by decide +kernel)) (by decide +kernel))⟩
theorem okX2_tellThing : pw_ok mX2_tellThing 1 := ⟨(pw_in (List.mem_of_getElem? (i := 69) (by decide +kernel)) (by decide +kernel)), (pw_in (List.mem_of_getElem? (i := 418) (by decide +kernel)) (by decide +kernel)), by decide +kernel, by decide⟩
theorem kX2_96 : pw_CV RX2 96 mX2_tellThing 1 := ⟨okX2_tellThing, (pw_in (List.mem_of_getElem? (i := 415) (by decide +kernel)) (by decide +kernel)), (pw_in (List.mem_of_getElem? (i := 417) (by decide +kernel)) (by decide +kernel)), (pw_in (List.mem_of_getElem? (i := 13) (by decide +kernel)) (by decide +kernel))⟩
theorem okX2_settleLawsOf : pw_ok mX2_settleLawsOf 1 := ⟨(pw_in (List.mem_of_getElem? (i := 69) (by decide +kernel)) (by decide +kernel)), (pw_in (List.mem_of_getElem? (i := 272) (by decide +kernel)) (by decide +kernel)), by decide +kernel, by decide⟩
theorem kX2_99 : pw_CV RX2 99 mX2_settleLawsOf 1 := ⟨okX2_settleLawsOf, (pw_in (List.mem_of_getElem? (i := 269) (by decide +kernel)) (by decide +kernel)), (pw_in (List.mem_of_getElem? (i := 271) (by decide +kernel)) (by decide +kernel)), (pw_in (List.mem_of_getElem? (i := 0) (by decide +kernel)) (by decide +kernel))⟩
theorem okX2_allHold : pw_ok mX2_allHold 2 := ⟨(pw_in (List.mem_of_getElem? (i := 69) (by decide +kernel)) (by decide +kernel)), (pw_in (List.mem_of_getElem? (i := 276) (by decide +kernel)) (by decide +kernel)), by decide +kernel, by decide⟩
theorem kX2_103 : pw_CV RX2 103 mX2_allHold 2 := ⟨okX2_allHold, (pw_in (List.mem_of_getElem? (i := 273) (by decide +kernel)) (by decide +kernel)), (pw_in (List.mem_of_getElem? (i := 275) (by decide +kernel)) (by decide +kernel)), (pw_in (List.mem_of_getElem? (i := 1) (by decide +kernel)) (by decide +kernel))⟩
theorem okX2_outerLetsIn : pw_ok mX2_outerLetsIn 2 := ⟨(pw_in (List.mem_of_getElem? (i := 69) (by decide +kernel)) (by decide +kernel)), (pw_in (List.mem_of_getElem? (i := 287) (by decide +kernel)) (by decide +kernel)), by decide +kernel, by decide⟩
theorem kX2_110 : pw_CV RX2 110 mX2_outerLetsIn 2 := ⟨okX2_outerLetsIn, (pw_in (List.mem_of_getElem? (i := 284) (by decide +kernel)) (by decide +kernel)), (pw_in (List.mem_of_getElem? (i := 286) (by decide +kernel)) (by decide +kernel)), (pw_in (List.mem_of_getElem? (i := 3) (by decide +kernel)) (by decide +kernel))⟩
theorem okX2_lawSays : pw_ok mX2_lawSays 3 := ⟨(pw_in (List.mem_of_getElem? (i := 69) (by decide +kernel)) (by decide +kernel)), (pw_in (List.mem_of_getElem? (i := 283) (by decide +kernel)) (by decide +kernel)), by decide +kernel, by decide⟩
theorem kX2_113 : pw_CV RX2 113 mX2_lawSays 3 := ⟨okX2_lawSays, (pw_in (List.mem_of_getElem? (i := 280) (by decide +kernel)) (by decide +kernel)), (pw_in (List.mem_of_getElem? (i := 282) (by decide +kernel)) (by decide +kernel)), (pw_in (List.mem_of_getElem? (i := 2) (by decide +kernel)) (by decide +kernel))⟩
theorem okX2_partOf : pw_ok mX2_partOf 1 := ⟨(pw_in (List.mem_of_getElem? (i := 69) (by decide +kernel)) (by decide +kernel)), (pw_in (List.mem_of_getElem? (i := 478) (by decide +kernel)) (by decide +kernel)), by decide +kernel, by decide⟩
theorem kX2_117 : pw_CV RX2 117 mX2_partOf 1 := ⟨okX2_partOf, (pw_in (List.mem_of_getElem? (i := 475) (by decide +kernel)) (by decide +kernel)), (pw_in (List.mem_of_getElem? (i := 477) (by decide +kernel)) (by decide +kernel)), (pw_in (List.mem_of_getElem? (i := 19) (by decide +kernel)) (by decide +kernel))⟩
theorem okX2_behindNight : pw_ok mX2_behindNight 2 := ⟨(pw_in (List.mem_of_getElem? (i := 69) (by decide +kernel)) (by decide +kernel)), (pw_in (List.mem_of_getElem? (i := 577) (by decide +kernel)) (by decide +kernel)), by decide +kernel, by decide⟩
theorem kX2_121 : pw_CV RX2 121 mX2_behindNight 2 := ⟨okX2_behindNight, (pw_in (List.mem_of_getElem? (i := 574) (by decide +kernel)) (by decide +kernel)), (pw_in (List.mem_of_getElem? (i := 575) (by decide +kernel)) (by decide +kernel)), (pw_in (List.mem_of_getElem? (i := 576) (by decide +kernel)) (by decide +kernel))⟩
theorem okX2_dropsAsFarAs : pw_ok mX2_dropsAsFarAs 3 := ⟨(pw_in (List.mem_of_getElem? (i := 69) (by decide +kernel)) (by decide +kernel)), (pw_in (List.mem_of_getElem? (i := 589) (by decide +kernel)) (by decide +kernel)), by decide +kernel, by decide⟩
theorem kX2_125 : pw_CV RX2 125 mX2_dropsAsFarAs 3 := ⟨okX2_dropsAsFarAs, (pw_in (List.mem_of_getElem? (i := 594) (by decide +kernel)) (by decide +kernel)), (pw_in (List.mem_of_getElem? (i := 587) (by decide +kernel)) (by decide +kernel)), (pw_in (List.mem_of_getElem? (i := 588) (by decide +kernel)) (by decide +kernel))⟩
theorem aX2_39 : Cond.classLink RX2 39 ("[" ++ (FieldType.array .int).toString) ∈ pw_tbl := (pw_in (List.mem_of_getElem? (i := 174) (by decide +kernel)) (by decide +kernel))
theorem pX2_9 : pw_FP RX2 9 2 3 (.array .int) true := ⟨RX2, TX2, 19, tyX2, rfl, by decide, inX2, (pw_in (List.mem_of_getElem? (i := 185) (by decide +kernel)) (by decide +kernel)), tyX2_ok, nmX2, rfl, by decide +kernel, rfl⟩
theorem pX2_15 : pw_FP RX2 15 2 4 (.array .int) true := ⟨RX2, TX2, 19, tyX2, rfl, by decide, inX2, (pw_in (List.mem_of_getElem? (i := 188) (by decide +kernel)) (by decide +kernel)), tyX2_ok, nmX2, rfl, by decide +kernel, rfl⟩
theorem pX2_18 : pw_FP RX2 18 2 5 (.array .int) true := ⟨RX2, TX2, 19, tyX2, rfl, by decide, inX2, (pw_in (List.mem_of_getElem? (i := 190) (by decide +kernel)) (by decide +kernel)), tyX2_ok, nmX2, rfl, by decide +kernel, rfl⟩
theorem pX2_21 : pw_FP RX2 21 2 6 (.array .int) true := ⟨RX2, TX2, 19, tyX2, rfl, by decide, inX2, (pw_in (List.mem_of_getElem? (i := 192) (by decide +kernel)) (by decide +kernel)), tyX2_ok, nmX2, rfl, by decide +kernel, rfl⟩
theorem pX2_24 : pw_FP RX2 24 2 7 (.array .int) true := ⟨RX2, TX2, 19, tyX2, rfl, by decide, inX2, (pw_in (List.mem_of_getElem? (i := 194) (by decide +kernel)) (by decide +kernel)), tyX2_ok, nmX2, rfl, by decide +kernel, rfl⟩
theorem pX2_27 : pw_FP RX2 27 2 8 (.array .int) true := ⟨RX2, TX2, 19, tyX2, rfl, by decide, inX2, (pw_in (List.mem_of_getElem? (i := 195) (by decide +kernel)) (by decide +kernel)), tyX2_ok, nmX2, rfl, by decide +kernel, rfl⟩
theorem pX2_30 : pw_FP RX2 30 2 9 (.array .int) true := ⟨RX2, TX2, 19, tyX2, rfl, by decide, inX2, (pw_in (List.mem_of_getElem? (i := 196) (by decide +kernel)) (by decide +kernel)), tyX2_ok, nmX2, rfl, by decide +kernel, rfl⟩
theorem pX2_33 : pw_FP RX2 33 2 10 (.array .int) true := ⟨RX2, TX2, 19, tyX2, rfl, by decide, inX2, (pw_in (List.mem_of_getElem? (i := 198) (by decide +kernel)) (by decide +kernel)), tyX2_ok, nmX2, rfl, by decide +kernel, rfl⟩
theorem pX2_36 : pw_FP RX2 36 2 11 (.array .int) true := ⟨RX2, TX2, 19, tyX2, rfl, by decide, inX2, (pw_in (List.mem_of_getElem? (i := 200) (by decide +kernel)) (by decide +kernel)), tyX2_ok, nmX2, rfl, by decide +kernel, rfl⟩
theorem pX2_41 : pw_FP RX2 41 2 12 (.array (.array .int)) true := ⟨RX2, TX2, 19, tyX2, rfl, by decide, inX2, (pw_in (List.mem_of_getElem? (i := 202) (by decide +kernel)) (by decide +kernel)), tyX2_ok, nmX2, rfl, by decide +kernel, rfl⟩
theorem pX2_44 : pw_FP RX2 44 2 13 (.array .int) true := ⟨RX2, TX2, 19, tyX2, rfl, by decide, inX2, (pw_in (List.mem_of_getElem? (i := 204) (by decide +kernel)) (by decide +kernel)), tyX2_ok, nmX2, rfl, by decide +kernel, rfl⟩
theorem pX2_47 : pw_FP RX2 47 2 14 (.array .int) true := ⟨RX2, TX2, 19, tyX2, rfl, by decide, inX2, (pw_in (List.mem_of_getElem? (i := 207) (by decide +kernel)) (by decide +kernel)), tyX2_ok, nmX2, rfl, by decide +kernel, rfl⟩
theorem pX2_50 : pw_FP RX2 50 2 15 (.array .int) true := ⟨RX2, TX2, 19, tyX2, rfl, by decide, inX2, (pw_in (List.mem_of_getElem? (i := 210) (by decide +kernel)) (by decide +kernel)), tyX2_ok, nmX2, rfl, by decide +kernel, rfl⟩
theorem pX2_53 : pw_FP RX2 53 2 16 (.array .int) true := ⟨RX2, TX2, 19, tyX2, rfl, by decide, inX2, (pw_in (List.mem_of_getElem? (i := 212) (by decide +kernel)) (by decide +kernel)), tyX2_ok, nmX2, rfl, by decide +kernel, rfl⟩
theorem pX2_56 : pw_FP RX2 56 2 17 (.array .int) true := ⟨RX2, TX2, 19, tyX2, rfl, by decide, inX2, (pw_in (List.mem_of_getElem? (i := 214) (by decide +kernel)) (by decide +kernel)), tyX2_ok, nmX2, rfl, by decide +kernel, rfl⟩
theorem pX2_59 : pw_FP RX2 59 2 18 (.array .int) true := ⟨RX2, TX2, 19, tyX2, rfl, by decide, inX2, (pw_in (List.mem_of_getElem? (i := 217) (by decide +kernel)) (by decide +kernel)), tyX2_ok, nmX2, rfl, by decide +kernel, rfl⟩
theorem pX2_62 : pw_FP RX2 62 2 0 (.int) false := ⟨RX2, TX2, 19, tyX2, rfl, by decide, inX2, (pw_in (List.mem_of_getElem? (i := 176) (by decide +kernel)) (by decide +kernel)), tyX2_ok, nmX2, rfl, by decide +kernel, rfl⟩
theorem pX2_66 : pw_FP RX2 66 2 1 (.int) false := ⟨RX2, TX2, 19, tyX2, rfl, by decide, inX2, (pw_in (List.mem_of_getElem? (i := 180) (by decide +kernel)) (by decide +kernel)), tyX2_ok, nmX2, rfl, by decide +kernel, rfl⟩
theorem pX2_69 : pw_FP RX2 69 2 2 (.int) false := ⟨RX2, TX2, 19, tyX2, rfl, by decide, inX2, (pw_in (List.mem_of_getElem? (i := 183) (by decide +kernel)) (by decide +kernel)), tyX2_ok, nmX2, rfl, by decide +kernel, rfl⟩
theorem fX3_9 : pw_F RX3 9 3 0 := ⟨RX3, TX3, 2, rfl, by decide, inX3, (pw_in (List.mem_of_getElem? (i := 159) (by decide +kernel)) (by decide +kernel))⟩
theorem fX3_15 : pw_F RX3 15 3 1 := ⟨RX3, TX3, 2, rfl, by decide, inX3, (pw_in (List.mem_of_getElem? (i := 161) (by decide +kernel)) (by decide +kernel))⟩
theorem fX3_22 : pw_F RX3 22 2 1 := ⟨RX2, TX2, 19, rfl, by decide, inX2, (pw_in (List.mem_of_getElem? (i := 181) (by decide +kernel)) (by decide +kernel))⟩
theorem fX3_38 : pw_F RX3 38 2 0 := ⟨RX2, TX2, 19, rfl, by decide, inX2, (pw_in (List.mem_of_getElem? (i := 177) (by decide +kernel)) (by decide +kernel))⟩
theorem fX3_41 : pw_F RX3 41 2 17 := ⟨RX2, TX2, 19, rfl, by decide, inX2, (pw_in (List.mem_of_getElem? (i := 215) (by decide +kernel)) (by decide +kernel))⟩
theorem fX3_44 : pw_F RX3 44 2 13 := ⟨RX2, TX2, 19, rfl, by decide, inX2, (pw_in (List.mem_of_getElem? (i := 205) (by decide +kernel)) (by decide +kernel))⟩
theorem fX3_51 : pw_F RX3 51 2 14 := ⟨RX2, TX2, 19, rfl, by decide, inX2, (pw_in (List.mem_of_getElem? (i := 208) (by decide +kernel)) (by decide +kernel))⟩
theorem fX3_54 : pw_F RX3 54 2 3 := ⟨RX2, TX2, 19, rfl, by decide, inX2, (pw_in (List.mem_of_getElem? (i := 186) (by decide +kernel)) (by decide +kernel))⟩
theorem fX3_57 : pw_F RX3 57 0 0 := ⟨RX0, TX0, 3, rfl, by decide, inX0, (pw_in (List.mem_of_getElem? (i := 120) (by decide +kernel)) (by decide +kernel))⟩
theorem kX3_3 : Cond.methodLink RX3 3 Lib.objectInit ∈ pw_tbl := (pw_in (List.mem_of_getElem? (i := 158) (by decide +kernel)) (by decide +kernel))
theorem okX3_eachHasAPlace : pw_ok mX3_eachHasAPlace 1 := ⟨(pw_in (List.mem_of_getElem? (i := 68) (by decide +kernel)) (by decide +kernel)), (pw_in (List.mem_of_getElem? (i := 545) (by decide +kernel)) (by decide +kernel)), by decide +kernel, by decide⟩
theorem kX3_18 : pw_CS RX3 18 mX3_eachHasAPlace 1 := ⟨okX3_eachHasAPlace, (pw_in (List.mem_of_getElem? (i := 543) (by decide +kernel)) (by decide +kernel)), (pw_in (List.mem_of_getElem? (i := 544) (by decide +kernel)) (by decide +kernel))⟩
theorem kX3_28 : pw_CS RX3 28 mJ7_fill_53178 2 := ⟨okJ7_fill_53178, (pw_in (List.mem_of_getElem? (i := 547) (by decide +kernel)) (by decide +kernel)), (pw_in (List.mem_of_getElem? (i := 263) (by decide +kernel)) (by decide +kernel))⟩
theorem okX3_putFrom : pw_ok mX3_putFrom 5 := ⟨(pw_in (List.mem_of_getElem? (i := 68) (by decide +kernel)) (by decide +kernel)), (pw_in (List.mem_of_getElem? (i := 550) (by decide +kernel)) (by decide +kernel)), by decide +kernel, by decide⟩
theorem kX3_34 : pw_CS RX3 34 mX3_putFrom 5 := ⟨okX3_putFrom, (pw_in (List.mem_of_getElem? (i := 548) (by decide +kernel)) (by decide +kernel)), (pw_in (List.mem_of_getElem? (i := 549) (by decide +kernel)) (by decide +kernel))⟩
theorem kX3_47 : pw_CSN RX3 47 mX5_has 2 RX5 := ⟨okX5_has, (List.mem_of_getElem? (i := 546) (by decide +kernel)), (pw_in (List.mem_of_getElem? (i := 278) (by decide +kernel)) (by decide +kernel))⟩
theorem pX3_9 : pw_FP RX3 9 3 0 (.array .int) true := ⟨RX3, TX3, 2, tyX3, rfl, by decide, inX3, (pw_in (List.mem_of_getElem? (i := 159) (by decide +kernel)) (by decide +kernel)), tyX3_ok, nmX3, rfl, by decide +kernel, rfl⟩
theorem pX3_15 : pw_FP RX3 15 3 1 (.array .int) true := ⟨RX3, TX3, 2, tyX3, rfl, by decide, inX3, (pw_in (List.mem_of_getElem? (i := 161) (by decide +kernel)) (by decide +kernel)), tyX3_ok, nmX3, rfl, by decide +kernel, rfl⟩
theorem fX4_9 : pw_F RX4 9 4 0 := ⟨RX4, TX4, 7, rfl, by decide, inX4, (pw_in (List.mem_of_getElem? (i := 88) (by decide +kernel)) (by decide +kernel))⟩
theorem fX4_15 : pw_F RX4 15 4 1 := ⟨RX4, TX4, 7, rfl, by decide, inX4, (pw_in (List.mem_of_getElem? (i := 90) (by decide +kernel)) (by decide +kernel))⟩
theorem fX4_23 : pw_F RX4 23 4 3 := ⟨RX4, TX4, 7, rfl, by decide, inX4, (pw_in (List.mem_of_getElem? (i := 93) (by decide +kernel)) (by decide +kernel))⟩
theorem fX4_30 : pw_F RX4 30 4 4 := ⟨RX4, TX4, 7, rfl, by decide, inX4, (pw_in (List.mem_of_getElem? (i := 94) (by decide +kernel)) (by decide +kernel))⟩
theorem fX4_37 : pw_F RX4 37 4 5 := ⟨RX4, TX4, 7, rfl, by decide, inX4, (pw_in (List.mem_of_getElem? (i := 95) (by decide +kernel)) (by decide +kernel))⟩
theorem fX4_48 : pw_F RX4 48 2 0 := ⟨RX2, TX2, 19, rfl, by decide, inX2, (pw_in (List.mem_of_getElem? (i := 178) (by decide +kernel)) (by decide +kernel))⟩
theorem fX4_55 : pw_F RX4 55 4 6 := ⟨RX4, TX4, 7, rfl, by decide, inX4, (pw_in (List.mem_of_getElem? (i := 96) (by decide +kernel)) (by decide +kernel))⟩
theorem fX4_90 : pw_F RX4 90 4 2 := ⟨RX4, TX4, 7, rfl, by decide, inX4, (pw_in (List.mem_of_getElem? (i := 92) (by decide +kernel)) (by decide +kernel))⟩
theorem sX4_62 : Cond.fieldLink RX4 62 "PocketLaws$Text" (pw_sn 0) "[I" ∈ pw_tbl := (pw_in (List.mem_of_getElem? (i := 367) (by decide +kernel)) (by decide +kernel))
theorem sX4_65 : Cond.fieldLink RX4 65 "PocketLaws$Text" (pw_sn 1) "[I" ∈ pw_tbl := (pw_in (List.mem_of_getElem? (i := 369) (by decide +kernel)) (by decide +kernel))
theorem sX4_68 : Cond.fieldLink RX4 68 "PocketLaws$Text" (pw_sn 2) "[I" ∈ pw_tbl := (pw_in (List.mem_of_getElem? (i := 371) (by decide +kernel)) (by decide +kernel))
theorem sX4_71 : Cond.fieldLink RX4 71 "PocketLaws$Text" (pw_sn 3) "[I" ∈ pw_tbl := (pw_in (List.mem_of_getElem? (i := 373) (by decide +kernel)) (by decide +kernel))
theorem sX4_74 : Cond.fieldLink RX4 74 "PocketLaws$Text" (pw_sn 4) "[I" ∈ pw_tbl := (pw_in (List.mem_of_getElem? (i := 375) (by decide +kernel)) (by decide +kernel))
theorem sX4_77 : Cond.fieldLink RX4 77 "PocketLaws$Text" (pw_sn 5) "[I" ∈ pw_tbl := (pw_in (List.mem_of_getElem? (i := 377) (by decide +kernel)) (by decide +kernel))
theorem sX4_80 : Cond.fieldLink RX4 80 "PocketLaws$Text" (pw_sn 6) "[I" ∈ pw_tbl := (pw_in (List.mem_of_getElem? (i := 387) (by decide +kernel)) (by decide +kernel))
theorem sX4_83 : Cond.fieldLink RX4 83 "PocketLaws$Text" (pw_sn 7) "[I" ∈ pw_tbl := (pw_in (List.mem_of_getElem? (i := 389) (by decide +kernel)) (by decide +kernel))
theorem kX4_3 : Cond.methodLink RX4 3 Lib.objectInit ∈ pw_tbl := (pw_in (List.mem_of_getElem? (i := 87) (by decide +kernel)) (by decide +kernel))
theorem okX4_formOf : pw_ok mX4_formOf 1 := ⟨(pw_in (List.mem_of_getElem? (i := 65) (by decide +kernel)) (by decide +kernel)), (pw_in (List.mem_of_getElem? (i := 366) (by decide +kernel)) (by decide +kernel)), by decide +kernel, by decide⟩
theorem kX4_40 : pw_CS RX4 40 mX4_formOf 1 := ⟨okX4_formOf, (pw_in (List.mem_of_getElem? (i := 364) (by decide +kernel)) (by decide +kernel)), (pw_in (List.mem_of_getElem? (i := 365) (by decide +kernel)) (by decide +kernel))⟩
theorem okX5_within : pw_ok mX5_within 3 := ⟨(pw_in (List.mem_of_getElem? (i := 64) (by decide +kernel)) (by decide +kernel)), (pw_in (List.mem_of_getElem? (i := 331) (by decide +kernel)) (by decide +kernel)), by decide +kernel, by decide⟩
theorem kX4_86 : pw_CSN RX4 86 mX5_within 3 RX5 := ⟨okX5_within, (List.mem_of_getElem? (i := 352) (by decide +kernel)), (pw_in (List.mem_of_getElem? (i := 330) (by decide +kernel)) (by decide +kernel))⟩
theorem okX4_isDigit : pw_ok mX4_isDigit 1 := ⟨(pw_in (List.mem_of_getElem? (i := 65) (by decide +kernel)) (by decide +kernel)), (pw_in (List.mem_of_getElem? (i := 351) (by decide +kernel)) (by decide +kernel)), by decide +kernel, by decide⟩
theorem kX4_93 : pw_CS RX4 93 mX4_isDigit 1 := ⟨okX4_isDigit, (pw_in (List.mem_of_getElem? (i := 349) (by decide +kernel)) (by decide +kernel)), (pw_in (List.mem_of_getElem? (i := 350) (by decide +kernel)) (by decide +kernel))⟩
theorem kX4_99 : pw_CS RX4 99 mJ9_min_7cf53 2 := ⟨okJ9_min_7cf53, (pw_in (List.mem_of_getElem? (i := 357) (by decide +kernel)) (by decide +kernel)), (pw_in (List.mem_of_getElem? (i := 358) (by decide +kernel)) (by decide +kernel))⟩
theorem okX2_forgetAll : pw_ok mX2_forgetAll 0 := ⟨(pw_in (List.mem_of_getElem? (i := 69) (by decide +kernel)) (by decide +kernel)), (pw_in (List.mem_of_getElem? (i := 261) (by decide +kernel)) (by decide +kernel)), by decide +kernel, by decide⟩
theorem kX4_18 : pw_CV RX4 18 mX2_forgetAll 0 := ⟨okX2_forgetAll, (pw_in (List.mem_of_getElem? (i := 344) (by decide +kernel)) (by decide +kernel)), (pw_in (List.mem_of_getElem? (i := 259) (by decide +kernel)) (by decide +kernel)), (pw_in (List.mem_of_getElem? (i := 260) (by decide +kernel)) (by decide +kernel))⟩
theorem okX4_readToken : pw_ok mX4_readToken 0 := ⟨(pw_in (List.mem_of_getElem? (i := 65) (by decide +kernel)) (by decide +kernel)), (pw_in (List.mem_of_getElem? (i := 348) (by decide +kernel)) (by decide +kernel)), by decide +kernel, by decide⟩
theorem kX4_27 : pw_CV RX4 27 mX4_readToken 0 := ⟨okX4_readToken, (pw_in (List.mem_of_getElem? (i := 345) (by decide +kernel)) (by decide +kernel)), (pw_in (List.mem_of_getElem? (i := 347) (by decide +kernel)) (by decide +kernel)), (pw_in (List.mem_of_getElem? (i := 4) (by decide +kernel)) (by decide +kernel))⟩
theorem okX4_readItem : pw_ok mX4_readItem 1 := ⟨(pw_in (List.mem_of_getElem? (i := 65) (by decide +kernel)) (by decide +kernel)), (pw_in (List.mem_of_getElem? (i := 363) (by decide +kernel)) (by decide +kernel)), by decide +kernel, by decide⟩
theorem kX4_33 : pw_CV RX4 33 mX4_readItem 1 := ⟨okX4_readItem, (pw_in (List.mem_of_getElem? (i := 360) (by decide +kernel)) (by decide +kernel)), (pw_in (List.mem_of_getElem? (i := 362) (by decide +kernel)) (by decide +kernel)), (pw_in (List.mem_of_getElem? (i := 6) (by decide +kernel)) (by decide +kernel))⟩
theorem okX2_hasRoomFor : pw_ok mX2_hasRoomFor 1 := ⟨(pw_in (List.mem_of_getElem? (i := 69) (by decide +kernel)) (by decide +kernel)), (pw_in (List.mem_of_getElem? (i := 382) (by decide +kernel)) (by decide +kernel)), by decide +kernel, by decide⟩
theorem kX4_44 : pw_CV RX4 44 mX2_hasRoomFor 1 := ⟨okX2_hasRoomFor, (pw_in (List.mem_of_getElem? (i := 379) (by decide +kernel)) (by decide +kernel)), (pw_in (List.mem_of_getElem? (i := 380) (by decide +kernel)) (by decide +kernel)), (pw_in (List.mem_of_getElem? (i := 381) (by decide +kernel)) (by decide +kernel))⟩
theorem okX4_mayBe : pw_ok mX4_mayBe 2 := ⟨(pw_in (List.mem_of_getElem? (i := 65) (by decide +kernel)) (by decide +kernel)), (pw_in (List.mem_of_getElem? (i := 386) (by decide +kernel)) (by decide +kernel)), by decide +kernel, by decide⟩
theorem kX4_51 : pw_CV RX4 51 mX4_mayBe 2 := ⟨okX4_mayBe, (pw_in (List.mem_of_getElem? (i := 383) (by decide +kernel)) (by decide +kernel)), (pw_in (List.mem_of_getElem? (i := 385) (by decide +kernel)) (by decide +kernel)), (pw_in (List.mem_of_getElem? (i := 7) (by decide +kernel)) (by decide +kernel))⟩
theorem okX2_tell : pw_ok mX2_tell 2 := ⟨(pw_in (List.mem_of_getElem? (i := 69) (by decide +kernel)) (by decide +kernel)), (pw_in (List.mem_of_getElem? (i := 394) (by decide +kernel)) (by decide +kernel)), by decide +kernel, by decide⟩
theorem kX4_58 : pw_CV RX4 58 mX2_tell 2 := ⟨okX2_tell, (pw_in (List.mem_of_getElem? (i := 391) (by decide +kernel)) (by decide +kernel)), (pw_in (List.mem_of_getElem? (i := 392) (by decide +kernel)) (by decide +kernel)), (pw_in (List.mem_of_getElem? (i := 393) (by decide +kernel)) (by decide +kernel))⟩
theorem okX4_readNumber : pw_ok mX4_readNumber 0 := ⟨(pw_in (List.mem_of_getElem? (i := 65) (by decide +kernel)) (by decide +kernel)), (pw_in (List.mem_of_getElem? (i := 356) (by decide +kernel)) (by decide +kernel)), by decide +kernel, by decide⟩
theorem kX4_96 : pw_CV RX4 96 mX4_readNumber 0 := ⟨okX4_readNumber, (pw_in (List.mem_of_getElem? (i := 353) (by decide +kernel)) (by decide +kernel)), (pw_in (List.mem_of_getElem? (i := 355) (by decide +kernel)) (by decide +kernel)), (pw_in (List.mem_of_getElem? (i := 5) (by decide +kernel)) (by decide +kernel))⟩
theorem pX4_9 : pw_FP RX4 9 4 0 (.array .int) true := ⟨RX4, TX4, 7, tyX4, rfl, by decide, inX4, (pw_in (List.mem_of_getElem? (i := 88) (by decide +kernel)) (by decide +kernel)), tyX4_ok, nmX4, rfl, by decide +kernel, rfl⟩
theorem pX4_15 : pw_FP RX4 15 4 1 (.array .int) true := ⟨RX4, TX4, 7, tyX4, rfl, by decide, inX4, (pw_in (List.mem_of_getElem? (i := 90) (by decide +kernel)) (by decide +kernel)), tyX4_ok, nmX4, rfl, by decide +kernel, rfl⟩
theorem pX4_23 : pw_FP RX4 23 4 3 (.int) false := ⟨RX4, TX4, 7, tyX4, rfl, by decide, inX4, (pw_in (List.mem_of_getElem? (i := 93) (by decide +kernel)) (by decide +kernel)), tyX4_ok, nmX4, rfl, by decide +kernel, rfl⟩
theorem pX4_30 : pw_FP RX4 30 4 4 (.int) false := ⟨RX4, TX4, 7, tyX4, rfl, by decide, inX4, (pw_in (List.mem_of_getElem? (i := 94) (by decide +kernel)) (by decide +kernel)), tyX4_ok, nmX4, rfl, by decide +kernel, rfl⟩
theorem pX4_37 : pw_FP RX4 37 4 5 (.int) false := ⟨RX4, TX4, 7, tyX4, rfl, by decide, inX4, (pw_in (List.mem_of_getElem? (i := 95) (by decide +kernel)) (by decide +kernel)), tyX4_ok, nmX4, rfl, by decide +kernel, rfl⟩
theorem pX4_55 : pw_FP RX4 55 4 6 (.int) false := ⟨RX4, TX4, 7, tyX4, rfl, by decide, inX4, (pw_in (List.mem_of_getElem? (i := 96) (by decide +kernel)) (by decide +kernel)), tyX4_ok, nmX4, rfl, by decide +kernel, rfl⟩
theorem aX5_16 : Cond.classLink RX5 16 "PocketLaws$Now" ∈ pw_tbl := (pw_in (List.mem_of_getElem? (i := 113) (by decide +kernel)) (by decide +kernel))
theorem fX5_10 : pw_F RX5 10 5 0 := ⟨RX5, TX5, 12, rfl, by decide, inX5, (pw_in (List.mem_of_getElem? (i := 288) (by decide +kernel)) (by decide +kernel))⟩
theorem fX5_19 : pw_F RX5 19 5 1 := ⟨RX5, TX5, 12, rfl, by decide, inX5, (pw_in (List.mem_of_getElem? (i := 289) (by decide +kernel)) (by decide +kernel))⟩
theorem fX5_26 : pw_F RX5 26 5 2 := ⟨RX5, TX5, 12, rfl, by decide, inX5, (pw_in (List.mem_of_getElem? (i := 290) (by decide +kernel)) (by decide +kernel))⟩
theorem fX5_30 : pw_F RX5 30 5 3 := ⟨RX5, TX5, 12, rfl, by decide, inX5, (pw_in (List.mem_of_getElem? (i := 291) (by decide +kernel)) (by decide +kernel))⟩
theorem fX5_34 : pw_F RX5 34 5 4 := ⟨RX5, TX5, 12, rfl, by decide, inX5, (pw_in (List.mem_of_getElem? (i := 292) (by decide +kernel)) (by decide +kernel))⟩
theorem fX5_41 : pw_F RX5 41 5 5 := ⟨RX5, TX5, 12, rfl, by decide, inX5, (pw_in (List.mem_of_getElem? (i := 293) (by decide +kernel)) (by decide +kernel))⟩
theorem fX5_45 : pw_F RX5 45 5 6 := ⟨RX5, TX5, 12, rfl, by decide, inX5, (pw_in (List.mem_of_getElem? (i := 294) (by decide +kernel)) (by decide +kernel))⟩
theorem fX5_49 : pw_F RX5 49 5 7 := ⟨RX5, TX5, 12, rfl, by decide, inX5, (pw_in (List.mem_of_getElem? (i := 295) (by decide +kernel)) (by decide +kernel))⟩
theorem fX5_52 : pw_F RX5 52 5 8 := ⟨RX5, TX5, 12, rfl, by decide, inX5, (pw_in (List.mem_of_getElem? (i := 296) (by decide +kernel)) (by decide +kernel))⟩
theorem fX5_58 : pw_F RX5 58 5 9 := ⟨RX5, TX5, 12, rfl, by decide, inX5, (pw_in (List.mem_of_getElem? (i := 297) (by decide +kernel)) (by decide +kernel))⟩
theorem fX5_62 : pw_F RX5 62 5 10 := ⟨RX5, TX5, 12, rfl, by decide, inX5, (pw_in (List.mem_of_getElem? (i := 298) (by decide +kernel)) (by decide +kernel))⟩
theorem fX5_75 : pw_F RX5 75 4 2 := ⟨RX4, TX4, 7, rfl, by decide, inX4, (pw_in (List.mem_of_getElem? (i := 91) (by decide +kernel)) (by decide +kernel))⟩
theorem fX5_79 : pw_F RX5 79 4 0 := ⟨RX4, TX4, 7, rfl, by decide, inX4, (pw_in (List.mem_of_getElem? (i := 89) (by decide +kernel)) (by decide +kernel))⟩
theorem fX5_90 : pw_F RX5 90 1 1 := ⟨RX1, TX1, 3, rfl, by decide, inX1, (pw_in (List.mem_of_getElem? (i := 144) (by decide +kernel)) (by decide +kernel))⟩
theorem fX5_97 : pw_F RX5 97 2 3 := ⟨RX2, TX2, 19, rfl, by decide, inX2, (pw_in (List.mem_of_getElem? (i := 187) (by decide +kernel)) (by decide +kernel))⟩
theorem fX5_100 : pw_F RX5 100 2 4 := ⟨RX2, TX2, 19, rfl, by decide, inX2, (pw_in (List.mem_of_getElem? (i := 189) (by decide +kernel)) (by decide +kernel))⟩
theorem fX5_103 : pw_F RX5 103 2 5 := ⟨RX2, TX2, 19, rfl, by decide, inX2, (pw_in (List.mem_of_getElem? (i := 191) (by decide +kernel)) (by decide +kernel))⟩
theorem fX5_106 : pw_F RX5 106 2 6 := ⟨RX2, TX2, 19, rfl, by decide, inX2, (pw_in (List.mem_of_getElem? (i := 193) (by decide +kernel)) (by decide +kernel))⟩
theorem fX5_116 : pw_F RX5 116 2 9 := ⟨RX2, TX2, 19, rfl, by decide, inX2, (pw_in (List.mem_of_getElem? (i := 197) (by decide +kernel)) (by decide +kernel))⟩
theorem fX5_119 : pw_F RX5 119 2 10 := ⟨RX2, TX2, 19, rfl, by decide, inX2, (pw_in (List.mem_of_getElem? (i := 199) (by decide +kernel)) (by decide +kernel))⟩
theorem fX5_125 : pw_F RX5 125 2 13 := ⟨RX2, TX2, 19, rfl, by decide, inX2, (pw_in (List.mem_of_getElem? (i := 206) (by decide +kernel)) (by decide +kernel))⟩
theorem fX5_128 : pw_F RX5 128 2 14 := ⟨RX2, TX2, 19, rfl, by decide, inX2, (pw_in (List.mem_of_getElem? (i := 209) (by decide +kernel)) (by decide +kernel))⟩
theorem fX5_131 : pw_F RX5 131 2 15 := ⟨RX2, TX2, 19, rfl, by decide, inX2, (pw_in (List.mem_of_getElem? (i := 211) (by decide +kernel)) (by decide +kernel))⟩
theorem fX5_134 : pw_F RX5 134 0 0 := ⟨RX0, TX0, 3, rfl, by decide, inX0, (pw_in (List.mem_of_getElem? (i := 121) (by decide +kernel)) (by decide +kernel))⟩
theorem fX5_140 : pw_F RX5 140 2 17 := ⟨RX2, TX2, 19, rfl, by decide, inX2, (pw_in (List.mem_of_getElem? (i := 216) (by decide +kernel)) (by decide +kernel))⟩
theorem fX5_147 : pw_F RX5 147 2 18 := ⟨RX2, TX2, 19, rfl, by decide, inX2, (pw_in (List.mem_of_getElem? (i := 218) (by decide +kernel)) (by decide +kernel))⟩
theorem fX5_150 : pw_F RX5 150 0 2 := ⟨RX0, TX0, 3, rfl, by decide, inX0, (pw_in (List.mem_of_getElem? (i := 125) (by decide +kernel)) (by decide +kernel))⟩
theorem fX5_153 : pw_F RX5 153 0 1 := ⟨RX0, TX0, 3, rfl, by decide, inX0, (pw_in (List.mem_of_getElem? (i := 123) (by decide +kernel)) (by decide +kernel))⟩
theorem fX5_177 : pw_F RX5 177 2 1 := ⟨RX2, TX2, 19, rfl, by decide, inX2, (pw_in (List.mem_of_getElem? (i := 182) (by decide +kernel)) (by decide +kernel))⟩
theorem fX5_194 : pw_F RX5 194 3 0 := ⟨RX3, TX3, 2, rfl, by decide, inX3, (pw_in (List.mem_of_getElem? (i := 160) (by decide +kernel)) (by decide +kernel))⟩
theorem fX5_206 : pw_F RX5 206 2 0 := ⟨RX2, TX2, 19, rfl, by decide, inX2, (pw_in (List.mem_of_getElem? (i := 179) (by decide +kernel)) (by decide +kernel))⟩
theorem fX5_209 : pw_F RX5 209 2 12 := ⟨RX2, TX2, 19, rfl, by decide, inX2, (pw_in (List.mem_of_getElem? (i := 203) (by decide +kernel)) (by decide +kernel))⟩
theorem fX5_257 : pw_F RX5 257 2 2 := ⟨RX2, TX2, 19, rfl, by decide, inX2, (pw_in (List.mem_of_getElem? (i := 184) (by decide +kernel)) (by decide +kernel))⟩
theorem fX5_260 : pw_F RX5 260 5 11 := ⟨RX5, TX5, 12, rfl, by decide, inX5, (pw_in (List.mem_of_getElem? (i := 299) (by decide +kernel)) (by decide +kernel))⟩
theorem fX5_264 : pw_F RX5 264 2 11 := ⟨RX2, TX2, 19, rfl, by decide, inX2, (pw_in (List.mem_of_getElem? (i := 201) (by decide +kernel)) (by decide +kernel))⟩
theorem kX5_1 : Cond.methodLink RX5 1 Lib.objectInit ∈ pw_tbl := (pw_in (List.mem_of_getElem? (i := 79) (by decide +kernel)) (by decide +kernel))
theorem okX4_init : pw_ok mX4_init 0 := ⟨(pw_in (List.mem_of_getElem? (i := 65) (by decide +kernel)) (by decide +kernel)), (pw_in (List.mem_of_getElem? (i := 86) (by decide +kernel)) (by decide +kernel)), by decide +kernel, by decide⟩
theorem kX5_9 : pw_CIN RX5 9 mX4_init 0 RX5 := ⟨okX4_init, (List.mem_of_getElem? (i := 84) (by decide +kernel)), (pw_in (List.mem_of_getElem? (i := 85) (by decide +kernel)) (by decide +kernel)), rfl, rfl⟩
theorem kX5_18 : pw_CIN RX5 18 mX0_init 0 RX5 := ⟨okX0_init, (List.mem_of_getElem? (i := 115) (by decide +kernel)), (pw_in (List.mem_of_getElem? (i := 116) (by decide +kernel)) (by decide +kernel)), rfl, rfl⟩
theorem okX1_init : pw_ok mX1_init 0 := ⟨(pw_in (List.mem_of_getElem? (i := 67) (by decide +kernel)) (by decide +kernel)), (pw_in (List.mem_of_getElem? (i := 137) (by decide +kernel)) (by decide +kernel)), by decide +kernel, by decide⟩
theorem kX5_25 : pw_CI RX5 25 mX1_init 0 := ⟨okX1_init, (pw_in (List.mem_of_getElem? (i := 135) (by decide +kernel)) (by decide +kernel)), (pw_in (List.mem_of_getElem? (i := 136) (by decide +kernel)) (by decide +kernel)), rfl, rfl⟩
theorem okX3_init : pw_ok mX3_init 0 := ⟨(pw_in (List.mem_of_getElem? (i := 68) (by decide +kernel)) (by decide +kernel)), (pw_in (List.mem_of_getElem? (i := 157) (by decide +kernel)) (by decide +kernel)), by decide +kernel, by decide⟩
theorem kX5_40 : pw_CIN RX5 40 mX3_init 0 RX5 := ⟨okX3_init, (List.mem_of_getElem? (i := 155) (by decide +kernel)), (pw_in (List.mem_of_getElem? (i := 156) (by decide +kernel)) (by decide +kernel)), rfl, rfl⟩
theorem okX2_init : pw_ok mX2_init 0 := ⟨(pw_in (List.mem_of_getElem? (i := 69) (by decide +kernel)) (by decide +kernel)), (pw_in (List.mem_of_getElem? (i := 172) (by decide +kernel)) (by decide +kernel)), by decide +kernel, by decide⟩
theorem kX5_57 : pw_CIN RX5 57 mX2_init 0 RX5 := ⟨okX2_init, (List.mem_of_getElem? (i := 170) (by decide +kernel)), (pw_in (List.mem_of_getElem? (i := 171) (by decide +kernel)) (by decide +kernel)), rfl, rfl⟩
theorem kX5_71 : pw_CS RX5 71 mX5_within 3 := ⟨okX5_within, (pw_in (List.mem_of_getElem? (i := 329) (by decide +kernel)) (by decide +kernel)), (pw_in (List.mem_of_getElem? (i := 330) (by decide +kernel)) (by decide +kernel))⟩
theorem kX5_143 : pw_CS RX5 143 mX5_has 2 := ⟨okX5_has, (pw_in (List.mem_of_getElem? (i := 454) (by decide +kernel)) (by decide +kernel)), (pw_in (List.mem_of_getElem? (i := 278) (by decide +kernel)) (by decide +kernel))⟩
theorem okJ9_max_7cf53 : pw_ok mJ9_max_7cf53 2 := ⟨(pw_in (List.mem_of_getElem? (i := 72) (by decide +kernel)) (by decide +kernel)), (pw_in (List.mem_of_getElem? (i := 561) (by decide +kernel)) (by decide +kernel)), by decide +kernel, by decide⟩
theorem kX5_201 : pw_CS RX5 201 mJ9_max_7cf53 2 := ⟨okJ9_max_7cf53, (pw_in (List.mem_of_getElem? (i := 559) (by decide +kernel)) (by decide +kernel)), (pw_in (List.mem_of_getElem? (i := 560) (by decide +kernel)) (by decide +kernel))⟩
theorem kX5_222 : pw_CS RX5 222 mJ7_fill_53178 2 := ⟨okJ7_fill_53178, (pw_in (List.mem_of_getElem? (i := 529) (by decide +kernel)) (by decide +kernel)), (pw_in (List.mem_of_getElem? (i := 263) (by decide +kernel)) (by decide +kernel))⟩
theorem okX5_commonDivisor : pw_ok mX5_commonDivisor 2 := ⟨(pw_in (List.mem_of_getElem? (i := 64) (by decide +kernel)) (by decide +kernel)), (pw_in (List.mem_of_getElem? (i := 607) (by decide +kernel)) (by decide +kernel)), by decide +kernel, by decide⟩
theorem kX5_232 : pw_CS RX5 232 mX5_commonDivisor 2 := ⟨okX5_commonDivisor, (pw_in (List.mem_of_getElem? (i := 605) (by decide +kernel)) (by decide +kernel)), (pw_in (List.mem_of_getElem? (i := 606) (by decide +kernel)) (by decide +kernel))⟩
theorem kX5_272 : pw_CS RX5 272 mJ9_min_7cf53 2 := ⟨okJ9_min_7cf53, (pw_in (List.mem_of_getElem? (i := 534) (by decide +kernel)) (by decide +kernel)), (pw_in (List.mem_of_getElem? (i := 358) (by decide +kernel)) (by decide +kernel))⟩
theorem kX5_278 : Cond.methodLink RX5 278 arraycopyName ∈ pw_tbl := (pw_in (List.mem_of_getElem? (i := 604) (by decide +kernel)) (by decide +kernel))
theorem kX5_65 : pw_CV RX5 65 mX2_forgetAll 0 := ⟨okX2_forgetAll, (pw_in (List.mem_of_getElem? (i := 258) (by decide +kernel)) (by decide +kernel)), (pw_in (List.mem_of_getElem? (i := 259) (by decide +kernel)) (by decide +kernel)), (pw_in (List.mem_of_getElem? (i := 260) (by decide +kernel)) (by decide +kernel))⟩
theorem okX2_settleLaws : pw_ok mX2_settleLaws 0 := ⟨(pw_in (List.mem_of_getElem? (i := 69) (by decide +kernel)) (by decide +kernel)), (pw_in (List.mem_of_getElem? (i := 268) (by decide +kernel)) (by decide +kernel)), by decide +kernel, by decide⟩
theorem kX5_68 : pw_CV RX5 68 mX2_settleLaws 0 := ⟨okX2_settleLaws, (pw_in (List.mem_of_getElem? (i := 265) (by decide +kernel)) (by decide +kernel)), (pw_in (List.mem_of_getElem? (i := 266) (by decide +kernel)) (by decide +kernel)), (pw_in (List.mem_of_getElem? (i := 267) (by decide +kernel)) (by decide +kernel))⟩
theorem okX4_readInto : pw_ok mX4_readInto 1 := ⟨(pw_in (List.mem_of_getElem? (i := 65) (by decide +kernel)) (by decide +kernel)), (pw_in (List.mem_of_getElem? (i := 343) (by decide +kernel)) (by decide +kernel)), by decide +kernel, by decide⟩
theorem kX5_82 : pw_CV RX5 82 mX4_readInto 1 := ⟨okX4_readInto, (pw_in (List.mem_of_getElem? (i := 340) (by decide +kernel)) (by decide +kernel)), (pw_in (List.mem_of_getElem? (i := 341) (by decide +kernel)) (by decide +kernel)), (pw_in (List.mem_of_getElem? (i := 342) (by decide +kernel)) (by decide +kernel))⟩
theorem okX0_begin : pw_ok mX0_begin 1 := ⟨(pw_in (List.mem_of_getElem? (i := 66) (by decide +kernel)) (by decide +kernel)), (pw_in (List.mem_of_getElem? (i := 422) (by decide +kernel)) (by decide +kernel)), by decide +kernel, by decide⟩
theorem kX5_86 : pw_CV RX5 86 mX0_begin 1 := ⟨okX0_begin, (pw_in (List.mem_of_getElem? (i := 419) (by decide +kernel)) (by decide +kernel)), (pw_in (List.mem_of_getElem? (i := 420) (by decide +kernel)) (by decide +kernel)), (pw_in (List.mem_of_getElem? (i := 421) (by decide +kernel)) (by decide +kernel))⟩
theorem okX5_isPocket : pw_ok mX5_isPocket 1 := ⟨(pw_in (List.mem_of_getElem? (i := 64) (by decide +kernel)) (by decide +kernel)), (pw_in (List.mem_of_getElem? (i := 433) (by decide +kernel)) (by decide +kernel)), by decide +kernel, by decide⟩
theorem kX5_93 : pw_CV RX5 93 mX5_isPocket 1 := ⟨okX5_isPocket, (pw_in (List.mem_of_getElem? (i := 430) (by decide +kernel)) (by decide +kernel)), (pw_in (List.mem_of_getElem? (i := 432) (by decide +kernel)) (by decide +kernel)), (pw_in (List.mem_of_getElem? (i := 14) (by decide +kernel)) (by decide +kernel))⟩
theorem okX5_filled : pw_ok mX5_filled 1 := ⟨(pw_in (List.mem_of_getElem? (i := 64) (by decide +kernel)) (by decide +kernel)), (pw_in (List.mem_of_getElem? (i := 437) (by decide +kernel)) (by decide +kernel)), by decide +kernel, by decide⟩
theorem kX5_109 : pw_CV RX5 109 mX5_filled 1 := ⟨okX5_filled, (pw_in (List.mem_of_getElem? (i := 434) (by decide +kernel)) (by decide +kernel)), (pw_in (List.mem_of_getElem? (i := 436) (by decide +kernel)) (by decide +kernel)), (pw_in (List.mem_of_getElem? (i := 15) (by decide +kernel)) (by decide +kernel))⟩
theorem okX2_depth : pw_ok mX2_depth 1 := ⟨(pw_in (List.mem_of_getElem? (i := 69) (by decide +kernel)) (by decide +kernel)), (pw_in (List.mem_of_getElem? (i := 441) (by decide +kernel)) (by decide +kernel)), by decide +kernel, by decide⟩
theorem kX5_113 : pw_CV RX5 113 mX2_depth 1 := ⟨okX2_depth, (pw_in (List.mem_of_getElem? (i := 438) (by decide +kernel)) (by decide +kernel)), (pw_in (List.mem_of_getElem? (i := 439) (by decide +kernel)) (by decide +kernel)), (pw_in (List.mem_of_getElem? (i := 440) (by decide +kernel)) (by decide +kernel))⟩
theorem okX5_isThing : pw_ok mX5_isThing 1 := ⟨(pw_in (List.mem_of_getElem? (i := 64) (by decide +kernel)) (by decide +kernel)), (pw_in (List.mem_of_getElem? (i := 449) (by decide +kernel)) (by decide +kernel)), by decide +kernel, by decide⟩
theorem kX5_122 : pw_CV RX5 122 mX5_isThing 1 := ⟨okX5_isThing, (pw_in (List.mem_of_getElem? (i := 446) (by decide +kernel)) (by decide +kernel)), (pw_in (List.mem_of_getElem? (i := 448) (by decide +kernel)) (by decide +kernel)), (pw_in (List.mem_of_getElem? (i := 16) (by decide +kernel)) (by decide +kernel))⟩
theorem okX5_isOutlawed : pw_ok mX5_isOutlawed 1 := ⟨(pw_in (List.mem_of_getElem? (i := 64) (by decide +kernel)) (by decide +kernel)), (pw_in (List.mem_of_getElem? (i := 453) (by decide +kernel)) (by decide +kernel)), by decide +kernel, by decide⟩
theorem kX5_137 : pw_CV RX5 137 mX5_isOutlawed 1 := ⟨okX5_isOutlawed, (pw_in (List.mem_of_getElem? (i := 450) (by decide +kernel)) (by decide +kernel)), (pw_in (List.mem_of_getElem? (i := 452) (by decide +kernel)) (by decide +kernel)), (pw_in (List.mem_of_getElem? (i := 17) (by decide +kernel)) (by decide +kernel))⟩
theorem okX5_outlawed : pw_ok mX5_outlawed 0 := ⟨(pw_in (List.mem_of_getElem? (i := 64) (by decide +kernel)) (by decide +kernel)), (pw_in (List.mem_of_getElem? (i := 470) (by decide +kernel)) (by decide +kernel)), by decide +kernel, by decide⟩
theorem kX5_156 : pw_CV RX5 156 mX5_outlawed 0 := ⟨okX5_outlawed, (pw_in (List.mem_of_getElem? (i := 467) (by decide +kernel)) (by decide +kernel)), (pw_in (List.mem_of_getElem? (i := 469) (by decide +kernel)) (by decide +kernel)), (pw_in (List.mem_of_getElem? (i := 18) (by decide +kernel)) (by decide +kernel))⟩
theorem okX2_parts : pw_ok mX2_parts 0 := ⟨(pw_in (List.mem_of_getElem? (i := 69) (by decide +kernel)) (by decide +kernel)), (pw_in (List.mem_of_getElem? (i := 474) (by decide +kernel)) (by decide +kernel)), by decide +kernel, by decide⟩
theorem kX5_160 : pw_CV RX5 160 mX2_parts 0 := ⟨okX2_parts, (pw_in (List.mem_of_getElem? (i := 471) (by decide +kernel)) (by decide +kernel)), (pw_in (List.mem_of_getElem? (i := 472) (by decide +kernel)) (by decide +kernel)), (pw_in (List.mem_of_getElem? (i := 473) (by decide +kernel)) (by decide +kernel))⟩
theorem okX2_opens : pw_ok mX2_opens 3 := ⟨(pw_in (List.mem_of_getElem? (i := 69) (by decide +kernel)) (by decide +kernel)), (pw_in (List.mem_of_getElem? (i := 486) (by decide +kernel)) (by decide +kernel)), by decide +kernel, by decide⟩
theorem kX5_163 : pw_CV RX5 163 mX2_opens 3 := ⟨okX2_opens, (pw_in (List.mem_of_getElem? (i := 483) (by decide +kernel)) (by decide +kernel)), (pw_in (List.mem_of_getElem? (i := 484) (by decide +kernel)) (by decide +kernel)), (pw_in (List.mem_of_getElem? (i := 485) (by decide +kernel)) (by decide +kernel))⟩
theorem okX5_hasRoom : pw_ok mX5_hasRoom 2 := ⟨(pw_in (List.mem_of_getElem? (i := 64) (by decide +kernel)) (by decide +kernel)), (pw_in (List.mem_of_getElem? (i := 490) (by decide +kernel)) (by decide +kernel)), by decide +kernel, by decide⟩
theorem kX5_166 : pw_CV RX5 166 mX5_hasRoom 2 := ⟨okX5_hasRoom, (pw_in (List.mem_of_getElem? (i := 487) (by decide +kernel)) (by decide +kernel)), (pw_in (List.mem_of_getElem? (i := 489) (by decide +kernel)) (by decide +kernel)), (pw_in (List.mem_of_getElem? (i := 20) (by decide +kernel)) (by decide +kernel))⟩
theorem okX1_push : pw_ok mX1_push 1 := ⟨(pw_in (List.mem_of_getElem? (i := 67) (by decide +kernel)) (by decide +kernel)), (pw_in (List.mem_of_getElem? (i := 494) (by decide +kernel)) (by decide +kernel)), by decide +kernel, by decide⟩
theorem kX5_169 : pw_CV RX5 169 mX1_push 1 := ⟨okX1_push, (pw_in (List.mem_of_getElem? (i := 491) (by decide +kernel)) (by decide +kernel)), (pw_in (List.mem_of_getElem? (i := 492) (by decide +kernel)) (by decide +kernel)), (pw_in (List.mem_of_getElem? (i := 493) (by decide +kernel)) (by decide +kernel))⟩
theorem okX2_price : pw_ok mX2_price 3 := ⟨(pw_in (List.mem_of_getElem? (i := 69) (by decide +kernel)) (by decide +kernel)), (pw_in (List.mem_of_getElem? (i := 503) (by decide +kernel)) (by decide +kernel)), by decide +kernel, by decide⟩
theorem kX5_173 : pw_CV RX5 173 mX2_price 3 := ⟨okX2_price, (pw_in (List.mem_of_getElem? (i := 500) (by decide +kernel)) (by decide +kernel)), (pw_in (List.mem_of_getElem? (i := 501) (by decide +kernel)) (by decide +kernel)), (pw_in (List.mem_of_getElem? (i := 502) (by decide +kernel)) (by decide +kernel))⟩
theorem okX5_fallsThrough : pw_ok mX5_fallsThrough 1 := ⟨(pw_in (List.mem_of_getElem? (i := 64) (by decide +kernel)) (by decide +kernel)), (pw_in (List.mem_of_getElem? (i := 511) (by decide +kernel)) (by decide +kernel)), by decide +kernel, by decide⟩
theorem kX5_180 : pw_CV RX5 180 mX5_fallsThrough 1 := ⟨okX5_fallsThrough, (pw_in (List.mem_of_getElem? (i := 508) (by decide +kernel)) (by decide +kernel)), (pw_in (List.mem_of_getElem? (i := 510) (by decide +kernel)) (by decide +kernel)), (pw_in (List.mem_of_getElem? (i := 21) (by decide +kernel)) (by decide +kernel))⟩
theorem okX1_popInto : pw_ok mX1_popInto 1 := ⟨(pw_in (List.mem_of_getElem? (i := 67) (by decide +kernel)) (by decide +kernel)), (pw_in (List.mem_of_getElem? (i := 519) (by decide +kernel)) (by decide +kernel)), by decide +kernel, by decide⟩
theorem kX5_183 : pw_CV RX5 183 mX1_popInto 1 := ⟨okX1_popInto, (pw_in (List.mem_of_getElem? (i := 516) (by decide +kernel)) (by decide +kernel)), (pw_in (List.mem_of_getElem? (i := 517) (by decide +kernel)) (by decide +kernel)), (pw_in (List.mem_of_getElem? (i := 518) (by decide +kernel)) (by decide +kernel))⟩
theorem okX5_least : pw_ok mX5_least 5 := ⟨(pw_in (List.mem_of_getElem? (i := 64) (by decide +kernel)) (by decide +kernel)), (pw_in (List.mem_of_getElem? (i := 527) (by decide +kernel)) (by decide +kernel)), by decide +kernel, by decide⟩
theorem kX5_186 : pw_CV RX5 186 mX5_least 5 := ⟨okX5_least, (pw_in (List.mem_of_getElem? (i := 524) (by decide +kernel)) (by decide +kernel)), (pw_in (List.mem_of_getElem? (i := 526) (by decide +kernel)) (by decide +kernel)), (pw_in (List.mem_of_getElem? (i := 22) (by decide +kernel)) (by decide +kernel))⟩
theorem okX3_fewestMoved : pw_ok mX3_fewestMoved 2 := ⟨(pw_in (List.mem_of_getElem? (i := 68) (by decide +kernel)) (by decide +kernel)), (pw_in (List.mem_of_getElem? (i := 542) (by decide +kernel)) (by decide +kernel)), by decide +kernel, by decide⟩
theorem kX5_190 : pw_CV RX5 190 mX3_fewestMoved 2 := ⟨okX3_fewestMoved, (pw_in (List.mem_of_getElem? (i := 539) (by decide +kernel)) (by decide +kernel)), (pw_in (List.mem_of_getElem? (i := 540) (by decide +kernel)) (by decide +kernel)), (pw_in (List.mem_of_getElem? (i := 541) (by decide +kernel)) (by decide +kernel))⟩
theorem okX2_worthOf : pw_ok mX2_worthOf 2 := ⟨(pw_in (List.mem_of_getElem? (i := 69) (by decide +kernel)) (by decide +kernel)), (pw_in (List.mem_of_getElem? (i := 558) (by decide +kernel)) (by decide +kernel)), by decide +kernel, by decide⟩
theorem kX5_197 : pw_CV RX5 197 mX2_worthOf 2 := ⟨okX2_worthOf, (pw_in (List.mem_of_getElem? (i := 555) (by decide +kernel)) (by decide +kernel)), (pw_in (List.mem_of_getElem? (i := 556) (by decide +kernel)) (by decide +kernel)), (pw_in (List.mem_of_getElem? (i := 557) (by decide +kernel)) (by decide +kernel))⟩
theorem okX2_behindNights : pw_ok mX2_behindNights 3 := ⟨(pw_in (List.mem_of_getElem? (i := 69) (by decide +kernel)) (by decide +kernel)), (pw_in (List.mem_of_getElem? (i := 573) (by decide +kernel)) (by decide +kernel)), by decide +kernel, by decide⟩
theorem kX5_213 : pw_CV RX5 213 mX2_behindNights 3 := ⟨okX2_behindNights, (pw_in (List.mem_of_getElem? (i := 570) (by decide +kernel)) (by decide +kernel)), (pw_in (List.mem_of_getElem? (i := 571) (by decide +kernel)) (by decide +kernel)), (pw_in (List.mem_of_getElem? (i := 572) (by decide +kernel)) (by decide +kernel))⟩
theorem kX5_216 : pw_CV RX5 216 mX2_dropsAsFarAs 3 := ⟨okX2_dropsAsFarAs, (pw_in (List.mem_of_getElem? (i := 586) (by decide +kernel)) (by decide +kernel)), (pw_in (List.mem_of_getElem? (i := 587) (by decide +kernel)) (by decide +kernel)), (pw_in (List.mem_of_getElem? (i := 588) (by decide +kernel)) (by decide +kernel))⟩
theorem okX2_firstStitch : pw_ok mX2_firstStitch 2 := ⟨(pw_in (List.mem_of_getElem? (i := 69) (by decide +kernel)) (by decide +kernel)), (pw_in (List.mem_of_getElem? (i := 593) (by decide +kernel)) (by decide +kernel)), by decide +kernel, by decide⟩
theorem kX5_219 : pw_CV RX5 219 mX2_firstStitch 2 := ⟨okX2_firstStitch, (pw_in (List.mem_of_getElem? (i := 590) (by decide +kernel)) (by decide +kernel)), (pw_in (List.mem_of_getElem? (i := 591) (by decide +kernel)) (by decide +kernel)), (pw_in (List.mem_of_getElem? (i := 592) (by decide +kernel)) (by decide +kernel))⟩
theorem okX5_spreadChance : pw_ok mX5_spreadChance 2 := ⟨(pw_in (List.mem_of_getElem? (i := 64) (by decide +kernel)) (by decide +kernel)), (pw_in (List.mem_of_getElem? (i := 602) (by decide +kernel)) (by decide +kernel)), by decide +kernel, by decide⟩
theorem kX5_228 : pw_CV RX5 228 mX5_spreadChance 2 := ⟨okX5_spreadChance, (pw_in (List.mem_of_getElem? (i := 599) (by decide +kernel)) (by decide +kernel)), (pw_in (List.mem_of_getElem? (i := 601) (by decide +kernel)) (by decide +kernel)), (pw_in (List.mem_of_getElem? (i := 24) (by decide +kernel)) (by decide +kernel))⟩
theorem okX5_asPocket : pw_ok mX5_asPocket 1 := ⟨(pw_in (List.mem_of_getElem? (i := 64) (by decide +kernel)) (by decide +kernel)), (pw_in (List.mem_of_getElem? (i := 616) (by decide +kernel)) (by decide +kernel)), by decide +kernel, by decide⟩
theorem kX5_236 : pw_CV RX5 236 mX5_asPocket 1 := ⟨okX5_asPocket, (pw_in (List.mem_of_getElem? (i := 613) (by decide +kernel)) (by decide +kernel)), (pw_in (List.mem_of_getElem? (i := 615) (by decide +kernel)) (by decide +kernel)), (pw_in (List.mem_of_getElem? (i := 25) (by decide +kernel)) (by decide +kernel))⟩
theorem okX5_asCoat : pw_ok mX5_asCoat 1 := ⟨(pw_in (List.mem_of_getElem? (i := 64) (by decide +kernel)) (by decide +kernel)), (pw_in (List.mem_of_getElem? (i := 620) (by decide +kernel)) (by decide +kernel)), by decide +kernel, by decide⟩
theorem kX5_239 : pw_CV RX5 239 mX5_asCoat 1 := ⟨okX5_asCoat, (pw_in (List.mem_of_getElem? (i := 617) (by decide +kernel)) (by decide +kernel)), (pw_in (List.mem_of_getElem? (i := 619) (by decide +kernel)) (by decide +kernel)), (pw_in (List.mem_of_getElem? (i := 26) (by decide +kernel)) (by decide +kernel))⟩
theorem okX5_asPurse : pw_ok mX5_asPurse 1 := ⟨(pw_in (List.mem_of_getElem? (i := 64) (by decide +kernel)) (by decide +kernel)), (pw_in (List.mem_of_getElem? (i := 625) (by decide +kernel)) (by decide +kernel)), by decide +kernel, by decide⟩
theorem kX5_242 : pw_CV RX5 242 mX5_asPurse 1 := ⟨okX5_asPurse, (pw_in (List.mem_of_getElem? (i := 622) (by decide +kernel)) (by decide +kernel)), (pw_in (List.mem_of_getElem? (i := 624) (by decide +kernel)) (by decide +kernel)), (pw_in (List.mem_of_getElem? (i := 27) (by decide +kernel)) (by decide +kernel))⟩
theorem okX5_asLeague : pw_ok mX5_asLeague 1 := ⟨(pw_in (List.mem_of_getElem? (i := 64) (by decide +kernel)) (by decide +kernel)), (pw_in (List.mem_of_getElem? (i := 630) (by decide +kernel)) (by decide +kernel)), by decide +kernel, by decide⟩
theorem kX5_245 : pw_CV RX5 245 mX5_asLeague 1 := ⟨okX5_asLeague, (pw_in (List.mem_of_getElem? (i := 627) (by decide +kernel)) (by decide +kernel)), (pw_in (List.mem_of_getElem? (i := 629) (by decide +kernel)) (by decide +kernel)), (pw_in (List.mem_of_getElem? (i := 28) (by decide +kernel)) (by decide +kernel))⟩
theorem okX5_asBeggar : pw_ok mX5_asBeggar 1 := ⟨(pw_in (List.mem_of_getElem? (i := 64) (by decide +kernel)) (by decide +kernel)), (pw_in (List.mem_of_getElem? (i := 635) (by decide +kernel)) (by decide +kernel)), by decide +kernel, by decide⟩
theorem kX5_248 : pw_CV RX5 248 mX5_asBeggar 1 := ⟨okX5_asBeggar, (pw_in (List.mem_of_getElem? (i := 632) (by decide +kernel)) (by decide +kernel)), (pw_in (List.mem_of_getElem? (i := 634) (by decide +kernel)) (by decide +kernel)), (pw_in (List.mem_of_getElem? (i := 29) (by decide +kernel)) (by decide +kernel))⟩
theorem okX5_asLining : pw_ok mX5_asLining 1 := ⟨(pw_in (List.mem_of_getElem? (i := 64) (by decide +kernel)) (by decide +kernel)), (pw_in (List.mem_of_getElem? (i := 640) (by decide +kernel)) (by decide +kernel)), by decide +kernel, by decide⟩
theorem kX5_251 : pw_CV RX5 251 mX5_asLining 1 := ⟨okX5_asLining, (pw_in (List.mem_of_getElem? (i := 637) (by decide +kernel)) (by decide +kernel)), (pw_in (List.mem_of_getElem? (i := 639) (by decide +kernel)) (by decide +kernel)), (pw_in (List.mem_of_getElem? (i := 30) (by decide +kernel)) (by decide +kernel))⟩
theorem kX5_254 : pw_CV RX5 254 mX0_become 1 := ⟨okX0_become, (pw_in (List.mem_of_getElem? (i := 646) (by decide +kernel)) (by decide +kernel)), (pw_in (List.mem_of_getElem? (i := 496) (by decide +kernel)) (by decide +kernel)), (pw_in (List.mem_of_getElem? (i := 497) (by decide +kernel)) (by decide +kernel))⟩
theorem okX5_lowerCosts : pw_ok mX5_lowerCosts 5 := ⟨(pw_in (List.mem_of_getElem? (i := 64) (by decide +kernel)) (by decide +kernel)), (pw_in (List.mem_of_getElem? (i := 533) (by decide +kernel)) (by decide +kernel)), by decide +kernel, by decide⟩
theorem kX5_268 : pw_CV RX5 268 mX5_lowerCosts 5 := ⟨okX5_lowerCosts, (pw_in (List.mem_of_getElem? (i := 530) (by decide +kernel)) (by decide +kernel)), (pw_in (List.mem_of_getElem? (i := 532) (by decide +kernel)) (by decide +kernel)), (pw_in (List.mem_of_getElem? (i := 23) (by decide +kernel)) (by decide +kernel))⟩
theorem kX5_275 : pw_CV RX5 275 mX2_behindNight 2 := ⟨okX2_behindNight, (pw_in (List.mem_of_getElem? (i := 603) (by decide +kernel)) (by decide +kernel)), (pw_in (List.mem_of_getElem? (i := 575) (by decide +kernel)) (by decide +kernel)), (pw_in (List.mem_of_getElem? (i := 576) (by decide +kernel)) (by decide +kernel))⟩
theorem cX5_235 : Cond.constant RX5 235 (-1000000) ∈ pw_tbl := (pw_in (List.mem_of_getElem? (i := 612) (by decide +kernel)) (by decide +kernel))
theorem cX5_284 : Cond.constantLong RX5 284 (10) ∈ pw_tbl := (pw_in (List.mem_of_getElem? (i := 621) (by decide +kernel)) (by decide +kernel))
theorem cX5_286 : Cond.constantLong RX5 286 (100) ∈ pw_tbl := (pw_in (List.mem_of_getElem? (i := 626) (by decide +kernel)) (by decide +kernel))
theorem cX5_288 : Cond.constantLong RX5 288 (1000) ∈ pw_tbl := (pw_in (List.mem_of_getElem? (i := 631) (by decide +kernel)) (by decide +kernel))
theorem cX5_290 : Cond.constantLong RX5 290 (10000) ∈ pw_tbl := (pw_in (List.mem_of_getElem? (i := 636) (by decide +kernel)) (by decide +kernel))
theorem cX5_292 : Cond.constantLong RX5 292 (100000) ∈ pw_tbl := (pw_in (List.mem_of_getElem? (i := 641) (by decide +kernel)) (by decide +kernel))
theorem cX5_267 : Cond.constant RX5 267 (1000000) ∈ pw_tbl := (pw_in (List.mem_of_getElem? (i := 528) (by decide +kernel)) (by decide +kernel))
set_option maxRecDepth 20000 in
theorem nX5_7 : pw_NW RX5 7 4 7 [.null, .null, .int 0, .int 0, .int 0, .int 0, .int 0] := ⟨RX4, TX4, tyX4, rfl, inX4, tyX4_ok, (pw_in (List.mem_of_getElem? (i := 82) (by decide +kernel)) (by decide +kernel)), (pw_in (List.mem_of_getElem? (i := 83) (by decide +kernel)) (by decide +kernel)), (pw_in (List.mem_of_getElem? (i := 65) (by decide +kernel)) (by decide +kernel)), by decide +kernel, fun _ => rfl⟩
set_option maxRecDepth 20000 in
theorem nX5_16 : pw_NW RX5 16 0 3 [.null, .int 0, .int 0] := ⟨RX0, TX0, tyX0, rfl, inX0, tyX0_ok, (pw_in (List.mem_of_getElem? (i := 113) (by decide +kernel)) (by decide +kernel)), (pw_in (List.mem_of_getElem? (i := 114) (by decide +kernel)) (by decide +kernel)), (pw_in (List.mem_of_getElem? (i := 66) (by decide +kernel)) (by decide +kernel)), by decide +kernel, fun _ => rfl⟩
set_option maxRecDepth 20000 in
theorem nX5_23 : pw_NW RX5 23 1 3 [.null, .int 0, .int 0] := ⟨RX1, TX1, tyX1, rfl, inX1, tyX1_ok, (pw_in (List.mem_of_getElem? (i := 133) (by decide +kernel)) (by decide +kernel)), (pw_in (List.mem_of_getElem? (i := 134) (by decide +kernel)) (by decide +kernel)), (pw_in (List.mem_of_getElem? (i := 67) (by decide +kernel)) (by decide +kernel)), by decide +kernel, fun _ => rfl⟩
set_option maxRecDepth 20000 in
theorem nX5_38 : pw_NW RX5 38 3 2 [.null, .null] := ⟨RX3, TX3, tyX3, rfl, inX3, tyX3_ok, (pw_in (List.mem_of_getElem? (i := 153) (by decide +kernel)) (by decide +kernel)), (pw_in (List.mem_of_getElem? (i := 154) (by decide +kernel)) (by decide +kernel)), (pw_in (List.mem_of_getElem? (i := 68) (by decide +kernel)) (by decide +kernel)), by decide +kernel, fun _ => rfl⟩
set_option maxRecDepth 20000 in
theorem nX5_55 : pw_NW RX5 55 2 19 [.int 0, .int 0, .int 0, .null, .null, .null, .null, .null, .null, .null, .null, .null, .null, .null, .null, .null, .null, .null, .null] := ⟨RX2, TX2, tyX2, rfl, inX2, tyX2_ok, (pw_in (List.mem_of_getElem? (i := 168) (by decide +kernel)) (by decide +kernel)), (pw_in (List.mem_of_getElem? (i := 169) (by decide +kernel)) (by decide +kernel)), (pw_in (List.mem_of_getElem? (i := 69) (by decide +kernel)) (by decide +kernel)), by decide +kernel, fun _ => rfl⟩
theorem pX5_10 : pw_FP RX5 10 5 0 (.object "PocketLaws$Text") true := ⟨RX5, TX5, 12, tyX5, rfl, by decide, inX5, (pw_in (List.mem_of_getElem? (i := 288) (by decide +kernel)) (by decide +kernel)), tyX5_ok, nmX5, rfl, by decide +kernel, rfl⟩
theorem pX5_19 : pw_FP RX5 19 5 1 (.object "PocketLaws$Now") true := ⟨RX5, TX5, 12, tyX5, rfl, by decide, inX5, (pw_in (List.mem_of_getElem? (i := 289) (by decide +kernel)) (by decide +kernel)), tyX5_ok, nmX5, rfl, by decide +kernel, rfl⟩
theorem pX5_26 : pw_FP RX5 26 5 2 (.object "PocketLaws$Past") true := ⟨RX5, TX5, 12, tyX5, rfl, by decide, inX5, (pw_in (List.mem_of_getElem? (i := 290) (by decide +kernel)) (by decide +kernel)), tyX5_ok, nmX5, rfl, by decide +kernel, rfl⟩
theorem pX5_30 : pw_FP RX5 30 5 3 (.array (.object "PocketLaws$Now")) true := ⟨RX5, TX5, 12, tyX5, rfl, by decide, inX5, (pw_in (List.mem_of_getElem? (i := 291) (by decide +kernel)) (by decide +kernel)), tyX5_ok, nmX5, rfl, by decide +kernel, rfl⟩
theorem pX5_34 : pw_FP RX5 34 5 4 (.array .boolean) true := ⟨RX5, TX5, 12, tyX5, rfl, by decide, inX5, (pw_in (List.mem_of_getElem? (i := 292) (by decide +kernel)) (by decide +kernel)), tyX5_ok, nmX5, rfl, by decide +kernel, rfl⟩
theorem pX5_41 : pw_FP RX5 41 5 5 (.object "PocketLaws$Stowing") true := ⟨RX5, TX5, 12, tyX5, rfl, by decide, inX5, (pw_in (List.mem_of_getElem? (i := 293) (by decide +kernel)) (by decide +kernel)), tyX5_ok, nmX5, rfl, by decide +kernel, rfl⟩
theorem pX5_45 : pw_FP RX5 45 5 6 (.array .int) true := ⟨RX5, TX5, 12, tyX5, rfl, by decide, inX5, (pw_in (List.mem_of_getElem? (i := 294) (by decide +kernel)) (by decide +kernel)), tyX5_ok, nmX5, rfl, by decide +kernel, rfl⟩
theorem pX5_49 : pw_FP RX5 49 5 7 (.array .int) true := ⟨RX5, TX5, 12, tyX5, rfl, by decide, inX5, (pw_in (List.mem_of_getElem? (i := 295) (by decide +kernel)) (by decide +kernel)), tyX5_ok, nmX5, rfl, by decide +kernel, rfl⟩
theorem pX5_52 : pw_FP RX5 52 5 8 (.array .int) true := ⟨RX5, TX5, 12, tyX5, rfl, by decide, inX5, (pw_in (List.mem_of_getElem? (i := 296) (by decide +kernel)) (by decide +kernel)), tyX5_ok, nmX5, rfl, by decide +kernel, rfl⟩
theorem pX5_58 : pw_FP RX5 58 5 9 (.object "PocketLaws$Realm") false := ⟨RX5, TX5, 12, tyX5, rfl, by decide, inX5, (pw_in (List.mem_of_getElem? (i := 297) (by decide +kernel)) (by decide +kernel)), tyX5_ok, nmX5, rfl, by decide +kernel, rfl⟩
theorem pX5_62 : pw_FP RX5 62 5 10 (.object "PocketLaws$Realm") false := ⟨RX5, TX5, 12, tyX5, rfl, by decide, inX5, (pw_in (List.mem_of_getElem? (i := 298) (by decide +kernel)) (by decide +kernel)), tyX5_ok, nmX5, rfl, by decide +kernel, rfl⟩
theorem pX5_75 : pw_FP RX5 75 4 2 (.int) false := ⟨RX4, TX4, 7, tyX4, rfl, by decide, inX4, (pw_in (List.mem_of_getElem? (i := 91) (by decide +kernel)) (by decide +kernel)), tyX4_ok, nmX4, rfl, by decide +kernel, rfl⟩
theorem pX5_90 : pw_FP RX5 90 1 1 (.int) false := ⟨RX1, TX1, 3, tyX1, rfl, by decide, inX1, (pw_in (List.mem_of_getElem? (i := 144) (by decide +kernel)) (by decide +kernel)), tyX1_ok, nmX1, rfl, by decide +kernel, rfl⟩
theorem pX5_150 : pw_FP RX5 150 0 2 (.int) false := ⟨RX0, TX0, 3, tyX0, rfl, by decide, inX0, (pw_in (List.mem_of_getElem? (i := 125) (by decide +kernel)) (by decide +kernel)), tyX0_ok, nmX0, rfl, by decide +kernel, rfl⟩
theorem pX5_153 : pw_FP RX5 153 0 1 (.int) false := ⟨RX0, TX0, 3, tyX0, rfl, by decide, inX0, (pw_in (List.mem_of_getElem? (i := 123) (by decide +kernel)) (by decide +kernel)), tyX0_ok, nmX0, rfl, by decide +kernel, rfl⟩
theorem pX5_260 : pw_FP RX5 260 5 11 (.long) false := ⟨RX5, TX5, 12, tyX5, rfl, by decide, inX5, (pw_in (List.mem_of_getElem? (i := 299) (by decide +kernel)) (by decide +kernel)), tyX5_ok, nmX5, rfl, by decide +kernel, rfl⟩
theorem fX6_7 : pw_F RX6 7 6 0 := ⟨RX6, TX6, 36, rfl, by decide, inX6, (pw_in (List.mem_of_getElem? (i := 665) (by decide +kernel)) (by decide +kernel))⟩
theorem fX6_13 : pw_F RX6 13 6 2 := ⟨RX6, TX6, 36, rfl, by decide, inX6, (pw_in (List.mem_of_getElem? (i := 667) (by decide +kernel)) (by decide +kernel))⟩
theorem fX6_16 : pw_F RX6 16 6 4 := ⟨RX6, TX6, 36, rfl, by decide, inX6, (pw_in (List.mem_of_getElem? (i := 669) (by decide +kernel)) (by decide +kernel))⟩
theorem fX6_20 : pw_F RX6 20 6 5 := ⟨RX6, TX6, 36, rfl, by decide, inX6, (pw_in (List.mem_of_getElem? (i := 670) (by decide +kernel)) (by decide +kernel))⟩
theorem fX6_23 : pw_F RX6 23 6 7 := ⟨RX6, TX6, 36, rfl, by decide, inX6, (pw_in (List.mem_of_getElem? (i := 672) (by decide +kernel)) (by decide +kernel))⟩
theorem fX6_26 : pw_F RX6 26 6 8 := ⟨RX6, TX6, 36, rfl, by decide, inX6, (pw_in (List.mem_of_getElem? (i := 673) (by decide +kernel)) (by decide +kernel))⟩
theorem fX6_29 : pw_F RX6 29 6 9 := ⟨RX6, TX6, 36, rfl, by decide, inX6, (pw_in (List.mem_of_getElem? (i := 674) (by decide +kernel)) (by decide +kernel))⟩
theorem fX6_32 : pw_F RX6 32 6 11 := ⟨RX6, TX6, 36, rfl, by decide, inX6, (pw_in (List.mem_of_getElem? (i := 676) (by decide +kernel)) (by decide +kernel))⟩
theorem fX6_35 : pw_F RX6 35 6 12 := ⟨RX6, TX6, 36, rfl, by decide, inX6, (pw_in (List.mem_of_getElem? (i := 677) (by decide +kernel)) (by decide +kernel))⟩
theorem fX6_38 : pw_F RX6 38 6 19 := ⟨RX6, TX6, 36, rfl, by decide, inX6, (pw_in (List.mem_of_getElem? (i := 684) (by decide +kernel)) (by decide +kernel))⟩
theorem fX6_41 : pw_F RX6 41 6 21 := ⟨RX6, TX6, 36, rfl, by decide, inX6, (pw_in (List.mem_of_getElem? (i := 686) (by decide +kernel)) (by decide +kernel))⟩
theorem fX6_44 : pw_F RX6 44 6 22 := ⟨RX6, TX6, 36, rfl, by decide, inX6, (pw_in (List.mem_of_getElem? (i := 687) (by decide +kernel)) (by decide +kernel))⟩
theorem fX6_47 : pw_F RX6 47 6 24 := ⟨RX6, TX6, 36, rfl, by decide, inX6, (pw_in (List.mem_of_getElem? (i := 689) (by decide +kernel)) (by decide +kernel))⟩
theorem fX6_50 : pw_F RX6 50 6 26 := ⟨RX6, TX6, 36, rfl, by decide, inX6, (pw_in (List.mem_of_getElem? (i := 691) (by decide +kernel)) (by decide +kernel))⟩
theorem fX6_53 : pw_F RX6 53 6 28 := ⟨RX6, TX6, 36, rfl, by decide, inX6, (pw_in (List.mem_of_getElem? (i := 693) (by decide +kernel)) (by decide +kernel))⟩
theorem fX6_56 : pw_F RX6 56 6 29 := ⟨RX6, TX6, 36, rfl, by decide, inX6, (pw_in (List.mem_of_getElem? (i := 694) (by decide +kernel)) (by decide +kernel))⟩
theorem fX6_59 : pw_F RX6 59 6 30 := ⟨RX6, TX6, 36, rfl, by decide, inX6, (pw_in (List.mem_of_getElem? (i := 695) (by decide +kernel)) (by decide +kernel))⟩
theorem fX6_62 : pw_F RX6 62 6 31 := ⟨RX6, TX6, 36, rfl, by decide, inX6, (pw_in (List.mem_of_getElem? (i := 696) (by decide +kernel)) (by decide +kernel))⟩
theorem fX6_65 : pw_F RX6 65 6 32 := ⟨RX6, TX6, 36, rfl, by decide, inX6, (pw_in (List.mem_of_getElem? (i := 697) (by decide +kernel)) (by decide +kernel))⟩
theorem fX6_69 : pw_F RX6 69 6 33 := ⟨RX6, TX6, 36, rfl, by decide, inX6, (pw_in (List.mem_of_getElem? (i := 698) (by decide +kernel)) (by decide +kernel))⟩
theorem fX6_72 : pw_F RX6 72 6 34 := ⟨RX6, TX6, 36, rfl, by decide, inX6, (pw_in (List.mem_of_getElem? (i := 699) (by decide +kernel)) (by decide +kernel))⟩
theorem fX6_75 : pw_F RX6 75 6 35 := ⟨RX6, TX6, 36, rfl, by decide, inX6, (pw_in (List.mem_of_getElem? (i := 700) (by decide +kernel)) (by decide +kernel))⟩
theorem fX6_78 : pw_F RX6 78 6 3 := ⟨RX6, TX6, 36, rfl, by decide, inX6, (pw_in (List.mem_of_getElem? (i := 668) (by decide +kernel)) (by decide +kernel))⟩
theorem fX6_86 : pw_F RX6 86 6 10 := ⟨RX6, TX6, 36, rfl, by decide, inX6, (pw_in (List.mem_of_getElem? (i := 675) (by decide +kernel)) (by decide +kernel))⟩
theorem fX6_91 : pw_F RX6 91 6 1 := ⟨RX6, TX6, 36, rfl, by decide, inX6, (pw_in (List.mem_of_getElem? (i := 666) (by decide +kernel)) (by decide +kernel))⟩
theorem fX6_94 : pw_F RX6 94 6 15 := ⟨RX6, TX6, 36, rfl, by decide, inX6, (pw_in (List.mem_of_getElem? (i := 680) (by decide +kernel)) (by decide +kernel))⟩
theorem fX6_101 : pw_F RX6 101 6 18 := ⟨RX6, TX6, 36, rfl, by decide, inX6, (pw_in (List.mem_of_getElem? (i := 683) (by decide +kernel)) (by decide +kernel))⟩
theorem fX6_104 : pw_F RX6 104 6 17 := ⟨RX6, TX6, 36, rfl, by decide, inX6, (pw_in (List.mem_of_getElem? (i := 682) (by decide +kernel)) (by decide +kernel))⟩
theorem fX6_107 : pw_F RX6 107 6 16 := ⟨RX6, TX6, 36, rfl, by decide, inX6, (pw_in (List.mem_of_getElem? (i := 681) (by decide +kernel)) (by decide +kernel))⟩
theorem fX6_117 : pw_F RX6 117 6 20 := ⟨RX6, TX6, 36, rfl, by decide, inX6, (pw_in (List.mem_of_getElem? (i := 685) (by decide +kernel)) (by decide +kernel))⟩
theorem fX6_124 : pw_F RX6 124 6 25 := ⟨RX6, TX6, 36, rfl, by decide, inX6, (pw_in (List.mem_of_getElem? (i := 690) (by decide +kernel)) (by decide +kernel))⟩
theorem fX6_131 : pw_F RX6 131 6 23 := ⟨RX6, TX6, 36, rfl, by decide, inX6, (pw_in (List.mem_of_getElem? (i := 688) (by decide +kernel)) (by decide +kernel))⟩
theorem fX6_134 : pw_F RX6 134 6 27 := ⟨RX6, TX6, 36, rfl, by decide, inX6, (pw_in (List.mem_of_getElem? (i := 692) (by decide +kernel)) (by decide +kernel))⟩
theorem fX6_159 : pw_F RX6 159 6 6 := ⟨RX6, TX6, 36, rfl, by decide, inX6, (pw_in (List.mem_of_getElem? (i := 671) (by decide +kernel)) (by decide +kernel))⟩
theorem fX6_162 : pw_F RX6 162 6 13 := ⟨RX6, TX6, 36, rfl, by decide, inX6, (pw_in (List.mem_of_getElem? (i := 678) (by decide +kernel)) (by decide +kernel))⟩
theorem fX6_245 : pw_F RX6 245 6 14 := ⟨RX6, TX6, 36, rfl, by decide, inX6, (pw_in (List.mem_of_getElem? (i := 679) (by decide +kernel)) (by decide +kernel))⟩
theorem kX6_1 : Cond.methodLink RX6 1 Lib.objectInit ∈ pw_tbl := (pw_in (List.mem_of_getElem? (i := 664) (by decide +kernel)) (by decide +kernel))
theorem okX6_in : pw_ok mX6_in 3 := ⟨(pw_in (List.mem_of_getElem? (i := 71) (by decide +kernel)) (by decide +kernel)), (pw_in (List.mem_of_getElem? (i := 782) (by decide +kernel)) (by decide +kernel)), by decide +kernel, by decide⟩
theorem kX6_82 : pw_CS RX6 82 mX6_in 3 := ⟨okX6_in, (pw_in (List.mem_of_getElem? (i := 780) (by decide +kernel)) (by decide +kernel)), (pw_in (List.mem_of_getElem? (i := 781) (by decide +kernel)) (by decide +kernel))⟩
theorem okX6_has : pw_ok mX6_has 2 := ⟨(pw_in (List.mem_of_getElem? (i := 71) (by decide +kernel)) (by decide +kernel)), (pw_in (List.mem_of_getElem? (i := 883) (by decide +kernel)) (by decide +kernel)), by decide +kernel, by decide⟩
theorem kX6_165 : pw_CS RX6 165 mX6_has 2 := ⟨okX6_has, (pw_in (List.mem_of_getElem? (i := 881) (by decide +kernel)) (by decide +kernel)), (pw_in (List.mem_of_getElem? (i := 882) (by decide +kernel)) (by decide +kernel))⟩
theorem okX6_isSort : pw_ok mX6_isSort 1 := ⟨(pw_in (List.mem_of_getElem? (i := 71) (by decide +kernel)) (by decide +kernel)), (pw_in (List.mem_of_getElem? (i := 894) (by decide +kernel)) (by decide +kernel)), by decide +kernel, by decide⟩
theorem kX6_201 : pw_CS RX6 201 mX6_isSort 1 := ⟨okX6_isSort, (pw_in (List.mem_of_getElem? (i := 892) (by decide +kernel)) (by decide +kernel)), (pw_in (List.mem_of_getElem? (i := 893) (by decide +kernel)) (by decide +kernel))⟩
theorem okX6_common : pw_ok mX6_common 2 := ⟨(pw_in (List.mem_of_getElem? (i := 71) (by decide +kernel)) (by decide +kernel)), (pw_in (List.mem_of_getElem? (i := 987) (by decide +kernel)) (by decide +kernel)), by decide +kernel, by decide⟩
theorem kX6_241 : pw_CS RX6 241 mX6_common 2 := ⟨okX6_common, (pw_in (List.mem_of_getElem? (i := 985) (by decide +kernel)) (by decide +kernel)), (pw_in (List.mem_of_getElem? (i := 986) (by decide +kernel)) (by decide +kernel))⟩
theorem okX6_letterAt : pw_ok mX6_letterAt 1 := ⟨(pw_in (List.mem_of_getElem? (i := 71) (by decide +kernel)) (by decide +kernel)), (pw_in (List.mem_of_getElem? (i := 802) (by decide +kernel)) (by decide +kernel)), by decide +kernel, by decide⟩
theorem kX6_97 : pw_CV RX6 97 mX6_letterAt 1 := ⟨okX6_letterAt, (pw_in (List.mem_of_getElem? (i := 799) (by decide +kernel)) (by decide +kernel)), (pw_in (List.mem_of_getElem? (i := 801) (by decide +kernel)) (by decide +kernel)), (pw_in (List.mem_of_getElem? (i := 33) (by decide +kernel)) (by decide +kernel))⟩
theorem okX6_nextToken : pw_ok mX6_nextToken 0 := ⟨(pw_in (List.mem_of_getElem? (i := 71) (by decide +kernel)) (by decide +kernel)), (pw_in (List.mem_of_getElem? (i := 798) (by decide +kernel)) (by decide +kernel)), by decide +kernel, by decide⟩
theorem kX6_114 : pw_CV RX6 114 mX6_nextToken 0 := ⟨okX6_nextToken, (pw_in (List.mem_of_getElem? (i := 795) (by decide +kernel)) (by decide +kernel)), (pw_in (List.mem_of_getElem? (i := 797) (by decide +kernel)) (by decide +kernel)), (pw_in (List.mem_of_getElem? (i := 32) (by decide +kernel)) (by decide +kernel))⟩
theorem okX6_takes : pw_ok mX6_takes 3 := ⟨(pw_in (List.mem_of_getElem? (i := 71) (by decide +kernel)) (by decide +kernel)), (pw_in (List.mem_of_getElem? (i := 812) (by decide +kernel)) (by decide +kernel)), by decide +kernel, by decide⟩
theorem kX6_120 : pw_CV RX6 120 mX6_takes 3 := ⟨okX6_takes, (pw_in (List.mem_of_getElem? (i := 809) (by decide +kernel)) (by decide +kernel)), (pw_in (List.mem_of_getElem? (i := 811) (by decide +kernel)) (by decide +kernel)), (pw_in (List.mem_of_getElem? (i := 35) (by decide +kernel)) (by decide +kernel))⟩
theorem okX6_takesTwo : pw_ok mX6_takesTwo 0 := ⟨(pw_in (List.mem_of_getElem? (i := 71) (by decide +kernel)) (by decide +kernel)), (pw_in (List.mem_of_getElem? (i := 820) (by decide +kernel)) (by decide +kernel)), by decide +kernel, by decide⟩
theorem kX6_127 : pw_CV RX6 127 mX6_takesTwo 0 := ⟨okX6_takesTwo, (pw_in (List.mem_of_getElem? (i := 817) (by decide +kernel)) (by decide +kernel)), (pw_in (List.mem_of_getElem? (i := 819) (by decide +kernel)) (by decide +kernel)), (pw_in (List.mem_of_getElem? (i := 37) (by decide +kernel)) (by decide +kernel))⟩
theorem okX6_readPocket : pw_ok mX6_readPocket 0 := ⟨(pw_in (List.mem_of_getElem? (i := 71) (by decide +kernel)) (by decide +kernel)), (pw_in (List.mem_of_getElem? (i := 808) (by decide +kernel)) (by decide +kernel)), by decide +kernel, by decide⟩
theorem kX6_137 : pw_CV RX6 137 mX6_readPocket 0 := ⟨okX6_readPocket, (pw_in (List.mem_of_getElem? (i := 805) (by decide +kernel)) (by decide +kernel)), (pw_in (List.mem_of_getElem? (i := 807) (by decide +kernel)) (by decide +kernel)), (pw_in (List.mem_of_getElem? (i := 34) (by decide +kernel)) (by decide +kernel))⟩
theorem okX6_readLaw : pw_ok mX6_readLaw 1 := ⟨(pw_in (List.mem_of_getElem? (i := 71) (by decide +kernel)) (by decide +kernel)), (pw_in (List.mem_of_getElem? (i := 816) (by decide +kernel)) (by decide +kernel)), by decide +kernel, by decide⟩
theorem kX6_140 : pw_CV RX6 140 mX6_readLaw 1 := ⟨okX6_readLaw, (pw_in (List.mem_of_getElem? (i := 813) (by decide +kernel)) (by decide +kernel)), (pw_in (List.mem_of_getElem? (i := 815) (by decide +kernel)) (by decide +kernel)), (pw_in (List.mem_of_getElem? (i := 36) (by decide +kernel)) (by decide +kernel))⟩
theorem okX6_readSeam : pw_ok mX6_readSeam 0 := ⟨(pw_in (List.mem_of_getElem? (i := 71) (by decide +kernel)) (by decide +kernel)), (pw_in (List.mem_of_getElem? (i := 824) (by decide +kernel)) (by decide +kernel)), by decide +kernel, by decide⟩
theorem kX6_144 : pw_CV RX6 144 mX6_readSeam 0 := ⟨okX6_readSeam, (pw_in (List.mem_of_getElem? (i := 821) (by decide +kernel)) (by decide +kernel)), (pw_in (List.mem_of_getElem? (i := 823) (by decide +kernel)) (by decide +kernel)), (pw_in (List.mem_of_getElem? (i := 38) (by decide +kernel)) (by decide +kernel))⟩
theorem okX6_readHole : pw_ok mX6_readHole 0 := ⟨(pw_in (List.mem_of_getElem? (i := 71) (by decide +kernel)) (by decide +kernel)), (pw_in (List.mem_of_getElem? (i := 828) (by decide +kernel)) (by decide +kernel)), by decide +kernel, by decide⟩
theorem kX6_147 : pw_CV RX6 147 mX6_readHole 0 := ⟨okX6_readHole, (pw_in (List.mem_of_getElem? (i := 825) (by decide +kernel)) (by decide +kernel)), (pw_in (List.mem_of_getElem? (i := 827) (by decide +kernel)) (by decide +kernel)), (pw_in (List.mem_of_getElem? (i := 39) (by decide +kernel)) (by decide +kernel))⟩
theorem okX6_readTreaty : pw_ok mX6_readTreaty 0 := ⟨(pw_in (List.mem_of_getElem? (i := 71) (by decide +kernel)) (by decide +kernel)), (pw_in (List.mem_of_getElem? (i := 832) (by decide +kernel)) (by decide +kernel)), by decide +kernel, by decide⟩
theorem kX6_150 : pw_CV RX6 150 mX6_readTreaty 0 := ⟨okX6_readTreaty, (pw_in (List.mem_of_getElem? (i := 829) (by decide +kernel)) (by decide +kernel)), (pw_in (List.mem_of_getElem? (i := 831) (by decide +kernel)) (by decide +kernel)), (pw_in (List.mem_of_getElem? (i := 40) (by decide +kernel)) (by decide +kernel))⟩
theorem okX6_readThing : pw_ok mX6_readThing 0 := ⟨(pw_in (List.mem_of_getElem? (i := 71) (by decide +kernel)) (by decide +kernel)), (pw_in (List.mem_of_getElem? (i := 836) (by decide +kernel)) (by decide +kernel)), by decide +kernel, by decide⟩
theorem kX6_153 : pw_CV RX6 153 mX6_readThing 0 := ⟨okX6_readThing, (pw_in (List.mem_of_getElem? (i := 833) (by decide +kernel)) (by decide +kernel)), (pw_in (List.mem_of_getElem? (i := 835) (by decide +kernel)) (by decide +kernel)), (pw_in (List.mem_of_getElem? (i := 41) (by decide +kernel)) (by decide +kernel))⟩
theorem okX6_readRealm : pw_ok mX6_readRealm 0 := ⟨(pw_in (List.mem_of_getElem? (i := 71) (by decide +kernel)) (by decide +kernel)), (pw_in (List.mem_of_getElem? (i := 794) (by decide +kernel)) (by decide +kernel)), by decide +kernel, by decide⟩
theorem kX6_156 : pw_CV RX6 156 mX6_readRealm 0 := ⟨okX6_readRealm, (pw_in (List.mem_of_getElem? (i := 791) (by decide +kernel)) (by decide +kernel)), (pw_in (List.mem_of_getElem? (i := 793) (by decide +kernel)) (by decide +kernel)), (pw_in (List.mem_of_getElem? (i := 31) (by decide +kernel)) (by decide +kernel))⟩
theorem okX6_allowsOwn : pw_ok mX6_allowsOwn 2 := ⟨(pw_in (List.mem_of_getElem? (i := 71) (by decide +kernel)) (by decide +kernel)), (pw_in (List.mem_of_getElem? (i := 887) (by decide +kernel)) (by decide +kernel)), by decide +kernel, by decide⟩
theorem kX6_169 : pw_CV RX6 169 mX6_allowsOwn 2 := ⟨okX6_allowsOwn, (pw_in (List.mem_of_getElem? (i := 884) (by decide +kernel)) (by decide +kernel)), (pw_in (List.mem_of_getElem? (i := 886) (by decide +kernel)) (by decide +kernel)), (pw_in (List.mem_of_getElem? (i := 51) (by decide +kernel)) (by decide +kernel))⟩
theorem okX6_holds : pw_ok mX6_holds 2 := ⟨(pw_in (List.mem_of_getElem? (i := 71) (by decide +kernel)) (by decide +kernel)), (pw_in (List.mem_of_getElem? (i := 880) (by decide +kernel)) (by decide +kernel)), by decide +kernel, by decide⟩
theorem kX6_172 : pw_CV RX6 172 mX6_holds 2 := ⟨okX6_holds, (pw_in (List.mem_of_getElem? (i := 877) (by decide +kernel)) (by decide +kernel)), (pw_in (List.mem_of_getElem? (i := 879) (by decide +kernel)) (by decide +kernel)), (pw_in (List.mem_of_getElem? (i := 50) (by decide +kernel)) (by decide +kernel))⟩
theorem okX6_fixedOf : pw_ok mX6_fixedOf 1 := ⟨(pw_in (List.mem_of_getElem? (i := 71) (by decide +kernel)) (by decide +kernel)), (pw_in (List.mem_of_getElem? (i := 876) (by decide +kernel)) (by decide +kernel)), by decide +kernel, by decide⟩
theorem kX6_175 : pw_CV RX6 175 mX6_fixedOf 1 := ⟨okX6_fixedOf, (pw_in (List.mem_of_getElem? (i := 873) (by decide +kernel)) (by decide +kernel)), (pw_in (List.mem_of_getElem? (i := 875) (by decide +kernel)) (by decide +kernel)), (pw_in (List.mem_of_getElem? (i := 49) (by decide +kernel)) (by decide +kernel))⟩
theorem okX6_isPocket : pw_ok mX6_isPocket 1 := ⟨(pw_in (List.mem_of_getElem? (i := 71) (by decide +kernel)) (by decide +kernel)), (pw_in (List.mem_of_getElem? (i := 844) (by decide +kernel)) (by decide +kernel)), by decide +kernel, by decide⟩
theorem kX6_178 : pw_CV RX6 178 mX6_isPocket 1 := ⟨okX6_isPocket, (pw_in (List.mem_of_getElem? (i := 841) (by decide +kernel)) (by decide +kernel)), (pw_in (List.mem_of_getElem? (i := 843) (by decide +kernel)) (by decide +kernel)), (pw_in (List.mem_of_getElem? (i := 42) (by decide +kernel)) (by decide +kernel))⟩
theorem okX6_filled : pw_ok mX6_filled 1 := ⟨(pw_in (List.mem_of_getElem? (i := 71) (by decide +kernel)) (by decide +kernel)), (pw_in (List.mem_of_getElem? (i := 848) (by decide +kernel)) (by decide +kernel)), by decide +kernel, by decide⟩
theorem kX6_181 : pw_CV RX6 181 mX6_filled 1 := ⟨okX6_filled, (pw_in (List.mem_of_getElem? (i := 845) (by decide +kernel)) (by decide +kernel)), (pw_in (List.mem_of_getElem? (i := 847) (by decide +kernel)) (by decide +kernel)), (pw_in (List.mem_of_getElem? (i := 43) (by decide +kernel)) (by decide +kernel))⟩
theorem okX6_depthOf : pw_ok mX6_depthOf 1 := ⟨(pw_in (List.mem_of_getElem? (i := 71) (by decide +kernel)) (by decide +kernel)), (pw_in (List.mem_of_getElem? (i := 852) (by decide +kernel)) (by decide +kernel)), by decide +kernel, by decide⟩
theorem kX6_184 : pw_CV RX6 184 mX6_depthOf 1 := ⟨okX6_depthOf, (pw_in (List.mem_of_getElem? (i := 849) (by decide +kernel)) (by decide +kernel)), (pw_in (List.mem_of_getElem? (i := 851) (by decide +kernel)) (by decide +kernel)), (pw_in (List.mem_of_getElem? (i := 44) (by decide +kernel)) (by decide +kernel))⟩
theorem okX6_seamsOf : pw_ok mX6_seamsOf 1 := ⟨(pw_in (List.mem_of_getElem? (i := 71) (by decide +kernel)) (by decide +kernel)), (pw_in (List.mem_of_getElem? (i := 856) (by decide +kernel)) (by decide +kernel)), by decide +kernel, by decide⟩
theorem kX6_187 : pw_CV RX6 187 mX6_seamsOf 1 := ⟨okX6_seamsOf, (pw_in (List.mem_of_getElem? (i := 853) (by decide +kernel)) (by decide +kernel)), (pw_in (List.mem_of_getElem? (i := 855) (by decide +kernel)) (by decide +kernel)), (pw_in (List.mem_of_getElem? (i := 45) (by decide +kernel)) (by decide +kernel))⟩
theorem okX6_letting : pw_ok mX6_letting 1 := ⟨(pw_in (List.mem_of_getElem? (i := 71) (by decide +kernel)) (by decide +kernel)), (pw_in (List.mem_of_getElem? (i := 872) (by decide +kernel)) (by decide +kernel)), by decide +kernel, by decide⟩
theorem kX6_190 : pw_CV RX6 190 mX6_letting 1 := ⟨okX6_letting, (pw_in (List.mem_of_getElem? (i := 869) (by decide +kernel)) (by decide +kernel)), (pw_in (List.mem_of_getElem? (i := 871) (by decide +kernel)) (by decide +kernel)), (pw_in (List.mem_of_getElem? (i := 48) (by decide +kernel)) (by decide +kernel))⟩
theorem okX6_isThing : pw_ok mX6_isThing 1 := ⟨(pw_in (List.mem_of_getElem? (i := 71) (by decide +kernel)) (by decide +kernel)), (pw_in (List.mem_of_getElem? (i := 864) (by decide +kernel)) (by decide +kernel)), by decide +kernel, by decide⟩
theorem kX6_193 : pw_CV RX6 193 mX6_isThing 1 := ⟨okX6_isThing, (pw_in (List.mem_of_getElem? (i := 861) (by decide +kernel)) (by decide +kernel)), (pw_in (List.mem_of_getElem? (i := 863) (by decide +kernel)) (by decide +kernel)), (pw_in (List.mem_of_getElem? (i := 46) (by decide +kernel)) (by decide +kernel))⟩
theorem okX6_isOutlawed : pw_ok mX6_isOutlawed 1 := ⟨(pw_in (List.mem_of_getElem? (i := 71) (by decide +kernel)) (by decide +kernel)), (pw_in (List.mem_of_getElem? (i := 868) (by decide +kernel)) (by decide +kernel)), by decide +kernel, by decide⟩
theorem kX6_196 : pw_CV RX6 196 mX6_isOutlawed 1 := ⟨okX6_isOutlawed, (pw_in (List.mem_of_getElem? (i := 865) (by decide +kernel)) (by decide +kernel)), (pw_in (List.mem_of_getElem? (i := 867) (by decide +kernel)) (by decide +kernel)), (pw_in (List.mem_of_getElem? (i := 47) (by decide +kernel)) (by decide +kernel))⟩
theorem okX6_parts : pw_ok mX6_parts 0 := ⟨(pw_in (List.mem_of_getElem? (i := 71) (by decide +kernel)) (by decide +kernel)), (pw_in (List.mem_of_getElem? (i := 907) (by decide +kernel)) (by decide +kernel)), by decide +kernel, by decide⟩
theorem kX6_204 : pw_CV RX6 204 mX6_parts 0 := ⟨okX6_parts, (pw_in (List.mem_of_getElem? (i := 904) (by decide +kernel)) (by decide +kernel)), (pw_in (List.mem_of_getElem? (i := 906) (by decide +kernel)) (by decide +kernel)), (pw_in (List.mem_of_getElem? (i := 52) (by decide +kernel)) (by decide +kernel))⟩
theorem okX6_hasRoom : pw_ok mX6_hasRoom 2 := ⟨(pw_in (List.mem_of_getElem? (i := 71) (by decide +kernel)) (by decide +kernel)), (pw_in (List.mem_of_getElem? (i := 915) (by decide +kernel)) (by decide +kernel)), by decide +kernel, by decide⟩
theorem kX6_208 : pw_CV RX6 208 mX6_hasRoom 2 := ⟨okX6_hasRoom, (pw_in (List.mem_of_getElem? (i := 912) (by decide +kernel)) (by decide +kernel)), (pw_in (List.mem_of_getElem? (i := 914) (by decide +kernel)) (by decide +kernel)), (pw_in (List.mem_of_getElem? (i := 53) (by decide +kernel)) (by decide +kernel))⟩
theorem okX6_note : pw_ok mX6_note 0 := ⟨(pw_in (List.mem_of_getElem? (i := 71) (by decide +kernel)) (by decide +kernel)), (pw_in (List.mem_of_getElem? (i := 919) (by decide +kernel)) (by decide +kernel)), by decide +kernel, by decide⟩
theorem kX6_211 : pw_CV RX6 211 mX6_note 0 := ⟨okX6_note, (pw_in (List.mem_of_getElem? (i := 916) (by decide +kernel)) (by decide +kernel)), (pw_in (List.mem_of_getElem? (i := 918) (by decide +kernel)) (by decide +kernel)), (pw_in (List.mem_of_getElem? (i := 54) (by decide +kernel)) (by decide +kernel))⟩
theorem okX6_taxOf : pw_ok mX6_taxOf 3 := ⟨(pw_in (List.mem_of_getElem? (i := 71) (by decide +kernel)) (by decide +kernel)), (pw_in (List.mem_of_getElem? (i := 923) (by decide +kernel)) (by decide +kernel)), by decide +kernel, by decide⟩
theorem kX6_214 : pw_CV RX6 214 mX6_taxOf 3 := ⟨okX6_taxOf, (pw_in (List.mem_of_getElem? (i := 920) (by decide +kernel)) (by decide +kernel)), (pw_in (List.mem_of_getElem? (i := 922) (by decide +kernel)) (by decide +kernel)), (pw_in (List.mem_of_getElem? (i := 55) (by decide +kernel)) (by decide +kernel))⟩
theorem okX6_through : pw_ok mX6_through 2 := ⟨(pw_in (List.mem_of_getElem? (i := 71) (by decide +kernel)) (by decide +kernel)), (pw_in (List.mem_of_getElem? (i := 931) (by decide +kernel)) (by decide +kernel)), by decide +kernel, by decide⟩
theorem kX6_218 : pw_CV RX6 218 mX6_through 2 := ⟨okX6_through, (pw_in (List.mem_of_getElem? (i := 928) (by decide +kernel)) (by decide +kernel)), (pw_in (List.mem_of_getElem? (i := 930) (by decide +kernel)) (by decide +kernel)), (pw_in (List.mem_of_getElem? (i := 56) (by decide +kernel)) (by decide +kernel))⟩
theorem okX6_farOf : pw_ok mX6_farOf 3 := ⟨(pw_in (List.mem_of_getElem? (i := 71) (by decide +kernel)) (by decide +kernel)), (pw_in (List.mem_of_getElem? (i := 943) (by decide +kernel)) (by decide +kernel)), by decide +kernel, by decide⟩
theorem kX6_223 : pw_CV RX6 223 mX6_farOf 3 := ⟨okX6_farOf, (pw_in (List.mem_of_getElem? (i := 940) (by decide +kernel)) (by decide +kernel)), (pw_in (List.mem_of_getElem? (i := 942) (by decide +kernel)) (by decide +kernel)), (pw_in (List.mem_of_getElem? (i := 57) (by decide +kernel)) (by decide +kernel))⟩
theorem okX6_elsewhere : pw_ok mX6_elsewhere 0 := ⟨(pw_in (List.mem_of_getElem? (i := 71) (by decide +kernel)) (by decide +kernel)), (pw_in (List.mem_of_getElem? (i := 957) (by decide +kernel)) (by decide +kernel)), by decide +kernel, by decide⟩
theorem kX6_229 : pw_CV RX6 229 mX6_elsewhere 0 := ⟨okX6_elsewhere, (pw_in (List.mem_of_getElem? (i := 954) (by decide +kernel)) (by decide +kernel)), (pw_in (List.mem_of_getElem? (i := 956) (by decide +kernel)) (by decide +kernel)), (pw_in (List.mem_of_getElem? (i := 58) (by decide +kernel)) (by decide +kernel))⟩
theorem okX6_dropsFrom : pw_ok mX6_dropsFrom 3 := ⟨(pw_in (List.mem_of_getElem? (i := 71) (by decide +kernel)) (by decide +kernel)), (pw_in (List.mem_of_getElem? (i := 970) (by decide +kernel)) (by decide +kernel)), by decide +kernel, by decide⟩
theorem kX6_234 : pw_CV RX6 234 mX6_dropsFrom 3 := ⟨okX6_dropsFrom, (pw_in (List.mem_of_getElem? (i := 967) (by decide +kernel)) (by decide +kernel)), (pw_in (List.mem_of_getElem? (i := 969) (by decide +kernel)) (by decide +kernel)), (pw_in (List.mem_of_getElem? (i := 59) (by decide +kernel)) (by decide +kernel))⟩
theorem okX6_asPocket : pw_ok mX6_asPocket 1 := ⟨(pw_in (List.mem_of_getElem? (i := 71) (by decide +kernel)) (by decide +kernel)), (pw_in (List.mem_of_getElem? (i := 1001) (by decide +kernel)) (by decide +kernel)), by decide +kernel, by decide⟩
theorem kX6_249 : pw_CV RX6 249 mX6_asPocket 1 := ⟨okX6_asPocket, (pw_in (List.mem_of_getElem? (i := 998) (by decide +kernel)) (by decide +kernel)), (pw_in (List.mem_of_getElem? (i := 1000) (by decide +kernel)) (by decide +kernel)), (pw_in (List.mem_of_getElem? (i := 61) (by decide +kernel)) (by decide +kernel))⟩
theorem okX6_asCoat : pw_ok mX6_asCoat 1 := ⟨(pw_in (List.mem_of_getElem? (i := 71) (by decide +kernel)) (by decide +kernel)), (pw_in (List.mem_of_getElem? (i := 997) (by decide +kernel)) (by decide +kernel)), by decide +kernel, by decide⟩
theorem kX6_257 : pw_CV RX6 257 mX6_asCoat 1 := ⟨okX6_asCoat, (pw_in (List.mem_of_getElem? (i := 994) (by decide +kernel)) (by decide +kernel)), (pw_in (List.mem_of_getElem? (i := 996) (by decide +kernel)) (by decide +kernel)), (pw_in (List.mem_of_getElem? (i := 60) (by decide +kernel)) (by decide +kernel))⟩
theorem okX6_asPurse : pw_ok mX6_asPurse 1 := ⟨(pw_in (List.mem_of_getElem? (i := 71) (by decide +kernel)) (by decide +kernel)), (pw_in (List.mem_of_getElem? (i := 1006) (by decide +kernel)) (by decide +kernel)), by decide +kernel, by decide⟩
theorem kX6_262 : pw_CV RX6 262 mX6_asPurse 1 := ⟨okX6_asPurse, (pw_in (List.mem_of_getElem? (i := 1003) (by decide +kernel)) (by decide +kernel)), (pw_in (List.mem_of_getElem? (i := 1005) (by decide +kernel)) (by decide +kernel)), (pw_in (List.mem_of_getElem? (i := 62) (by decide +kernel)) (by decide +kernel))⟩
theorem cX6_222 : Cond.constant RX6 222 (100000) ∈ pw_tbl := (pw_in (List.mem_of_getElem? (i := 944) (by decide +kernel)) (by decide +kernel))
theorem cX6_254 : Cond.constant RX6 254 (-1000000) ∈ pw_tbl := (pw_in (List.mem_of_getElem? (i := 992) (by decide +kernel)) (by decide +kernel))
theorem cX6_89 : Cond.constantLong RX6 89 (255) ∈ pw_tbl := (pw_in (List.mem_of_getElem? (i := 779) (by decide +kernel)) (by decide +kernel))
theorem cX6_110 : Cond.constantLong RX6 110 (48) ∈ pw_tbl := (pw_in (List.mem_of_getElem? (i := 803) (by decide +kernel)) (by decide +kernel))
theorem cX6_112 : Cond.constantLong RX6 112 (57) ∈ pw_tbl := (pw_in (List.mem_of_getElem? (i := 804) (by decide +kernel)) (by decide +kernel))
theorem cX6_199 : Cond.constantLong RX6 199 (5) ∈ pw_tbl := (pw_in (List.mem_of_getElem? (i := 895) (by decide +kernel)) (by decide +kernel))
theorem cX6_227 : Cond.constantLong RX6 227 (-1) ∈ pw_tbl := (pw_in (List.mem_of_getElem? (i := 953) (by decide +kernel)) (by decide +kernel))
theorem cX6_232 : Cond.constantLong RX6 232 (20) ∈ pw_tbl := (pw_in (List.mem_of_getElem? (i := 966) (by decide +kernel)) (by decide +kernel))
theorem cX6_237 : Cond.constantLong RX6 237 (10) ∈ pw_tbl := (pw_in (List.mem_of_getElem? (i := 983) (by decide +kernel)) (by decide +kernel))
theorem cX6_239 : Cond.constantLong RX6 239 (6) ∈ pw_tbl := (pw_in (List.mem_of_getElem? (i := 984) (by decide +kernel)) (by decide +kernel))
theorem cX6_252 : Cond.constantLong RX6 252 (100) ∈ pw_tbl := (pw_in (List.mem_of_getElem? (i := 1007) (by decide +kernel)) (by decide +kernel))
theorem cX6_255 : Cond.constantLong RX6 255 (1000) ∈ pw_tbl := (pw_in (List.mem_of_getElem? (i := 993) (by decide +kernel)) (by decide +kernel))
theorem cX6_260 : Cond.constantLong RX6 260 (10000) ∈ pw_tbl := (pw_in (List.mem_of_getElem? (i := 1002) (by decide +kernel)) (by decide +kernel))
theorem cX6_265 : Cond.constantLong RX6 265 (100000) ∈ pw_tbl := (pw_in (List.mem_of_getElem? (i := 1008) (by decide +kernel)) (by decide +kernel))
theorem pX6_7 : pw_FP RX6 7 6 0 (.array .int) true := ⟨RX6, TX6, 36, tyX6, rfl, by decide, inX6, (pw_in (List.mem_of_getElem? (i := 665) (by decide +kernel)) (by decide +kernel)), tyX6_ok, nmX6, rfl, by decide +kernel, rfl⟩
theorem pX6_13 : pw_FP RX6 13 6 2 (.array .int) true := ⟨RX6, TX6, 36, tyX6, rfl, by decide, inX6, (pw_in (List.mem_of_getElem? (i := 667) (by decide +kernel)) (by decide +kernel)), tyX6_ok, nmX6, rfl, by decide +kernel, rfl⟩
theorem pX6_16 : pw_FP RX6 16 6 4 (.array .boolean) true := ⟨RX6, TX6, 36, tyX6, rfl, by decide, inX6, (pw_in (List.mem_of_getElem? (i := 669) (by decide +kernel)) (by decide +kernel)), tyX6_ok, nmX6, rfl, by decide +kernel, rfl⟩
theorem pX6_20 : pw_FP RX6 20 6 5 (.array .int) true := ⟨RX6, TX6, 36, tyX6, rfl, by decide, inX6, (pw_in (List.mem_of_getElem? (i := 670) (by decide +kernel)) (by decide +kernel)), tyX6_ok, nmX6, rfl, by decide +kernel, rfl⟩
theorem pX6_23 : pw_FP RX6 23 6 7 (.array .int) true := ⟨RX6, TX6, 36, tyX6, rfl, by decide, inX6, (pw_in (List.mem_of_getElem? (i := 672) (by decide +kernel)) (by decide +kernel)), tyX6_ok, nmX6, rfl, by decide +kernel, rfl⟩
theorem pX6_26 : pw_FP RX6 26 6 8 (.array .int) true := ⟨RX6, TX6, 36, tyX6, rfl, by decide, inX6, (pw_in (List.mem_of_getElem? (i := 673) (by decide +kernel)) (by decide +kernel)), tyX6_ok, nmX6, rfl, by decide +kernel, rfl⟩
theorem pX6_29 : pw_FP RX6 29 6 9 (.array .int) true := ⟨RX6, TX6, 36, tyX6, rfl, by decide, inX6, (pw_in (List.mem_of_getElem? (i := 674) (by decide +kernel)) (by decide +kernel)), tyX6_ok, nmX6, rfl, by decide +kernel, rfl⟩
theorem pX6_32 : pw_FP RX6 32 6 11 (.array .int) true := ⟨RX6, TX6, 36, tyX6, rfl, by decide, inX6, (pw_in (List.mem_of_getElem? (i := 676) (by decide +kernel)) (by decide +kernel)), tyX6_ok, nmX6, rfl, by decide +kernel, rfl⟩
theorem pX6_35 : pw_FP RX6 35 6 12 (.array .int) true := ⟨RX6, TX6, 36, tyX6, rfl, by decide, inX6, (pw_in (List.mem_of_getElem? (i := 677) (by decide +kernel)) (by decide +kernel)), tyX6_ok, nmX6, rfl, by decide +kernel, rfl⟩
theorem pX6_38 : pw_FP RX6 38 6 19 (.array .int) true := ⟨RX6, TX6, 36, tyX6, rfl, by decide, inX6, (pw_in (List.mem_of_getElem? (i := 684) (by decide +kernel)) (by decide +kernel)), tyX6_ok, nmX6, rfl, by decide +kernel, rfl⟩
theorem pX6_41 : pw_FP RX6 41 6 21 (.array .boolean) true := ⟨RX6, TX6, 36, tyX6, rfl, by decide, inX6, (pw_in (List.mem_of_getElem? (i := 686) (by decide +kernel)) (by decide +kernel)), tyX6_ok, nmX6, rfl, by decide +kernel, rfl⟩
theorem pX6_44 : pw_FP RX6 44 6 22 (.array .int) true := ⟨RX6, TX6, 36, tyX6, rfl, by decide, inX6, (pw_in (List.mem_of_getElem? (i := 687) (by decide +kernel)) (by decide +kernel)), tyX6_ok, nmX6, rfl, by decide +kernel, rfl⟩
theorem pX6_47 : pw_FP RX6 47 6 24 (.array .int) true := ⟨RX6, TX6, 36, tyX6, rfl, by decide, inX6, (pw_in (List.mem_of_getElem? (i := 689) (by decide +kernel)) (by decide +kernel)), tyX6_ok, nmX6, rfl, by decide +kernel, rfl⟩
theorem pX6_50 : pw_FP RX6 50 6 26 (.array .int) true := ⟨RX6, TX6, 36, tyX6, rfl, by decide, inX6, (pw_in (List.mem_of_getElem? (i := 691) (by decide +kernel)) (by decide +kernel)), tyX6_ok, nmX6, rfl, by decide +kernel, rfl⟩
theorem pX6_53 : pw_FP RX6 53 6 28 (.array .int) true := ⟨RX6, TX6, 36, tyX6, rfl, by decide, inX6, (pw_in (List.mem_of_getElem? (i := 693) (by decide +kernel)) (by decide +kernel)), tyX6_ok, nmX6, rfl, by decide +kernel, rfl⟩
theorem pX6_56 : pw_FP RX6 56 6 29 (.array .int) true := ⟨RX6, TX6, 36, tyX6, rfl, by decide, inX6, (pw_in (List.mem_of_getElem? (i := 694) (by decide +kernel)) (by decide +kernel)), tyX6_ok, nmX6, rfl, by decide +kernel, rfl⟩
theorem pX6_59 : pw_FP RX6 59 6 30 (.array .int) true := ⟨RX6, TX6, 36, tyX6, rfl, by decide, inX6, (pw_in (List.mem_of_getElem? (i := 695) (by decide +kernel)) (by decide +kernel)), tyX6_ok, nmX6, rfl, by decide +kernel, rfl⟩
theorem pX6_62 : pw_FP RX6 62 6 31 (.array .int) true := ⟨RX6, TX6, 36, tyX6, rfl, by decide, inX6, (pw_in (List.mem_of_getElem? (i := 696) (by decide +kernel)) (by decide +kernel)), tyX6_ok, nmX6, rfl, by decide +kernel, rfl⟩
theorem pX6_65 : pw_FP RX6 65 6 32 (.array .long) true := ⟨RX6, TX6, 36, tyX6, rfl, by decide, inX6, (pw_in (List.mem_of_getElem? (i := 697) (by decide +kernel)) (by decide +kernel)), tyX6_ok, nmX6, rfl, by decide +kernel, rfl⟩
theorem pX6_69 : pw_FP RX6 69 6 33 (.array .long) true := ⟨RX6, TX6, 36, tyX6, rfl, by decide, inX6, (pw_in (List.mem_of_getElem? (i := 698) (by decide +kernel)) (by decide +kernel)), tyX6_ok, nmX6, rfl, by decide +kernel, rfl⟩
theorem pX6_72 : pw_FP RX6 72 6 34 (.array .boolean) true := ⟨RX6, TX6, 36, tyX6, rfl, by decide, inX6, (pw_in (List.mem_of_getElem? (i := 699) (by decide +kernel)) (by decide +kernel)), tyX6_ok, nmX6, rfl, by decide +kernel, rfl⟩
theorem pX6_75 : pw_FP RX6 75 6 35 (.array .int) true := ⟨RX6, TX6, 36, tyX6, rfl, by decide, inX6, (pw_in (List.mem_of_getElem? (i := 700) (by decide +kernel)) (by decide +kernel)), tyX6_ok, nmX6, rfl, by decide +kernel, rfl⟩
theorem pX6_78 : pw_FP RX6 78 6 3 (.int) false := ⟨RX6, TX6, 36, tyX6, rfl, by decide, inX6, (pw_in (List.mem_of_getElem? (i := 668) (by decide +kernel)) (by decide +kernel)), tyX6_ok, nmX6, rfl, by decide +kernel, rfl⟩
theorem pX6_86 : pw_FP RX6 86 6 10 (.int) false := ⟨RX6, TX6, 36, tyX6, rfl, by decide, inX6, (pw_in (List.mem_of_getElem? (i := 675) (by decide +kernel)) (by decide +kernel)), tyX6_ok, nmX6, rfl, by decide +kernel, rfl⟩
theorem pX6_91 : pw_FP RX6 91 6 1 (.int) false := ⟨RX6, TX6, 36, tyX6, rfl, by decide, inX6, (pw_in (List.mem_of_getElem? (i := 666) (by decide +kernel)) (by decide +kernel)), tyX6_ok, nmX6, rfl, by decide +kernel, rfl⟩
theorem pX6_94 : pw_FP RX6 94 6 15 (.int) false := ⟨RX6, TX6, 36, tyX6, rfl, by decide, inX6, (pw_in (List.mem_of_getElem? (i := 680) (by decide +kernel)) (by decide +kernel)), tyX6_ok, nmX6, rfl, by decide +kernel, rfl⟩
theorem pX6_101 : pw_FP RX6 101 6 18 (.int) false := ⟨RX6, TX6, 36, tyX6, rfl, by decide, inX6, (pw_in (List.mem_of_getElem? (i := 683) (by decide +kernel)) (by decide +kernel)), tyX6_ok, nmX6, rfl, by decide +kernel, rfl⟩
theorem pX6_104 : pw_FP RX6 104 6 17 (.int) false := ⟨RX6, TX6, 36, tyX6, rfl, by decide, inX6, (pw_in (List.mem_of_getElem? (i := 682) (by decide +kernel)) (by decide +kernel)), tyX6_ok, nmX6, rfl, by decide +kernel, rfl⟩
theorem pX6_107 : pw_FP RX6 107 6 16 (.int) false := ⟨RX6, TX6, 36, tyX6, rfl, by decide, inX6, (pw_in (List.mem_of_getElem? (i := 681) (by decide +kernel)) (by decide +kernel)), tyX6_ok, nmX6, rfl, by decide +kernel, rfl⟩
theorem pX6_117 : pw_FP RX6 117 6 20 (.int) false := ⟨RX6, TX6, 36, tyX6, rfl, by decide, inX6, (pw_in (List.mem_of_getElem? (i := 685) (by decide +kernel)) (by decide +kernel)), tyX6_ok, nmX6, rfl, by decide +kernel, rfl⟩
theorem pX6_124 : pw_FP RX6 124 6 25 (.int) false := ⟨RX6, TX6, 36, tyX6, rfl, by decide, inX6, (pw_in (List.mem_of_getElem? (i := 690) (by decide +kernel)) (by decide +kernel)), tyX6_ok, nmX6, rfl, by decide +kernel, rfl⟩
theorem pX6_131 : pw_FP RX6 131 6 23 (.int) false := ⟨RX6, TX6, 36, tyX6, rfl, by decide, inX6, (pw_in (List.mem_of_getElem? (i := 688) (by decide +kernel)) (by decide +kernel)), tyX6_ok, nmX6, rfl, by decide +kernel, rfl⟩
theorem pX6_134 : pw_FP RX6 134 6 27 (.int) false := ⟨RX6, TX6, 36, tyX6, rfl, by decide, inX6, (pw_in (List.mem_of_getElem? (i := 692) (by decide +kernel)) (by decide +kernel)), tyX6_ok, nmX6, rfl, by decide +kernel, rfl⟩
theorem pX6_159 : pw_FP RX6 159 6 6 (.int) false := ⟨RX6, TX6, 36, tyX6, rfl, by decide, inX6, (pw_in (List.mem_of_getElem? (i := 671) (by decide +kernel)) (by decide +kernel)), tyX6_ok, nmX6, rfl, by decide +kernel, rfl⟩
theorem pX6_162 : pw_FP RX6 162 6 13 (.int) false := ⟨RX6, TX6, 36, tyX6, rfl, by decide, inX6, (pw_in (List.mem_of_getElem? (i := 678) (by decide +kernel)) (by decide +kernel)), tyX6_ok, nmX6, rfl, by decide +kernel, rfl⟩
theorem pX6_245 : pw_FP RX6 245 6 14 (.long) false := ⟨RX6, TX6, 36, tyX6, rfl, by decide, inX6, (pw_in (List.mem_of_getElem? (i := 679) (by decide +kernel)) (by decide +kernel)), tyX6_ok, nmX6, rfl, by decide +kernel, rfl⟩
theorem qObjI : Cond.instanceMethod Lib.objectInit ∈ pw_tbl := (pw_in (List.mem_of_getElem? (i := 80) (by decide +kernel)) (by decide +kernel))
theorem qObjC : Cond.code Lib.objectInit ⟨#[0xb1]⟩ 1 none ∈ pw_tbl := (pw_in (List.mem_of_getElem? (i := 81) (by decide +kernel)) (by decide +kernel))
theorem qCpN : Cond.native arraycopyName ∈ pw_tbl := (pw_in (List.mem_of_getElem? (i := 425) (by decide +kernel)) (by decide +kernel))
theorem qCpS : Cond.static arraycopyName ∈ pw_tbl := (pw_in (List.mem_of_getElem? (i := 424) (by decide +kernel)) (by decide +kernel))
theorem qCpI : Cond.initialized "java/lang/System" ∈ pw_tbl := (pw_in (List.mem_of_getElem? (i := 73) (by decide +kernel)) (by decide +kernel))
theorem qA_int : Cond.arrayClass .int ∈ pw_tbl := (pw_in (List.mem_of_getElem? (i := 112) (by decide +kernel)) (by decide +kernel))
theorem qA_boolean : Cond.arrayClass .boolean ∈ pw_tbl := (pw_in (List.mem_of_getElem? (i := 167) (by decide +kernel)) (by decide +kernel))
theorem qA_long : Cond.arrayClass .long ∈ pw_tbl := (pw_in (List.mem_of_getElem? (i := 774) (by decide +kernel)) (by decide +kernel))
