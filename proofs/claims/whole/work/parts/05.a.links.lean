abbrev rmJ6_bitCount_0f7a4 : Room := { frames := 0, cells := 0, slots := 0, locals := 0 }
abbrev rmX4_addSign : Room := { frames := 0, cells := 0, slots := 0, locals := 0 }
abbrev rmX5_append : Room := { frames := 1, cells := 0, slots := 0, locals := 21 }
abbrev rxX5_append : Room := { frames := 6, cells := 1, slots := 6, locals := 90 }
abbrev rmX5_clearText : Room := { frames := 0, cells := 0, slots := 0, locals := 0 }
abbrev rmX3_makeEmpty : Room := { frames := 0, cells := 0, slots := 0, locals := 0 }
abbrev rmX3_addOne : Room := { frames := 0, cells := 0, slots := 0, locals := 0 }
abbrev rmX4_readThing : Room := { frames := 1, cells := 0, slots := 0, locals := 22 }
abbrev rmX3_exists : Room := { frames := 0, cells := 0, slots := 0, locals := 0 }
abbrev rmX4_thingAt : Room := { frames := 1, cells := 0, slots := 0, locals := 21 }
abbrev rmX3_countRights : Room := { frames := 1, cells := 0, slots := 0, locals := 20 }
abbrev rmX5_rightOf : Room := { frames := 0, cells := 0, slots := 0, locals := 0 }
abbrev rmX3_has : Room := { frames := 0, cells := 0, slots := 0, locals := 0 }
abbrev rmX3_put : Room := { frames := 0, cells := 0, slots := 0, locals := 0 }
abbrev rmX4_readRight : Room := { frames := 7, cells := 0, slots := 0, locals := 181 }
abbrev rmX4_readRights : Room := { frames := 8, cells := 0, slots := 0, locals := 206 }
abbrev rmX4_readInto : Room := { frames := 9, cells := 0, slots := 0, locals := 230 }
abbrev rmX5_errorPosition : Room := { frames := 10, cells := 0, slots := 0, locals := 252 }
abbrev rmX3_copyFrom : Room := { frames := 0, cells := 0, slots := 0, locals := 0 }
abbrev rmX5_load : Room := { frames := 10, cells := 0, slots := 0, locals := 252 }
abbrev rxX5_load : Room := { frames := 10, cells := 1, slots := 6, locals := 252 }
abbrev rmX3_isAwake : Room := { frames := 0, cells := 0, slots := 0, locals := 0 }
abbrev rmX3_addRights : Room := { frames := 0, cells := 0, slots := 0, locals := 0 }
abbrev rmX3_doStepsOf : Room := { frames := 1, cells := 0, slots := 0, locals := 23 }
abbrev rmX3_doSteps : Room := { frames := 2, cells := 0, slots := 0, locals := 48 }
abbrev rmX3_spreadOut : Room := { frames := 3, cells := 0, slots := 0, locals := 71 }
abbrev rmX5_endOf : Room := { frames := 4, cells := 0, slots := 0, locals := 93 }
abbrev rmX2_noteRound : Room := { frames := 0, cells := 0, slots := 0, locals := 0 }
abbrev rmX2_follow : Room := { frames := 3, cells := 0, slots := 0, locals := 71 }
abbrev rmX3_isPerson : Room := { frames := 0, cells := 0, slots := 0, locals := 0 }
abbrev rmX1_heard : Room := { frames := 1, cells := 0, slots := 0, locals := 22 }
abbrev rmX1_follow : Room := { frames := 2, cells := 0, slots := 0, locals := 47 }
abbrev rmX1_countPairs : Room := { frames := 1, cells := 0, slots := 0, locals := 20 }
abbrev rmX5_about : Room := { frames := 5, cells := 0, slots := 0, locals := 114 }
abbrev rxX5_about : Room := { frames := 6, cells := 1, slots := 6, locals := 114 }
abbrev rmX5_checkThing : Room := { frames := 1, cells := 0, slots := 0, locals := 21 }
abbrev rxX5_checkThing : Room := { frames := 6, cells := 1, slots := 6, locals := 90 }
abbrev rmX3_countRightsOver : Room := { frames := 1, cells := 0, slots := 0, locals := 20 }
abbrev rmX5_thing : Room := { frames := 5, cells := 0, slots := 0, locals := 114 }
abbrev rxX5_thing : Room := { frames := 7, cells := 1, slots := 6, locals := 114 }
abbrev rmX3_isRight : Room := { frames := 1, cells := 0, slots := 0, locals := 21 }
abbrev rmX5_checkRight : Room := { frames := 2, cells := 0, slots := 0, locals := 44 }
abbrev rxX5_checkRight : Room := { frames := 7, cells := 1, slots := 6, locals := 111 }
abbrev rmX5_rights : Room := { frames := 5, cells := 0, slots := 0, locals := 114 }
abbrev rxX5_rights : Room := { frames := 8, cells := 1, slots := 6, locals := 134 }
abbrev rmX2_comes : Room := { frames := 0, cells := 0, slots := 0, locals := 0 }
abbrev rmX5_round : Room := { frames := 4, cells := 0, slots := 0, locals := 93 }
abbrev rxX5_round : Room := { frames := 8, cells := 1, slots := 6, locals := 134 }
abbrev rmX5_ownerOf : Room := { frames := 0, cells := 0, slots := 0, locals := 0 }
abbrev rmX2_wayOf : Room := { frames := 1, cells := 0, slots := 0, locals := 22 }
abbrev rmX5_way : Room := { frames := 4, cells := 0, slots := 0, locals := 93 }
abbrev rxX5_way : Room := { frames := 8, cells := 1, slots := 6, locals := 134 }
abbrev rmX2_addToProof : Room := { frames := 0, cells := 0, slots := 0, locals := 0 }
abbrev rmX2_addNeeds : Room := { frames := 1, cells := 0, slots := 0, locals := 22 }
abbrev rmX2_prove : Room := { frames := 2, cells := 0, slots := 0, locals := 47 }
abbrev rmX5_proof : Room := { frames := 4, cells := 0, slots := 0, locals := 93 }
abbrev rxX5_proof : Room := { frames := 8, cells := 1, slots := 6, locals := 134 }
abbrev rmX5_forgetOldest : Room := { frames := 0, cells := 0, slots := 0, locals := 0 }
abbrev rmX5_remember : Room := { frames := 1, cells := 0, slots := 0, locals := 22 }
abbrev rmX5_addThing : Room := { frames := 2, cells := 0, slots := 0, locals := 42 }
abbrev rxX5_addThing : Room := { frames := 6, cells := 1, slots := 6, locals := 90 }
abbrev rmX3_closeGap : Room := { frames := 0, cells := 0, slots := 0, locals := 0 }
abbrev rmX3_closeGapInRow : Room := { frames := 1, cells := 0, slots := 0, locals := 23 }
abbrev rmX3_removeOne : Room := { frames := 2, cells := 0, slots := 0, locals := 47 }
abbrev rmX5_removeThing : Room := { frames := 3, cells := 0, slots := 0, locals := 70 }
abbrev rxX5_removeThing : Room := { frames := 7, cells := 1, slots := 6, locals := 111 }
abbrev rmX3_setAwake : Room := { frames := 0, cells := 0, slots := 0, locals := 0 }
abbrev rmX5_wake : Room := { frames := 5, cells := 0, slots := 0, locals := 114 }
abbrev rxX5_wake : Room := { frames := 7, cells := 1, slots := 6, locals := 114 }
abbrev rmX3_hasRoomFor : Room := { frames := 2, cells := 0, slots := 0, locals := 42 }
abbrev rmX5_set : Room := { frames := 3, cells := 0, slots := 0, locals := 67 }
abbrev rxX5_set : Room := { frames := 8, cells := 1, slots := 6, locals := 134 }
abbrev rmX3_isStep : Room := { frames := 2, cells := 0, slots := 0, locals := 44 }
abbrev rmX5_checkStep : Room := { frames := 3, cells := 0, slots := 0, locals := 68 }
abbrev rxX5_checkStep : Room := { frames := 7, cells := 1, slots := 6, locals := 111 }
abbrev rmX3_whatBars : Room := { frames := 1, cells := 0, slots := 0, locals := 22 }
abbrev rmX3_allowsStep : Room := { frames := 3, cells := 0, slots := 0, locals := 63 }
abbrev rmX5_doStep : Room := { frames := 4, cells := 0, slots := 0, locals := 92 }
abbrev rxX5_doStep : Room := { frames := 8, cells := 1, slots := 6, locals := 135 }
abbrev rmX5_take : Room := { frames := 5, cells := 0, slots := 0, locals := 117 }
abbrev rxX5_take : Room := { frames := 9, cells := 1, slots := 6, locals := 160 }
abbrev rmX5_give : Room := { frames := 5, cells := 0, slots := 0, locals := 117 }
abbrev rxX5_give : Room := { frames := 9, cells := 1, slots := 6, locals := 160 }
abbrev rmX5_undo : Room := { frames := 1, cells := 0, slots := 0, locals := 22 }
abbrev rxX5_undo : Room := { frames := 6, cells := 1, slots := 6, locals := 90 }
abbrev rmX5_whyNot : Room := { frames := 4, cells := 0, slots := 0, locals := 92 }
abbrev rxX5_whyNot : Room := { frames := 8, cells := 1, slots := 6, locals := 135 }
abbrev rmX3_spreadUntil : Room := { frames := 3, cells := 0, slots := 0, locals := 71 }
abbrev rmX5_comesWith : Room := { frames := 4, cells := 0, slots := 0, locals := 94 }
abbrev rmX5_needed : Room := { frames := 5, cells := 0, slots := 0, locals := 116 }
abbrev rxX5_needed : Room := { frames := 8, cells := 1, slots := 6, locals := 134 }
abbrev rmX2_isUsed : Room := { frames := 0, cells := 0, slots := 0, locals := 0 }
abbrev rmX0_cutsBoth : Room := { frames := 4, cells := 0, slots := 0, locals := 94 }
abbrev rmX0_findOne : Room := { frames := 5, cells := 0, slots := 0, locals := 118 }
abbrev rmX0_findTwo : Room := { frames := 5, cells := 0, slots := 0, locals := 118 }
abbrev rmX0_sizeFor : Room := { frames := 6, cells := 0, slots := 0, locals := 144 }
abbrev rmX5_cut : Room := { frames := 7, cells := 0, slots := 0, locals := 167 }
abbrev rxX5_cut : Room := { frames := 8, cells := 1, slots := 6, locals := 167 }
abbrev rmX5_kindOf : Room := { frames := 0, cells := 0, slots := 0, locals := 0 }
abbrev rmX5_objectOf : Room := { frames := 0, cells := 0, slots := 0, locals := 0 }
abbrev rmX5_numberOf : Room := { frames := 1, cells := 0, slots := 0, locals := 20 }
abbrev rmX5_cutAt : Room := { frames := 7, cells := 0, slots := 0, locals := 167 }
abbrev rxX5_cutAt : Room := { frames := 8, cells := 1, slots := 6, locals := 167 }
abbrev rmX5_sleeper : Room := { frames := 4, cells := 0, slots := 0, locals := 93 }
abbrev rmX3_isRightIndex : Room := { frames := 2, cells := 0, slots := 0, locals := 44 }
abbrev rmX5_countAtEndWith : Room := { frames := 4, cells := 0, slots := 0, locals := 93 }
abbrev rmX5_danger : Room := { frames := 5, cells := 0, slots := 0, locals := 114 }
abbrev rmX5_withoutGroups : Room := { frames := 0, cells := 0, slots := 0, locals := 0 }
abbrev rmX5_commandStep : Room := { frames := 4, cells := 0, slots := 0, locals := 88 }
abbrev rmX5_commandSet : Room := { frames := 3, cells := 0, slots := 0, locals := 63 }
abbrev rmX5_commandWake : Room := { frames := 1, cells := 0, slots := 0, locals := 22 }
abbrev rmX5_commandRemove : Room := { frames := 3, cells := 0, slots := 0, locals := 70 }
abbrev rmX5_commandLearns : Room := { frames := 3, cells := 0, slots := 0, locals := 70 }
abbrev rmX5_runCommand : Room := { frames := 5, cells := 0, slots := 0, locals := 114 }
abbrev rmX5_runScript : Room := { frames := 6, cells := 0, slots := 0, locals := 139 }
abbrev rxX5_runScript : Room := { frames := 6, cells := 1, slots := 6, locals := 139 }
abbrev rmX5_thingBeside : Room := { frames := 1, cells := 0, slots := 0, locals := 64 }
abbrev rmX5_tryByChance : Room := { frames := 4, cells := 0, slots := 0, locals := 88 }
abbrev rmX5_simulate : Room := { frames := 5, cells := 0, slots := 0, locals := 116 }
abbrev rxX5_simulate : Room := { frames := 6, cells := 1, slots := 6, locals := 116 }
abbrev rmX5_checkSlot : Room := { frames := 0, cells := 0, slots := 0, locals := 0 }
abbrev rxX5_checkSlot : Room := { frames := 6, cells := 1, slots := 6, locals := 90 }
abbrev rmX5_save : Room := { frames := 2, cells := 0, slots := 0, locals := 42 }
abbrev rxX5_save : Room := { frames := 7, cells := 1, slots := 6, locals := 110 }
abbrev rmX5_restore : Room := { frames := 2, cells := 0, slots := 0, locals := 42 }
abbrev rxX5_restore : Room := { frames := 7, cells := 1, slots := 6, locals := 110 }
abbrev rmX6_thrown : Room := { frames := 0, cells := 0, slots := 0, locals := 0 }
abbrev rmX6_in : Room := { frames := 0, cells := 0, slots := 0, locals := 0 }
abbrev rmX6_remember : Room := { frames := 0, cells := 0, slots := 0, locals := 0 }
abbrev rmX6_undo : Room := { frames := 0, cells := 0, slots := 0, locals := 0 }
abbrev rmX6_bits : Room := { frames := 0, cells := 0, slots := 0, locals := 0 }
abbrev rmX6_rightsMany : Room := { frames := 1, cells := 0, slots := 0, locals := 22 }
abbrev rmX6_save : Room := { frames := 2, cells := 0, slots := 0, locals := 44 }
abbrev rmX6_restore : Room := { frames := 2, cells := 0, slots := 0, locals := 44 }
abbrev rmX6_putAside : Room := { frames := 0, cells := 0, slots := 0, locals := 0 }
abbrev rmX6_bringBack : Room := { frames := 0, cells := 0, slots := 0, locals := 0 }
abbrev rmX6_isThing : Room := { frames := 0, cells := 0, slots := 0, locals := 0 }
abbrev rmX6_at : Room := { frames := 0, cells := 0, slots := 0, locals := 0 }
abbrev rmX6_has : Room := { frames := 1, cells := 0, slots := 0, locals := 21 }
abbrev rmX6_awakeSet : Room := { frames := 0, cells := 0, slots := 0, locals := 0 }
abbrev rmX6_ends : Room := { frames := 1, cells := 0, slots := 0, locals := 21 }
abbrev rmX6_isIn : Room := { frames := 0, cells := 0, slots := 0, locals := 0 }
abbrev rmX6_firstWay : Room := { frames := 2, cells := 0, slots := 0, locals := 44 }
abbrev rmX6_goRound : Room := { frames := 3, cells := 0, slots := 0, locals := 69 }
abbrev rmX6_spread : Room := { frames := 4, cells := 0, slots := 0, locals := 95 }
abbrev rmX6_endMany : Room := { frames := 1, cells := 0, slots := 0, locals := 22 }
abbrev rmX6_isPerson : Room := { frames := 0, cells := 0, slots := 0, locals := 0 }
abbrev rmX6_learn : Room := { frames := 2, cells := 0, slots := 0, locals := 44 }
abbrev rmX6_pairs : Room := { frames := 3, cells := 0, slots := 0, locals := 69 }
abbrev rmX6_append : Room := { frames := 1, cells := 0, slots := 0, locals := 22 }
abbrev rmX6_clearText : Room := { frames := 0, cells := 0, slots := 0, locals := 0 }
abbrev rmX6_letter : Room := { frames := 0, cells := 0, slots := 0, locals := 0 }
abbrev rmX6_kindOf : Room := { frames := 0, cells := 0, slots := 0, locals := 0 }
abbrev rmX6_rightOf : Room := { frames := 0, cells := 0, slots := 0, locals := 0 }
abbrev rmX6_isDigit : Room := { frames := 1, cells := 0, slots := 0, locals := 22 }
abbrev rmX6_readRights : Room := { frames := 2, cells := 0, slots := 0, locals := 43 }
abbrev rmX6_readText : Room := { frames := 3, cells := 0, slots := 0, locals := 69 }
abbrev rmX6_errorPosition : Room := { frames := 4, cells := 0, slots := 0, locals := 90 }
abbrev rmX6_load : Room := { frames := 4, cells := 0, slots := 0, locals := 90 }
abbrev rmX6_persons : Room := { frames := 1, cells := 0, slots := 0, locals := 21 }
abbrev rmX6_about : Room := { frames := 5, cells := 0, slots := 0, locals := 117 }
abbrev rmX6_thing : Room := { frames := 5, cells := 0, slots := 0, locals := 117 }
abbrev rmX6_rights : Room := { frames := 5, cells := 0, slots := 0, locals := 117 }
abbrev rmX6_whyNotRight : Room := { frames := 1, cells := 0, slots := 0, locals := 22 }
abbrev rmX6_round : Room := { frames := 5, cells := 0, slots := 0, locals := 117 }
abbrev rmX6_way : Room := { frames := 5, cells := 0, slots := 0, locals := 117 }
abbrev rmX6_need : Room := { frames := 1, cells := 0, slots := 0, locals := 21 }
abbrev rmX6_proof : Room := { frames := 5, cells := 0, slots := 0, locals := 117 }
abbrev rmX6_addThing : Room := { frames := 1, cells := 0, slots := 0, locals := 21 }
abbrev rmX6_drop : Room := { frames := 2, cells := 0, slots := 0, locals := 44 }
abbrev rmX6_removeThing : Room := { frames := 3, cells := 0, slots := 0, locals := 71 }
abbrev rmX6_whyNotWake : Room := { frames := 1, cells := 0, slots := 0, locals := 21 }
abbrev rmX6_wake : Room := { frames := 5, cells := 0, slots := 0, locals := 117 }
abbrev rmX6_whyNotSet : Room := { frames := 2, cells := 0, slots := 0, locals := 45 }
abbrev rmX6_put : Room := { frames := 1, cells := 0, slots := 0, locals := 21 }
abbrev rmX6_set : Room := { frames := 3, cells := 0, slots := 0, locals := 70 }
abbrev rmX6_whyNotStep : Room := { frames := 1, cells := 0, slots := 0, locals := 22 }
abbrev rmX6_hinders : Room := { frames := 2, cells := 0, slots := 0, locals := 44 }
abbrev rmX6_whyNotDo : Room := { frames := 3, cells := 0, slots := 0, locals := 69 }
abbrev rmX6_take : Room := { frames := 4, cells := 0, slots := 0, locals := 96 }
abbrev rmX6_give : Room := { frames := 4, cells := 0, slots := 0, locals := 96 }
abbrev rmX6_whyNot : Room := { frames := 3, cells := 0, slots := 0, locals := 69 }
abbrev rmX6_needed : Room := { frames := 5, cells := 0, slots := 0, locals := 117 }
abbrev rmX6_listRights : Room := { frames := 2, cells := 0, slots := 0, locals := 44 }
abbrev rmX6_putNumber : Room := { frames := 2, cells := 0, slots := 0, locals := 46 }
abbrev rmX6_endsWithout : Room := { frames := 5, cells := 0, slots := 0, locals := 117 }
abbrev rmX6_cuts : Room := { frames := 6, cells := 0, slots := 0, locals := 143 }
abbrev rmX6_cut : Room := { frames := 7, cells := 0, slots := 0, locals := 169 }
abbrev rmX6_cutAt : Room := { frames := 7, cells := 0, slots := 0, locals := 169 }
abbrev rmX6_sleeper : Room := { frames := 5, cells := 0, slots := 0, locals := 117 }
abbrev rmX6_danger : Room := { frames := 5, cells := 0, slots := 0, locals := 117 }
abbrev rmX6_changes : Room := { frames := 4, cells := 0, slots := 0, locals := 96 }
abbrev rmX6_asks : Room := { frames := 5, cells := 0, slots := 0, locals := 117 }
abbrev rmX6_succeeds : Room := { frames := 6, cells := 0, slots := 0, locals := 142 }
abbrev rmX6_runScript : Room := { frames := 7, cells := 0, slots := 0, locals := 168 }
abbrev rmX6_tries : Room := { frames := 3, cells := 0, slots := 0, locals := 69 }
abbrev rmX6_simulate : Room := { frames := 4, cells := 0, slots := 0, locals := 98 }
abbrev rmL_append : Room := { frames := 7, cells := 1, slots := 6, locals := 111 }
abbrev rmL_load : Room := { frames := 11, cells := 1, slots := 6, locals := 273 }
abbrev rmL_about : Room := { frames := 7, cells := 1, slots := 6, locals := 135 }
abbrev rmL_thing : Room := { frames := 8, cells := 1, slots := 6, locals := 136 }
abbrev rmL_rights : Room := { frames := 9, cells := 1, slots := 6, locals := 160 }
abbrev rmL_round : Room := { frames := 9, cells := 1, slots := 6, locals := 158 }
abbrev rmL_way : Room := { frames := 9, cells := 1, slots := 6, locals := 157 }
abbrev rmL_proof : Room := { frames := 9, cells := 1, slots := 6, locals := 158 }
abbrev rmL_addThing : Room := { frames := 7, cells := 1, slots := 6, locals := 111 }
abbrev rmL_removeThing : Room := { frames := 8, cells := 1, slots := 6, locals := 132 }
abbrev rmL_wake : Room := { frames := 8, cells := 1, slots := 6, locals := 136 }
abbrev rmL_set : Room := { frames := 9, cells := 1, slots := 6, locals := 160 }
abbrev rmL_take : Room := { frames := 10, cells := 1, slots := 6, locals := 184 }
abbrev rmL_give : Room := { frames := 10, cells := 1, slots := 6, locals := 184 }
abbrev rmL_undo : Room := { frames := 7, cells := 1, slots := 6, locals := 110 }
abbrev rmL_whyNot : Room := { frames := 9, cells := 1, slots := 6, locals := 160 }
abbrev rmL_needed : Room := { frames := 9, cells := 1, slots := 6, locals := 161 }
abbrev rmL_cut : Room := { frames := 9, cells := 1, slots := 6, locals := 190 }
abbrev rmL_cutAt : Room := { frames := 9, cells := 1, slots := 6, locals := 192 }
abbrev rmL_runScript : Room := { frames := 7, cells := 1, slots := 6, locals := 164 }
abbrev rmL_simulate : Room := { frames := 7, cells := 1, slots := 6, locals := 143 }
abbrev rmL_save : Room := { frames := 8, cells := 1, slots := 6, locals := 131 }
abbrev rmL_restore : Room := { frames := 8, cells := 1, slots := 6, locals := 131 }
theorem gw_X5_77 : GoodIn tblG (wsV RX5 77 RX4 yX4_addSign [.code yX4_addSign cX4_addSign 2 none]) := goodIn_sub (List.forall_mem_cons.mpr ⟨tw341, List.forall_mem_cons.mpr ⟨tw342, List.forall_mem_cons.mpr ⟨tw343, List.forall_mem_cons.mpr ⟨tw292, List.forall_mem_cons.mpr ⟨tw191, List.forall_mem_nil _⟩⟩⟩⟩⟩) (by decide +kernel)
theorem gw_X4_35 : GoodIn tblG (wsV RX4 35 RX3 yX3_addOne [.code yX3_addOne cX3_addOne 3 none]) := goodIn_sub (List.forall_mem_cons.mpr ⟨tw193, List.forall_mem_cons.mpr ⟨tw194, List.forall_mem_cons.mpr ⟨tw195, List.forall_mem_cons.mpr ⟨tw9, List.forall_mem_cons.mpr ⟨tw167, List.forall_mem_nil _⟩⟩⟩⟩⟩) (by decide +kernel)
theorem gw_X4_65 : GoodIn tblG (wsV RX4 65 RX3 yX3_exists [.code yX3_exists cX3_exists 2 (some .boolean)]) := goodIn_sub (List.forall_mem_cons.mpr ⟨tw197, List.forall_mem_cons.mpr ⟨tw148, List.forall_mem_cons.mpr ⟨tw149, List.forall_mem_cons.mpr ⟨tw9, List.forall_mem_cons.mpr ⟨tw146, List.forall_mem_nil _⟩⟩⟩⟩⟩) (by decide +kernel)
theorem gw_X3_50 : GoodIn tblG (va_wsS RX3 50 yJ6_bitCount_0f7a4 [.code yJ6_bitCount_0f7a4 cJ6_bitCount_0f7a4 1 (some .int)]) := goodIn_sub (List.forall_mem_cons.mpr ⟨tw160, List.forall_mem_cons.mpr ⟨tw139, List.forall_mem_cons.mpr ⟨tw140, List.forall_mem_cons.mpr ⟨tw137, List.forall_mem_nil _⟩⟩⟩⟩) (by decide +kernel)
theorem gw_X4_42 : GoodIn tblG (wsV RX4 42 RX4 yX4_thingAt [.code yX4_thingAt cX4_thingAt 4 (some .int)]) := goodIn_sub (List.forall_mem_cons.mpr ⟨tw289, List.forall_mem_cons.mpr ⟨tw290, List.forall_mem_cons.mpr ⟨tw291, List.forall_mem_cons.mpr ⟨tw292, List.forall_mem_cons.mpr ⟨tw198, List.forall_mem_nil _⟩⟩⟩⟩⟩) (by decide +kernel)
theorem gw_X4_45 : GoodIn tblG (wsV RX4 45 RX3 yX3_countRights [.code yX3_countRights cX3_countRights 3 (some .int)]) := goodIn_sub (List.forall_mem_cons.mpr ⟨tw293, List.forall_mem_cons.mpr ⟨tw163, List.forall_mem_cons.mpr ⟨tw164, List.forall_mem_cons.mpr ⟨tw9, List.forall_mem_cons.mpr ⟨tw161, List.forall_mem_nil _⟩⟩⟩⟩⟩) (by decide +kernel)
theorem gw_X4_49 : GoodIn tblG (wsV RX4 49 RX4 yX4_kindAt [.code yX4_kindAt cX4_kindAt 2 (some .int)]) := goodIn_sub (List.forall_mem_cons.mpr ⟨tw294, List.forall_mem_cons.mpr ⟨tw295, List.forall_mem_cons.mpr ⟨tw296, List.forall_mem_cons.mpr ⟨tw292, List.forall_mem_cons.mpr ⟨tw288, List.forall_mem_nil _⟩⟩⟩⟩⟩) (by decide +kernel)
theorem gc_X5_rightOf : GoodIn tblG [.code yX5_rightOf cX5_rightOf 3 (some .int)] := goodIn_sub (List.forall_mem_cons.mpr ⟨tw59, List.forall_mem_nil _⟩) (by decide +kernel)
theorem gw_X4_57 : GoodIn tblG (wsV RX4 57 RX3 yX3_has [.code yX3_has cX3_has 2 (some .boolean)]) := goodIn_sub (List.forall_mem_cons.mpr ⟨tw297, List.forall_mem_cons.mpr ⟨tw80, List.forall_mem_cons.mpr ⟨tw81, List.forall_mem_cons.mpr ⟨tw9, List.forall_mem_cons.mpr ⟨tw76, List.forall_mem_nil _⟩⟩⟩⟩⟩) (by decide +kernel)
theorem gw_X4_61 : GoodIn tblG (wsV RX4 61 RX3 yX3_put [.code yX3_put cX3_put 5 none]) := goodIn_sub (List.forall_mem_cons.mpr ⟨tw298, List.forall_mem_cons.mpr ⟨tw86, List.forall_mem_cons.mpr ⟨tw87, List.forall_mem_cons.mpr ⟨tw9, List.forall_mem_cons.mpr ⟨tw78, List.forall_mem_nil _⟩⟩⟩⟩⟩) (by decide +kernel)
theorem gw_X4_39 : GoodIn tblG (wsV RX4 39 RX4 yX4_readRight [.code yX4_readRight cX4_readRight 6 (some .int)]) := goodIn_sub (List.forall_mem_cons.mpr ⟨tw300, List.forall_mem_cons.mpr ⟨tw301, List.forall_mem_cons.mpr ⟨tw302, List.forall_mem_cons.mpr ⟨tw292, List.forall_mem_cons.mpr ⟨tw299, List.forall_mem_nil _⟩⟩⟩⟩⟩) (by decide +kernel)
theorem gw_X4_19 : GoodIn tblG (wsV RX4 19 RX3 yX3_makeEmpty [.code yX3_makeEmpty cX3_makeEmpty 2 none]) := goodIn_sub (List.forall_mem_cons.mpr ⟨tw304, List.forall_mem_cons.mpr ⟨tw40, List.forall_mem_cons.mpr ⟨tw41, List.forall_mem_cons.mpr ⟨tw9, List.forall_mem_cons.mpr ⟨tw16, List.forall_mem_nil _⟩⟩⟩⟩⟩) (by decide +kernel)
theorem gw_X4_24 : GoodIn tblG (va_wsS RX4 24 yX4_readThing [.code yX4_readThing cX4_readThing 3 (some .boolean)]) := goodIn_sub (List.forall_mem_cons.mpr ⟨tw305, List.forall_mem_cons.mpr ⟨tw306, List.forall_mem_cons.mpr ⟨tw292, List.forall_mem_cons.mpr ⟨tw196, List.forall_mem_nil _⟩⟩⟩⟩) (by decide +kernel)
theorem gw_X4_31 : GoodIn tblG (wsV RX4 31 RX4 yX4_readRights [.code yX4_readRights cX4_readRights 5 (some .int)]) := goodIn_sub (List.forall_mem_cons.mpr ⟨tw307, List.forall_mem_cons.mpr ⟨tw308, List.forall_mem_cons.mpr ⟨tw309, List.forall_mem_cons.mpr ⟨tw292, List.forall_mem_cons.mpr ⟨tw303, List.forall_mem_nil _⟩⟩⟩⟩⟩) (by decide +kernel)
theorem gw_X5_81 : GoodIn tblG (wsV RX5 81 RX4 yX4_readInto [.code yX4_readInto cX4_readInto 3 (some .int)]) := goodIn_sub (List.forall_mem_cons.mpr ⟨tw346, List.forall_mem_cons.mpr ⟨tw347, List.forall_mem_cons.mpr ⟨tw348, List.forall_mem_cons.mpr ⟨tw292, List.forall_mem_cons.mpr ⟨tw310, List.forall_mem_nil _⟩⟩⟩⟩⟩) (by decide +kernel)
theorem gw_X5_87 : GoodIn tblG (wsV RX5 87 RX3 yX3_copyFrom [.code yX3_copyFrom cX3_copyFrom 3 none]) := goodIn_sub (List.forall_mem_cons.mpr ⟨tw352, List.forall_mem_cons.mpr ⟨tw43, List.forall_mem_cons.mpr ⟨tw44, List.forall_mem_cons.mpr ⟨tw9, List.forall_mem_cons.mpr ⟨tw17, List.forall_mem_nil _⟩⟩⟩⟩⟩) (by decide +kernel)
theorem gw_X3_84 : GoodIn tblG (wsV RX3 84 RX3 yX3_addRights [.code yX3_addRights cX3_addRights 4 (some .boolean)]) := goodIn_sub (List.forall_mem_cons.mpr ⟨tw27, List.forall_mem_cons.mpr ⟨tw28, List.forall_mem_cons.mpr ⟨tw29, List.forall_mem_cons.mpr ⟨tw9, List.forall_mem_cons.mpr ⟨tw26, List.forall_mem_nil _⟩⟩⟩⟩⟩) (by decide +kernel)
theorem gw_X3_66 : GoodIn tblG (wsV RX3 66 RX3 yX3_isAwake [.code yX3_isAwake cX3_isAwake 2 (some .boolean)]) := goodIn_sub (List.forall_mem_cons.mpr ⟨tw31, List.forall_mem_cons.mpr ⟨tw32, List.forall_mem_cons.mpr ⟨tw33, List.forall_mem_cons.mpr ⟨tw9, List.forall_mem_cons.mpr ⟨tw24, List.forall_mem_nil _⟩⟩⟩⟩⟩) (by decide +kernel)
theorem gw_X3_80 : GoodIn tblG (wsV RX3 80 RX3 yX3_doStepsOf [.code yX3_doStepsOf cX3_doStepsOf 6 (some .boolean)]) := goodIn_sub (List.forall_mem_cons.mpr ⟨tw34, List.forall_mem_cons.mpr ⟨tw35, List.forall_mem_cons.mpr ⟨tw36, List.forall_mem_cons.mpr ⟨tw9, List.forall_mem_cons.mpr ⟨tw30, List.forall_mem_nil _⟩⟩⟩⟩⟩) (by decide +kernel)
theorem gw_X3_88 : GoodIn tblG (wsV RX3 88 RX3 yX3_doSteps [.code yX3_doSteps cX3_doSteps 4 (some .boolean)]) := goodIn_sub (List.forall_mem_cons.mpr ⟨tw82, List.forall_mem_cons.mpr ⟨tw50, List.forall_mem_cons.mpr ⟨tw51, List.forall_mem_cons.mpr ⟨tw9, List.forall_mem_cons.mpr ⟨tw37, List.forall_mem_nil _⟩⟩⟩⟩⟩) (by decide +kernel)
theorem gw_X5_231 : GoodIn tblG (wsV RX5 231 RX3 yX3_spreadOut [.code yX3_spreadOut cX3_spreadOut 3 none]) := goodIn_sub (List.forall_mem_cons.mpr ⟨tw354, List.forall_mem_cons.mpr ⟨tw355, List.forall_mem_cons.mpr ⟨tw356, List.forall_mem_cons.mpr ⟨tw9, List.forall_mem_cons.mpr ⟨tw185, List.forall_mem_nil _⟩⟩⟩⟩⟩) (by decide +kernel)
theorem gw_X2_32 : GoodIn tblG (wsV RX2 32 RX3 yX3_makeEmpty [.code yX3_makeEmpty cX3_makeEmpty 2 none]) := goodIn_sub (List.forall_mem_cons.mpr ⟨tw39, List.forall_mem_cons.mpr ⟨tw40, List.forall_mem_cons.mpr ⟨tw41, List.forall_mem_cons.mpr ⟨tw9, List.forall_mem_cons.mpr ⟨tw16, List.forall_mem_nil _⟩⟩⟩⟩⟩) (by decide +kernel)
theorem gw_X2_35 : GoodIn tblG (wsV RX2 35 RX3 yX3_copyFrom [.code yX3_copyFrom cX3_copyFrom 3 none]) := goodIn_sub (List.forall_mem_cons.mpr ⟨tw42, List.forall_mem_cons.mpr ⟨tw43, List.forall_mem_cons.mpr ⟨tw44, List.forall_mem_cons.mpr ⟨tw9, List.forall_mem_cons.mpr ⟨tw17, List.forall_mem_nil _⟩⟩⟩⟩⟩) (by decide +kernel)
theorem gw_X2_39 : GoodIn tblG (wsV RX2 39 RX2 yX2_noteRound [.code yX2_noteRound cX2_noteRound 5 none]) := goodIn_sub (List.forall_mem_cons.mpr ⟨tw45, List.forall_mem_cons.mpr ⟨tw46, List.forall_mem_cons.mpr ⟨tw47, List.forall_mem_cons.mpr ⟨tw48, List.forall_mem_cons.mpr ⟨tw23, List.forall_mem_nil _⟩⟩⟩⟩⟩) (by decide +kernel)
theorem gw_X2_47 : GoodIn tblG (wsV RX2 47 RX3 yX3_doSteps [.code yX3_doSteps cX3_doSteps 4 (some .boolean)]) := goodIn_sub (List.forall_mem_cons.mpr ⟨tw49, List.forall_mem_cons.mpr ⟨tw50, List.forall_mem_cons.mpr ⟨tw51, List.forall_mem_cons.mpr ⟨tw9, List.forall_mem_cons.mpr ⟨tw37, List.forall_mem_nil _⟩⟩⟩⟩⟩) (by decide +kernel)
theorem gw_X1_25 : GoodIn tblG (wsV RX1 25 RX3 yX3_isPerson [.code yX3_isPerson cX3_isPerson 2 (some .boolean)]) := goodIn_sub (List.forall_mem_cons.mpr ⟨tw125, List.forall_mem_cons.mpr ⟨tw126, List.forall_mem_cons.mpr ⟨tw127, List.forall_mem_cons.mpr ⟨tw9, List.forall_mem_cons.mpr ⟨tw123, List.forall_mem_nil _⟩⟩⟩⟩⟩) (by decide +kernel)
theorem gw_X1_33 : GoodIn tblG (wsV RX1 33 RX3 yX3_has [.code yX3_has cX3_has 2 (some .boolean)]) := goodIn_sub (List.forall_mem_cons.mpr ⟨tw128, List.forall_mem_cons.mpr ⟨tw80, List.forall_mem_cons.mpr ⟨tw81, List.forall_mem_cons.mpr ⟨tw9, List.forall_mem_cons.mpr ⟨tw76, List.forall_mem_nil _⟩⟩⟩⟩⟩) (by decide +kernel)
theorem gw_X1_15 : GoodIn tblG (va_wsS RX1 15 yX1_heard [.code yX1_heard cX1_heard 6 (some .int)]) := goodIn_sub (List.forall_mem_cons.mpr ⟨tw130, List.forall_mem_cons.mpr ⟨tw131, List.forall_mem_cons.mpr ⟨tw132, List.forall_mem_cons.mpr ⟨tw129, List.forall_mem_nil _⟩⟩⟩⟩) (by decide +kernel)
theorem gw_X1_36 : GoodIn tblG (va_wsS RX1 36 yJ6_bitCount_0f7a4 [.code yJ6_bitCount_0f7a4 cJ6_bitCount_0f7a4 1 (some .int)]) := goodIn_sub (List.forall_mem_cons.mpr ⟨tw138, List.forall_mem_cons.mpr ⟨tw139, List.forall_mem_cons.mpr ⟨tw140, List.forall_mem_cons.mpr ⟨tw137, List.forall_mem_nil _⟩⟩⟩⟩) (by decide +kernel)
theorem gw_X5_100 : GoodIn tblG (va_wsS RX5 100 yJ6_bitCount_0f7a4 [.code yJ6_bitCount_0f7a4 cJ6_bitCount_0f7a4 1 (some .int)]) := goodIn_sub (List.forall_mem_cons.mpr ⟨tw361, List.forall_mem_cons.mpr ⟨tw139, List.forall_mem_cons.mpr ⟨tw140, List.forall_mem_cons.mpr ⟨tw137, List.forall_mem_nil _⟩⟩⟩⟩) (by decide +kernel)
theorem gw_X5_109 : GoodIn tblG (wsV RX5 109 RX3 yX3_countRights [.code yX3_countRights cX3_countRights 3 (some .int)]) := goodIn_sub (List.forall_mem_cons.mpr ⟨tw362, List.forall_mem_cons.mpr ⟨tw163, List.forall_mem_cons.mpr ⟨tw164, List.forall_mem_cons.mpr ⟨tw9, List.forall_mem_cons.mpr ⟨tw161, List.forall_mem_nil _⟩⟩⟩⟩⟩) (by decide +kernel)
theorem gw_X5_113 : GoodIn tblG (wsV RX5 113 RX5 yX5_endOf [.code yX5_endOf cX5_endOf 2 (some (.object "AccessSpread$State"))]) := goodIn_sub (List.forall_mem_cons.mpr ⟨tw363, List.forall_mem_cons.mpr ⟨tw364, List.forall_mem_cons.mpr ⟨tw365, List.forall_mem_cons.mpr ⟨tw61, List.forall_mem_cons.mpr ⟨tw357, List.forall_mem_nil _⟩⟩⟩⟩⟩) (by decide +kernel)
theorem gw_X5_117 : GoodIn tblG (wsV RX5 117 RX2 yX2_follow [.code yX2_follow cX2_follow 3 none]) := goodIn_sub (List.forall_mem_cons.mpr ⟨tw366, List.forall_mem_cons.mpr ⟨tw105, List.forall_mem_cons.mpr ⟨tw106, List.forall_mem_cons.mpr ⟨tw48, List.forall_mem_cons.mpr ⟨tw52, List.forall_mem_nil _⟩⟩⟩⟩⟩) (by decide +kernel)
theorem gw_X5_123 : GoodIn tblG (wsV RX5 123 RX1 yX1_follow [.code yX1_follow cX1_follow 4 none]) := goodIn_sub (List.forall_mem_cons.mpr ⟨tw367, List.forall_mem_cons.mpr ⟨tw368, List.forall_mem_cons.mpr ⟨tw369, List.forall_mem_cons.mpr ⟨tw132, List.forall_mem_cons.mpr ⟨tw133, List.forall_mem_nil _⟩⟩⟩⟩⟩) (by decide +kernel)
theorem gw_X5_124 : GoodIn tblG (wsV RX5 124 RX1 yX1_countPairs [.code yX1_countPairs cX1_countPairs 3 (some .int)]) := goodIn_sub (List.forall_mem_cons.mpr ⟨tw370, List.forall_mem_cons.mpr ⟨tw371, List.forall_mem_cons.mpr ⟨tw372, List.forall_mem_cons.mpr ⟨tw132, List.forall_mem_cons.mpr ⟨tw141, List.forall_mem_nil _⟩⟩⟩⟩⟩) (by decide +kernel)
theorem gw_X5_274 : GoodIn tblG (wsV RX5 274 RX3 yX3_exists [.code yX3_exists cX3_exists 2 (some .boolean)]) := goodIn_sub (List.forall_mem_cons.mpr ⟨tw376, List.forall_mem_cons.mpr ⟨tw148, List.forall_mem_cons.mpr ⟨tw149, List.forall_mem_cons.mpr ⟨tw9, List.forall_mem_cons.mpr ⟨tw146, List.forall_mem_nil _⟩⟩⟩⟩⟩) (by decide +kernel)
theorem gw_X5_129 : GoodIn tblG (wsV RX5 129 RX5 yX5_checkThing [.code yX5_checkThing cX5_checkThing 2 none]) := goodIn_sub (List.forall_mem_cons.mpr ⟨tw380, List.forall_mem_cons.mpr ⟨tw381, List.forall_mem_cons.mpr ⟨tw382, List.forall_mem_cons.mpr ⟨tw61, List.forall_mem_cons.mpr ⟨tw377, List.forall_mem_nil _⟩⟩⟩⟩⟩) (by decide +kernel)
theorem gw_X5_133 : GoodIn tblG (wsV RX5 133 RX3 yX3_isPerson [.code yX3_isPerson cX3_isPerson 2 (some .boolean)]) := goodIn_sub (List.forall_mem_cons.mpr ⟨tw383, List.forall_mem_cons.mpr ⟨tw126, List.forall_mem_cons.mpr ⟨tw127, List.forall_mem_cons.mpr ⟨tw9, List.forall_mem_cons.mpr ⟨tw123, List.forall_mem_nil _⟩⟩⟩⟩⟩) (by decide +kernel)
theorem gw_X5_137 : GoodIn tblG (wsV RX5 137 RX3 yX3_isAwake [.code yX3_isAwake cX3_isAwake 2 (some .boolean)]) := goodIn_sub (List.forall_mem_cons.mpr ⟨tw384, List.forall_mem_cons.mpr ⟨tw32, List.forall_mem_cons.mpr ⟨tw33, List.forall_mem_cons.mpr ⟨tw9, List.forall_mem_cons.mpr ⟨tw24, List.forall_mem_nil _⟩⟩⟩⟩⟩) (by decide +kernel)
theorem gw_X5_144 : GoodIn tblG (wsV RX5 144 RX3 yX3_countRightsOver [.code yX3_countRightsOver cX3_countRightsOver 4 (some .int)]) := goodIn_sub (List.forall_mem_cons.mpr ⟨tw385, List.forall_mem_cons.mpr ⟨tw386, List.forall_mem_cons.mpr ⟨tw387, List.forall_mem_cons.mpr ⟨tw9, List.forall_mem_cons.mpr ⟨tw166, List.forall_mem_nil _⟩⟩⟩⟩⟩) (by decide +kernel)
theorem gw_X3_25 : GoodIn tblG (wsV RX3 25 RX3 yX3_exists [.code yX3_exists cX3_exists 2 (some .boolean)]) := goodIn_sub (List.forall_mem_cons.mpr ⟨tw147, List.forall_mem_cons.mpr ⟨tw148, List.forall_mem_cons.mpr ⟨tw149, List.forall_mem_cons.mpr ⟨tw9, List.forall_mem_cons.mpr ⟨tw146, List.forall_mem_nil _⟩⟩⟩⟩⟩) (by decide +kernel)
theorem gw_X5_282 : GoodIn tblG (wsV RX5 282 RX3 yX3_isRight [.code yX3_isRight cX3_isRight 4 (some .boolean)]) := goodIn_sub (List.forall_mem_cons.mpr ⟨tw389, List.forall_mem_cons.mpr ⟨tw156, List.forall_mem_cons.mpr ⟨tw157, List.forall_mem_cons.mpr ⟨tw9, List.forall_mem_cons.mpr ⟨tw150, List.forall_mem_nil _⟩⟩⟩⟩⟩) (by decide +kernel)
theorem gw_X5_150 : GoodIn tblG (wsV RX5 150 RX5 yX5_checkRight [.code yX5_checkRight cX5_checkRight 4 none]) := goodIn_sub (List.forall_mem_cons.mpr ⟨tw391, List.forall_mem_cons.mpr ⟨tw392, List.forall_mem_cons.mpr ⟨tw393, List.forall_mem_cons.mpr ⟨tw61, List.forall_mem_cons.mpr ⟨tw390, List.forall_mem_nil _⟩⟩⟩⟩⟩) (by decide +kernel)
theorem gw_X5_154 : GoodIn tblG (va_wsS RX5 154 yX5_rightOf [.code yX5_rightOf cX5_rightOf 3 (some .int)]) := goodIn_sub (List.forall_mem_cons.mpr ⟨tw394, List.forall_mem_cons.mpr ⟨tw63, List.forall_mem_cons.mpr ⟨tw61, List.forall_mem_cons.mpr ⟨tw59, List.forall_mem_nil _⟩⟩⟩⟩) (by decide +kernel)
theorem gw_X5_158 : GoodIn tblG (wsV RX5 158 RX3 yX3_has [.code yX3_has cX3_has 2 (some .boolean)]) := goodIn_sub (List.forall_mem_cons.mpr ⟨tw395, List.forall_mem_cons.mpr ⟨tw80, List.forall_mem_cons.mpr ⟨tw81, List.forall_mem_cons.mpr ⟨tw9, List.forall_mem_cons.mpr ⟨tw76, List.forall_mem_nil _⟩⟩⟩⟩⟩) (by decide +kernel)
theorem gw_X5_161 : GoodIn tblG (wsV RX5 161 RX2 yX2_comes [.code yX2_comes cX2_comes 2 (some .boolean)]) := goodIn_sub (List.forall_mem_cons.mpr ⟨tw398, List.forall_mem_cons.mpr ⟨tw108, List.forall_mem_cons.mpr ⟨tw109, List.forall_mem_cons.mpr ⟨tw48, List.forall_mem_cons.mpr ⟨tw53, List.forall_mem_nil _⟩⟩⟩⟩⟩) (by decide +kernel)
theorem gc_X5_ownerOf : GoodIn tblG [.code yX5_ownerOf cX5_ownerOf 1 (some .int)] := goodIn_sub (List.forall_mem_cons.mpr ⟨tw58, List.forall_mem_nil _⟩) (by decide +kernel)
theorem gw_X2_61 : GoodIn tblG (wsV RX2 61 RX3 yX3_isAwake [.code yX3_isAwake cX3_isAwake 2 (some .boolean)]) := goodIn_sub (List.forall_mem_cons.mpr ⟨tw62, List.forall_mem_cons.mpr ⟨tw32, List.forall_mem_cons.mpr ⟨tw33, List.forall_mem_cons.mpr ⟨tw9, List.forall_mem_cons.mpr ⟨tw24, List.forall_mem_nil _⟩⟩⟩⟩⟩) (by decide +kernel)
theorem gw_X5_167 : GoodIn tblG (wsV RX5 167 RX2 yX2_wayOf [.code yX2_wayOf cX2_wayOf 6 (some .int)]) := goodIn_sub (List.forall_mem_cons.mpr ⟨tw400, List.forall_mem_cons.mpr ⟨tw70, List.forall_mem_cons.mpr ⟨tw71, List.forall_mem_cons.mpr ⟨tw48, List.forall_mem_cons.mpr ⟨tw64, List.forall_mem_nil _⟩⟩⟩⟩⟩) (by decide +kernel)
theorem gw_X2_72 : GoodIn tblG (wsV RX2 72 RX2 yX2_addToProof [.code yX2_addToProof cX2_addToProof 2 none]) := goodIn_sub (List.forall_mem_cons.mpr ⟨tw65, List.forall_mem_cons.mpr ⟨tw66, List.forall_mem_cons.mpr ⟨tw67, List.forall_mem_cons.mpr ⟨tw48, List.forall_mem_cons.mpr ⟨tw57, List.forall_mem_nil _⟩⟩⟩⟩⟩) (by decide +kernel)
theorem gw_X2_75 : GoodIn tblG (wsV RX2 75 RX2 yX2_wayOf [.code yX2_wayOf cX2_wayOf 6 (some .int)]) := goodIn_sub (List.forall_mem_cons.mpr ⟨tw69, List.forall_mem_cons.mpr ⟨tw70, List.forall_mem_cons.mpr ⟨tw71, List.forall_mem_cons.mpr ⟨tw48, List.forall_mem_cons.mpr ⟨tw64, List.forall_mem_nil _⟩⟩⟩⟩⟩) (by decide +kernel)
theorem gw_X2_78 : GoodIn tblG (wsV RX2 78 RX2 yX2_addNeeds [.code yX2_addNeeds cX2_addNeeds 6 none]) := goodIn_sub (List.forall_mem_cons.mpr ⟨tw72, List.forall_mem_cons.mpr ⟨tw73, List.forall_mem_cons.mpr ⟨tw74, List.forall_mem_cons.mpr ⟨tw48, List.forall_mem_cons.mpr ⟨tw68, List.forall_mem_nil _⟩⟩⟩⟩⟩) (by decide +kernel)
theorem gw_X5_170 : GoodIn tblG (wsV RX5 170 RX2 yX2_prove [.code yX2_prove cX2_prove 5 (some .int)]) := goodIn_sub (List.forall_mem_cons.mpr ⟨tw402, List.forall_mem_cons.mpr ⟨tw111, List.forall_mem_cons.mpr ⟨tw112, List.forall_mem_cons.mpr ⟨tw48, List.forall_mem_cons.mpr ⟨tw75, List.forall_mem_nil _⟩⟩⟩⟩⟩) (by decide +kernel)
theorem gw_X5_296 : GoodIn tblG (wsV RX5 296 RX5 yX5_forgetOldest [.code yX5_forgetOldest cX5_forgetOldest 3 none]) := goodIn_sub (List.forall_mem_cons.mpr ⟨tw405, List.forall_mem_cons.mpr ⟨tw406, List.forall_mem_cons.mpr ⟨tw407, List.forall_mem_cons.mpr ⟨tw61, List.forall_mem_cons.mpr ⟨tw404, List.forall_mem_nil _⟩⟩⟩⟩⟩) (by decide +kernel)
theorem gw_X5_175 : GoodIn tblG (wsV RX5 175 RX5 yX5_remember [.code yX5_remember cX5_remember 1 none]) := goodIn_sub (List.forall_mem_cons.mpr ⟨tw409, List.forall_mem_cons.mpr ⟨tw410, List.forall_mem_cons.mpr ⟨tw411, List.forall_mem_cons.mpr ⟨tw61, List.forall_mem_cons.mpr ⟨tw408, List.forall_mem_nil _⟩⟩⟩⟩⟩) (by decide +kernel)
theorem gw_X5_178 : GoodIn tblG (wsV RX5 178 RX3 yX3_addOne [.code yX3_addOne cX3_addOne 3 none]) := goodIn_sub (List.forall_mem_cons.mpr ⟨tw412, List.forall_mem_cons.mpr ⟨tw194, List.forall_mem_cons.mpr ⟨tw195, List.forall_mem_cons.mpr ⟨tw9, List.forall_mem_cons.mpr ⟨tw167, List.forall_mem_nil _⟩⟩⟩⟩⟩) (by decide +kernel)
theorem gw_X3_56 : GoodIn tblG (va_wsS RX3 56 yX3_closeGap [.code yX3_closeGap cX3_closeGap 4 (some .int)]) := goodIn_sub (List.forall_mem_cons.mpr ⟨tw170, List.forall_mem_cons.mpr ⟨tw171, List.forall_mem_cons.mpr ⟨tw9, List.forall_mem_cons.mpr ⟨tw169, List.forall_mem_nil _⟩⟩⟩⟩) (by decide +kernel)
theorem gw_X3_46 : GoodIn tblG (wsV RX3 46 RX3 yX3_countRights [.code yX3_countRights cX3_countRights 3 (some .int)]) := goodIn_sub (List.forall_mem_cons.mpr ⟨tw162, List.forall_mem_cons.mpr ⟨tw163, List.forall_mem_cons.mpr ⟨tw164, List.forall_mem_cons.mpr ⟨tw9, List.forall_mem_cons.mpr ⟨tw161, List.forall_mem_nil _⟩⟩⟩⟩⟩) (by decide +kernel)
theorem gw_X3_60 : GoodIn tblG (va_wsS RX3 60 yX3_closeGapInRow [.code yX3_closeGapInRow cX3_closeGapInRow 5 (some .int)]) := goodIn_sub (List.forall_mem_cons.mpr ⟨tw173, List.forall_mem_cons.mpr ⟨tw174, List.forall_mem_cons.mpr ⟨tw9, List.forall_mem_cons.mpr ⟨tw172, List.forall_mem_nil _⟩⟩⟩⟩) (by decide +kernel)
theorem gw_X5_182 : GoodIn tblG (wsV RX5 182 RX3 yX3_removeOne [.code yX3_removeOne cX3_removeOne 4 (some .int)]) := goodIn_sub (List.forall_mem_cons.mpr ⟨tw414, List.forall_mem_cons.mpr ⟨tw415, List.forall_mem_cons.mpr ⟨tw416, List.forall_mem_cons.mpr ⟨tw9, List.forall_mem_cons.mpr ⟨tw175, List.forall_mem_nil _⟩⟩⟩⟩⟩) (by decide +kernel)
theorem gw_X5_187 : GoodIn tblG (wsV RX5 187 RX3 yX3_setAwake [.code yX3_setAwake cX3_setAwake 3 none]) := goodIn_sub (List.forall_mem_cons.mpr ⟨tw418, List.forall_mem_cons.mpr ⟨tw419, List.forall_mem_cons.mpr ⟨tw420, List.forall_mem_cons.mpr ⟨tw9, List.forall_mem_cons.mpr ⟨tw168, List.forall_mem_nil _⟩⟩⟩⟩⟩) (by decide +kernel)
theorem gw_X3_43 : GoodIn tblG (wsV RX3 43 RX3 yX3_has [.code yX3_has cX3_has 2 (some .boolean)]) := goodIn_sub (List.forall_mem_cons.mpr ⟨tw79, List.forall_mem_cons.mpr ⟨tw80, List.forall_mem_cons.mpr ⟨tw81, List.forall_mem_cons.mpr ⟨tw9, List.forall_mem_cons.mpr ⟨tw76, List.forall_mem_nil _⟩⟩⟩⟩⟩) (by decide +kernel)
theorem gw_X5_191 : GoodIn tblG (wsV RX5 191 RX3 yX3_hasRoomFor [.code yX3_hasRoomFor cX3_hasRoomFor 2 (some .boolean)]) := goodIn_sub (List.forall_mem_cons.mpr ⟨tw422, List.forall_mem_cons.mpr ⟨tw182, List.forall_mem_cons.mpr ⟨tw183, List.forall_mem_cons.mpr ⟨tw9, List.forall_mem_cons.mpr ⟨tw165, List.forall_mem_nil _⟩⟩⟩⟩⟩) (by decide +kernel)
theorem gw_X5_196 : GoodIn tblG (wsV RX5 196 RX3 yX3_put [.code yX3_put cX3_put 5 none]) := goodIn_sub (List.forall_mem_cons.mpr ⟨tw423, List.forall_mem_cons.mpr ⟨tw86, List.forall_mem_cons.mpr ⟨tw87, List.forall_mem_cons.mpr ⟨tw9, List.forall_mem_cons.mpr ⟨tw78, List.forall_mem_nil _⟩⟩⟩⟩⟩) (by decide +kernel)
theorem gw_X3_39 : GoodIn tblG (wsV RX3 39 RX3 yX3_isRight [.code yX3_isRight cX3_isRight 4 (some .boolean)]) := goodIn_sub (List.forall_mem_cons.mpr ⟨tw155, List.forall_mem_cons.mpr ⟨tw156, List.forall_mem_cons.mpr ⟨tw157, List.forall_mem_cons.mpr ⟨tw9, List.forall_mem_cons.mpr ⟨tw150, List.forall_mem_nil _⟩⟩⟩⟩⟩) (by decide +kernel)
theorem gw_X5_288 : GoodIn tblG (wsV RX5 288 RX3 yX3_isStep [.code yX3_isStep cX3_isStep 5 (some .boolean)]) := goodIn_sub (List.forall_mem_cons.mpr ⟨tw425, List.forall_mem_cons.mpr ⟨tw426, List.forall_mem_cons.mpr ⟨tw427, List.forall_mem_cons.mpr ⟨tw9, List.forall_mem_cons.mpr ⟨tw159, List.forall_mem_nil _⟩⟩⟩⟩⟩) (by decide +kernel)
theorem gw_X3_63 : GoodIn tblG (wsV RX3 63 RX3 yX3_isPerson [.code yX3_isPerson cX3_isPerson 2 (some .boolean)]) := goodIn_sub (List.forall_mem_cons.mpr ⟨tw176, List.forall_mem_cons.mpr ⟨tw126, List.forall_mem_cons.mpr ⟨tw127, List.forall_mem_cons.mpr ⟨tw9, List.forall_mem_cons.mpr ⟨tw123, List.forall_mem_nil _⟩⟩⟩⟩⟩) (by decide +kernel)
theorem gw_X3_73 : GoodIn tblG (wsV RX3 73 RX3 yX3_whatBars [.code yX3_whatBars cX3_whatBars 6 (some .int)]) := goodIn_sub (List.forall_mem_cons.mpr ⟨tw178, List.forall_mem_cons.mpr ⟨tw179, List.forall_mem_cons.mpr ⟨tw180, List.forall_mem_cons.mpr ⟨tw9, List.forall_mem_cons.mpr ⟨tw177, List.forall_mem_nil _⟩⟩⟩⟩⟩) (by decide +kernel)
theorem gw_X3_77 : GoodIn tblG (wsV RX3 77 RX3 yX3_hasRoomFor [.code yX3_hasRoomFor cX3_hasRoomFor 2 (some .boolean)]) := goodIn_sub (List.forall_mem_cons.mpr ⟨tw181, List.forall_mem_cons.mpr ⟨tw182, List.forall_mem_cons.mpr ⟨tw183, List.forall_mem_cons.mpr ⟨tw9, List.forall_mem_cons.mpr ⟨tw165, List.forall_mem_nil _⟩⟩⟩⟩⟩) (by decide +kernel)
theorem gw_X5_205 : GoodIn tblG (wsV RX5 205 RX5 yX5_checkStep [.code yX5_checkStep cX5_checkStep 5 none]) := goodIn_sub (List.forall_mem_cons.mpr ⟨tw429, List.forall_mem_cons.mpr ⟨tw430, List.forall_mem_cons.mpr ⟨tw431, List.forall_mem_cons.mpr ⟨tw61, List.forall_mem_cons.mpr ⟨tw428, List.forall_mem_nil _⟩⟩⟩⟩⟩) (by decide +kernel)
theorem gw_X5_299 : GoodIn tblG (wsV RX5 299 RX3 yX3_allowsStep [.code yX3_allowsStep cX3_allowsStep 6 (some .boolean)]) := goodIn_sub (List.forall_mem_cons.mpr ⟨tw432, List.forall_mem_cons.mpr ⟨tw433, List.forall_mem_cons.mpr ⟨tw434, List.forall_mem_cons.mpr ⟨tw9, List.forall_mem_cons.mpr ⟨tw184, List.forall_mem_nil _⟩⟩⟩⟩⟩) (by decide +kernel)
theorem gw_X5_199 : GoodIn tblG (wsV RX5 199 RX5 yX5_doStep [.code yX5_doStep cX5_doStep 6 (some .int)]) := goodIn_sub (List.forall_mem_cons.mpr ⟨tw436, List.forall_mem_cons.mpr ⟨tw437, List.forall_mem_cons.mpr ⟨tw438, List.forall_mem_cons.mpr ⟨tw61, List.forall_mem_cons.mpr ⟨tw435, List.forall_mem_nil _⟩⟩⟩⟩⟩) (by decide +kernel)
theorem gw_X5_209 : GoodIn tblG (wsV RX5 209 RX3 yX3_whatBars [.code yX3_whatBars cX3_whatBars 6 (some .int)]) := goodIn_sub (List.forall_mem_cons.mpr ⟨tw442, List.forall_mem_cons.mpr ⟨tw179, List.forall_mem_cons.mpr ⟨tw180, List.forall_mem_cons.mpr ⟨tw9, List.forall_mem_cons.mpr ⟨tw177, List.forall_mem_nil _⟩⟩⟩⟩⟩) (by decide +kernel)
theorem gw_X5_305 : GoodIn tblG (wsV RX5 305 RX3 yX3_spreadUntil [.code yX3_spreadUntil cX3_spreadUntil 4 (some .boolean)]) := goodIn_sub (List.forall_mem_cons.mpr ⟨tw444, List.forall_mem_cons.mpr ⟨tw89, List.forall_mem_cons.mpr ⟨tw90, List.forall_mem_cons.mpr ⟨tw9, List.forall_mem_cons.mpr ⟨tw83, List.forall_mem_nil _⟩⟩⟩⟩⟩) (by decide +kernel)
theorem gw_X5_212 : GoodIn tblG (wsV RX5 212 RX5 yX5_comesWith [.code yX5_comesWith cX5_comesWith 3 (some .boolean)]) := goodIn_sub (List.forall_mem_cons.mpr ⟨tw446, List.forall_mem_cons.mpr ⟨tw447, List.forall_mem_cons.mpr ⟨tw448, List.forall_mem_cons.mpr ⟨tw61, List.forall_mem_cons.mpr ⟨tw445, List.forall_mem_nil _⟩⟩⟩⟩⟩) (by decide +kernel)
theorem gw_X0_56 : GoodIn tblG (wsV RX0 56 RX3 yX3_copyFrom [.code yX3_copyFrom cX3_copyFrom 3 none]) := goodIn_sub (List.forall_mem_cons.mpr ⟨tw84, List.forall_mem_cons.mpr ⟨tw43, List.forall_mem_cons.mpr ⟨tw44, List.forall_mem_cons.mpr ⟨tw9, List.forall_mem_cons.mpr ⟨tw17, List.forall_mem_nil _⟩⟩⟩⟩⟩) (by decide +kernel)
theorem gw_X0_59 : GoodIn tblG (wsV RX0 59 RX3 yX3_put [.code yX3_put cX3_put 5 none]) := goodIn_sub (List.forall_mem_cons.mpr ⟨tw85, List.forall_mem_cons.mpr ⟨tw86, List.forall_mem_cons.mpr ⟨tw87, List.forall_mem_cons.mpr ⟨tw9, List.forall_mem_cons.mpr ⟨tw78, List.forall_mem_nil _⟩⟩⟩⟩⟩) (by decide +kernel)
theorem gw_X0_63 : GoodIn tblG (wsV RX0 63 RX3 yX3_spreadUntil [.code yX3_spreadUntil cX3_spreadUntil 4 (some .boolean)]) := goodIn_sub (List.forall_mem_cons.mpr ⟨tw88, List.forall_mem_cons.mpr ⟨tw89, List.forall_mem_cons.mpr ⟨tw90, List.forall_mem_cons.mpr ⟨tw9, List.forall_mem_cons.mpr ⟨tw83, List.forall_mem_nil _⟩⟩⟩⟩⟩) (by decide +kernel)
theorem gw_X0_46 : GoodIn tblG (wsV RX0 46 RX3 yX3_has [.code yX3_has cX3_has 2 (some .boolean)]) := goodIn_sub (List.forall_mem_cons.mpr ⟨tw93, List.forall_mem_cons.mpr ⟨tw80, List.forall_mem_cons.mpr ⟨tw81, List.forall_mem_cons.mpr ⟨tw9, List.forall_mem_cons.mpr ⟨tw76, List.forall_mem_nil _⟩⟩⟩⟩⟩) (by decide +kernel)
theorem gw_X0_49 : GoodIn tblG (wsV RX0 49 RX2 yX2_isUsed [.code yX2_isUsed cX2_isUsed 2 (some .boolean)]) := goodIn_sub (List.forall_mem_cons.mpr ⟨tw94, List.forall_mem_cons.mpr ⟨tw95, List.forall_mem_cons.mpr ⟨tw96, List.forall_mem_cons.mpr ⟨tw48, List.forall_mem_cons.mpr ⟨tw77, List.forall_mem_nil _⟩⟩⟩⟩⟩) (by decide +kernel)
theorem gw_X0_52 : GoodIn tblG (wsV RX0 52 RX0 yX0_cutsBoth [.code yX0_cutsBoth cX0_cutsBoth 5 (some .boolean)]) := goodIn_sub (List.forall_mem_cons.mpr ⟨tw97, List.forall_mem_cons.mpr ⟨tw98, List.forall_mem_cons.mpr ⟨tw99, List.forall_mem_cons.mpr ⟨tw100, List.forall_mem_cons.mpr ⟨tw91, List.forall_mem_nil _⟩⟩⟩⟩⟩) (by decide +kernel)
theorem gw_X0_25 : GoodIn tblG (wsV RX0 25 RX2 yX2_follow [.code yX2_follow cX2_follow 3 none]) := goodIn_sub (List.forall_mem_cons.mpr ⟨tw104, List.forall_mem_cons.mpr ⟨tw105, List.forall_mem_cons.mpr ⟨tw106, List.forall_mem_cons.mpr ⟨tw48, List.forall_mem_cons.mpr ⟨tw52, List.forall_mem_nil _⟩⟩⟩⟩⟩) (by decide +kernel)
theorem gw_X0_31 : GoodIn tblG (wsV RX0 31 RX2 yX2_comes [.code yX2_comes cX2_comes 2 (some .boolean)]) := goodIn_sub (List.forall_mem_cons.mpr ⟨tw107, List.forall_mem_cons.mpr ⟨tw108, List.forall_mem_cons.mpr ⟨tw109, List.forall_mem_cons.mpr ⟨tw48, List.forall_mem_cons.mpr ⟨tw53, List.forall_mem_nil _⟩⟩⟩⟩⟩) (by decide +kernel)
theorem gw_X0_35 : GoodIn tblG (wsV RX0 35 RX2 yX2_prove [.code yX2_prove cX2_prove 5 (some .int)]) := goodIn_sub (List.forall_mem_cons.mpr ⟨tw110, List.forall_mem_cons.mpr ⟨tw111, List.forall_mem_cons.mpr ⟨tw112, List.forall_mem_cons.mpr ⟨tw48, List.forall_mem_cons.mpr ⟨tw75, List.forall_mem_nil _⟩⟩⟩⟩⟩) (by decide +kernel)
theorem gw_X0_39 : GoodIn tblG (wsV RX0 39 RX0 yX0_findOne [.code yX0_findOne cX0_findOne 5 (some .boolean)]) := goodIn_sub (List.forall_mem_cons.mpr ⟨tw113, List.forall_mem_cons.mpr ⟨tw114, List.forall_mem_cons.mpr ⟨tw115, List.forall_mem_cons.mpr ⟨tw100, List.forall_mem_cons.mpr ⟨tw101, List.forall_mem_nil _⟩⟩⟩⟩⟩) (by decide +kernel)
theorem gw_X0_43 : GoodIn tblG (wsV RX0 43 RX0 yX0_findTwo [.code yX0_findTwo cX0_findTwo 7 (some .boolean)]) := goodIn_sub (List.forall_mem_cons.mpr ⟨tw116, List.forall_mem_cons.mpr ⟨tw117, List.forall_mem_cons.mpr ⟨tw118, List.forall_mem_cons.mpr ⟨tw100, List.forall_mem_cons.mpr ⟨tw103, List.forall_mem_nil _⟩⟩⟩⟩⟩) (by decide +kernel)
theorem gw_X5_216 : GoodIn tblG (wsV RX5 216 RX0 yX0_sizeFor [.code yX0_sizeFor cX0_sizeFor 4 (some .int)]) := goodIn_sub (List.forall_mem_cons.mpr ⟨tw450, List.forall_mem_cons.mpr ⟨tw451, List.forall_mem_cons.mpr ⟨tw452, List.forall_mem_cons.mpr ⟨tw100, List.forall_mem_cons.mpr ⟨tw119, List.forall_mem_nil _⟩⟩⟩⟩⟩) (by decide +kernel)
theorem gw_X5_265 : GoodIn tblG (va_wsS RX5 265 yX5_ownerOf [.code yX5_ownerOf cX5_ownerOf 1 (some .int)]) := goodIn_sub (List.forall_mem_cons.mpr ⟨tw454, List.forall_mem_cons.mpr ⟨tw60, List.forall_mem_cons.mpr ⟨tw61, List.forall_mem_cons.mpr ⟨tw58, List.forall_mem_nil _⟩⟩⟩⟩) (by decide +kernel)
theorem gw_X5_268 : GoodIn tblG (va_wsS RX5 268 yX5_kindOf [.code yX5_kindOf cX5_kindOf 1 (some .int)]) := goodIn_sub (List.forall_mem_cons.mpr ⟨tw455, List.forall_mem_cons.mpr ⟨tw153, List.forall_mem_cons.mpr ⟨tw61, List.forall_mem_cons.mpr ⟨tw151, List.forall_mem_nil _⟩⟩⟩⟩) (by decide +kernel)
theorem gw_X5_271 : GoodIn tblG (va_wsS RX5 271 yX5_objectOf [.code yX5_objectOf cX5_objectOf 1 (some .int)]) := goodIn_sub (List.forall_mem_cons.mpr ⟨tw456, List.forall_mem_cons.mpr ⟨tw154, List.forall_mem_cons.mpr ⟨tw61, List.forall_mem_cons.mpr ⟨tw152, List.forall_mem_nil _⟩⟩⟩⟩) (by decide +kernel)
theorem gw_X5_228 : GoodIn tblG (va_wsS RX5 228 yX5_numberOf [.code yX5_numberOf cX5_numberOf 1 (some .int)]) := goodIn_sub (List.forall_mem_cons.mpr ⟨tw460, List.forall_mem_cons.mpr ⟨tw461, List.forall_mem_cons.mpr ⟨tw61, List.forall_mem_cons.mpr ⟨tw457, List.forall_mem_nil _⟩⟩⟩⟩) (by decide +kernel)
theorem gc_X5_kindOf : GoodIn tblG [.code yX5_kindOf cX5_kindOf 1 (some .int)] := goodIn_sub (List.forall_mem_cons.mpr ⟨tw151, List.forall_mem_nil _⟩) (by decide +kernel)
theorem gc_X5_objectOf : GoodIn tblG [.code yX5_objectOf cX5_objectOf 1 (some .int)] := goodIn_sub (List.forall_mem_cons.mpr ⟨tw152, List.forall_mem_nil _⟩) (by decide +kernel)
theorem gw_X5_234 : GoodIn tblG (wsV RX5 234 RX3 yX3_isRightIndex [.code yX3_isRightIndex cX3_isRightIndex 2 (some .boolean)]) := goodIn_sub (List.forall_mem_cons.mpr ⟨tw466, List.forall_mem_cons.mpr ⟨tw467, List.forall_mem_cons.mpr ⟨tw468, List.forall_mem_cons.mpr ⟨tw9, List.forall_mem_cons.mpr ⟨tw158, List.forall_mem_nil _⟩⟩⟩⟩⟩) (by decide +kernel)
theorem gw_X5_237 : GoodIn tblG (wsV RX5 237 RX5 yX5_countAtEndWith [.code yX5_countAtEndWith cX5_countAtEndWith 2 (some .int)]) := goodIn_sub (List.forall_mem_cons.mpr ⟨tw469, List.forall_mem_cons.mpr ⟨tw470, List.forall_mem_cons.mpr ⟨tw471, List.forall_mem_cons.mpr ⟨tw61, List.forall_mem_cons.mpr ⟨tw465, List.forall_mem_nil _⟩⟩⟩⟩⟩) (by decide +kernel)
theorem gw_X5_311 : GoodIn tblG (wsV RX5 311 RX5 yX5_commandStep [.code yX5_commandStep cX5_commandStep 6 (some .boolean)]) := goodIn_sub (List.forall_mem_cons.mpr ⟨tw480, List.forall_mem_cons.mpr ⟨tw481, List.forall_mem_cons.mpr ⟨tw482, List.forall_mem_cons.mpr ⟨tw61, List.forall_mem_cons.mpr ⟨tw475, List.forall_mem_nil _⟩⟩⟩⟩⟩) (by decide +kernel)
theorem gw_X5_314 : GoodIn tblG (wsV RX5 314 RX5 yX5_commandSet [.code yX5_commandSet cX5_commandSet 6 (some .boolean)]) := goodIn_sub (List.forall_mem_cons.mpr ⟨tw483, List.forall_mem_cons.mpr ⟨tw484, List.forall_mem_cons.mpr ⟨tw485, List.forall_mem_cons.mpr ⟨tw61, List.forall_mem_cons.mpr ⟨tw476, List.forall_mem_nil _⟩⟩⟩⟩⟩) (by decide +kernel)
theorem gw_X5_317 : GoodIn tblG (wsV RX5 317 RX5 yX5_commandWake [.code yX5_commandWake cX5_commandWake 3 (some .boolean)]) := goodIn_sub (List.forall_mem_cons.mpr ⟨tw486, List.forall_mem_cons.mpr ⟨tw487, List.forall_mem_cons.mpr ⟨tw488, List.forall_mem_cons.mpr ⟨tw61, List.forall_mem_cons.mpr ⟨tw477, List.forall_mem_nil _⟩⟩⟩⟩⟩) (by decide +kernel)
theorem gw_X5_320 : GoodIn tblG (wsV RX5 320 RX5 yX5_commandRemove [.code yX5_commandRemove cX5_commandRemove 2 (some .boolean)]) := goodIn_sub (List.forall_mem_cons.mpr ⟨tw489, List.forall_mem_cons.mpr ⟨tw490, List.forall_mem_cons.mpr ⟨tw491, List.forall_mem_cons.mpr ⟨tw61, List.forall_mem_cons.mpr ⟨tw478, List.forall_mem_nil _⟩⟩⟩⟩⟩) (by decide +kernel)
theorem gw_X5_323 : GoodIn tblG (wsV RX5 323 RX5 yX5_commandLearns [.code yX5_commandLearns cX5_commandLearns 3 (some .boolean)]) := goodIn_sub (List.forall_mem_cons.mpr ⟨tw492, List.forall_mem_cons.mpr ⟨tw493, List.forall_mem_cons.mpr ⟨tw494, List.forall_mem_cons.mpr ⟨tw61, List.forall_mem_cons.mpr ⟨tw479, List.forall_mem_nil _⟩⟩⟩⟩⟩) (by decide +kernel)
theorem gw_X5_240 : GoodIn tblG (va_wsS RX5 240 yX5_withoutGroups [.code yX5_withoutGroups cX5_withoutGroups 6 (some .long)]) := goodIn_sub (List.forall_mem_cons.mpr ⟨tw496, List.forall_mem_cons.mpr ⟨tw497, List.forall_mem_cons.mpr ⟨tw61, List.forall_mem_cons.mpr ⟨tw474, List.forall_mem_nil _⟩⟩⟩⟩) (by decide +kernel)
theorem gw_X5_248 : GoodIn tblG (wsV RX5 248 RX5 yX5_runCommand [.code yX5_runCommand cX5_runCommand 6 (some .boolean)]) := goodIn_sub (List.forall_mem_cons.mpr ⟨tw498, List.forall_mem_cons.mpr ⟨tw499, List.forall_mem_cons.mpr ⟨tw500, List.forall_mem_cons.mpr ⟨tw61, List.forall_mem_cons.mpr ⟨tw495, List.forall_mem_nil _⟩⟩⟩⟩⟩) (by decide +kernel)
theorem gw_X5_326 : GoodIn tblG (va_wsS RX5 326 yX5_thingBeside [.code yX5_thingBeside cX5_thingBeside 4 (some .int)]) := goodIn_sub (List.forall_mem_cons.mpr ⟨tw505, List.forall_mem_cons.mpr ⟨tw506, List.forall_mem_cons.mpr ⟨tw61, List.forall_mem_cons.mpr ⟨tw504, List.forall_mem_nil _⟩⟩⟩⟩) (by decide +kernel)
theorem gw_X5_257 : GoodIn tblG (wsV RX5 257 RX5 yX5_tryByChance [.code yX5_tryByChance cX5_tryByChance 9 (some .boolean)]) := goodIn_sub (List.forall_mem_cons.mpr ⟨tw510, List.forall_mem_cons.mpr ⟨tw511, List.forall_mem_cons.mpr ⟨tw512, List.forall_mem_cons.mpr ⟨tw61, List.forall_mem_cons.mpr ⟨tw507, List.forall_mem_nil _⟩⟩⟩⟩⟩) (by decide +kernel)
theorem gw_X5_260 : GoodIn tblG (va_wsS RX5 260 yX5_checkSlot [.code yX5_checkSlot cX5_checkSlot 1 none]) := goodIn_sub (List.forall_mem_cons.mpr ⟨tw515, List.forall_mem_cons.mpr ⟨tw516, List.forall_mem_cons.mpr ⟨tw61, List.forall_mem_cons.mpr ⟨tw514, List.forall_mem_nil _⟩⟩⟩⟩) (by decide +kernel)
theorem gw_X6_72 : GoodIn tblG (va_wsS RX6 72 yX6_bits [.code yX6_bits cX6_bits 3 (some .int)]) := goodIn_sub (List.forall_mem_cons.mpr ⟨tw542, List.forall_mem_cons.mpr ⟨tw543, List.forall_mem_cons.mpr ⟨tw544, List.forall_mem_cons.mpr ⟨tw541, List.forall_mem_nil _⟩⟩⟩⟩) (by decide +kernel)
theorem gw_X6_60 : GoodIn tblG (va_wsS RX6 60 yX6_in [.code yX6_in cX6_in 3 (some .boolean)]) := goodIn_sub (List.forall_mem_cons.mpr ⟨tw546, List.forall_mem_cons.mpr ⟨tw547, List.forall_mem_cons.mpr ⟨tw544, List.forall_mem_cons.mpr ⟨tw537, List.forall_mem_nil _⟩⟩⟩⟩) (by decide +kernel)
theorem gw_X6_64 : GoodIn tblG (wsV RX6 64 RX6 yX6_rightsMany [.code yX6_rightsMany cX6_rightsMany 3 (some .int)]) := goodIn_sub (List.forall_mem_cons.mpr ⟨tw548, List.forall_mem_cons.mpr ⟨tw549, List.forall_mem_cons.mpr ⟨tw550, List.forall_mem_cons.mpr ⟨tw544, List.forall_mem_cons.mpr ⟨tw545, List.forall_mem_nil _⟩⟩⟩⟩⟩) (by decide +kernel)
theorem gw_X6_68 : GoodIn tblG (va_wsS RX6 68 yX6_at [.code yX6_at cX6_at 2 (some .int)]) := goodIn_sub (List.forall_mem_cons.mpr ⟨tw557, List.forall_mem_cons.mpr ⟨tw558, List.forall_mem_cons.mpr ⟨tw544, List.forall_mem_cons.mpr ⟨tw556, List.forall_mem_nil _⟩⟩⟩⟩) (by decide +kernel)
theorem gw_X6_76 : GoodIn tblG (va_wsS RX6 76 yX6_isIn [.code yX6_isIn cX6_isIn 2 (some .boolean)]) := goodIn_sub (List.forall_mem_cons.mpr ⟨tw563, List.forall_mem_cons.mpr ⟨tw564, List.forall_mem_cons.mpr ⟨tw544, List.forall_mem_cons.mpr ⟨tw562, List.forall_mem_nil _⟩⟩⟩⟩) (by decide +kernel)
theorem gw_X6_80 : GoodIn tblG (wsV RX6 80 RX6 yX6_ends [.code yX6_ends cX6_ends 4 (some .boolean)]) := goodIn_sub (List.forall_mem_cons.mpr ⟨tw565, List.forall_mem_cons.mpr ⟨tw566, List.forall_mem_cons.mpr ⟨tw567, List.forall_mem_cons.mpr ⟨tw544, List.forall_mem_cons.mpr ⟨tw561, List.forall_mem_nil _⟩⟩⟩⟩⟩) (by decide +kernel)
theorem gw_X6_83 : GoodIn tblG (wsV RX6 83 RX6 yX6_firstWay [.code yX6_firstWay cX6_firstWay 6 (some .int)]) := goodIn_sub (List.forall_mem_cons.mpr ⟨tw570, List.forall_mem_cons.mpr ⟨tw571, List.forall_mem_cons.mpr ⟨tw572, List.forall_mem_cons.mpr ⟨tw544, List.forall_mem_cons.mpr ⟨tw568, List.forall_mem_nil _⟩⟩⟩⟩⟩) (by decide +kernel)
theorem gw_X6_90 : GoodIn tblG (wsV RX6 90 RX6 yX6_goRound [.code yX6_goRound cX6_goRound 7 (some .boolean)]) := goodIn_sub (List.forall_mem_cons.mpr ⟨tw574, List.forall_mem_cons.mpr ⟨tw575, List.forall_mem_cons.mpr ⟨tw576, List.forall_mem_cons.mpr ⟨tw544, List.forall_mem_cons.mpr ⟨tw573, List.forall_mem_nil _⟩⟩⟩⟩⟩) (by decide +kernel)
theorem gw_X6_94 : GoodIn tblG (wsV RX6 94 RX6 yX6_has [.code yX6_has cX6_has 4 (some .boolean)]) := goodIn_sub (List.forall_mem_cons.mpr ⟨tw580, List.forall_mem_cons.mpr ⟨tw581, List.forall_mem_cons.mpr ⟨tw582, List.forall_mem_cons.mpr ⟨tw544, List.forall_mem_cons.mpr ⟨tw559, List.forall_mem_nil _⟩⟩⟩⟩⟩) (by decide +kernel)
theorem gw_X6_97 : GoodIn tblG (wsV RX6 97 RX6 yX6_isPerson [.code yX6_isPerson cX6_isPerson 2 (some .boolean)]) := goodIn_sub (List.forall_mem_cons.mpr ⟨tw583, List.forall_mem_cons.mpr ⟨tw584, List.forall_mem_cons.mpr ⟨tw585, List.forall_mem_cons.mpr ⟨tw544, List.forall_mem_cons.mpr ⟨tw579, List.forall_mem_nil _⟩⟩⟩⟩⟩) (by decide +kernel)
theorem gw_X6_100 : GoodIn tblG (wsV RX6 100 RX6 yX6_learn [.code yX6_learn cX6_learn 6 none]) := goodIn_sub (List.forall_mem_cons.mpr ⟨tw587, List.forall_mem_cons.mpr ⟨tw588, List.forall_mem_cons.mpr ⟨tw589, List.forall_mem_cons.mpr ⟨tw544, List.forall_mem_cons.mpr ⟨tw586, List.forall_mem_nil _⟩⟩⟩⟩⟩) (by decide +kernel)
theorem gw_X6_107 : GoodIn tblG (wsV RX6 107 RX6 yX6_letter [.code yX6_letter cX6_letter 2 (some .int)]) := goodIn_sub (List.forall_mem_cons.mpr ⟨tw597, List.forall_mem_cons.mpr ⟨tw598, List.forall_mem_cons.mpr ⟨tw599, List.forall_mem_cons.mpr ⟨tw544, List.forall_mem_cons.mpr ⟨tw594, List.forall_mem_nil _⟩⟩⟩⟩⟩) (by decide +kernel)
theorem gw_X6_116 : GoodIn tblG (wsV RX6 116 RX6 yX6_isDigit [.code yX6_isDigit cX6_isDigit 2 (some .boolean)]) := goodIn_sub (List.forall_mem_cons.mpr ⟨tw601, List.forall_mem_cons.mpr ⟨tw602, List.forall_mem_cons.mpr ⟨tw603, List.forall_mem_cons.mpr ⟨tw544, List.forall_mem_cons.mpr ⟨tw600, List.forall_mem_nil _⟩⟩⟩⟩⟩) (by decide +kernel)
theorem gw_X6_119 : GoodIn tblG (va_wsS RX6 119 yX6_rightOf [.code yX6_rightOf cX6_rightOf 1 (some .int)]) := goodIn_sub (List.forall_mem_cons.mpr ⟨tw604, List.forall_mem_cons.mpr ⟨tw605, List.forall_mem_cons.mpr ⟨tw544, List.forall_mem_cons.mpr ⟨tw596, List.forall_mem_nil _⟩⟩⟩⟩) (by decide +kernel)
theorem gw_X6_110 : GoodIn tblG (va_wsS RX6 110 yX6_kindOf [.code yX6_kindOf cX6_kindOf 1 (some .int)]) := goodIn_sub (List.forall_mem_cons.mpr ⟨tw607, List.forall_mem_cons.mpr ⟨tw608, List.forall_mem_cons.mpr ⟨tw544, List.forall_mem_cons.mpr ⟨tw595, List.forall_mem_nil _⟩⟩⟩⟩) (by decide +kernel)
theorem gw_X6_113 : GoodIn tblG (wsV RX6 113 RX6 yX6_readRights [.code yX6_readRights cX6_readRights 7 (some .int)]) := goodIn_sub (List.forall_mem_cons.mpr ⟨tw609, List.forall_mem_cons.mpr ⟨tw610, List.forall_mem_cons.mpr ⟨tw611, List.forall_mem_cons.mpr ⟨tw544, List.forall_mem_cons.mpr ⟨tw606, List.forall_mem_nil _⟩⟩⟩⟩⟩) (by decide +kernel)
theorem gw_X6_122 : GoodIn tblG (wsV RX6 122 RX6 yX6_readText [.code yX6_readText cX6_readText 2 (some .int)]) := goodIn_sub (List.forall_mem_cons.mpr ⟨tw613, List.forall_mem_cons.mpr ⟨tw614, List.forall_mem_cons.mpr ⟨tw615, List.forall_mem_cons.mpr ⟨tw544, List.forall_mem_cons.mpr ⟨tw612, List.forall_mem_nil _⟩⟩⟩⟩⟩) (by decide +kernel)
theorem gw_X6_125 : GoodIn tblG (wsV RX6 125 RX6 yX6_awakeSet [.code yX6_awakeSet cX6_awakeSet 3 (some .int)]) := goodIn_sub (List.forall_mem_cons.mpr ⟨tw619, List.forall_mem_cons.mpr ⟨tw620, List.forall_mem_cons.mpr ⟨tw621, List.forall_mem_cons.mpr ⟨tw544, List.forall_mem_cons.mpr ⟨tw560, List.forall_mem_nil _⟩⟩⟩⟩⟩) (by decide +kernel)
theorem gw_X6_128 : GoodIn tblG (wsV RX6 128 RX6 yX6_spread [.code yX6_spread cX6_spread 3 none]) := goodIn_sub (List.forall_mem_cons.mpr ⟨tw622, List.forall_mem_cons.mpr ⟨tw623, List.forall_mem_cons.mpr ⟨tw624, List.forall_mem_cons.mpr ⟨tw544, List.forall_mem_cons.mpr ⟨tw577, List.forall_mem_nil _⟩⟩⟩⟩⟩) (by decide +kernel)
theorem gw_X6_132 : GoodIn tblG (wsV RX6 132 RX6 yX6_persons [.code yX6_persons cX6_persons 3 (some .int)]) := goodIn_sub (List.forall_mem_cons.mpr ⟨tw625, List.forall_mem_cons.mpr ⟨tw626, List.forall_mem_cons.mpr ⟨tw627, List.forall_mem_cons.mpr ⟨tw544, List.forall_mem_cons.mpr ⟨tw618, List.forall_mem_nil _⟩⟩⟩⟩⟩) (by decide +kernel)
theorem gw_X6_135 : GoodIn tblG (wsV RX6 135 RX6 yX6_endMany [.code yX6_endMany cX6_endMany 3 (some .int)]) := goodIn_sub (List.forall_mem_cons.mpr ⟨tw628, List.forall_mem_cons.mpr ⟨tw629, List.forall_mem_cons.mpr ⟨tw630, List.forall_mem_cons.mpr ⟨tw544, List.forall_mem_cons.mpr ⟨tw578, List.forall_mem_nil _⟩⟩⟩⟩⟩) (by decide +kernel)
theorem gw_X6_138 : GoodIn tblG (wsV RX6 138 RX6 yX6_pairs [.code yX6_pairs cX6_pairs 4 (some .int)]) := goodIn_sub (List.forall_mem_cons.mpr ⟨tw631, List.forall_mem_cons.mpr ⟨tw632, List.forall_mem_cons.mpr ⟨tw633, List.forall_mem_cons.mpr ⟨tw544, List.forall_mem_cons.mpr ⟨tw590, List.forall_mem_nil _⟩⟩⟩⟩⟩) (by decide +kernel)
theorem gw_X6_142 : GoodIn tblG (wsV RX6 142 RX6 yX6_isThing [.code yX6_isThing cX6_isThing 2 (some .boolean)]) := goodIn_sub (List.forall_mem_cons.mpr ⟨tw635, List.forall_mem_cons.mpr ⟨tw636, List.forall_mem_cons.mpr ⟨tw637, List.forall_mem_cons.mpr ⟨tw544, List.forall_mem_cons.mpr ⟨tw555, List.forall_mem_nil _⟩⟩⟩⟩⟩) (by decide +kernel)
theorem gw_X6_145 : GoodIn tblG (wsV RX6 145 RX6 yX6_whyNotRight [.code yX6_whyNotRight cX6_whyNotRight 4 (some .int)]) := goodIn_sub (List.forall_mem_cons.mpr ⟨tw641, List.forall_mem_cons.mpr ⟨tw642, List.forall_mem_cons.mpr ⟨tw643, List.forall_mem_cons.mpr ⟨tw544, List.forall_mem_cons.mpr ⟨tw640, List.forall_mem_nil _⟩⟩⟩⟩⟩) (by decide +kernel)
theorem gw_X6_149 : GoodIn tblG (wsV RX6 149 RX6 yX6_need [.code yX6_need cX6_need 7 none]) := goodIn_sub (List.forall_mem_cons.mpr ⟨tw647, List.forall_mem_cons.mpr ⟨tw648, List.forall_mem_cons.mpr ⟨tw649, List.forall_mem_cons.mpr ⟨tw544, List.forall_mem_cons.mpr ⟨tw646, List.forall_mem_nil _⟩⟩⟩⟩⟩) (by decide +kernel)
theorem gw_X6_153 : GoodIn tblG (wsV RX6 153 RX6 yX6_remember [.code yX6_remember cX6_remember 2 none]) := goodIn_sub (List.forall_mem_cons.mpr ⟨tw651, List.forall_mem_cons.mpr ⟨tw652, List.forall_mem_cons.mpr ⟨tw653, List.forall_mem_cons.mpr ⟨tw544, List.forall_mem_cons.mpr ⟨tw539, List.forall_mem_nil _⟩⟩⟩⟩⟩) (by decide +kernel)
theorem gw_X6_156 : GoodIn tblG (wsV RX6 156 RX6 yX6_drop [.code yX6_drop cX6_drop 8 (some .int)]) := goodIn_sub (List.forall_mem_cons.mpr ⟨tw656, List.forall_mem_cons.mpr ⟨tw657, List.forall_mem_cons.mpr ⟨tw658, List.forall_mem_cons.mpr ⟨tw544, List.forall_mem_cons.mpr ⟨tw655, List.forall_mem_nil _⟩⟩⟩⟩⟩) (by decide +kernel)
theorem gw_X6_159 : GoodIn tblG (wsV RX6 159 RX6 yX6_whyNotWake [.code yX6_whyNotWake cX6_whyNotWake 2 (some .int)]) := goodIn_sub (List.forall_mem_cons.mpr ⟨tw661, List.forall_mem_cons.mpr ⟨tw662, List.forall_mem_cons.mpr ⟨tw663, List.forall_mem_cons.mpr ⟨tw544, List.forall_mem_cons.mpr ⟨tw660, List.forall_mem_nil _⟩⟩⟩⟩⟩) (by decide +kernel)
theorem gw_X6_162 : GoodIn tblG (wsV RX6 162 RX6 yX6_whyNotSet [.code yX6_whyNotSet cX6_whyNotSet 6 (some .int)]) := goodIn_sub (List.forall_mem_cons.mpr ⟨tw667, List.forall_mem_cons.mpr ⟨tw668, List.forall_mem_cons.mpr ⟨tw669, List.forall_mem_cons.mpr ⟨tw544, List.forall_mem_cons.mpr ⟨tw665, List.forall_mem_nil _⟩⟩⟩⟩⟩) (by decide +kernel)
theorem gw_X6_166 : GoodIn tblG (wsV RX6 166 RX6 yX6_put [.code yX6_put cX6_put 6 none]) := goodIn_sub (List.forall_mem_cons.mpr ⟨tw670, List.forall_mem_cons.mpr ⟨tw671, List.forall_mem_cons.mpr ⟨tw672, List.forall_mem_cons.mpr ⟨tw544, List.forall_mem_cons.mpr ⟨tw666, List.forall_mem_nil _⟩⟩⟩⟩⟩) (by decide +kernel)
theorem gw_X6_170 : GoodIn tblG (wsV RX6 170 RX6 yX6_whyNotStep [.code yX6_whyNotStep cX6_whyNotStep 5 (some .int)]) := goodIn_sub (List.forall_mem_cons.mpr ⟨tw676, List.forall_mem_cons.mpr ⟨tw677, List.forall_mem_cons.mpr ⟨tw678, List.forall_mem_cons.mpr ⟨tw544, List.forall_mem_cons.mpr ⟨tw674, List.forall_mem_nil _⟩⟩⟩⟩⟩) (by decide +kernel)
theorem gw_X6_173 : GoodIn tblG (wsV RX6 173 RX6 yX6_hinders [.code yX6_hinders cX6_hinders 6 (some .int)]) := goodIn_sub (List.forall_mem_cons.mpr ⟨tw679, List.forall_mem_cons.mpr ⟨tw680, List.forall_mem_cons.mpr ⟨tw681, List.forall_mem_cons.mpr ⟨tw544, List.forall_mem_cons.mpr ⟨tw675, List.forall_mem_nil _⟩⟩⟩⟩⟩) (by decide +kernel)
theorem gw_X6_177 : GoodIn tblG (wsV RX6 177 RX6 yX6_whyNotDo [.code yX6_whyNotDo cX6_whyNotDo 8 (some .int)]) := goodIn_sub (List.forall_mem_cons.mpr ⟨tw683, List.forall_mem_cons.mpr ⟨tw684, List.forall_mem_cons.mpr ⟨tw685, List.forall_mem_cons.mpr ⟨tw544, List.forall_mem_cons.mpr ⟨tw682, List.forall_mem_nil _⟩⟩⟩⟩⟩) (by decide +kernel)
theorem gw_X6_180 : GoodIn tblG (wsV RX6 180 RX6 yX6_putNumber [.code yX6_putNumber cX6_putNumber 3 none]) := goodIn_sub (List.forall_mem_cons.mpr ⟨tw692, List.forall_mem_cons.mpr ⟨tw693, List.forall_mem_cons.mpr ⟨tw694, List.forall_mem_cons.mpr ⟨tw544, List.forall_mem_cons.mpr ⟨tw691, List.forall_mem_nil _⟩⟩⟩⟩⟩) (by decide +kernel)
theorem gw_X6_190 : GoodIn tblG (wsV RX6 190 RX6 yX6_endsWithout [.code yX6_endsWithout cX6_endsWithout 7 (some .boolean)]) := goodIn_sub (List.forall_mem_cons.mpr ⟨tw698, List.forall_mem_cons.mpr ⟨tw699, List.forall_mem_cons.mpr ⟨tw700, List.forall_mem_cons.mpr ⟨tw544, List.forall_mem_cons.mpr ⟨tw695, List.forall_mem_nil _⟩⟩⟩⟩⟩) (by decide +kernel)
theorem gw_X6_194 : GoodIn tblG (wsV RX6 194 RX6 yX6_listRights [.code yX6_listRights cX6_listRights 5 (some .int)]) := goodIn_sub (List.forall_mem_cons.mpr ⟨tw701, List.forall_mem_cons.mpr ⟨tw702, List.forall_mem_cons.mpr ⟨tw703, List.forall_mem_cons.mpr ⟨tw544, List.forall_mem_cons.mpr ⟨tw690, List.forall_mem_nil _⟩⟩⟩⟩⟩) (by decide +kernel)
theorem gw_X6_197 : GoodIn tblG (wsV RX6 197 RX6 yX6_cuts [.code yX6_cuts cX6_cuts 7 (some .int)]) := goodIn_sub (List.forall_mem_cons.mpr ⟨tw705, List.forall_mem_cons.mpr ⟨tw706, List.forall_mem_cons.mpr ⟨tw707, List.forall_mem_cons.mpr ⟨tw544, List.forall_mem_cons.mpr ⟨tw704, List.forall_mem_nil _⟩⟩⟩⟩⟩) (by decide +kernel)
theorem gw_X6_200 : GoodIn tblG (wsV RX6 200 RX6 yX6_changes [.code yX6_changes cX6_changes 7 (some .boolean)]) := goodIn_sub (List.forall_mem_cons.mpr ⟨tw714, List.forall_mem_cons.mpr ⟨tw715, List.forall_mem_cons.mpr ⟨tw716, List.forall_mem_cons.mpr ⟨tw544, List.forall_mem_cons.mpr ⟨tw712, List.forall_mem_nil _⟩⟩⟩⟩⟩) (by decide +kernel)
theorem gw_X6_203 : GoodIn tblG (wsV RX6 203 RX6 yX6_asks [.code yX6_asks cX6_asks 6 (some .boolean)]) := goodIn_sub (List.forall_mem_cons.mpr ⟨tw717, List.forall_mem_cons.mpr ⟨tw718, List.forall_mem_cons.mpr ⟨tw719, List.forall_mem_cons.mpr ⟨tw544, List.forall_mem_cons.mpr ⟨tw713, List.forall_mem_nil _⟩⟩⟩⟩⟩) (by decide +kernel)
theorem gw_X6_208 : GoodIn tblG (wsV RX6 208 RX6 yX6_putAside [.code yX6_putAside cX6_putAside 2 none]) := goodIn_sub (List.forall_mem_cons.mpr ⟨tw722, List.forall_mem_cons.mpr ⟨tw723, List.forall_mem_cons.mpr ⟨tw724, List.forall_mem_cons.mpr ⟨tw544, List.forall_mem_cons.mpr ⟨tw553, List.forall_mem_nil _⟩⟩⟩⟩⟩) (by decide +kernel)
theorem gw_X6_211 : GoodIn tblG (wsV RX6 211 RX6 yX6_succeeds [.code yX6_succeeds cX6_succeeds 7 (some .boolean)]) := goodIn_sub (List.forall_mem_cons.mpr ⟨tw725, List.forall_mem_cons.mpr ⟨tw726, List.forall_mem_cons.mpr ⟨tw727, List.forall_mem_cons.mpr ⟨tw544, List.forall_mem_cons.mpr ⟨tw720, List.forall_mem_nil _⟩⟩⟩⟩⟩) (by decide +kernel)
theorem gw_X6_214 : GoodIn tblG (wsV RX6 214 RX6 yX6_bringBack [.code yX6_bringBack cX6_bringBack 2 none]) := goodIn_sub (List.forall_mem_cons.mpr ⟨tw728, List.forall_mem_cons.mpr ⟨tw729, List.forall_mem_cons.mpr ⟨tw730, List.forall_mem_cons.mpr ⟨tw544, List.forall_mem_cons.mpr ⟨tw554, List.forall_mem_nil _⟩⟩⟩⟩⟩) (by decide +kernel)
theorem gw_X6_221 : GoodIn tblG (wsV RX6 221 RX6 yX6_tries [.code yX6_tries cX6_tries 10 (some .boolean)]) := goodIn_sub (List.forall_mem_cons.mpr ⟨tw735, List.forall_mem_cons.mpr ⟨tw736, List.forall_mem_cons.mpr ⟨tw737, List.forall_mem_cons.mpr ⟨tw544, List.forall_mem_cons.mpr ⟨tw732, List.forall_mem_nil _⟩⟩⟩⟩⟩) (by decide +kernel)
theorem gw_L_7 : GoodIn tblG (wsV RL 7 RX5 yX5_append [.code yX5_append cX5_append 2 (some .int)]) := goodIn_sub (List.forall_mem_cons.mpr ⟨tw743, List.forall_mem_cons.mpr ⟨tw744, List.forall_mem_cons.mpr ⟨tw745, List.forall_mem_cons.mpr ⟨tw61, List.forall_mem_cons.mpr ⟨tw344, List.forall_mem_nil _⟩⟩⟩⟩⟩) (by decide +kernel)
theorem gw_L_17 : GoodIn tblG (wsV RL 17 RX5 yX5_load [.code yX5_load cX5_load 2 (some .int)]) := goodIn_sub (List.forall_mem_cons.mpr ⟨tw747, List.forall_mem_cons.mpr ⟨tw748, List.forall_mem_cons.mpr ⟨tw749, List.forall_mem_cons.mpr ⟨tw61, List.forall_mem_cons.mpr ⟨tw353, List.forall_mem_nil _⟩⟩⟩⟩⟩) (by decide +kernel)
theorem gw_L_21 : GoodIn tblG (wsV RL 21 RX5 yX5_about [.code yX5_about cX5_about 2 (some .int)]) := goodIn_sub (List.forall_mem_cons.mpr ⟨tw751, List.forall_mem_cons.mpr ⟨tw752, List.forall_mem_cons.mpr ⟨tw753, List.forall_mem_cons.mpr ⟨tw61, List.forall_mem_cons.mpr ⟨tw373, List.forall_mem_nil _⟩⟩⟩⟩⟩) (by decide +kernel)
theorem gw_L_24 : GoodIn tblG (wsV RL 24 RX5 yX5_thing [.code yX5_thing cX5_thing 3 (some .int)]) := goodIn_sub (List.forall_mem_cons.mpr ⟨tw756, List.forall_mem_cons.mpr ⟨tw757, List.forall_mem_cons.mpr ⟨tw758, List.forall_mem_cons.mpr ⟨tw61, List.forall_mem_cons.mpr ⟨tw388, List.forall_mem_nil _⟩⟩⟩⟩⟩) (by decide +kernel)
theorem gw_L_30 : GoodIn tblG (wsV RL 30 RX5 yX5_rights [.code yX5_rights cX5_rights 7 (some .int)]) := goodIn_sub (List.forall_mem_cons.mpr ⟨tw760, List.forall_mem_cons.mpr ⟨tw761, List.forall_mem_cons.mpr ⟨tw762, List.forall_mem_cons.mpr ⟨tw61, List.forall_mem_cons.mpr ⟨tw396, List.forall_mem_nil _⟩⟩⟩⟩⟩) (by decide +kernel)
theorem gw_L_34 : GoodIn tblG (wsV RL 34 RX5 yX5_round [.code yX5_round cX5_round 5 (some .int)]) := goodIn_sub (List.forall_mem_cons.mpr ⟨tw764, List.forall_mem_cons.mpr ⟨tw765, List.forall_mem_cons.mpr ⟨tw766, List.forall_mem_cons.mpr ⟨tw61, List.forall_mem_cons.mpr ⟨tw399, List.forall_mem_nil _⟩⟩⟩⟩⟩) (by decide +kernel)
theorem gw_L_38 : GoodIn tblG (wsV RL 38 RX5 yX5_way [.code yX5_way cX5_way 4 (some .int)]) := goodIn_sub (List.forall_mem_cons.mpr ⟨tw768, List.forall_mem_cons.mpr ⟨tw769, List.forall_mem_cons.mpr ⟨tw770, List.forall_mem_cons.mpr ⟨tw61, List.forall_mem_cons.mpr ⟨tw401, List.forall_mem_nil _⟩⟩⟩⟩⟩) (by decide +kernel)
theorem gw_L_41 : GoodIn tblG (wsV RL 41 RX5 yX5_proof [.code yX5_proof cX5_proof 5 (some .int)]) := goodIn_sub (List.forall_mem_cons.mpr ⟨tw772, List.forall_mem_cons.mpr ⟨tw773, List.forall_mem_cons.mpr ⟨tw774, List.forall_mem_cons.mpr ⟨tw61, List.forall_mem_cons.mpr ⟨tw403, List.forall_mem_nil _⟩⟩⟩⟩⟩) (by decide +kernel)
theorem gw_L_44 : GoodIn tblG (wsV RL 44 RX5 yX5_addThing [.code yX5_addThing cX5_addThing 2 (some .int)]) := goodIn_sub (List.forall_mem_cons.mpr ⟨tw776, List.forall_mem_cons.mpr ⟨tw777, List.forall_mem_cons.mpr ⟨tw778, List.forall_mem_cons.mpr ⟨tw61, List.forall_mem_cons.mpr ⟨tw413, List.forall_mem_nil _⟩⟩⟩⟩⟩) (by decide +kernel)
theorem gw_L_48 : GoodIn tblG (wsV RL 48 RX5 yX5_removeThing [.code yX5_removeThing cX5_removeThing 2 (some .int)]) := goodIn_sub (List.forall_mem_cons.mpr ⟨tw780, List.forall_mem_cons.mpr ⟨tw781, List.forall_mem_cons.mpr ⟨tw782, List.forall_mem_cons.mpr ⟨tw61, List.forall_mem_cons.mpr ⟨tw417, List.forall_mem_nil _⟩⟩⟩⟩⟩) (by decide +kernel)
theorem gw_L_51 : GoodIn tblG (wsV RL 51 RX5 yX5_wake [.code yX5_wake cX5_wake 3 (some .int)]) := goodIn_sub (List.forall_mem_cons.mpr ⟨tw784, List.forall_mem_cons.mpr ⟨tw785, List.forall_mem_cons.mpr ⟨tw786, List.forall_mem_cons.mpr ⟨tw61, List.forall_mem_cons.mpr ⟨tw421, List.forall_mem_nil _⟩⟩⟩⟩⟩) (by decide +kernel)
theorem gw_L_55 : GoodIn tblG (wsV RL 55 RX5 yX5_set [.code yX5_set cX5_set 7 (some .boolean)]) := goodIn_sub (List.forall_mem_cons.mpr ⟨tw788, List.forall_mem_cons.mpr ⟨tw789, List.forall_mem_cons.mpr ⟨tw790, List.forall_mem_cons.mpr ⟨tw61, List.forall_mem_cons.mpr ⟨tw424, List.forall_mem_nil _⟩⟩⟩⟩⟩) (by decide +kernel)
theorem gw_L_59 : GoodIn tblG (wsV RL 59 RX5 yX5_take [.code yX5_take cX5_take 5 (some .int)]) := goodIn_sub (List.forall_mem_cons.mpr ⟨tw792, List.forall_mem_cons.mpr ⟨tw793, List.forall_mem_cons.mpr ⟨tw794, List.forall_mem_cons.mpr ⟨tw61, List.forall_mem_cons.mpr ⟨tw439, List.forall_mem_nil _⟩⟩⟩⟩⟩) (by decide +kernel)
theorem gw_L_63 : GoodIn tblG (wsV RL 63 RX5 yX5_give [.code yX5_give cX5_give 5 (some .int)]) := goodIn_sub (List.forall_mem_cons.mpr ⟨tw796, List.forall_mem_cons.mpr ⟨tw797, List.forall_mem_cons.mpr ⟨tw798, List.forall_mem_cons.mpr ⟨tw61, List.forall_mem_cons.mpr ⟨tw440, List.forall_mem_nil _⟩⟩⟩⟩⟩) (by decide +kernel)
theorem gw_L_66 : GoodIn tblG (wsV RL 66 RX5 yX5_undo [.code yX5_undo cX5_undo 1 (some .int)]) := goodIn_sub (List.forall_mem_cons.mpr ⟨tw800, List.forall_mem_cons.mpr ⟨tw801, List.forall_mem_cons.mpr ⟨tw802, List.forall_mem_cons.mpr ⟨tw61, List.forall_mem_cons.mpr ⟨tw441, List.forall_mem_nil _⟩⟩⟩⟩⟩) (by decide +kernel)
theorem gw_L_69 : GoodIn tblG (wsV RL 69 RX5 yX5_whyNot [.code yX5_whyNot cX5_whyNot 6 (some .int)]) := goodIn_sub (List.forall_mem_cons.mpr ⟨tw804, List.forall_mem_cons.mpr ⟨tw805, List.forall_mem_cons.mpr ⟨tw806, List.forall_mem_cons.mpr ⟨tw61, List.forall_mem_cons.mpr ⟨tw443, List.forall_mem_nil _⟩⟩⟩⟩⟩) (by decide +kernel)
theorem gw_L_73 : GoodIn tblG (wsV RL 73 RX5 yX5_needed [.code yX5_needed cX5_needed 8 (some .int)]) := goodIn_sub (List.forall_mem_cons.mpr ⟨tw808, List.forall_mem_cons.mpr ⟨tw809, List.forall_mem_cons.mpr ⟨tw810, List.forall_mem_cons.mpr ⟨tw61, List.forall_mem_cons.mpr ⟨tw449, List.forall_mem_nil _⟩⟩⟩⟩⟩) (by decide +kernel)
theorem gw_L_76 : GoodIn tblG (wsV RL 76 RX5 yX5_cut [.code yX5_cut cX5_cut 4 (some .int)]) := goodIn_sub (List.forall_mem_cons.mpr ⟨tw812, List.forall_mem_cons.mpr ⟨tw813, List.forall_mem_cons.mpr ⟨tw814, List.forall_mem_cons.mpr ⟨tw61, List.forall_mem_cons.mpr ⟨tw453, List.forall_mem_nil _⟩⟩⟩⟩⟩) (by decide +kernel)
theorem gw_L_79 : GoodIn tblG (wsV RL 79 RX5 yX5_cutAt [.code yX5_cutAt cX5_cutAt 6 (some .int)]) := goodIn_sub (List.forall_mem_cons.mpr ⟨tw816, List.forall_mem_cons.mpr ⟨tw817, List.forall_mem_cons.mpr ⟨tw818, List.forall_mem_cons.mpr ⟨tw61, List.forall_mem_cons.mpr ⟨tw462, List.forall_mem_nil _⟩⟩⟩⟩⟩) (by decide +kernel)
theorem gw_L_82 : GoodIn tblG (wsV RL 82 RX5 yX5_runScript [.code yX5_runScript cX5_runScript 6 (some .int)]) := goodIn_sub (List.forall_mem_cons.mpr ⟨tw820, List.forall_mem_cons.mpr ⟨tw821, List.forall_mem_cons.mpr ⟨tw822, List.forall_mem_cons.mpr ⟨tw61, List.forall_mem_cons.mpr ⟨tw501, List.forall_mem_nil _⟩⟩⟩⟩⟩) (by decide +kernel)
theorem gw_L_86 : GoodIn tblG (wsV RL 86 RX5 yX5_simulate [.code yX5_simulate cX5_simulate 8 (some .int)]) := goodIn_sub (List.forall_mem_cons.mpr ⟨tw824, List.forall_mem_cons.mpr ⟨tw825, List.forall_mem_cons.mpr ⟨tw826, List.forall_mem_cons.mpr ⟨tw61, List.forall_mem_cons.mpr ⟨tw513, List.forall_mem_nil _⟩⟩⟩⟩⟩) (by decide +kernel)
theorem gw_L_90 : GoodIn tblG (wsV RL 90 RX5 yX5_save [.code yX5_save cX5_save 2 (some .int)]) := goodIn_sub (List.forall_mem_cons.mpr ⟨tw828, List.forall_mem_cons.mpr ⟨tw829, List.forall_mem_cons.mpr ⟨tw830, List.forall_mem_cons.mpr ⟨tw61, List.forall_mem_cons.mpr ⟨tw517, List.forall_mem_nil _⟩⟩⟩⟩⟩) (by decide +kernel)
theorem gw_L_93 : GoodIn tblG (wsV RL 93 RX5 yX5_restore [.code yX5_restore cX5_restore 2 (some .int)]) := goodIn_sub (List.forall_mem_cons.mpr ⟨tw832, List.forall_mem_cons.mpr ⟨tw833, List.forall_mem_cons.mpr ⟨tw834, List.forall_mem_cons.mpr ⟨tw61, List.forall_mem_cons.mpr ⟨tw518, List.forall_mem_nil _⟩⟩⟩⟩⟩) (by decide +kernel)
