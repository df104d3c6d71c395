theorem zt1 {w : Cond} (h : w ∈ tables_1_1) : w ∈ lw_tbl := List.mem_append_right _ (List.mem_append_left _ h)
theorem zt2 {w : Cond} (h : w ∈ tables_1_2) : w ∈ lw_tbl := List.mem_append_right _ (List.mem_append_right _ (List.mem_append_left _ h))
theorem zt3 {w : Cond} (h : w ∈ tables_1_3) : w ∈ lw_tbl := List.mem_append_right _ (List.mem_append_right _ (List.mem_append_right _ (List.mem_append_left _ h)))
theorem zt4 {w : Cond} (h : w ∈ tables_1_4) : w ∈ lw_tbl := List.mem_append_right _ (List.mem_append_right _ (List.mem_append_right _ (List.mem_append_right _ (List.mem_append_left _ h))))
theorem zt5 {w : Cond} (h : w ∈ tables_1_5) : w ∈ lw_tbl := List.mem_append_right _ (List.mem_append_right _ (List.mem_append_right _ (List.mem_append_right _ (List.mem_append_right _ (List.mem_append_left _ h)))))
theorem zt6 {w : Cond} (h : w ∈ tables_1_6) : w ∈ lw_tbl := List.mem_append_right _ (List.mem_append_right _ (List.mem_append_right _ (List.mem_append_right _ (List.mem_append_right _ (List.mem_append_right _ (List.mem_append_left _ h))))))
theorem zt7 {w : Cond} (h : w ∈ tables_1_7) : w ∈ lw_tbl := List.mem_append_right _ (List.mem_append_right _ (List.mem_append_right _ (List.mem_append_right _ (List.mem_append_right _ (List.mem_append_right _ (List.mem_append_right _ (List.mem_append_left _ h)))))))
theorem zt8 {w : Cond} (h : w ∈ tables_1_8) : w ∈ lw_tbl := List.mem_append_right _ (List.mem_append_right _ (List.mem_append_right _ (List.mem_append_right _ (List.mem_append_right _ (List.mem_append_right _ (List.mem_append_right _ (List.mem_append_right _ (h))))))))
theorem zp1 {q : MethodName × Nat} (h : q ∈ lw_privs_1) : q ∈ lw_privs := List.mem_append_left _ h
theorem zp2 {q : MethodName × Nat} (h : q ∈ lw_privs_2) : q ∈ lw_privs := List.mem_append_right _ (List.mem_append_left _ h)
theorem zp3 {q : MethodName × Nat} (h : q ∈ lw_privs_3) : q ∈ lw_privs := List.mem_append_right _ (List.mem_append_right _ (List.mem_append_left _ h))
theorem zp4 {q : MethodName × Nat} (h : q ∈ lw_privs_4) : q ∈ lw_privs := List.mem_append_right _ (List.mem_append_right _ (List.mem_append_right _ (List.mem_append_left _ h)))
theorem zp5 {q : MethodName × Nat} (h : q ∈ lw_privs_5) : q ∈ lw_privs := List.mem_append_right _ (List.mem_append_right _ (List.mem_append_right _ (List.mem_append_right _ (List.mem_append_left _ h))))
theorem zp6 {q : MethodName × Nat} (h : q ∈ lw_privs_6) : q ∈ lw_privs := List.mem_append_right _ (List.mem_append_right _ (List.mem_append_right _ (List.mem_append_right _ (List.mem_append_right _ (List.mem_append_left _ h)))))
theorem zp7 {q : MethodName × Nat} (h : q ∈ lw_privs_7) : q ∈ lw_privs := List.mem_append_right _ (List.mem_append_right _ (List.mem_append_right _ (List.mem_append_right _ (List.mem_append_right _ (List.mem_append_right _ (List.mem_append_left _ h))))))
theorem zp8 {q : MethodName × Nat} (h : q ∈ lw_privs_8) : q ∈ lw_privs := List.mem_append_right _ (List.mem_append_right _ (List.mem_append_right _ (List.mem_append_right _ (List.mem_append_right _ (List.mem_append_right _ (List.mem_append_right _ (List.mem_append_left _ h)))))))
theorem zp9 {q : MethodName × Nat} (h : q ∈ lw_privs_9) : q ∈ lw_privs := List.mem_append_right _ (List.mem_append_right _ (List.mem_append_right _ (List.mem_append_right _ (List.mem_append_right _ (List.mem_append_right _ (List.mem_append_right _ (List.mem_append_right _ (List.mem_append_left _ h))))))))
theorem zp10 {q : MethodName × Nat} (h : q ∈ lw_privs_10) : q ∈ lw_privs := List.mem_append_right _ (List.mem_append_right _ (List.mem_append_right _ (List.mem_append_right _ (List.mem_append_right _ (List.mem_append_right _ (List.mem_append_right _ (List.mem_append_right _ (List.mem_append_right _ (List.mem_append_left _ h)))))))))
theorem zp11 {q : MethodName × Nat} (h : q ∈ lw_privs_11) : q ∈ lw_privs := List.mem_append_right _ (List.mem_append_right _ (List.mem_append_right _ (List.mem_append_right _ (List.mem_append_right _ (List.mem_append_right _ (List.mem_append_right _ (List.mem_append_right _ (List.mem_append_right _ (List.mem_append_right _ (List.mem_append_left _ h))))))))))
theorem zp12 {q : MethodName × Nat} (h : q ∈ lw_privs_12) : q ∈ lw_privs := List.mem_append_right _ (List.mem_append_right _ (List.mem_append_right _ (List.mem_append_right _ (List.mem_append_right _ (List.mem_append_right _ (List.mem_append_right _ (List.mem_append_right _ (List.mem_append_right _ (List.mem_append_right _ (List.mem_append_right _ (List.mem_append_left _ h)))))))))))
theorem zp13 {q : MethodName × Nat} (h : q ∈ lw_privs_13) : q ∈ lw_privs := List.mem_append_right _ (List.mem_append_right _ (List.mem_append_right _ (List.mem_append_right _ (List.mem_append_right _ (List.mem_append_right _ (List.mem_append_right _ (List.mem_append_right _ (List.mem_append_right _ (List.mem_append_right _ (List.mem_append_right _ (List.mem_append_right _ (h))))))))))))
theorem wse_X7_X7_hasRoom : Cond.selects RX7 yX7_hasRoom yX7_hasRoom ∈ zG := zgm (zsel (zp1 (List.mem_of_getElem? (i := 0) rfl))) rfl
theorem wse_X8_X8_refuse : Cond.selects RX8 yX8_refuse yX8_refuse ∈ zG := zgm (zsel (zp1 (List.mem_of_getElem? (i := 1) rfl))) rfl
theorem wse_X7_X7_put : Cond.selects RX7 yX7_put yX7_put ∈ zG := zgm (zsel (zp1 (List.mem_of_getElem? (i := 2) rfl))) rfl
theorem wse_X8_X8_deny : Cond.selects RX8 yX8_deny yX8_deny ∈ zG := zgm (zsel (zp1 (List.mem_of_getElem? (i := 3) rfl))) rfl
theorem wse_X6_X6_read : Cond.selects RX6 yX6_read yX6_read ∈ zG := zgm (zsel (zp1 (List.mem_of_getElem? (i := 4) rfl))) rfl
theorem wse_X6_X6_begin : Cond.selects RX6 yX6_begin yX6_begin ∈ zG := zgm (zsel (zp1 (List.mem_of_getElem? (i := 5) rfl))) rfl
theorem wse_X4_X4_clear : Cond.selects RX4 yX4_clear yX4_clear ∈ zG := zgm (zsel (zp1 (List.mem_of_getElem? (i := 6) rfl))) rfl
theorem wse_X6_X6_readSheet : Cond.selects RX6 yX6_readSheet yX6_readSheet ∈ zG := zgm (zsel (zp1 (List.mem_of_getElem? (i := 7) rfl))) rfl
theorem wse_X6_X6_keyword : Cond.selects RX6 yX6_keyword yX6_keyword ∈ zG := zgm (zsel (zp1 (List.mem_of_getElem? (i := 8) rfl))) rfl
theorem wse_X6_X6_readWord : Cond.selects RX6 yX6_readWord yX6_readWord ∈ zG := zgm (zsel (zp1 (List.mem_of_getElem? (i := 9) rfl))) rfl
theorem wse_X6_X6_skipBlanks : Cond.selects RX6 yX6_skipBlanks yX6_skipBlanks ∈ zG := zgm (zsel (zp1 (List.mem_of_getElem? (i := 10) rfl))) rfl
theorem wse_X7_X7_at : Cond.selects RX7 yX7_at yX7_at ∈ zG := zgm (zsel (zp1 (List.mem_of_getElem? (i := 11) rfl))) rfl
theorem wse_X6_X6_fail : Cond.selects RX6 yX6_fail yX6_fail ∈ zG := zgm (zsel (zp1 (List.mem_of_getElem? (i := 12) rfl))) rfl
theorem wse_X6_X6_wordIs : Cond.selects RX6 yX6_wordIs yX6_wordIs ∈ zG := zgm (zsel (zp1 (List.mem_of_getElem? (i := 13) rfl))) rfl
theorem wse_X6_X6_number : Cond.selects RX6 yX6_number yX6_number ∈ zG := zgm (zsel (zp1 (List.mem_of_getElem? (i := 14) rfl))) rfl
theorem wse_X6_X6_semicolon : Cond.selects RX6 yX6_semicolon yX6_semicolon ∈ zG := zgm (zsel (zp1 (List.mem_of_getElem? (i := 15) rfl))) rfl
theorem wse_X6_X6_moreText : Cond.selects RX6 yX6_moreText yX6_moreText ∈ zG := zgm (zsel (zp2 (List.mem_of_getElem? (i := 0) rfl))) rfl
theorem wse_X6_X6_readTool : Cond.selects RX6 yX6_readTool yX6_readTool ∈ zG := zgm (zsel (zp2 (List.mem_of_getElem? (i := 1) rfl))) rfl
theorem wse_X6_X6_readAllow : Cond.selects RX6 yX6_readAllow yX6_readAllow ∈ zG := zgm (zsel (zp2 (List.mem_of_getElem? (i := 2) rfl))) rfl
theorem wse_X6_X6_readFlange : Cond.selects RX6 yX6_readFlange yX6_readFlange ∈ zG := zgm (zsel (zp2 (List.mem_of_getElem? (i := 3) rfl))) rfl
theorem wse_X6_X6_newName : Cond.selects RX6 yX6_newName yX6_newName ∈ zG := zgm (zsel (zp2 (List.mem_of_getElem? (i := 4) rfl))) rfl
theorem wse_X6_X6_name : Cond.selects RX6 yX6_name yX6_name ∈ zG := zgm (zsel (zp2 (List.mem_of_getElem? (i := 5) rfl))) rfl
theorem wse_X6_X6_isOwnWord : Cond.selects RX6 yX6_isOwnWord yX6_isOwnWord ∈ zG := zgm (zsel (zp2 (List.mem_of_getElem? (i := 6) rfl))) rfl
theorem wse_X6_X6_find : Cond.selects RX6 yX6_find yX6_find ∈ zG := zgm (zsel (zp2 (List.mem_of_getElem? (i := 7) rfl))) rfl
theorem wse_X6_X6_where : Cond.selects RX6 yX6_where yX6_where ∈ zG := zgm (zsel (zp2 (List.mem_of_getElem? (i := 8) rfl))) rfl
theorem wse_X6_X6_sideOf : Cond.selects RX6 yX6_sideOf yX6_sideOf ∈ zG := zgm (zsel (zp2 (List.mem_of_getElem? (i := 9) rfl))) rfl
theorem wse_X4_X4_hangsBy : Cond.selects RX4 yX4_hangsBy yX4_hangsBy ∈ zG := zgm (zsel (zp2 (List.mem_of_getElem? (i := 10) rfl))) rfl
theorem wse_X6_X6_checkWidth : Cond.selects RX6 yX6_checkWidth yX6_checkWidth ∈ zG := zgm (zsel (zp2 (List.mem_of_getElem? (i := 11) rfl))) rfl
theorem wse_X4_X4_sideLength : Cond.selects RX4 yX4_sideLength yX4_sideLength ∈ zG := zgm (zsel (zp2 (List.mem_of_getElem? (i := 12) rfl))) rfl
theorem wse_X4_X4_sizeX : Cond.selects RX4 yX4_sizeX yX4_sizeX ∈ zG := zgm (zsel (zp2 (List.mem_of_getElem? (i := 13) rfl))) rfl
theorem wse_X4_X4_sizeY : Cond.selects RX4 yX4_sizeY yX4_sizeY ∈ zG := zgm (zsel (zp2 (List.mem_of_getElem? (i := 14) rfl))) rfl
theorem wse_X4_X4_sharesSide : Cond.selects RX4 yX4_sharesSide yX4_sharesSide ∈ zG := zgm (zsel (zp2 (List.mem_of_getElem? (i := 15) rfl))) rfl
theorem wse_X6_X6_isUp : Cond.selects RX6 yX6_isUp yX6_isUp ∈ zG := zgm (zsel (zp3 (List.mem_of_getElem? (i := 0) rfl))) rfl
theorem wse_X4_X4_chooseTools : Cond.selects RX4 yX4_chooseTools yX4_chooseTools ∈ zG := zgm (zsel (zp3 (List.mem_of_getElem? (i := 1) rfl))) rfl
theorem wse_X4_X4_widthOfTools : Cond.selects RX4 yX4_widthOfTools yX4_widthOfTools ∈ zG := zgm (zsel (zp3 (List.mem_of_getElem? (i := 2) rfl))) rfl
theorem wse_X4_X4_offerTools : Cond.selects RX4 yX4_offerTools yX4_offerTools ∈ zG := zgm (zsel (zp3 (List.mem_of_getElem? (i := 3) rfl))) rfl
theorem wse_X8_X8_partChanged : Cond.selects RX8 yX8_partChanged yX8_partChanged ∈ zG := zgm (zsel (zp3 (List.mem_of_getElem? (i := 4) rfl))) rfl
theorem wse_X4_X4_isFlange : Cond.selects RX4 yX4_isFlange yX4_isFlange ∈ zG := zgm (zsel (zp3 (List.mem_of_getElem? (i := 5) rfl))) rfl
theorem wse_X4_X4_isBend : Cond.selects RX4 yX4_isBend yX4_isBend ∈ zG := zgm (zsel (zp3 (List.mem_of_getElem? (i := 6) rfl))) rfl
theorem wse_X4_X4_countHangers : Cond.selects RX4 yX4_countHangers yX4_countHangers ∈ zG := zgm (zsel (zp3 (List.mem_of_getElem? (i := 7) rfl))) rfl
theorem wse_X4_X4_hangsOn : Cond.selects RX4 yX4_hangsOn yX4_hangsOn ∈ zG := zgm (zsel (zp3 (List.mem_of_getElem? (i := 8) rfl))) rfl
theorem wse_X4_X4_depth : Cond.selects RX4 yX4_depth yX4_depth ∈ zG := zgm (zsel (zp3 (List.mem_of_getElem? (i := 9) rfl))) rfl
theorem wse_X4_X4_lengthOf : Cond.selects RX4 yX4_lengthOf yX4_lengthOf ∈ zG := zgm (zsel (zp3 (List.mem_of_getElem? (i := 10) rfl))) rfl
theorem wse_X4_X4_zoneOf : Cond.selects RX4 yX4_zoneOf yX4_zoneOf ∈ zG := zgm (zsel (zp3 (List.mem_of_getElem? (i := 11) rfl))) rfl
theorem wse_X4_X4_allowanceOf : Cond.selects RX4 yX4_allowanceOf yX4_allowanceOf ∈ zG := zgm (zsel (zp3 (List.mem_of_getElem? (i := 12) rfl))) rfl
theorem wse_X4_X4_isThere : Cond.selects RX4 yX4_isThere yX4_isThere ∈ zG := zgm (zsel (zp3 (List.mem_of_getElem? (i := 13) rfl))) rfl
theorem wse_X4_X4_isPiece : Cond.selects RX4 yX4_isPiece yX4_isPiece ∈ zG := zgm (zsel (zp3 (List.mem_of_getElem? (i := 14) rfl))) rfl
theorem wse_X5_X5_placeFlat : Cond.selects RX5 yX5_placeFlat yX5_placeFlat ∈ zG := zgm (zsel (zp3 (List.mem_of_getElem? (i := 15) rfl))) rfl
theorem wse_X5_X5_place : Cond.selects RX5 yX5_place yX5_place ∈ zG := zgm (zsel (zp4 (List.mem_of_getElem? (i := 0) rfl))) rfl
theorem wse_X5_X5_placeBase : Cond.selects RX5 yX5_placeBase yX5_placeBase ∈ zG := zgm (zsel (zp4 (List.mem_of_getElem? (i := 1) rfl))) rfl
theorem wse_X5_X5_setBox : Cond.selects RX5 yX5_setBox yX5_setBox ∈ zG := zgm (zsel (zp4 (List.mem_of_getElem? (i := 2) rfl))) rfl
theorem wse_X5_X5_goToSide : Cond.selects RX5 yX5_goToSide yX5_goToSide ∈ zG := zgm (zsel (zp4 (List.mem_of_getElem? (i := 3) rfl))) rfl
theorem wse_X5_X5_alongSide : Cond.selects RX5 yX5_alongSide yX5_alongSide ∈ zG := zgm (zsel (zp4 (List.mem_of_getElem? (i := 4) rfl))) rfl
theorem wse_X5_X5_placeFlange : Cond.selects RX5 yX5_placeFlange yX5_placeFlange ∈ zG := zgm (zsel (zp4 (List.mem_of_getElem? (i := 5) rfl))) rfl
theorem wse_X5_X5_outward : Cond.selects RX5 yX5_outward yX5_outward ∈ zG := zgm (zsel (zp4 (List.mem_of_getElem? (i := 6) rfl))) rfl
theorem wse_X5_X5_lowOf : Cond.selects RX5 yX5_lowOf yX5_lowOf ∈ zG := zgm (zsel (zp4 (List.mem_of_getElem? (i := 7) rfl))) rfl
theorem wse_X5_X5_highOf : Cond.selects RX5 yX5_highOf yX5_highOf ∈ zG := zgm (zsel (zp4 (List.mem_of_getElem? (i := 8) rfl))) rfl
theorem wse_X5_X5_area : Cond.selects RX5 yX5_area yX5_area ∈ zG := zgm (zsel (zp4 (List.mem_of_getElem? (i := 9) rfl))) rfl
theorem wse_X5_X5_leastLow : Cond.selects RX5 yX5_leastLow yX5_leastLow ∈ zG := zgm (zsel (zp4 (List.mem_of_getElem? (i := 10) rfl))) rfl
theorem wse_X5_X5_mostHigh : Cond.selects RX5 yX5_mostHigh yX5_mostHigh ∈ zG := zgm (zsel (zp4 (List.mem_of_getElem? (i := 11) rfl))) rfl
theorem wse_X5_X5_overlaps : Cond.selects RX5 yX5_overlaps yX5_overlaps ∈ zG := zgm (zsel (zp4 (List.mem_of_getElem? (i := 12) rfl))) rfl
theorem wse_X5_X5_share : Cond.selects RX5 yX5_share yX5_share ∈ zG := zgm (zsel (zp4 (List.mem_of_getElem? (i := 13) rfl))) rfl
theorem wse_X8_X8_placeNow : Cond.selects RX8 yX8_placeNow yX8_placeNow ∈ zG := zgm (zsel (zp4 (List.mem_of_getElem? (i := 14) rfl))) rfl
theorem wse_X5_X5_extent : Cond.selects RX5 yX5_extent yX5_extent ∈ zG := zgm (zsel (zp4 (List.mem_of_getElem? (i := 15) rfl))) rfl
theorem wse_X5_X5_gapOf : Cond.selects RX5 yX5_gapOf yX5_gapOf ∈ zG := zgm (zsel (zp5 (List.mem_of_getElem? (i := 0) rfl))) rfl
theorem wse_X5_X5_signedNormal : Cond.selects RX5 yX5_signedNormal yX5_signedNormal ∈ zG := zgm (zsel (zp5 (List.mem_of_getElem? (i := 1) rfl))) rfl
theorem wse_X4_X4_isState : Cond.selects RX4 yX4_isState yX4_isState ∈ zG := zgm (zsel (zp5 (List.mem_of_getElem? (i := 2) rfl))) rfl
theorem wse_X4_X4_allBends : Cond.selects RX4 yX4_allBends yX4_allBends ∈ zG := zgm (zsel (zp5 (List.mem_of_getElem? (i := 3) rfl))) rfl
theorem wse_X5_X5_clashes : Cond.selects RX5 yX5_clashes yX5_clashes ∈ zG := zgm (zsel (zp5 (List.mem_of_getElem? (i := 4) rfl))) rfl
theorem wse_X5_X5_doClash : Cond.selects RX5 yX5_doClash yX5_doClash ∈ zG := zgm (zsel (zp5 (List.mem_of_getElem? (i := 5) rfl))) rfl
theorem wse_X5_X5_isWithin : Cond.selects RX5 yX5_isWithin yX5_isWithin ∈ zG := zgm (zsel (zp5 (List.mem_of_getElem? (i := 6) rfl))) rfl
theorem wse_X5_X5_metByPunch : Cond.selects RX5 yX5_metByPunch yX5_metByPunch ∈ zG := zgm (zsel (zp5 (List.mem_of_getElem? (i := 7) rfl))) rfl
theorem wse_X5_X5_standPunch : Cond.selects RX5 yX5_standPunch yX5_standPunch ∈ zG := zgm (zsel (zp5 (List.mem_of_getElem? (i := 8) rfl))) rfl
theorem wse_X8_X8_reason : Cond.selects RX8 yX8_reason yX8_reason ∈ zG := zgm (zsel (zp5 (List.mem_of_getElem? (i := 9) rfl))) rfl
theorem wse_X8_X8_clashesIn : Cond.selects RX8 yX8_clashesIn yX8_clashesIn ∈ zG := zgm (zsel (zp5 (List.mem_of_getElem? (i := 10) rfl))) rfl
theorem wse_X8_X8_searchOrders : Cond.selects RX8 yX8_searchOrders yX8_searchOrders ∈ zG := zgm (zsel (zp5 (List.mem_of_getElem? (i := 11) rfl))) rfl
theorem wse_X3_X3_measureRooms : Cond.selects RX3 yX3_measureRooms yX3_measureRooms ∈ zG := zgm (zsel (zp5 (List.mem_of_getElem? (i := 12) rfl))) rfl
theorem wse_X5_X5_roomFor : Cond.selects RX5 yX5_roomFor yX5_roomFor ∈ zG := zgm (zsel (zp5 (List.mem_of_getElem? (i := 13) rfl))) rfl
theorem wse_X3_X3_searchFrom : Cond.selects RX3 yX3_searchFrom yX3_searchFrom ∈ zG := zgm (zsel (zp5 (List.mem_of_getElem? (i := 14) rfl))) rfl
theorem wse_X3_X3_isReached : Cond.selects RX3 yX3_isReached yX3_isReached ∈ zG := zgm (zsel (zp5 (List.mem_of_getElem? (i := 15) rfl))) rfl
theorem wse_X3_X3_isClear : Cond.selects RX3 yX3_isClear yX3_isClear ∈ zG := zgm (zsel (zp6 (List.mem_of_getElem? (i := 0) rfl))) rfl
theorem wse_X3_X3_ordersFrom : Cond.selects RX3 yX3_ordersFrom yX3_ordersFrom ∈ zG := zgm (zsel (zp6 (List.mem_of_getElem? (i := 1) rfl))) rfl
theorem wse_X3_X3_walkFirst : Cond.selects RX3 yX3_walkFirst yX3_walkFirst ∈ zG := zgm (zsel (zp6 (List.mem_of_getElem? (i := 2) rfl))) rfl
theorem wse_X3_X3_firstThatGoesOn : Cond.selects RX3 yX3_firstThatGoesOn yX3_firstThatGoesOn ∈ zG := zgm (zsel (zp6 (List.mem_of_getElem? (i := 3) rfl))) rfl
theorem wse_X3_X3_goesOn : Cond.selects RX3 yX3_goesOn yX3_goesOn ∈ zG := zgm (zsel (zp6 (List.mem_of_getElem? (i := 4) rfl))) rfl
theorem wse_X3_X3_append : Cond.selects RX3 yX3_append yX3_append ∈ zG := zgm (zsel (zp6 (List.mem_of_getElem? (i := 5) rfl))) rfl
theorem wse_X3_X3_rowAt : Cond.selects RX3 yX3_rowAt yX3_rowAt ∈ zG := zgm (zsel (zp6 (List.mem_of_getElem? (i := 6) rfl))) rfl
theorem wse_X8_X8_isUnmade : Cond.selects RX8 yX8_isUnmade yX8_isUnmade ∈ zG := zgm (zsel (zp6 (List.mem_of_getElem? (i := 7) rfl))) rfl
theorem wse_X3_X3_canEndWith : Cond.selects RX3 yX3_canEndWith yX3_canEndWith ∈ zG := zgm (zsel (zp6 (List.mem_of_getElem? (i := 8) rfl))) rfl
theorem wse_X3_X3_passesWithout : Cond.selects RX3 yX3_passesWithout yX3_passesWithout ∈ zG := zgm (zsel (zp6 (List.mem_of_getElem? (i := 9) rfl))) rfl
theorem wse_X3_X3_countReached : Cond.selects RX3 yX3_countReached yX3_countReached ∈ zG := zgm (zsel (zp6 (List.mem_of_getElem? (i := 10) rfl))) rfl
theorem wse_X3_X3_countDeadEnds : Cond.selects RX3 yX3_countDeadEnds yX3_countDeadEnds ∈ zG := zgm (zsel (zp6 (List.mem_of_getElem? (i := 11) rfl))) rfl
theorem wse_X3_X3_isDeadEnd : Cond.selects RX3 yX3_isDeadEnd yX3_isDeadEnd ∈ zG := zgm (zsel (zp6 (List.mem_of_getElem? (i := 12) rfl))) rfl
theorem wse_X3_X3_clearBends : Cond.selects RX3 yX3_clearBends yX3_clearBends ∈ zG := zgm (zsel (zp6 (List.mem_of_getElem? (i := 13) rfl))) rfl
theorem wse_X3_X3_fullestDeadEnd : Cond.selects RX3 yX3_fullestDeadEnd yX3_fullestDeadEnd ∈ zG := zgm (zsel (zp6 (List.mem_of_getElem? (i := 14) rfl))) rfl
theorem wse_X3_X3_blocked : Cond.selects RX3 yX3_blocked yX3_blocked ∈ zG := zgm (zsel (zp6 (List.mem_of_getElem? (i := 15) rfl))) rfl
theorem wse_X3_X3_countSwitches : Cond.selects RX3 yX3_countSwitches yX3_countSwitches ∈ zG := zgm (zsel (zp7 (List.mem_of_getElem? (i := 0) rfl))) rfl
theorem wse_X3_X3_leastFrom : Cond.selects RX3 yX3_leastFrom yX3_leastFrom ∈ zG := zgm (zsel (zp7 (List.mem_of_getElem? (i := 1) rfl))) rfl
theorem wse_X3_X3_switchesWith : Cond.selects RX3 yX3_switchesWith yX3_switchesWith ∈ zG := zgm (zsel (zp7 (List.mem_of_getElem? (i := 2) rfl))) rfl
theorem wse_X3_X3_walkThrifty : Cond.selects RX3 yX3_walkThrifty yX3_walkThrifty ∈ zG := zgm (zsel (zp7 (List.mem_of_getElem? (i := 3) rfl))) rfl
theorem wse_X3_X3_firstThrifty : Cond.selects RX3 yX3_firstThrifty yX3_firstThrifty ∈ zG := zgm (zsel (zp7 (List.mem_of_getElem? (i := 4) rfl))) rfl
theorem wse_X3_X3_tallestPunch : Cond.selects RX3 yX3_tallestPunch yX3_tallestPunch ∈ zG := zgm (zsel (zp7 (List.mem_of_getElem? (i := 5) rfl))) rfl
theorem wse_X2_X2_leastTurns : Cond.selects RX2 yX2_leastTurns yX2_leastTurns ∈ zG := zgm (zsel (zp7 (List.mem_of_getElem? (i := 6) rfl))) rfl
theorem wse_X4_X4_needsTools : Cond.selects RX4 yX4_needsTools yX4_needsTools ∈ zG := zgm (zsel (zp7 (List.mem_of_getElem? (i := 7) rfl))) rfl
theorem wse_X2_X2_decode : Cond.selects RX2 yX2_decode yX2_decode ∈ zG := zgm (zsel (zp7 (List.mem_of_getElem? (i := 8) rfl))) rfl
theorem wse_X2_X2_spread : Cond.selects RX2 yX2_spread yX2_spread ∈ zG := zgm (zsel (zp7 (List.mem_of_getElem? (i := 9) rfl))) rfl
theorem wse_X2_X2_mark : Cond.selects RX2 yX2_mark yX2_mark ∈ zG := zgm (zsel (zp7 (List.mem_of_getElem? (i := 10) rfl))) rfl
theorem wse_X4_X4_leastWidthWithoutTools : Cond.selects RX4 yX4_leastWidthWithoutTools yX4_leastWidthWithoutTools ∈ zG := zgm (zsel (zp7 (List.mem_of_getElem? (i := 11) rfl))) rfl
theorem wse_X4_X4_countWithoutTools : Cond.selects RX4 yX4_countWithoutTools yX4_countWithoutTools ∈ zG := zgm (zsel (zp7 (List.mem_of_getElem? (i := 12) rfl))) rfl
theorem wse_X5_X5_size : Cond.selects RX5 yX5_size yX5_size ∈ zG := zgm (zsel (zp7 (List.mem_of_getElem? (i := 13) rfl))) rfl
theorem wse_X4_X4_bendsBetween : Cond.selects RX4 yX4_bendsBetween yX4_bendsBetween ∈ zG := zgm (zsel (zp7 (List.mem_of_getElem? (i := 14) rfl))) rfl
theorem wse_X1_X1_take : Cond.selects RX1 yX1_take yX1_take ∈ zG := zgm (zsel (zp7 (List.mem_of_getElem? (i := 15) rfl))) rfl
theorem wse_X1_X1_fitAt : Cond.selects RX1 yX1_fitAt yX1_fitAt ∈ zG := zgm (zsel (zp8 (List.mem_of_getElem? (i := 0) rfl))) rfl
theorem wse_X1_X1_explains : Cond.selects RX1 yX1_explains yX1_explains ∈ zG := zgm (zsel (zp8 (List.mem_of_getElem? (i := 1) rfl))) rfl
theorem wse_X4_X4_timesInLength : Cond.selects RX4 yX4_timesInLength yX4_timesInLength ∈ zG := zgm (zsel (zp8 (List.mem_of_getElem? (i := 2) rfl))) rfl
theorem wse_X1_X1_tellingFlange : Cond.selects RX1 yX1_tellingFlange yX1_tellingFlange ∈ zG := zgm (zsel (zp8 (List.mem_of_getElem? (i := 3) rfl))) rfl
theorem wse_X1_X1_mostLeft : Cond.selects RX1 yX1_mostLeft yX1_mostLeft ∈ zG := zgm (zsel (zp8 (List.mem_of_getElem? (i := 4) rfl))) rfl
theorem wse_X8_X8_remember : Cond.selects RX8 yX8_remember yX8_remember ∈ zG := zgm (zsel (zp8 (List.mem_of_getElem? (i := 5) rfl))) rfl
theorem wse_X0_X0_keep : Cond.selects RX0 yX0_keep yX0_keep ∈ zG := zgm (zsel (zp8 (List.mem_of_getElem? (i := 6) rfl))) rfl
theorem wse_X8_X8_setMade : Cond.selects RX8 yX8_setMade yX8_setMade ∈ zG := zgm (zsel (zp8 (List.mem_of_getElem? (i := 7) rfl))) rfl
theorem wse_X3_X3_firstOfRow : Cond.selects RX3 yX3_firstOfRow yX3_firstOfRow ∈ zG := zgm (zsel (zp8 (List.mem_of_getElem? (i := 8) rfl))) rfl
theorem wse_X8_X8_draw : Cond.selects RX8 yX8_draw yX8_draw ∈ zG := zgm (zsel (zp8 (List.mem_of_getElem? (i := 9) rfl))) rfl
theorem wse_X8_X8_tryOne : Cond.selects RX8 yX8_tryOne yX8_tryOne ∈ zG := zgm (zsel (zp8 (List.mem_of_getElem? (i := 10) rfl))) rfl
theorem wse_X0_X0_takeBack : Cond.selects RX0 yX0_takeBack yX0_takeBack ∈ zG := zgm (zsel (zp8 (List.mem_of_getElem? (i := 11) rfl))) rfl
theorem wse_X9_X9_refuses : Cond.selects RX9 yX9_refuses yX9_refuses ∈ zG := zgm (zsel (zp8 (List.mem_of_getElem? (i := 12) rfl))) rfl
theorem wse_X9_X9_lays : Cond.selects RX9 yX9_lays yX9_lays ∈ zG := zgm (zsel (zp8 (List.mem_of_getElem? (i := 13) rfl))) rfl
theorem wse_X9_X9_isRefused : Cond.selects RX9 yX9_isRefused yX9_isRefused ∈ zG := zgm (zsel (zp8 (List.mem_of_getElem? (i := 14) rfl))) rfl
theorem wse_X9_X9_taken : Cond.selects RX9 yX9_taken yX9_taken ∈ zG := zgm (zsel (zp8 (List.mem_of_getElem? (i := 15) rfl))) rfl
theorem wse_X9_X9_readsAll : Cond.selects RX9 yX9_readsAll yX9_readsAll ∈ zG := zgm (zsel (zp9 (List.mem_of_getElem? (i := 0) rfl))) rfl
theorem wse_X9_X9_must : Cond.selects RX9 yX9_must yX9_must ∈ zG := zgm (zsel (zp9 (List.mem_of_getElem? (i := 1) rfl))) rfl
theorem wse_X9_X9_word : Cond.selects RX9 yX9_word yX9_word ∈ zG := zgm (zsel (zp9 (List.mem_of_getElem? (i := 2) rfl))) rfl
theorem wse_X9_X9_goesWell : Cond.selects RX9 yX9_goesWell yX9_goesWell ∈ zG := zgm (zsel (zp9 (List.mem_of_getElem? (i := 3) rfl))) rfl
theorem wse_X9_X9_here : Cond.selects RX9 yX9_here yX9_here ∈ zG := zgm (zsel (zp9 (List.mem_of_getElem? (i := 4) rfl))) rfl
theorem wse_X9_X9_byteAt : Cond.selects RX9 yX9_byteAt yX9_byteAt ∈ zG := zgm (zsel (zp9 (List.mem_of_getElem? (i := 5) rfl))) rfl
theorem wse_X9_X9_isSmall : Cond.selects RX9 yX9_isSmall yX9_isSmall ∈ zG := zgm (zsel (zp9 (List.mem_of_getElem? (i := 6) rfl))) rfl
theorem wse_X9_X9_isDigit : Cond.selects RX9 yX9_isDigit yX9_isDigit ∈ zG := zgm (zsel (zp9 (List.mem_of_getElem? (i := 7) rfl))) rfl
theorem wse_X9_X9_faults : Cond.selects RX9 yX9_faults yX9_faults ∈ zG := zgm (zsel (zp9 (List.mem_of_getElem? (i := 8) rfl))) rfl
theorem wse_X9_X9_own : Cond.selects RX9 yX9_own yX9_own ∈ zG := zgm (zsel (zp9 (List.mem_of_getElem? (i := 9) rfl))) rfl
theorem wse_X9_X9_after : Cond.selects RX9 yX9_after yX9_after ∈ zG := zgm (zsel (zp9 (List.mem_of_getElem? (i := 10) rfl))) rfl
theorem wse_X9_X9_number : Cond.selects RX9 yX9_number yX9_number ∈ zG := zgm (zsel (zp9 (List.mem_of_getElem? (i := 11) rfl))) rfl
theorem wse_X9_X9_endsWell : Cond.selects RX9 yX9_endsWell yX9_endsWell ∈ zG := zgm (zsel (zp9 (List.mem_of_getElem? (i := 12) rfl))) rfl
theorem wse_X9_X9_readsLine : Cond.selects RX9 yX9_readsLine yX9_readsLine ∈ zG := zgm (zsel (zp9 (List.mem_of_getElem? (i := 13) rfl))) rfl
theorem wse_X9_X9_readsFlange : Cond.selects RX9 yX9_readsFlange yX9_readsFlange ∈ zG := zgm (zsel (zp9 (List.mem_of_getElem? (i := 14) rfl))) rfl
theorem wse_X9_X9_name : Cond.selects RX9 yX9_name yX9_name ∈ zG := zgm (zsel (zp9 (List.mem_of_getElem? (i := 15) rfl))) rfl
theorem wse_X9_X9_named : Cond.selects RX9 yX9_named yX9_named ∈ zG := zgm (zsel (zp10 (List.mem_of_getElem? (i := 0) rfl))) rfl
theorem wse_X9_X9_signAt : Cond.selects RX9 yX9_signAt yX9_signAt ∈ zG := zgm (zsel (zp10 (List.mem_of_getElem? (i := 1) rfl))) rfl
theorem wse_X9_X9_readsWidth : Cond.selects RX9 yX9_readsWidth yX9_readsWidth ∈ zG := zgm (zsel (zp10 (List.mem_of_getElem? (i := 2) rfl))) rfl
theorem wse_X9_X9_isFlange : Cond.selects RX9 yX9_isFlange yX9_isFlange ∈ zG := zgm (zsel (zp10 (List.mem_of_getElem? (i := 3) rfl))) rfl
theorem wse_X9_X9_flangeMany : Cond.selects RX9 yX9_flangeMany yX9_flangeMany ∈ zG := zgm (zsel (zp10 (List.mem_of_getElem? (i := 4) rfl))) rfl
theorem wse_X9_X9_isBend : Cond.selects RX9 yX9_isBend yX9_isBend ∈ zG := zgm (zsel (zp10 (List.mem_of_getElem? (i := 5) rfl))) rfl
theorem wse_X9_X9_bendMany : Cond.selects RX9 yX9_bendMany yX9_bendMany ∈ zG := zgm (zsel (zp10 (List.mem_of_getElem? (i := 6) rfl))) rfl
theorem wse_X9_X9_hangMany : Cond.selects RX9 yX9_hangMany yX9_hangMany ∈ zG := zgm (zsel (zp10 (List.mem_of_getElem? (i := 7) rfl))) rfl
theorem wse_X9_X9_depthOf : Cond.selects RX9 yX9_depthOf yX9_depthOf ∈ zG := zgm (zsel (zp10 (List.mem_of_getElem? (i := 8) rfl))) rfl
theorem wse_X9_X9_lengthOf : Cond.selects RX9 yX9_lengthOf yX9_lengthOf ∈ zG := zgm (zsel (zp10 (List.mem_of_getElem? (i := 9) rfl))) rfl
theorem wse_X9_X9_allowanceOf : Cond.selects RX9 yX9_allowanceOf yX9_allowanceOf ∈ zG := zgm (zsel (zp10 (List.mem_of_getElem? (i := 10) rfl))) rfl
theorem wse_X9_X9_isPiece : Cond.selects RX9 yX9_isPiece yX9_isPiece ∈ zG := zgm (zsel (zp10 (List.mem_of_getElem? (i := 11) rfl))) rfl
theorem wse_X9_X9_laysFlat : Cond.selects RX9 yX9_laysFlat yX9_laysFlat ∈ zG := zgm (zsel (zp10 (List.mem_of_getElem? (i := 12) rfl))) rfl
theorem wse_X9_X9_laysBehind : Cond.selects RX9 yX9_laysBehind yX9_laysBehind ∈ zG := zgm (zsel (zp10 (List.mem_of_getElem? (i := 13) rfl))) rfl
theorem wse_X9_X9_doOverlap : Cond.selects RX9 yX9_doOverlap yX9_doOverlap ∈ zG := zgm (zsel (zp10 (List.mem_of_getElem? (i := 14) rfl))) rfl
theorem wse_X9_X9_laysSpace : Cond.selects RX9 yX9_laysSpace yX9_laysSpace ∈ zG := zgm (zsel (zp10 (List.mem_of_getElem? (i := 15) rfl))) rfl
theorem wse_X9_X9_laysEnds : Cond.selects RX9 yX9_laysEnds yX9_laysEnds ∈ zG := zgm (zsel (zp11 (List.mem_of_getElem? (i := 0) rfl))) rfl
theorem wse_X9_X9_standsUp : Cond.selects RX9 yX9_standsUp yX9_standsUp ∈ zG := zgm (zsel (zp11 (List.mem_of_getElem? (i := 1) rfl))) rfl
theorem wse_X9_X9_goesToSide : Cond.selects RX9 yX9_goesToSide yX9_goesToSide ∈ zG := zgm (zsel (zp11 (List.mem_of_getElem? (i := 2) rfl))) rfl
theorem wse_X9_X9_copiesCorner : Cond.selects RX9 yX9_copiesCorner yX9_copiesCorner ∈ zG := zgm (zsel (zp11 (List.mem_of_getElem? (i := 3) rfl))) rfl
theorem wse_X9_X9_moves : Cond.selects RX9 yX9_moves yX9_moves ∈ zG := zgm (zsel (zp11 (List.mem_of_getElem? (i := 4) rfl))) rfl
theorem wse_X9_X9_alongY : Cond.selects RX9 yX9_alongY yX9_alongY ∈ zG := zgm (zsel (zp11 (List.mem_of_getElem? (i := 5) rfl))) rfl
theorem wse_X9_X9_alongX : Cond.selects RX9 yX9_alongX yX9_alongX ∈ zG := zgm (zsel (zp11 (List.mem_of_getElem? (i := 6) rfl))) rfl
theorem wse_X9_X9_goesOnFlat : Cond.selects RX9 yX9_goesOnFlat yX9_goesOnFlat ∈ zG := zgm (zsel (zp11 (List.mem_of_getElem? (i := 7) rfl))) rfl
theorem wse_X9_X9_longAlong : Cond.selects RX9 yX9_longAlong yX9_longAlong ∈ zG := zgm (zsel (zp11 (List.mem_of_getElem? (i := 8) rfl))) rfl
theorem wse_X9_X9_laysClear : Cond.selects RX9 yX9_laysClear yX9_laysClear ∈ zG := zgm (zsel (zp11 (List.mem_of_getElem? (i := 9) rfl))) rfl
theorem wse_X9_X9_forgetsLain : Cond.selects RX9 yX9_forgetsLain yX9_forgetsLain ∈ zG := zgm (zsel (zp11 (List.mem_of_getElem? (i := 10) rfl))) rfl
theorem wse_X9_X9_toolsOf : Cond.selects RX9 yX9_toolsOf yX9_toolsOf ∈ zG := zgm (zsel (zp11 (List.mem_of_getElem? (i := 11) rfl))) rfl
theorem wse_X9_X9_widthOf : Cond.selects RX9 yX9_widthOf yX9_widthOf ∈ zG := zgm (zsel (zp11 (List.mem_of_getElem? (i := 12) rfl))) rfl
theorem wse_X9_X9_laysClearAgain : Cond.selects RX9 yX9_laysClearAgain yX9_laysClearAgain ∈ zG := zgm (zsel (zp11 (List.mem_of_getElem? (i := 13) rfl))) rfl
theorem wse_X9_X9_allBends : Cond.selects RX9 yX9_allBends yX9_allBends ∈ zG := zgm (zsel (zp11 (List.mem_of_getElem? (i := 14) rfl))) rfl
theorem wse_X9_X9_lainOf : Cond.selects RX9 yX9_lainOf yX9_lainOf ∈ zG := zgm (zsel (zp11 (List.mem_of_getElem? (i := 15) rfl))) rfl
theorem wse_X9_X9_looksAt : Cond.selects RX9 yX9_looksAt yX9_looksAt ∈ zG := zgm (zsel (zp12 (List.mem_of_getElem? (i := 0) rfl))) rfl
theorem wse_X9_X9_metBy : Cond.selects RX9 yX9_metBy yX9_metBy ∈ zG := zgm (zsel (zp12 (List.mem_of_getElem? (i := 1) rfl))) rfl
theorem wse_X9_X9_laysPunch : Cond.selects RX9 yX9_laysPunch yX9_laysPunch ∈ zG := zgm (zsel (zp12 (List.mem_of_getElem? (i := 2) rfl))) rfl
theorem wse_X9_X9_doClash : Cond.selects RX9 yX9_doClash yX9_doClash ∈ zG := zgm (zsel (zp12 (List.mem_of_getElem? (i := 3) rfl))) rfl
theorem wse_X9_X9_axisOf : Cond.selects RX9 yX9_axisOf yX9_axisOf ∈ zG := zgm (zsel (zp12 (List.mem_of_getElem? (i := 4) rfl))) rfl
theorem wse_X9_X9_isBetween : Cond.selects RX9 yX9_isBetween yX9_isBetween ∈ zG := zgm (zsel (zp12 (List.mem_of_getElem? (i := 5) rfl))) rfl
theorem wse_X9_X9_sharedAlong : Cond.selects RX9 yX9_sharedAlong yX9_sharedAlong ∈ zG := zgm (zsel (zp12 (List.mem_of_getElem? (i := 6) rfl))) rfl
theorem wse_X9_X9_anyClash : Cond.selects RX9 yX9_anyClash yX9_anyClash ∈ zG := zgm (zsel (zp12 (List.mem_of_getElem? (i := 7) rfl))) rfl
theorem wse_X9_X9_laysReached : Cond.selects RX9 yX9_laysReached yX9_laysReached ∈ zG := zgm (zsel (zp12 (List.mem_of_getElem? (i := 8) rfl))) rfl
theorem wse_X9_X9_isState : Cond.selects RX9 yX9_isState yX9_isState ∈ zG := zgm (zsel (zp12 (List.mem_of_getElem? (i := 9) rfl))) rfl
theorem wse_X9_X9_whyNot : Cond.selects RX9 yX9_whyNot yX9_whyNot ∈ zG := zgm (zsel (zp12 (List.mem_of_getElem? (i := 10) rfl))) rfl
theorem wse_X9_X9_orderMany : Cond.selects RX9 yX9_orderMany yX9_orderMany ∈ zG := zgm (zsel (zp12 (List.mem_of_getElem? (i := 11) rfl))) rfl
theorem wse_X9_X9_laysWays : Cond.selects RX9 yX9_laysWays yX9_laysWays ∈ zG := zgm (zsel (zp12 (List.mem_of_getElem? (i := 12) rfl))) rfl
theorem wse_X9_X9_isMade : Cond.selects RX9 yX9_isMade yX9_isMade ∈ zG := zgm (zsel (zp12 (List.mem_of_getElem? (i := 13) rfl))) rfl
theorem wse_X9_X9_deadEnds : Cond.selects RX9 yX9_deadEnds yX9_deadEnds ∈ zG := zgm (zsel (zp12 (List.mem_of_getElem? (i := 14) rfl))) rfl
theorem wse_X9_X9_laysFewest : Cond.selects RX9 yX9_laysFewest yX9_laysFewest ∈ zG := zgm (zsel (zp12 (List.mem_of_getElem? (i := 15) rfl))) rfl
theorem wse_X9_X9_costAt : Cond.selects RX9 yX9_costAt yX9_costAt ∈ zG := zgm (zsel (zp13 (List.mem_of_getElem? (i := 0) rfl))) rfl
theorem wse_X9_X9_isOrderBy : Cond.selects RX9 yX9_isOrderBy yX9_isOrderBy ∈ zG := zgm (zsel (zp13 (List.mem_of_getElem? (i := 1) rfl))) rfl
theorem wse_X9_X9_turnsAll : Cond.selects RX9 yX9_turnsAll yX9_turnsAll ∈ zG := zgm (zsel (zp13 (List.mem_of_getElem? (i := 2) rfl))) rfl
theorem wse_X9_X9_isFit : Cond.selects RX9 yX9_isFit yX9_isFit ∈ zG := zgm (zsel (zp13 (List.mem_of_getElem? (i := 3) rfl))) rfl
theorem wse_X9_X9_lengthBy : Cond.selects RX9 yX9_lengthBy yX9_lengthBy ∈ zG := zgm (zsel (zp13 (List.mem_of_getElem? (i := 4) rfl))) rfl
theorem wse_X9_X9_leftBy : Cond.selects RX9 yX9_leftBy yX9_leftBy ∈ zG := zgm (zsel (zp13 (List.mem_of_getElem? (i := 5) rfl))) rfl
theorem wse_X9_X9_remembers : Cond.selects RX9 yX9_remembers yX9_remembers ∈ zG := zgm (zsel (zp13 (List.mem_of_getElem? (i := 6) rfl))) rfl
theorem wse_X9_X9_canOpen : Cond.selects RX9 yX9_canOpen yX9_canOpen ∈ zG := zgm (zsel (zp13 (List.mem_of_getElem? (i := 7) rfl))) rfl
theorem wse_X9_X9_draw : Cond.selects RX9 yX9_draw yX9_draw ∈ zG := zgm (zsel (zp13 (List.mem_of_getElem? (i := 8) rfl))) rfl
theorem wini_L : Cond.initialized RL ∈ zG := zgm (zt1 (List.mem_of_getElem? (i := 0) rfl)) rfl
theorem wini_X8 : Cond.initialized RX8 ∈ zG := zgm (zt1 (List.mem_of_getElem? (i := 1) rfl)) rfl
theorem wini_X7 : Cond.initialized RX7 ∈ zG := zgm (zt1 (List.mem_of_getElem? (i := 2) rfl)) rfl
theorem wini_X6 : Cond.initialized RX6 ∈ zG := zgm (zt1 (List.mem_of_getElem? (i := 3) rfl)) rfl
theorem wini_X5 : Cond.initialized RX5 ∈ zG := zgm (zt1 (List.mem_of_getElem? (i := 4) rfl)) rfl
theorem wini_X3 : Cond.initialized RX3 ∈ zG := zgm (zt1 (List.mem_of_getElem? (i := 5) rfl)) rfl
theorem wini_X2 : Cond.initialized RX2 ∈ zG := zgm (zt1 (List.mem_of_getElem? (i := 6) rfl)) rfl
theorem wini_X0 : Cond.initialized RX0 ∈ zG := zgm (zt1 (List.mem_of_getElem? (i := 7) rfl)) rfl
theorem wini_X1 : Cond.initialized RX1 ∈ zG := zgm (zt1 (List.mem_of_getElem? (i := 8) rfl)) rfl
theorem wini_X4 : Cond.initialized RX4 ∈ zG := zgm (zt1 (List.mem_of_getElem? (i := 9) rfl)) rfl
theorem wini_X9 : Cond.initialized RX9 ∈ zG := zgm (zt1 (List.mem_of_getElem? (i := 10) rfl)) rfl
theorem wini_J7 : Cond.initialized RJ7 ∈ zG := zgm (zt1 (List.mem_of_getElem? (i := 11) rfl)) rfl
theorem wini_J0 : Cond.initialized RJ0 ∈ zG := zgm (zt1 (List.mem_of_getElem? (i := 12) rfl)) rfl
theorem wini_J1 : Cond.initialized RJ1 ∈ zG := zgm (zt1 (List.mem_of_getElem? (i := 13) rfl)) rfl
theorem wini_J3 : Cond.initialized RJ3 ∈ zG := zgm (zt1 (List.mem_of_getElem? (i := 14) rfl)) rfl
theorem wini_J2 : Cond.initialized RJ2 ∈ zG := zgm (zt1 (List.mem_of_getElem? (i := 15) rfl)) rfl
theorem wini_J6 : Cond.initialized RJ6 ∈ zG := zgm (zt1 (List.mem_of_getElem? (i := 16) rfl)) rfl
theorem wini_J10 : Cond.initialized RJ10 ∈ zG := zgm (zt1 (List.mem_of_getElem? (i := 17) rfl)) rfl
theorem wini_J9 : Cond.initialized RJ9 ∈ zG := zgm (zt1 (List.mem_of_getElem? (i := 18) rfl)) rfl
theorem wcl_L_7 : Cond.classLink RL 7 RX8 ∈ zG := zgm (zt1 (List.mem_of_getElem? (i := 19) rfl)) rfl
theorem wob_X8 : Cond.instantiable RX8 14 ∈ zG := zgm (zt1 (List.mem_of_getElem? (i := 20) rfl)) rfl
theorem wm_L_9 : Cond.methodLink RL 9 yX8_init ∈ zG := zgm (zt1 (List.mem_of_getElem? (i := 21) rfl)) rfl
theorem wi_X8_init : Cond.instanceMethod yX8_init ∈ zG := zgm (zt1 (List.mem_of_getElem? (i := 22) rfl)) rfl
theorem wc_X8_init : Cond.code yX8_init cX8_init 1 none ∈ zG := zgm (zt1 (List.mem_of_getElem? (i := 23) rfl)) rfl
theorem wm_X8_1 : Cond.methodLink RX8 1 objectInit ∈ zG := zgm (zt1 (List.mem_of_getElem? (i := 24) rfl)) rfl
theorem wi_java_lang_Object__init___V : Cond.instanceMethod objectInit ∈ zG := zgm (zt1 (List.mem_of_getElem? (i := 25) rfl)) rfl
theorem wc_java_lang_Object__init___V : Cond.code objectInit ⟨#[0xb1]⟩ 1 none ∈ zG := zgm (zt1 (List.mem_of_getElem? (i := 26) rfl)) rfl
theorem wcl_X8_7 : Cond.classLink RX8 7 RX7 ∈ zG := zgm (zt1 (List.mem_of_getElem? (i := 27) rfl)) rfl
theorem wob_X7 : Cond.instantiable RX7 2 ∈ zG := zgm (zt1 (List.mem_of_getElem? (i := 28) rfl)) rfl
theorem wmn_X8_9 : Cond.methodLinkNest RX8 9 yX7_init "SheetFolds" ∈ lw_tbl := (zt1 (List.mem_of_getElem? (i := 29) rfl))
theorem wi_X7_init : Cond.instanceMethod yX7_init ∈ zG := zgm (zt1 (List.mem_of_getElem? (i := 30) rfl)) rfl
theorem wc_X7_init : Cond.code yX7_init cX7_init 1 none ∈ zG := zgm (zt1 (List.mem_of_getElem? (i := 31) rfl)) rfl
theorem wm_X7_3 : Cond.methodLink RX7 3 objectInit ∈ zG := zgm (zt1 (List.mem_of_getElem? (i := 32) rfl)) rfl
theorem wf_X7_9 : Cond.fieldLink RX7 9 "SheetFolds$Tape" "bytes" "[B" ∈ zG := zgm (zt1 (List.mem_of_getElem? (i := 33) rfl)) rfl
theorem wf_X7_15 : Cond.fieldLink RX7 15 "SheetFolds$Tape" "length" "I" ∈ zG := zgm (zt1 (List.mem_of_getElem? (i := 34) rfl)) rfl
theorem wfn_X1_18 : Cond.fieldLinkNest RX1 18 "SheetFolds$Tape" "length" "I" "SheetFolds" ∈ lw_tbl := (zt1 (List.mem_of_getElem? (i := 35) rfl))
theorem wfn_X8_90 : Cond.fieldLinkNest RX8 90 "SheetFolds$Tape" "length" "I" "SheetFolds" ∈ lw_tbl := (zt1 (List.mem_of_getElem? (i := 36) rfl))
theorem wfn_X6_92 : Cond.fieldLinkNest RX6 92 "SheetFolds$Tape" "length" "I" "SheetFolds" ∈ lw_tbl := (zt1 (List.mem_of_getElem? (i := 37) rfl))
theorem war_byte : Cond.arrayClass .byte ∈ zG := zgm (zt1 (List.mem_of_getElem? (i := 43) rfl)) rfl
theorem wcl_X8_16 : Cond.classLink RX8 16 RX6 ∈ zG := zgm (zt1 (List.mem_of_getElem? (i := 44) rfl)) rfl
theorem wob_X6 : Cond.instantiable RX6 7 ∈ zG := zgm (zt1 (List.mem_of_getElem? (i := 45) rfl)) rfl
theorem wmn_X8_18 : Cond.methodLinkNest RX8 18 yX6_init "SheetFolds" ∈ lw_tbl := (zt1 (List.mem_of_getElem? (i := 46) rfl))
theorem wi_X6_init : Cond.instanceMethod yX6_init ∈ zG := zgm (zt1 (List.mem_of_getElem? (i := 47) rfl)) rfl
theorem wc_X6_init : Cond.code yX6_init cX6_init 2 none ∈ zG := zgm (zt1 (List.mem_of_getElem? (i := 48) rfl)) rfl
theorem wm_X6_3 : Cond.methodLink RX6 3 objectInit ∈ zG := zgm (zt1 (List.mem_of_getElem? (i := 49) rfl)) rfl
theorem wf_X6_15 : Cond.fieldLink RX6 15 "SheetFolds$Reader" "tape" "LSheetFolds$Tape;" ∈ zG := zgm (zt1 (List.mem_of_getElem? (i := 50) rfl)) rfl
theorem wf_X6_42 : Cond.fieldLink RX6 42 "SheetFolds$Reader" "into" "LSheetFolds$Part;" ∈ zG := zgm (zt1 (List.mem_of_getElem? (i := 51) rfl)) rfl
theorem wf_X6_83 : Cond.fieldLink RX6 83 "SheetFolds$Reader" "at" "I" ∈ zG := zgm (zt1 (List.mem_of_getElem? (i := 52) rfl)) rfl
theorem wf_X6_70 : Cond.fieldLink RX6 70 "SheetFolds$Reader" "tokenStart" "I" ∈ zG := zgm (zt1 (List.mem_of_getElem? (i := 53) rfl)) rfl
theorem wf_X6_86 : Cond.fieldLink RX6 86 "SheetFolds$Reader" "tokenEnd" "I" ∈ zG := zgm (zt1 (List.mem_of_getElem? (i := 54) rfl)) rfl
theorem wf_X6_26 : Cond.fieldLink RX6 26 "SheetFolds$Reader" "fault" "I" ∈ zG := zgm (zt1 (List.mem_of_getElem? (i := 55) rfl)) rfl
theorem wfn_X8_101 : Cond.fieldLinkNest RX8 101 "SheetFolds$Reader" "fault" "I" "SheetFolds" ∈ lw_tbl := (zt1 (List.mem_of_getElem? (i := 56) rfl))
theorem wf_X6_9 : Cond.fieldLink RX6 9 "SheetFolds$Reader" "place" "I" ∈ zG := zgm (zt1 (List.mem_of_getElem? (i := 57) rfl)) rfl
theorem wfn_X8_122 : Cond.fieldLinkNest RX8 122 "SheetFolds$Reader" "place" "I" "SheetFolds" ∈ lw_tbl := (zt1 (List.mem_of_getElem? (i := 58) rfl))
theorem wcl_X8_25 : Cond.classLink RX8 25 RX5 ∈ zG := zgm (zt1 (List.mem_of_getElem? (i := 74) rfl)) rfl
theorem wob_X5 : Cond.instantiable RX5 8 ∈ zG := zgm (zt1 (List.mem_of_getElem? (i := 75) rfl)) rfl
theorem wmn_X8_27 : Cond.methodLinkNest RX8 27 yX5_init "SheetFolds" ∈ lw_tbl := (zt1 (List.mem_of_getElem? (i := 76) rfl))
theorem wi_X5_init : Cond.instanceMethod yX5_init ∈ zG := zgm (zt1 (List.mem_of_getElem? (i := 77) rfl)) rfl
theorem wc_X5_init : Cond.code yX5_init cX5_init 1 none ∈ zG := zgm (zt1 (List.mem_of_getElem? (i := 78) rfl)) rfl
theorem wm_X5_5 : Cond.methodLink RX5 5 objectInit ∈ zG := zgm (zt1 (List.mem_of_getElem? (i := 79) rfl)) rfl
theorem wf_X5_11 : Cond.fieldLink RX5 11 "SheetFolds$Pose" "low" "[I" ∈ zG := zgm (zt1 (List.mem_of_getElem? (i := 80) rfl)) rfl
theorem wf_X5_15 : Cond.fieldLink RX5 15 "SheetFolds$Pose" "high" "[I" ∈ zG := zgm (zt1 (List.mem_of_getElem? (i := 81) rfl)) rfl
theorem wf_X5_18 : Cond.fieldLink RX5 18 "SheetFolds$Pose" "normal" "[I" ∈ zG := zgm (zt1 (List.mem_of_getElem? (i := 82) rfl)) rfl
theorem wf_X5_21 : Cond.fieldLink RX5 21 "SheetFolds$Pose" "corner" "[I" ∈ zG := zgm (zt1 (List.mem_of_getElem? (i := 83) rfl)) rfl
theorem wf_X5_24 : Cond.fieldLink RX5 24 "SheetFolds$Pose" "east" "[I" ∈ zG := zgm (zt1 (List.mem_of_getElem? (i := 84) rfl)) rfl
theorem wf_X5_27 : Cond.fieldLink RX5 27 "SheetFolds$Pose" "north" "[I" ∈ zG := zgm (zt1 (List.mem_of_getElem? (i := 85) rfl)) rfl
theorem wf_X5_30 : Cond.fieldLink RX5 30 "SheetFolds$Pose" "start" "[I" ∈ zG := zgm (zt1 (List.mem_of_getElem? (i := 86) rfl)) rfl
theorem wf_X5_33 : Cond.fieldLink RX5 33 "SheetFolds$Pose" "far" "[I" ∈ zG := zgm (zt1 (List.mem_of_getElem? (i := 87) rfl)) rfl
theorem war_int : Cond.arrayClass .int ∈ zG := zgm (zt1 (List.mem_of_getElem? (i := 105) rfl)) rfl
theorem wcl_X8_32 : Cond.classLink RX8 32 RX3 ∈ zG := zgm (zt1 (List.mem_of_getElem? (i := 106) rfl)) rfl
theorem wob_X3 : Cond.instantiable RX3 13 ∈ zG := zgm (zt1 (List.mem_of_getElem? (i := 107) rfl)) rfl
theorem wmn_X8_34 : Cond.methodLinkNest RX8 34 yX3_init "SheetFolds" ∈ lw_tbl := (zt1 (List.mem_of_getElem? (i := 108) rfl))
theorem wi_X3_init : Cond.instanceMethod yX3_init ∈ zG := zgm (zt1 (List.mem_of_getElem? (i := 109) rfl)) rfl
theorem wc_X3_init : Cond.code yX3_init cX3_init 1 none ∈ zG := zgm (zt1 (List.mem_of_getElem? (i := 110) rfl)) rfl
theorem wm_X3_3 : Cond.methodLink RX3 3 objectInit ∈ zG := zgm (zt1 (List.mem_of_getElem? (i := 111) rfl)) rfl
theorem wf_X3_9 : Cond.fieldLink RX3 9 "SheetFolds$Orders" "room" "[I" ∈ zG := zgm (zt1 (List.mem_of_getElem? (i := 112) rfl)) rfl
theorem wf_X3_15 : Cond.fieldLink RX3 15 "SheetFolds$Orders" "clashing" "[B" ∈ zG := zgm (zt1 (List.mem_of_getElem? (i := 113) rfl)) rfl
theorem wf_X3_19 : Cond.fieldLink RX3 19 "SheetFolds$Orders" "reach" "[B" ∈ zG := zgm (zt1 (List.mem_of_getElem? (i := 114) rfl)) rfl
theorem wf_X3_22 : Cond.fieldLink RX3 22 "SheetFolds$Orders" "ways" "[I" ∈ zG := zgm (zt1 (List.mem_of_getElem? (i := 115) rfl)) rfl
theorem wf_X3_25 : Cond.fieldLink RX3 25 "SheetFolds$Orders" "switches" "[I" ∈ zG := zgm (zt1 (List.mem_of_getElem? (i := 116) rfl)) rfl
theorem wf_X3_28 : Cond.fieldLink RX3 28 "SheetFolds$Orders" "kind" "[I" ∈ zG := zgm (zt1 (List.mem_of_getElem? (i := 117) rfl)) rfl
theorem wf_X3_31 : Cond.fieldLink RX3 31 "SheetFolds$Orders" "best" "[I" ∈ zG := zgm (zt1 (List.mem_of_getElem? (i := 118) rfl)) rfl
theorem wf_X3_34 : Cond.fieldLink RX3 34 "SheetFolds$Orders" "row" "[I" ∈ zG := zgm (zt1 (List.mem_of_getElem? (i := 119) rfl)) rfl
theorem wf_X3_108 : Cond.fieldLink RX3 108 "SheetFolds$Orders" "rowLength" "I" ∈ zG := zgm (zt1 (List.mem_of_getElem? (i := 120) rfl)) rfl
theorem wf_X3_50 : Cond.fieldLink RX3 50 "SheetFolds$Orders" "bends" "I" ∈ zG := zgm (zt1 (List.mem_of_getElem? (i := 121) rfl)) rfl
theorem wf_X3_43 : Cond.fieldLink RX3 43 "SheetFolds$Orders" "full" "I" ∈ zG := zgm (zt1 (List.mem_of_getElem? (i := 122) rfl)) rfl
theorem wf_X3_84 : Cond.fieldLink RX3 84 "SheetFolds$Orders" "first" "I" ∈ zG := zgm (zt1 (List.mem_of_getElem? (i := 123) rfl)) rfl
theorem wf_X3_81 : Cond.fieldLink RX3 81 "SheetFolds$Orders" "punch" "I" ∈ zG := zgm (zt1 (List.mem_of_getElem? (i := 124) rfl)) rfl
theorem wcl_X8_39 : Cond.classLink RX8 39 RX2 ∈ zG := zgm (zt1 (List.mem_of_getElem? (i := 152) rfl)) rfl
theorem wob_X2 : Cond.instantiable RX2 3 ∈ zG := zgm (zt1 (List.mem_of_getElem? (i := 153) rfl)) rfl
theorem wmn_X8_41 : Cond.methodLinkNest RX8 41 yX2_init "SheetFolds" ∈ lw_tbl := (zt1 (List.mem_of_getElem? (i := 154) rfl))
theorem wi_X2_init : Cond.instanceMethod yX2_init ∈ zG := zgm (zt1 (List.mem_of_getElem? (i := 155) rfl)) rfl
theorem wc_X2_init : Cond.code yX2_init cX2_init 1 none ∈ zG := zgm (zt1 (List.mem_of_getElem? (i := 156) rfl)) rfl
theorem wm_X2_3 : Cond.methodLink RX2 3 objectInit ∈ zG := zgm (zt1 (List.mem_of_getElem? (i := 157) rfl)) rfl
theorem wf_X2_15 : Cond.fieldLink RX2 15 "SheetFolds$Mender" "marks" "[B" ∈ zG := zgm (zt1 (List.mem_of_getElem? (i := 158) rfl)) rfl
theorem wf_X2_46 : Cond.fieldLink RX2 46 "SheetFolds$Mender" "codeMade" "I" ∈ zG := zgm (zt1 (List.mem_of_getElem? (i := 159) rfl)) rfl
theorem wf_X2_53 : Cond.fieldLink RX2 53 "SheetFolds$Mender" "codeUps" "I" ∈ zG := zgm (zt1 (List.mem_of_getElem? (i := 160) rfl)) rfl
theorem wcl_X8_46 : Cond.classLink RX8 46 RX0 ∈ zG := zgm (zt1 (List.mem_of_getElem? (i := 168) rfl)) rfl
theorem wob_X0 : Cond.instantiable RX0 3 ∈ zG := zgm (zt1 (List.mem_of_getElem? (i := 169) rfl)) rfl
theorem wmn_X8_48 : Cond.methodLinkNest RX8 48 yX0_init "SheetFolds" ∈ lw_tbl := (zt1 (List.mem_of_getElem? (i := 170) rfl))
theorem wi_X0_init : Cond.instanceMethod yX0_init ∈ zG := zgm (zt1 (List.mem_of_getElem? (i := 171) rfl)) rfl
theorem wc_X0_init : Cond.code yX0_init cX0_init 1 none ∈ zG := zgm (zt1 (List.mem_of_getElem? (i := 172) rfl)) rfl
theorem wm_X0_3 : Cond.methodLink RX0 3 objectInit ∈ zG := zgm (zt1 (List.mem_of_getElem? (i := 173) rfl)) rfl
theorem wf_X0_11 : Cond.fieldLink RX0 11 "SheetFolds$History" "rows" "[I" ∈ zG := zgm (zt1 (List.mem_of_getElem? (i := 174) rfl)) rfl
theorem wf_X0_36 : Cond.fieldLink RX0 36 "SheetFolds$History" "size" "I" ∈ zG := zgm (zt1 (List.mem_of_getElem? (i := 175) rfl)) rfl
theorem wfn_X8_113 : Cond.fieldLinkNest RX8 113 "SheetFolds$History" "size" "I" "SheetFolds" ∈ lw_tbl := (zt1 (List.mem_of_getElem? (i := 176) rfl))
theorem wf_X0_15 : Cond.fieldLink RX0 15 "SheetFolds$History" "next" "I" ∈ zG := zgm (zt1 (List.mem_of_getElem? (i := 177) rfl)) rfl
theorem wcl_X8_53 : Cond.classLink RX8 53 RX1 ∈ zG := zgm (zt1 (List.mem_of_getElem? (i := 185) rfl)) rfl
theorem wob_X1 : Cond.instantiable RX1 3 ∈ zG := zgm (zt1 (List.mem_of_getElem? (i := 186) rfl)) rfl
theorem wmn_X8_55 : Cond.methodLinkNest RX8 55 yX1_init "SheetFolds" ∈ lw_tbl := (zt1 (List.mem_of_getElem? (i := 187) rfl))
theorem wi_X1_init : Cond.instanceMethod yX1_init ∈ zG := zgm (zt1 (List.mem_of_getElem? (i := 188) rfl)) rfl
theorem wc_X1_init : Cond.code yX1_init cX1_init 1 none ∈ zG := zgm (zt1 (List.mem_of_getElem? (i := 189) rfl)) rfl
theorem wm_X1_3 : Cond.methodLink RX1 3 objectInit ∈ zG := zgm (zt1 (List.mem_of_getElem? (i := 190) rfl)) rfl
theorem wf_X1_11 : Cond.fieldLink RX1 11 "SheetFolds$Measured" "flanges" "[I" ∈ zG := zgm (zt1 (List.mem_of_getElem? (i := 191) rfl)) rfl
theorem wf_X1_15 : Cond.fieldLink RX1 15 "SheetFolds$Measured" "lengths" "[I" ∈ zG := zgm (zt1 (List.mem_of_getElem? (i := 192) rfl)) rfl
theorem wf_X1_34 : Cond.fieldLink RX1 34 "SheetFolds$Measured" "rows" "I" ∈ zG := zgm (zt1 (List.mem_of_getElem? (i := 193) rfl)) rfl
theorem wfn_X8_110 : Cond.fieldLinkNest RX8 110 "SheetFolds$Measured" "rows" "I" "SheetFolds" ∈ lw_tbl := (zt1 (List.mem_of_getElem? (i := 194) rfl))
theorem wcl_X8_64 : Cond.classLink RX8 64 RX4 ∈ zG := zgm (zt1 (List.mem_of_getElem? (i := 202) rfl)) rfl
theorem wob_X4 : Cond.instantiable RX4 16 ∈ zG := zgm (zt1 (List.mem_of_getElem? (i := 203) rfl)) rfl
theorem wmn_X8_66 : Cond.methodLinkNest RX8 66 yX4_init "SheetFolds" ∈ lw_tbl := (zt1 (List.mem_of_getElem? (i := 204) rfl))
theorem wi_X4_init : Cond.instanceMethod yX4_init ∈ zG := zgm (zt1 (List.mem_of_getElem? (i := 205) rfl)) rfl
theorem wc_X4_init : Cond.code yX4_init cX4_init 1 none ∈ zG := zgm (zt1 (List.mem_of_getElem? (i := 206) rfl)) rfl
theorem wm_X4_3 : Cond.methodLink RX4 3 objectInit ∈ zG := zgm (zt1 (List.mem_of_getElem? (i := 207) rfl)) rfl
theorem wf_X4_42 : Cond.fieldLink RX4 42 "SheetFolds$Part" "count" "I" ∈ zG := zgm (zt1 (List.mem_of_getElem? (i := 208) rfl)) rfl
theorem wfn_X3_47 : Cond.fieldLinkNest RX3 47 "SheetFolds$Part" "count" "I" "SheetFolds" ∈ lw_tbl := (zt1 (List.mem_of_getElem? (i := 209) rfl))
theorem wfn_X5_40 : Cond.fieldLinkNest RX5 40 "SheetFolds$Part" "count" "I" "SheetFolds" ∈ lw_tbl := (zt1 (List.mem_of_getElem? (i := 210) rfl))
theorem wfn_X2_39 : Cond.fieldLinkNest RX2 39 "SheetFolds$Part" "count" "I" "SheetFolds" ∈ lw_tbl := (zt1 (List.mem_of_getElem? (i := 211) rfl))
theorem wfn_X1_51 : Cond.fieldLinkNest RX1 51 "SheetFolds$Part" "count" "I" "SheetFolds" ∈ lw_tbl := (zt1 (List.mem_of_getElem? (i := 212) rfl))
theorem wfn_X8_125 : Cond.fieldLinkNest RX8 125 "SheetFolds$Part" "count" "I" "SheetFolds" ∈ lw_tbl := (zt1 (List.mem_of_getElem? (i := 213) rfl))
theorem wfn_X6_140 : Cond.fieldLinkNest RX6 140 "SheetFolds$Part" "count" "I" "SheetFolds" ∈ lw_tbl := (zt1 (List.mem_of_getElem? (i := 214) rfl))
theorem wf_X4_46 : Cond.fieldLink RX4 46 "SheetFolds$Part" "statements" "I" ∈ zG := zgm (zt1 (List.mem_of_getElem? (i := 215) rfl)) rfl
theorem wfn_X8_119 : Cond.fieldLinkNest RX8 119 "SheetFolds$Part" "statements" "I" "SheetFolds" ∈ lw_tbl := (zt1 (List.mem_of_getElem? (i := 216) rfl))
theorem wfn_X6_118 : Cond.fieldLinkNest RX6 118 "SheetFolds$Part" "statements" "I" "SheetFolds" ∈ lw_tbl := (zt1 (List.mem_of_getElem? (i := 217) rfl))
theorem wfn_X8_131 : Cond.fieldLinkNest RX8 131 "SheetFolds$Part" "thick" "I" "SheetFolds" ∈ lw_tbl := (zt1 (List.mem_of_getElem? (i := 218) rfl))
theorem wf_X4_79 : Cond.fieldLink RX4 79 "SheetFolds$Part" "thick" "I" ∈ zG := zgm (zt1 (List.mem_of_getElem? (i := 219) rfl)) rfl
theorem wfn_X6_129 : Cond.fieldLinkNest RX6 129 "SheetFolds$Part" "thick" "I" "SheetFolds" ∈ lw_tbl := (zt1 (List.mem_of_getElem? (i := 220) rfl))
theorem wf_X4_55 : Cond.fieldLink RX4 55 "SheetFolds$Part" "punch" "I" ∈ zG := zgm (zt1 (List.mem_of_getElem? (i := 221) rfl)) rfl
theorem wfn_X0_24 : Cond.fieldLinkNest RX0 24 "SheetFolds$Part" "punch" "I" "SheetFolds" ∈ lw_tbl := (zt1 (List.mem_of_getElem? (i := 222) rfl))
theorem wfn_X6_50 : Cond.fieldLinkNest RX6 50 "SheetFolds$Part" "punch" "I" "SheetFolds" ∈ lw_tbl := (zt1 (List.mem_of_getElem? (i := 223) rfl))
theorem wfn_X2_83 : Cond.fieldLinkNest RX2 83 "SheetFolds$Part" "punch" "I" "SheetFolds" ∈ lw_tbl := (zt1 (List.mem_of_getElem? (i := 224) rfl))
theorem wfn_X8_134 : Cond.fieldLinkNest RX8 134 "SheetFolds$Part" "punch" "I" "SheetFolds" ∈ lw_tbl := (zt1 (List.mem_of_getElem? (i := 225) rfl))
theorem wfn_X5_160 : Cond.fieldLinkNest RX5 160 "SheetFolds$Part" "punch" "I" "SheetFolds" ∈ lw_tbl := (zt1 (List.mem_of_getElem? (i := 226) rfl))
theorem wf_X4_49 : Cond.fieldLink RX4 49 "SheetFolds$Part" "ups" "I" ∈ zG := zgm (zt1 (List.mem_of_getElem? (i := 227) rfl)) rfl
theorem wfn_X0_19 : Cond.fieldLinkNest RX0 19 "SheetFolds$Part" "ups" "I" "SheetFolds" ∈ lw_tbl := (zt1 (List.mem_of_getElem? (i := 228) rfl))
theorem wfn_X2_31 : Cond.fieldLinkNest RX2 31 "SheetFolds$Part" "ups" "I" "SheetFolds" ∈ lw_tbl := (zt1 (List.mem_of_getElem? (i := 229) rfl))
theorem wfn_X8_161 : Cond.fieldLinkNest RX8 161 "SheetFolds$Part" "ups" "I" "SheetFolds" ∈ lw_tbl := (zt1 (List.mem_of_getElem? (i := 230) rfl))
theorem wfn_X6_187 : Cond.fieldLinkNest RX6 187 "SheetFolds$Part" "ups" "I" "SheetFolds" ∈ lw_tbl := (zt1 (List.mem_of_getElem? (i := 231) rfl))
theorem wfn_X3_131 : Cond.fieldLinkNest RX3 131 "SheetFolds$Part" "ups" "I" "SheetFolds" ∈ lw_tbl := (zt1 (List.mem_of_getElem? (i := 232) rfl))
theorem wfn_X5_157 : Cond.fieldLinkNest RX5 157 "SheetFolds$Part" "ups" "I" "SheetFolds" ∈ lw_tbl := (zt1 (List.mem_of_getElem? (i := 233) rfl))
theorem wf_X4_52 : Cond.fieldLink RX4 52 "SheetFolds$Part" "toolCount" "I" ∈ zG := zgm (zt1 (List.mem_of_getElem? (i := 234) rfl)) rfl
theorem wfn_X8_128 : Cond.fieldLinkNest RX8 128 "SheetFolds$Part" "toolCount" "I" "SheetFolds" ∈ lw_tbl := (zt1 (List.mem_of_getElem? (i := 235) rfl))
theorem wfn_X6_143 : Cond.fieldLinkNest RX6 143 "SheetFolds$Part" "toolCount" "I" "SheetFolds" ∈ lw_tbl := (zt1 (List.mem_of_getElem? (i := 236) rfl))
theorem wf_X4_9 : Cond.fieldLink RX4 9 "SheetFolds$Part" "toolWidth" "[I" ∈ zG := zgm (zt1 (List.mem_of_getElem? (i := 237) rfl)) rfl
theorem wfn_X8_180 : Cond.fieldLinkNest RX8 180 "SheetFolds$Part" "toolWidth" "[I" "SheetFolds" ∈ lw_tbl := (zt1 (List.mem_of_getElem? (i := 238) rfl))
theorem wfn_X6_146 : Cond.fieldLinkNest RX6 146 "SheetFolds$Part" "toolWidth" "[I" "SheetFolds" ∈ lw_tbl := (zt1 (List.mem_of_getElem? (i := 239) rfl))
theorem wf_X4_15 : Cond.fieldLink RX4 15 "SheetFolds$Part" "told" "[I" ∈ zG := zgm (zt2 (List.mem_of_getElem? (i := 0) rfl)) rfl
theorem wfn_X0_27 : Cond.fieldLinkNest RX0 27 "SheetFolds$Part" "told" "[I" "SheetFolds" ∈ lw_tbl := (zt2 (List.mem_of_getElem? (i := 1) rfl))
theorem wfn_X6_149 : Cond.fieldLinkNest RX6 149 "SheetFolds$Part" "told" "[I" "SheetFolds" ∈ lw_tbl := (zt2 (List.mem_of_getElem? (i := 2) rfl))
theorem wfn_X8_361 : Cond.fieldLinkNest RX8 361 "SheetFolds$Part" "told" "[I" "SheetFolds" ∈ lw_tbl := (zt2 (List.mem_of_getElem? (i := 3) rfl))
theorem wf_X4_18 : Cond.fieldLink RX4 18 "SheetFolds$Part" "name" "[I" ∈ zG := zgm (zt2 (List.mem_of_getElem? (i := 4) rfl)) rfl
theorem wfn_X8_140 : Cond.fieldLinkNest RX8 140 "SheetFolds$Part" "name" "[I" "SheetFolds" ∈ lw_tbl := (zt2 (List.mem_of_getElem? (i := 5) rfl))
theorem wfn_X6_152 : Cond.fieldLinkNest RX6 152 "SheetFolds$Part" "name" "[I" "SheetFolds" ∈ lw_tbl := (zt2 (List.mem_of_getElem? (i := 6) rfl))
theorem wf_X4_21 : Cond.fieldLink RX4 21 "SheetFolds$Part" "parent" "[I" ∈ zG := zgm (zt2 (List.mem_of_getElem? (i := 7) rfl)) rfl
theorem wfn_X5_62 : Cond.fieldLinkNest RX5 62 "SheetFolds$Part" "parent" "[I" "SheetFolds" ∈ lw_tbl := (zt2 (List.mem_of_getElem? (i := 8) rfl))
theorem wfn_X8_146 : Cond.fieldLinkNest RX8 146 "SheetFolds$Part" "parent" "[I" "SheetFolds" ∈ lw_tbl := (zt2 (List.mem_of_getElem? (i := 9) rfl))
theorem wfn_X6_160 : Cond.fieldLinkNest RX6 160 "SheetFolds$Part" "parent" "[I" "SheetFolds" ∈ lw_tbl := (zt2 (List.mem_of_getElem? (i := 10) rfl))
theorem wf_X4_24 : Cond.fieldLink RX4 24 "SheetFolds$Part" "side" "[I" ∈ zG := zgm (zt2 (List.mem_of_getElem? (i := 11) rfl)) rfl
theorem wfn_X5_65 : Cond.fieldLinkNest RX5 65 "SheetFolds$Part" "side" "[I" "SheetFolds" ∈ lw_tbl := (zt2 (List.mem_of_getElem? (i := 12) rfl))
theorem wfn_X8_149 : Cond.fieldLinkNest RX8 149 "SheetFolds$Part" "side" "[I" "SheetFolds" ∈ lw_tbl := (zt2 (List.mem_of_getElem? (i := 13) rfl))
theorem wfn_X6_166 : Cond.fieldLinkNest RX6 166 "SheetFolds$Part" "side" "[I" "SheetFolds" ∈ lw_tbl := (zt2 (List.mem_of_getElem? (i := 14) rfl))
theorem wf_X4_27 : Cond.fieldLink RX4 27 "SheetFolds$Part" "from" "[I" ∈ zG := zgm (zt2 (List.mem_of_getElem? (i := 15) rfl)) rfl
theorem wfn_X8_152 : Cond.fieldLinkNest RX8 152 "SheetFolds$Part" "from" "[I" "SheetFolds" ∈ lw_tbl := (zt2 (List.mem_of_getElem? (i := 16) rfl))
theorem wfn_X5_112 : Cond.fieldLinkNest RX5 112 "SheetFolds$Part" "from" "[I" "SheetFolds" ∈ lw_tbl := (zt2 (List.mem_of_getElem? (i := 17) rfl))
theorem wfn_X6_174 : Cond.fieldLinkNest RX6 174 "SheetFolds$Part" "from" "[I" "SheetFolds" ∈ lw_tbl := (zt2 (List.mem_of_getElem? (i := 18) rfl))
theorem wf_X4_30 : Cond.fieldLink RX4 30 "SheetFolds$Part" "width" "[I" ∈ zG := zgm (zt2 (List.mem_of_getElem? (i := 19) rfl)) rfl
theorem wfn_X5_72 : Cond.fieldLinkNest RX5 72 "SheetFolds$Part" "width" "[I" "SheetFolds" ∈ lw_tbl := (zt2 (List.mem_of_getElem? (i := 20) rfl))
theorem wfn_X8_155 : Cond.fieldLinkNest RX8 155 "SheetFolds$Part" "width" "[I" "SheetFolds" ∈ lw_tbl := (zt2 (List.mem_of_getElem? (i := 21) rfl))
theorem wfn_X6_133 : Cond.fieldLinkNest RX6 133 "SheetFolds$Part" "width" "[I" "SheetFolds" ∈ lw_tbl := (zt2 (List.mem_of_getElem? (i := 22) rfl))
theorem wf_X4_33 : Cond.fieldLink RX4 33 "SheetFolds$Part" "height" "[I" ∈ zG := zgm (zt2 (List.mem_of_getElem? (i := 23) rfl)) rfl
theorem wfn_X5_92 : Cond.fieldLinkNest RX5 92 "SheetFolds$Part" "height" "[I" "SheetFolds" ∈ lw_tbl := (zt2 (List.mem_of_getElem? (i := 24) rfl))
theorem wfn_X8_158 : Cond.fieldLinkNest RX8 158 "SheetFolds$Part" "height" "[I" "SheetFolds" ∈ lw_tbl := (zt2 (List.mem_of_getElem? (i := 25) rfl))
theorem wfn_X6_137 : Cond.fieldLinkNest RX6 137 "SheetFolds$Part" "height" "[I" "SheetFolds" ∈ lw_tbl := (zt2 (List.mem_of_getElem? (i := 26) rfl))
theorem wf_X4_36 : Cond.fieldLink RX4 36 "SheetFolds$Part" "radius" "[I" ∈ zG := zgm (zt2 (List.mem_of_getElem? (i := 27) rfl)) rfl
theorem wfn_X8_168 : Cond.fieldLinkNest RX8 168 "SheetFolds$Part" "radius" "[I" "SheetFolds" ∈ lw_tbl := (zt2 (List.mem_of_getElem? (i := 28) rfl))
theorem wfn_X6_195 : Cond.fieldLinkNest RX6 195 "SheetFolds$Part" "radius" "[I" "SheetFolds" ∈ lw_tbl := (zt2 (List.mem_of_getElem? (i := 29) rfl))
theorem wf_X4_39 : Cond.fieldLink RX4 39 "SheetFolds$Part" "toolSet" "[I" ∈ zG := zgm (zt2 (List.mem_of_getElem? (i := 30) rfl)) rfl
theorem wfn_X3_67 : Cond.fieldLinkNest RX3 67 "SheetFolds$Part" "toolSet" "[I" "SheetFolds" ∈ lw_tbl := (zt2 (List.mem_of_getElem? (i := 31) rfl))
theorem wfn_X8_244 : Cond.fieldLinkNest RX8 244 "SheetFolds$Part" "toolSet" "[I" "SheetFolds" ∈ lw_tbl := (zt2 (List.mem_of_getElem? (i := 32) rfl))
theorem wf_X8_10 : Cond.fieldLink RX8 10 "SheetFolds" "tape" "LSheetFolds$Tape;" ∈ zG := zgm (zt2 (List.mem_of_getElem? (i := 66) rfl)) rfl
theorem wf_X8_21 : Cond.fieldLink RX8 21 "SheetFolds" "reader" "LSheetFolds$Reader;" ∈ zG := zgm (zt2 (List.mem_of_getElem? (i := 67) rfl)) rfl
theorem wf_X8_28 : Cond.fieldLink RX8 28 "SheetFolds" "pose" "LSheetFolds$Pose;" ∈ zG := zgm (zt2 (List.mem_of_getElem? (i := 68) rfl)) rfl
theorem wf_X8_35 : Cond.fieldLink RX8 35 "SheetFolds" "search" "LSheetFolds$Orders;" ∈ zG := zgm (zt2 (List.mem_of_getElem? (i := 69) rfl)) rfl
theorem wf_X8_42 : Cond.fieldLink RX8 42 "SheetFolds" "mender" "LSheetFolds$Mender;" ∈ zG := zgm (zt2 (List.mem_of_getElem? (i := 70) rfl)) rfl
theorem wf_X8_49 : Cond.fieldLink RX8 49 "SheetFolds" "history" "LSheetFolds$History;" ∈ zG := zgm (zt2 (List.mem_of_getElem? (i := 71) rfl)) rfl
theorem wf_X8_56 : Cond.fieldLink RX8 56 "SheetFolds" "measured" "LSheetFolds$Measured;" ∈ zG := zgm (zt2 (List.mem_of_getElem? (i := 72) rfl)) rfl
theorem wf_X8_60 : Cond.fieldLink RX8 60 "SheetFolds" "refusals" "[I" ∈ zG := zgm (zt2 (List.mem_of_getElem? (i := 73) rfl)) rfl
theorem wf_X8_67 : Cond.fieldLink RX8 67 "SheetFolds" "part" "LSheetFolds$Part;" ∈ zG := zgm (zt2 (List.mem_of_getElem? (i := 74) rfl)) rfl
theorem wf_X8_71 : Cond.fieldLink RX8 71 "SheetFolds" "draft" "LSheetFolds$Part;" ∈ zG := zgm (zt2 (List.mem_of_getElem? (i := 75) rfl)) rfl
theorem wf_X8_107 : Cond.fieldLink RX8 107 "SheetFolds" "made" "I" ∈ zG := zgm (zt2 (List.mem_of_getElem? (i := 76) rfl)) rfl
theorem wf_X8_74 : Cond.fieldLink RX8 74 "SheetFolds" "draws" "I" ∈ zG := zgm (zt2 (List.mem_of_getElem? (i := 77) rfl)) rfl
theorem wf_X8_380 : Cond.fieldLink RX8 380 "SheetFolds" "roomsKnown" "Z" ∈ zG := zgm (zt2 (List.mem_of_getElem? (i := 78) rfl)) rfl
theorem wf_X8_364 : Cond.fieldLink RX8 364 "SheetFolds" "searched" "Z" ∈ zG := zgm (zt2 (List.mem_of_getElem? (i := 79) rfl)) rfl
theorem wm_L_13 : Cond.methodLink RL 13 yX8_feed ∈ zG := zgm (zt2 (List.mem_of_getElem? (i := 109) rfl)) rfl
theorem wi_X8_feed : Cond.instanceMethod yX8_feed ∈ zG := zgm (zt2 (List.mem_of_getElem? (i := 110) rfl)) rfl
theorem wse_X8_X8_feed : Cond.selects RX8 yX8_feed yX8_feed ∈ zG := zgm (zt2 (List.mem_of_getElem? (i := 111) rfl)) rfl
theorem wc_X8_feed : Cond.code yX8_feed cX8_feed 6 (some .int) ∈ zG := zgm (zt2 (List.mem_of_getElem? (i := 112) rfl)) rfl
theorem wmn_X8_78 : Cond.methodLinkNest RX8 78 yX7_hasRoom "SheetFolds" ∈ lw_tbl := (zt2 (List.mem_of_getElem? (i := 113) rfl))
theorem wi_X7_hasRoom : Cond.instanceMethod yX7_hasRoom ∈ zG := zgm (zt2 (List.mem_of_getElem? (i := 115) rfl)) rfl
theorem wc_X7_hasRoom : Cond.code yX7_hasRoom cX7_hasRoom 1 (some .boolean) ∈ zG := zgm (zt2 (List.mem_of_getElem? (i := 116) rfl)) rfl
theorem wm_X8_82 : Cond.methodLink RX8 82 yX8_refuse ∈ zG := zgm (zt2 (List.mem_of_getElem? (i := 117) rfl)) rfl
theorem wi_X8_refuse : Cond.instanceMethod yX8_refuse ∈ zG := zgm (zt2 (List.mem_of_getElem? (i := 119) rfl)) rfl
theorem wc_X8_refuse : Cond.code yX8_refuse cX8_refuse 2 (some .int) ∈ zG := zgm (zt2 (List.mem_of_getElem? (i := 120) rfl)) rfl
theorem wmn_X8_86 : Cond.methodLinkNest RX8 86 yX7_put "SheetFolds" ∈ lw_tbl := (zt2 (List.mem_of_getElem? (i := 121) rfl))
theorem wi_X7_put : Cond.instanceMethod yX7_put ∈ zG := zgm (zt2 (List.mem_of_getElem? (i := 123) rfl)) rfl
theorem wc_X7_put : Cond.code yX7_put cX7_put 3 none ∈ zG := zgm (zt2 (List.mem_of_getElem? (i := 124) rfl)) rfl
theorem wm_L_18 : Cond.methodLink RL 18 yX8_end ∈ zG := zgm (zt2 (List.mem_of_getElem? (i := 125) rfl)) rfl
theorem wi_X8_end : Cond.instanceMethod yX8_end ∈ zG := zgm (zt2 (List.mem_of_getElem? (i := 126) rfl)) rfl
theorem wse_X8_X8_end : Cond.selects RX8 yX8_end yX8_end ∈ zG := zgm (zt2 (List.mem_of_getElem? (i := 127) rfl)) rfl
theorem wc_X8_end : Cond.code yX8_end cX8_end 2 (some .boolean) ∈ zG := zgm (zt2 (List.mem_of_getElem? (i := 128) rfl)) rfl
theorem wm_X8_93 : Cond.methodLink RX8 93 yX8_deny ∈ zG := zgm (zt2 (List.mem_of_getElem? (i := 129) rfl)) rfl
theorem wi_X8_deny : Cond.instanceMethod yX8_deny ∈ zG := zgm (zt2 (List.mem_of_getElem? (i := 131) rfl)) rfl
theorem wc_X8_deny : Cond.code yX8_deny cX8_deny 2 (some .boolean) ∈ zG := zgm (zt2 (List.mem_of_getElem? (i := 132) rfl)) rfl
theorem wm_L_23 : Cond.methodLink RL 23 yX8_part ∈ zG := zgm (zt2 (List.mem_of_getElem? (i := 133) rfl)) rfl
theorem wi_X8_part : Cond.instanceMethod yX8_part ∈ zG := zgm (zt2 (List.mem_of_getElem? (i := 134) rfl)) rfl
theorem wse_X8_X8_part : Cond.selects RX8 yX8_part yX8_part ∈ zG := zgm (zt2 (List.mem_of_getElem? (i := 135) rfl)) rfl
theorem wc_X8_part : Cond.code yX8_part cX8_part 2 (some .int) ∈ zG := zgm (zt2 (List.mem_of_getElem? (i := 136) rfl)) rfl
theorem wmn_X8_97 : Cond.methodLinkNest RX8 97 yX6_read "SheetFolds" ∈ lw_tbl := (zt2 (List.mem_of_getElem? (i := 137) rfl))
theorem wi_X6_read : Cond.instanceMethod yX6_read ∈ zG := zgm (zt2 (List.mem_of_getElem? (i := 139) rfl)) rfl
theorem wc_X6_read : Cond.code yX6_read cX6_read 3 none ∈ zG := zgm (zt2 (List.mem_of_getElem? (i := 140) rfl)) rfl
theorem wm_X6_19 : Cond.methodLink RX6 19 yX6_begin ∈ zG := zgm (zt2 (List.mem_of_getElem? (i := 141) rfl)) rfl
theorem wi_X6_begin : Cond.instanceMethod yX6_begin ∈ zG := zgm (zt2 (List.mem_of_getElem? (i := 143) rfl)) rfl
theorem wc_X6_begin : Cond.code yX6_begin cX6_begin 2 none ∈ zG := zgm (zt2 (List.mem_of_getElem? (i := 144) rfl)) rfl
theorem wmn_X6_80 : Cond.methodLinkNest RX6 80 yX4_clear "SheetFolds" ∈ lw_tbl := (zt2 (List.mem_of_getElem? (i := 145) rfl))
theorem wi_X4_clear : Cond.instanceMethod yX4_clear ∈ zG := zgm (zt2 (List.mem_of_getElem? (i := 147) rfl)) rfl
theorem wc_X4_clear : Cond.code yX4_clear cX4_clear 1 none ∈ zG := zgm (zt2 (List.mem_of_getElem? (i := 148) rfl)) rfl
theorem wm_X4_58 : Cond.methodLink RX4 58 yJ7_fill_53178 ∈ zG := zgm (zt2 (List.mem_of_getElem? (i := 149) rfl)) rfl
theorem ws_J7_fill_53178 : Cond.static yJ7_fill_53178 ∈ zG := zgm (zt2 (List.mem_of_getElem? (i := 150) rfl)) rfl
theorem wc_J7_fill_53178 : Cond.code yJ7_fill_53178 cJ7_fill_53178 4 none ∈ zG := zgm (zt2 (List.mem_of_getElem? (i := 151) rfl)) rfl
theorem wm_X6_23 : Cond.methodLink RX6 23 yX6_readSheet ∈ zG := zgm (zt2 (List.mem_of_getElem? (i := 152) rfl)) rfl
theorem wi_X6_readSheet : Cond.instanceMethod yX6_readSheet ∈ zG := zgm (zt2 (List.mem_of_getElem? (i := 154) rfl)) rfl
theorem wc_X6_readSheet : Cond.code yX6_readSheet cX6_readSheet 1 none ∈ zG := zgm (zt2 (List.mem_of_getElem? (i := 155) rfl)) rfl
theorem wm_X6_123 : Cond.methodLink RX6 123 yX6_keyword ∈ zG := zgm (zt2 (List.mem_of_getElem? (i := 157) rfl)) rfl
theorem wi_X6_keyword : Cond.instanceMethod yX6_keyword ∈ zG := zgm (zt2 (List.mem_of_getElem? (i := 159) rfl)) rfl
theorem wc_X6_keyword : Cond.code yX6_keyword cX6_keyword 2 none ∈ zG := zgm (zt2 (List.mem_of_getElem? (i := 160) rfl)) rfl
theorem wm_X6_33 : Cond.methodLink RX6 33 yX6_readWord ∈ zG := zgm (zt2 (List.mem_of_getElem? (i := 161) rfl)) rfl
theorem wi_X6_readWord : Cond.instanceMethod yX6_readWord ∈ zG := zgm (zt2 (List.mem_of_getElem? (i := 163) rfl)) rfl
theorem wc_X6_readWord : Cond.code yX6_readWord cX6_readWord 1 none ∈ zG := zgm (zt2 (List.mem_of_getElem? (i := 164) rfl)) rfl
theorem wm_X6_89 : Cond.methodLink RX6 89 yX6_skipBlanks ∈ zG := zgm (zt2 (List.mem_of_getElem? (i := 165) rfl)) rfl
theorem wi_X6_skipBlanks : Cond.instanceMethod yX6_skipBlanks ∈ zG := zgm (zt2 (List.mem_of_getElem? (i := 167) rfl)) rfl
theorem wc_X6_skipBlanks : Cond.code yX6_skipBlanks cX6_skipBlanks 1 none ∈ zG := zgm (zt2 (List.mem_of_getElem? (i := 168) rfl)) rfl
theorem wmn_X6_97 : Cond.methodLinkNest RX6 97 yX7_at "SheetFolds" ∈ lw_tbl := (zt2 (List.mem_of_getElem? (i := 169) rfl))
theorem wi_X7_at : Cond.instanceMethod yX7_at ∈ zG := zgm (zt2 (List.mem_of_getElem? (i := 171) rfl)) rfl
theorem wc_X7_at : Cond.code yX7_at cX7_at 2 (some .int) ∈ zG := zgm (zt2 (List.mem_of_getElem? (i := 172) rfl)) rfl
theorem wm_X6_100 : Cond.methodLink RX6 100 yX6_isLetter ∈ zG := zgm (zt2 (List.mem_of_getElem? (i := 173) rfl)) rfl
theorem ws_X6_isLetter : Cond.static yX6_isLetter ∈ zG := zgm (zt2 (List.mem_of_getElem? (i := 174) rfl)) rfl
theorem wc_X6_isLetter : Cond.code yX6_isLetter cX6_isLetter 1 (some .boolean) ∈ zG := zgm (zt2 (List.mem_of_getElem? (i := 175) rfl)) rfl
theorem wm_X6_73 : Cond.methodLink RX6 73 yX6_fail ∈ zG := zgm (zt2 (List.mem_of_getElem? (i := 176) rfl)) rfl
theorem wi_X6_fail : Cond.instanceMethod yX6_fail ∈ zG := zgm (zt2 (List.mem_of_getElem? (i := 178) rfl)) rfl
theorem wc_X6_fail : Cond.code yX6_fail cX6_fail 3 none ∈ zG := zgm (zt2 (List.mem_of_getElem? (i := 179) rfl)) rfl
theorem wm_X6_38 : Cond.methodLink RX6 38 yX6_wordIs ∈ zG := zgm (zt2 (List.mem_of_getElem? (i := 180) rfl)) rfl
theorem wi_X6_wordIs : Cond.instanceMethod yX6_wordIs ∈ zG := zgm (zt2 (List.mem_of_getElem? (i := 182) rfl)) rfl
theorem wc_X6_wordIs : Cond.code yX6_wordIs cX6_wordIs 4 (some .boolean) ∈ zG := zgm (zt2 (List.mem_of_getElem? (i := 183) rfl)) rfl
theorem wm_X6_104 : Cond.methodLink RX6 104 yJ0_length_8abf5 ∈ zG := zgm (zt2 (List.mem_of_getElem? (i := 184) rfl)) rfl
theorem wi_J0_length_8abf5 : Cond.instanceMethod yJ0_length_8abf5 ∈ zG := zgm (zt2 (List.mem_of_getElem? (i := 185) rfl)) rfl
theorem wse_J0_J0_length_8abf5 : Cond.selects RJ0 yJ0_length_8abf5 yJ0_length_8abf5 ∈ zG := zgm (zt2 (List.mem_of_getElem? (i := 186) rfl)) rfl
theorem wc_J0_length_8abf5 : Cond.code yJ0_length_8abf5 cJ0_length_8abf5 1 (some .int) ∈ zG := zgm (zt2 (List.mem_of_getElem? (i := 187) rfl)) rfl
theorem wm_J0_335 : Cond.methodLink RJ0 335 yJ0_coder_7d493 ∈ zG := zgm (zt2 (List.mem_of_getElem? (i := 188) rfl)) rfl
theorem wi_J0_coder_7d493 : Cond.instanceMethod yJ0_coder_7d493 ∈ zG := zgm (zt2 (List.mem_of_getElem? (i := 189) rfl)) rfl
theorem wse_J0_J0_coder_7d493 : Cond.selects RJ0 yJ0_coder_7d493 yJ0_coder_7d493 ∈ zG := zgm (zt2 (List.mem_of_getElem? (i := 190) rfl)) rfl
theorem wc_J0_coder_7d493 : Cond.code yJ0_coder_7d493 cJ0_coder_7d493 1 (some .byte) ∈ zG := zgm (zt2 (List.mem_of_getElem? (i := 191) rfl)) rfl
theorem wf_J0_38 : Cond.fieldLink RJ0 38 "java/lang/String" "COMPACT_STRINGS" "Z" ∈ zG := zgm (zt2 (List.mem_of_getElem? (i := 192) rfl)) rfl
theorem wm_X6_109 : Cond.methodLink RX6 109 yJ0_charAt_5068e ∈ zG := zgm (zt2 (List.mem_of_getElem? (i := 194) rfl)) rfl
theorem wi_J0_charAt_5068e : Cond.instanceMethod yJ0_charAt_5068e ∈ zG := zgm (zt2 (List.mem_of_getElem? (i := 195) rfl)) rfl
theorem wse_J0_J0_charAt_5068e : Cond.selects RJ0 yJ0_charAt_5068e yJ0_charAt_5068e ∈ zG := zgm (zt2 (List.mem_of_getElem? (i := 196) rfl)) rfl
theorem wc_J0_charAt_5068e : Cond.code yJ0_charAt_5068e cJ0_charAt_5068e 2 (some .char) ∈ zG := zgm (zt2 (List.mem_of_getElem? (i := 197) rfl)) rfl
theorem wm_J0_492 : Cond.methodLink RJ0 492 yJ0_isLatin1_aae02 ∈ zG := zgm (zt2 (List.mem_of_getElem? (i := 198) rfl)) rfl
theorem wi_J0_isLatin1_aae02 : Cond.instanceMethod yJ0_isLatin1_aae02 ∈ zG := zgm (zt2 (List.mem_of_getElem? (i := 199) rfl)) rfl
theorem wse_J0_J0_isLatin1_aae02 : Cond.selects RJ0 yJ0_isLatin1_aae02 yJ0_isLatin1_aae02 ∈ zG := zgm (zt2 (List.mem_of_getElem? (i := 200) rfl)) rfl
theorem wc_J0_isLatin1_aae02 : Cond.code yJ0_isLatin1_aae02 cJ0_isLatin1_aae02 1 (some .boolean) ∈ zG := zgm (zt2 (List.mem_of_getElem? (i := 201) rfl)) rfl
theorem wm_J0_495 : Cond.methodLink RJ0 495 yJ1_charAt_3b067 ∈ zG := zgm (zt2 (List.mem_of_getElem? (i := 202) rfl)) rfl
theorem ws_J1_charAt_3b067 : Cond.static yJ1_charAt_3b067 ∈ zG := zgm (zt2 (List.mem_of_getElem? (i := 203) rfl)) rfl
theorem wc_J1_charAt_3b067 : Cond.code yJ1_charAt_3b067 cJ1_charAt_3b067 2 (some .char) ∈ zG := zgm (zt2 (List.mem_of_getElem? (i := 204) rfl)) rfl
theorem wm_J1_9 : Cond.methodLink RJ1 9 yJ0_checkIndex_df160 ∈ zG := zgm (zt2 (List.mem_of_getElem? (i := 205) rfl)) rfl
theorem ws_J0_checkIndex_df160 : Cond.static yJ0_checkIndex_df160 ∈ zG := zgm (zt2 (List.mem_of_getElem? (i := 206) rfl)) rfl
theorem wc_J0_checkIndex_df160 : Cond.code yJ0_checkIndex_df160 cJ0_checkIndex_df160 2 none ∈ zG := zgm (zt2 (List.mem_of_getElem? (i := 207) rfl)) rfl
theorem wf_J0_1053 : Cond.fieldLink RJ0 1053 "jdk/internal/util/Preconditions" "SIOOBE_FORMATTER" "Ljava/util/function/BiFunction;" ∈ zG := zgm (zt2 (List.mem_of_getElem? (i := 208) rfl)) rfl
theorem wm_J0_1059 : Cond.methodLink RJ0 1059 yJ3_checkIndex_8e157 ∈ zG := zgm (zt2 (List.mem_of_getElem? (i := 210) rfl)) rfl
theorem ws_J3_checkIndex_8e157 : Cond.static yJ3_checkIndex_8e157 ∈ zG := zgm (zt2 (List.mem_of_getElem? (i := 211) rfl)) rfl
theorem wc_J3_checkIndex_8e157 : Cond.code yJ3_checkIndex_8e157 cJ3_checkIndex_8e157 3 (some .int) ∈ zG := zgm (zt2 (List.mem_of_getElem? (i := 212) rfl)) rfl
theorem wm_J0_498 : Cond.methodLink RJ0 498 yJ2_charAt_3b067 ∈ zG := zgm (zt2 (List.mem_of_getElem? (i := 213) rfl)) rfl
theorem ws_J2_charAt_3b067 : Cond.static yJ2_charAt_3b067 ∈ zG := zgm (zt2 (List.mem_of_getElem? (i := 214) rfl)) rfl
theorem wc_J2_charAt_3b067 : Cond.code yJ2_charAt_3b067 cJ2_charAt_3b067 2 (some .char) ∈ zG := zgm (zt2 (List.mem_of_getElem? (i := 215) rfl)) rfl
theorem wm_J2_67 : Cond.methodLink RJ2 67 yJ2_checkIndex_2214a ∈ zG := zgm (zt2 (List.mem_of_getElem? (i := 216) rfl)) rfl
theorem ws_J2_checkIndex_2214a : Cond.static yJ2_checkIndex_2214a ∈ zG := zgm (zt2 (List.mem_of_getElem? (i := 217) rfl)) rfl
theorem wc_J2_checkIndex_2214a : Cond.code yJ2_checkIndex_2214a cJ2_checkIndex_2214a 2 none ∈ zG := zgm (zt2 (List.mem_of_getElem? (i := 218) rfl)) rfl
theorem wm_J2_48 : Cond.methodLink RJ2 48 yJ2_length_9d52b ∈ zG := zgm (zt2 (List.mem_of_getElem? (i := 219) rfl)) rfl
theorem ws_J2_length_9d52b : Cond.static yJ2_length_9d52b ∈ zG := zgm (zt2 (List.mem_of_getElem? (i := 220) rfl)) rfl
theorem wc_J2_length_9d52b : Cond.code yJ2_length_9d52b cJ2_length_9d52b 1 (some .int) ∈ zG := zgm (zt2 (List.mem_of_getElem? (i := 221) rfl)) rfl
theorem wm_J2_414 : Cond.methodLink RJ2 414 yJ0_checkIndex_df160 ∈ zG := zgm (zt2 (List.mem_of_getElem? (i := 222) rfl)) rfl
theorem wm_J2_71 : Cond.methodLink RJ2 71 yJ2_getChar_3b067 ∈ zG := zgm (zt2 (List.mem_of_getElem? (i := 223) rfl)) rfl
theorem ws_J2_getChar_3b067 : Cond.static yJ2_getChar_3b067 ∈ zG := zgm (zt2 (List.mem_of_getElem? (i := 224) rfl)) rfl
theorem wc_J2_getChar_3b067 : Cond.code yJ2_getChar_3b067 cJ2_getChar_3b067 2 (some .char) ∈ zG := zgm (zt2 (List.mem_of_getElem? (i := 225) rfl)) rfl
theorem wf_J2_44 : Cond.fieldLink RJ2 44 "java/lang/StringUTF16" "$assertionsDisabled" "Z" ∈ zG := zgm (zt2 (List.mem_of_getElem? (i := 226) rfl)) rfl
theorem wf_J2_59 : Cond.fieldLink RJ2 59 "java/lang/StringUTF16" "HI_BYTE_SHIFT" "I" ∈ zG := zgm (zt2 (List.mem_of_getElem? (i := 228) rfl)) rfl
theorem wf_J2_63 : Cond.fieldLink RJ2 63 "java/lang/StringUTF16" "LO_BYTE_SHIFT" "I" ∈ zG := zgm (zt2 (List.mem_of_getElem? (i := 230) rfl)) rfl
theorem wm_X6_46 : Cond.methodLink RX6 46 yX6_number ∈ zG := zgm (zt2 (List.mem_of_getElem? (i := 233) rfl)) rfl
theorem wi_X6_number : Cond.instanceMethod yX6_number ∈ zG := zgm (zt2 (List.mem_of_getElem? (i := 235) rfl)) rfl
theorem wc_X6_number : Cond.code yX6_number cX6_number 4 (some .int) ∈ zG := zgm (zt2 (List.mem_of_getElem? (i := 236) rfl)) rfl
theorem wm_X6_115 : Cond.methodLink RX6 115 yX6_isDigit ∈ zG := zgm (zt2 (List.mem_of_getElem? (i := 237) rfl)) rfl
theorem ws_X6_isDigit : Cond.static yX6_isDigit ∈ zG := zgm (zt2 (List.mem_of_getElem? (i := 238) rfl)) rfl
theorem wc_X6_isDigit : Cond.code yX6_isDigit cX6_isDigit 1 (some .boolean) ∈ zG := zgm (zt2 (List.mem_of_getElem? (i := 239) rfl)) rfl
theorem wm_X6_77 : Cond.methodLink RX6 77 yX6_semicolon ∈ zG := zgm (zt3 (List.mem_of_getElem? (i := 1) rfl)) rfl
theorem wi_X6_semicolon : Cond.instanceMethod yX6_semicolon ∈ zG := zgm (zt3 (List.mem_of_getElem? (i := 3) rfl)) rfl
theorem wc_X6_semicolon : Cond.code yX6_semicolon cX6_semicolon 1 none ∈ zG := zgm (zt3 (List.mem_of_getElem? (i := 4) rfl)) rfl
theorem wm_X6_29 : Cond.methodLink RX6 29 yX6_moreText ∈ zG := zgm (zt3 (List.mem_of_getElem? (i := 5) rfl)) rfl
theorem wi_X6_moreText : Cond.instanceMethod yX6_moreText ∈ zG := zgm (zt3 (List.mem_of_getElem? (i := 7) rfl)) rfl
theorem wc_X6_moreText : Cond.code yX6_moreText cX6_moreText 1 (some .boolean) ∈ zG := zgm (zt3 (List.mem_of_getElem? (i := 8) rfl)) rfl
theorem wm_X6_57 : Cond.methodLink RX6 57 yX6_readTool ∈ zG := zgm (zt3 (List.mem_of_getElem? (i := 11) rfl)) rfl
theorem wi_X6_readTool : Cond.instanceMethod yX6_readTool ∈ zG := zgm (zt3 (List.mem_of_getElem? (i := 13) rfl)) rfl
theorem wc_X6_readTool : Cond.code yX6_readTool cX6_readTool 1 none ∈ zG := zgm (zt3 (List.mem_of_getElem? (i := 14) rfl)) rfl
theorem wm_X6_62 : Cond.methodLink RX6 62 yX6_readAllow ∈ zG := zgm (zt3 (List.mem_of_getElem? (i := 16) rfl)) rfl
theorem wi_X6_readAllow : Cond.instanceMethod yX6_readAllow ∈ zG := zgm (zt3 (List.mem_of_getElem? (i := 18) rfl)) rfl
theorem wc_X6_readAllow : Cond.code yX6_readAllow cX6_readAllow 3 none ∈ zG := zgm (zt3 (List.mem_of_getElem? (i := 19) rfl)) rfl
theorem wm_X6_67 : Cond.methodLink RX6 67 yX6_readFlange ∈ zG := zgm (zt3 (List.mem_of_getElem? (i := 21) rfl)) rfl
theorem wi_X6_readFlange : Cond.instanceMethod yX6_readFlange ∈ zG := zgm (zt3 (List.mem_of_getElem? (i := 23) rfl)) rfl
theorem wc_X6_readFlange : Cond.code yX6_readFlange cX6_readFlange 2 none ∈ zG := zgm (zt3 (List.mem_of_getElem? (i := 24) rfl)) rfl
theorem wm_X6_155 : Cond.methodLink RX6 155 yX6_newName ∈ zG := zgm (zt3 (List.mem_of_getElem? (i := 25) rfl)) rfl
theorem wi_X6_newName : Cond.instanceMethod yX6_newName ∈ zG := zgm (zt3 (List.mem_of_getElem? (i := 27) rfl)) rfl
theorem wc_X6_newName : Cond.code yX6_newName cX6_newName 2 (some .int) ∈ zG := zgm (zt3 (List.mem_of_getElem? (i := 28) rfl)) rfl
theorem wm_X6_201 : Cond.methodLink RX6 201 yX6_name ∈ zG := zgm (zt3 (List.mem_of_getElem? (i := 29) rfl)) rfl
theorem wi_X6_name : Cond.instanceMethod yX6_name ∈ zG := zgm (zt3 (List.mem_of_getElem? (i := 31) rfl)) rfl
theorem wc_X6_name : Cond.code yX6_name cX6_name 4 (some .int) ∈ zG := zgm (zt3 (List.mem_of_getElem? (i := 32) rfl)) rfl
theorem wm_X6_198 : Cond.methodLink RX6 198 yX6_isOwnWord ∈ zG := zgm (zt3 (List.mem_of_getElem? (i := 33) rfl)) rfl
theorem wi_X6_isOwnWord : Cond.instanceMethod yX6_isOwnWord ∈ zG := zgm (zt3 (List.mem_of_getElem? (i := 35) rfl)) rfl
theorem wc_X6_isOwnWord : Cond.code yX6_isOwnWord cX6_isOwnWord 4 (some .boolean) ∈ zG := zgm (zt3 (List.mem_of_getElem? (i := 36) rfl)) rfl
theorem wm_X6_203 : Cond.methodLink RX6 203 yX6_find ∈ zG := zgm (zt3 (List.mem_of_getElem? (i := 38) rfl)) rfl
theorem wi_X6_find : Cond.instanceMethod yX6_find ∈ zG := zgm (zt3 (List.mem_of_getElem? (i := 40) rfl)) rfl
theorem wc_X6_find : Cond.code yX6_find cX6_find 3 (some .int) ∈ zG := zgm (zt3 (List.mem_of_getElem? (i := 41) rfl)) rfl
theorem wm_X6_163 : Cond.methodLink RX6 163 yX6_where ∈ zG := zgm (zt3 (List.mem_of_getElem? (i := 43) rfl)) rfl
theorem wi_X6_where : Cond.instanceMethod yX6_where ∈ zG := zgm (zt3 (List.mem_of_getElem? (i := 45) rfl)) rfl
theorem wc_X6_where : Cond.code yX6_where cX6_where 2 (some .int) ∈ zG := zgm (zt3 (List.mem_of_getElem? (i := 46) rfl)) rfl
theorem wm_X6_169 : Cond.methodLink RX6 169 yX6_sideOf ∈ zG := zgm (zt3 (List.mem_of_getElem? (i := 47) rfl)) rfl
theorem wi_X6_sideOf : Cond.instanceMethod yX6_sideOf ∈ zG := zgm (zt3 (List.mem_of_getElem? (i := 49) rfl)) rfl
theorem wc_X6_sideOf : Cond.code yX6_sideOf cX6_sideOf 3 (some .int) ∈ zG := zgm (zt3 (List.mem_of_getElem? (i := 50) rfl)) rfl
theorem wmn_X6_214 : Cond.methodLinkNest RX6 214 yX4_hangsBy "SheetFolds" ∈ lw_tbl := (zt3 (List.mem_of_getElem? (i := 55) rfl))
theorem wi_X4_hangsBy : Cond.instanceMethod yX4_hangsBy ∈ zG := zgm (zt3 (List.mem_of_getElem? (i := 57) rfl)) rfl
theorem wc_X4_hangsBy : Cond.code yX4_hangsBy cX4_hangsBy 3 (some .boolean) ∈ zG := zgm (zt3 (List.mem_of_getElem? (i := 58) rfl)) rfl
theorem wm_X6_178 : Cond.methodLink RX6 178 yX6_checkWidth ∈ zG := zgm (zt3 (List.mem_of_getElem? (i := 61) rfl)) rfl
theorem wi_X6_checkWidth : Cond.instanceMethod yX6_checkWidth ∈ zG := zgm (zt3 (List.mem_of_getElem? (i := 63) rfl)) rfl
theorem wc_X6_checkWidth : Cond.code yX6_checkWidth cX6_checkWidth 4 none ∈ zG := zgm (zt3 (List.mem_of_getElem? (i := 64) rfl)) rfl
theorem wmn_X6_218 : Cond.methodLinkNest RX6 218 yX4_sideLength "SheetFolds" ∈ lw_tbl := (zt3 (List.mem_of_getElem? (i := 65) rfl))
theorem wi_X4_sideLength : Cond.instanceMethod yX4_sideLength ∈ zG := zgm (zt3 (List.mem_of_getElem? (i := 67) rfl)) rfl
theorem wc_X4_sideLength : Cond.code yX4_sideLength cX4_sideLength 3 (some .int) ∈ zG := zgm (zt3 (List.mem_of_getElem? (i := 68) rfl)) rfl
theorem wm_X4_86 : Cond.methodLink RX4 86 yX4_runsAlongX ∈ zG := zgm (zt3 (List.mem_of_getElem? (i := 69) rfl)) rfl
theorem ws_X4_runsAlongX : Cond.static yX4_runsAlongX ∈ zG := zgm (zt3 (List.mem_of_getElem? (i := 70) rfl)) rfl
theorem wc_X4_runsAlongX : Cond.code yX4_runsAlongX cX4_runsAlongX 1 (some .boolean) ∈ zG := zgm (zt3 (List.mem_of_getElem? (i := 71) rfl)) rfl
theorem wm_X4_89 : Cond.methodLink RX4 89 yX4_sizeX ∈ zG := zgm (zt3 (List.mem_of_getElem? (i := 72) rfl)) rfl
theorem wi_X4_sizeX : Cond.instanceMethod yX4_sizeX ∈ zG := zgm (zt3 (List.mem_of_getElem? (i := 74) rfl)) rfl
theorem wc_X4_sizeX : Cond.code yX4_sizeX cX4_sizeX 2 (some .int) ∈ zG := zgm (zt3 (List.mem_of_getElem? (i := 75) rfl)) rfl
theorem wm_X4_92 : Cond.methodLink RX4 92 yX4_sizeY ∈ zG := zgm (zt3 (List.mem_of_getElem? (i := 76) rfl)) rfl
theorem wi_X4_sizeY : Cond.instanceMethod yX4_sizeY ∈ zG := zgm (zt3 (List.mem_of_getElem? (i := 78) rfl)) rfl
theorem wc_X4_sizeY : Cond.code yX4_sizeY cX4_sizeY 2 (some .int) ∈ zG := zgm (zt3 (List.mem_of_getElem? (i := 79) rfl)) rfl
theorem wmn_X6_221 : Cond.methodLinkNest RX6 221 yX4_sharesSide "SheetFolds" ∈ lw_tbl := (zt3 (List.mem_of_getElem? (i := 80) rfl))
theorem wi_X4_sharesSide : Cond.instanceMethod yX4_sharesSide ∈ zG := zgm (zt3 (List.mem_of_getElem? (i := 82) rfl)) rfl
theorem wc_X4_sharesSide : Cond.code yX4_sharesSide cX4_sharesSide 3 (some .boolean) ∈ zG := zgm (zt3 (List.mem_of_getElem? (i := 83) rfl)) rfl
theorem wm_X6_184 : Cond.methodLink RX6 184 yX6_isUp ∈ zG := zgm (zt3 (List.mem_of_getElem? (i := 85) rfl)) rfl
theorem wi_X6_isUp : Cond.instanceMethod yX6_isUp ∈ zG := zgm (zt3 (List.mem_of_getElem? (i := 87) rfl)) rfl
theorem wc_X6_isUp : Cond.code yX6_isUp cX6_isUp 2 (some .boolean) ∈ zG := zgm (zt3 (List.mem_of_getElem? (i := 88) rfl)) rfl
theorem wmn_X6_190 : Cond.methodLinkNest RX6 190 yX8_bit "SheetFolds" ∈ lw_tbl := (zt3 (List.mem_of_getElem? (i := 91) rfl))
theorem ws_X8_bit : Cond.static yX8_bit ∈ zG := zgm (zt3 (List.mem_of_getElem? (i := 92) rfl)) rfl
theorem wc_X8_bit : Cond.code yX8_bit cX8_bit 1 (some .int) ∈ zG := zgm (zt3 (List.mem_of_getElem? (i := 93) rfl)) rfl
theorem wmn_X8_104 : Cond.methodLinkNest RX8 104 yX4_chooseTools "SheetFolds" ∈ lw_tbl := (zt3 (List.mem_of_getElem? (i := 95) rfl))
theorem wi_X4_chooseTools : Cond.instanceMethod yX4_chooseTools ∈ zG := zgm (zt3 (List.mem_of_getElem? (i := 97) rfl)) rfl
theorem wc_X4_chooseTools : Cond.code yX4_chooseTools cX4_chooseTools 3 none ∈ zG := zgm (zt3 (List.mem_of_getElem? (i := 98) rfl)) rfl
theorem wm_X4_102 : Cond.methodLink RX4 102 yX4_widthOfTools ∈ zG := zgm (zt3 (List.mem_of_getElem? (i := 99) rfl)) rfl
theorem wi_X4_widthOfTools : Cond.instanceMethod yX4_widthOfTools ∈ zG := zgm (zt3 (List.mem_of_getElem? (i := 101) rfl)) rfl
theorem wc_X4_widthOfTools : Cond.code yX4_widthOfTools cX4_widthOfTools 4 (some .int) ∈ zG := zgm (zt3 (List.mem_of_getElem? (i := 102) rfl)) rfl
theorem wm_X4_105 : Cond.methodLink RX4 105 yX4_offerTools ∈ zG := zgm (zt3 (List.mem_of_getElem? (i := 103) rfl)) rfl
theorem wi_X4_offerTools : Cond.instanceMethod yX4_offerTools ∈ zG := zgm (zt3 (List.mem_of_getElem? (i := 105) rfl)) rfl
theorem wc_X4_offerTools : Cond.code yX4_offerTools cX4_offerTools 5 none ∈ zG := zgm (zt3 (List.mem_of_getElem? (i := 106) rfl)) rfl
theorem wm_X4_109 : Cond.methodLink RX4 109 yJ6_bitCount_0f7a4 ∈ zG := zgm (zt3 (List.mem_of_getElem? (i := 107) rfl)) rfl
theorem ws_J6_bitCount_0f7a4 : Cond.static yJ6_bitCount_0f7a4 ∈ zG := zgm (zt3 (List.mem_of_getElem? (i := 108) rfl)) rfl
theorem wc_J6_bitCount_0f7a4 : Cond.code yJ6_bitCount_0f7a4 cJ6_bitCount_0f7a4 1 (some .int) ∈ zG := zgm (zt3 (List.mem_of_getElem? (i := 109) rfl)) rfl
theorem wk_J6_265 : Cond.constant RJ6 265 (1431655765) ∈ zG := zgm (zt3 (List.mem_of_getElem? (i := 110) rfl)) rfl
theorem wk_J6_266 : Cond.constant RJ6 266 (858993459) ∈ zG := zgm (zt3 (List.mem_of_getElem? (i := 111) rfl)) rfl
theorem wk_J6_267 : Cond.constant RJ6 267 (252645135) ∈ zG := zgm (zt3 (List.mem_of_getElem? (i := 112) rfl)) rfl
theorem wm_X8_116 : Cond.methodLink RX8 116 yX8_partChanged ∈ zG := zgm (zt3 (List.mem_of_getElem? (i := 113) rfl)) rfl
theorem wi_X8_partChanged : Cond.instanceMethod yX8_partChanged ∈ zG := zgm (zt3 (List.mem_of_getElem? (i := 115) rfl)) rfl
theorem wc_X8_partChanged : Cond.code yX8_partChanged cX8_partChanged 1 none ∈ zG := zgm (zt3 (List.mem_of_getElem? (i := 116) rfl)) rfl
theorem wm_L_28 : Cond.methodLink RL 28 yX8_fault ∈ zG := zgm (zt3 (List.mem_of_getElem? (i := 117) rfl)) rfl
theorem wi_X8_fault : Cond.instanceMethod yX8_fault ∈ zG := zgm (zt3 (List.mem_of_getElem? (i := 118) rfl)) rfl
theorem wse_X8_X8_fault : Cond.selects RX8 yX8_fault yX8_fault ∈ zG := zgm (zt3 (List.mem_of_getElem? (i := 119) rfl)) rfl
theorem wc_X8_fault : Cond.code yX8_fault cX8_fault 2 (some .int) ∈ zG := zgm (zt3 (List.mem_of_getElem? (i := 120) rfl)) rfl
theorem wm_L_33 : Cond.methodLink RL 33 yX8_has ∈ zG := zgm (zt3 (List.mem_of_getElem? (i := 121) rfl)) rfl
theorem wi_X8_has : Cond.instanceMethod yX8_has ∈ zG := zgm (zt3 (List.mem_of_getElem? (i := 122) rfl)) rfl
theorem wse_X8_X8_has : Cond.selects RX8 yX8_has yX8_has ∈ zG := zgm (zt3 (List.mem_of_getElem? (i := 123) rfl)) rfl
theorem wc_X8_has : Cond.code yX8_has cX8_has 2 (some .int) ∈ zG := zgm (zt3 (List.mem_of_getElem? (i := 124) rfl)) rfl
theorem wm_L_37 : Cond.methodLink RL 37 yX8_letter ∈ zG := zgm (zt3 (List.mem_of_getElem? (i := 125) rfl)) rfl
theorem wi_X8_letter : Cond.instanceMethod yX8_letter ∈ zG := zgm (zt3 (List.mem_of_getElem? (i := 126) rfl)) rfl
theorem wse_X8_X8_letter : Cond.selects RX8 yX8_letter yX8_letter ∈ zG := zgm (zt3 (List.mem_of_getElem? (i := 127) rfl)) rfl
theorem wc_X8_letter : Cond.code yX8_letter cX8_letter 3 (some .int) ∈ zG := zgm (zt3 (List.mem_of_getElem? (i := 128) rfl)) rfl
theorem wmn_X8_137 : Cond.methodLinkNest RX8 137 yX4_isFlange "SheetFolds" ∈ lw_tbl := (zt3 (List.mem_of_getElem? (i := 129) rfl))
theorem wi_X4_isFlange : Cond.instanceMethod yX4_isFlange ∈ zG := zgm (zt3 (List.mem_of_getElem? (i := 131) rfl)) rfl
theorem wc_X4_isFlange : Cond.code yX4_isFlange cX4_isFlange 2 (some .boolean) ∈ zG := zgm (zt3 (List.mem_of_getElem? (i := 132) rfl)) rfl
theorem wm_L_42 : Cond.methodLink RL 42 yX8_flange ∈ zG := zgm (zt3 (List.mem_of_getElem? (i := 133) rfl)) rfl
theorem wi_X8_flange : Cond.instanceMethod yX8_flange ∈ zG := zgm (zt3 (List.mem_of_getElem? (i := 134) rfl)) rfl
theorem wse_X8_X8_flange : Cond.selects RX8 yX8_flange yX8_flange ∈ zG := zgm (zt3 (List.mem_of_getElem? (i := 135) rfl)) rfl
theorem wc_X8_flange : Cond.code yX8_flange cX8_flange 3 (some .int) ∈ zG := zgm (zt3 (List.mem_of_getElem? (i := 136) rfl)) rfl
theorem wmn_X8_143 : Cond.methodLinkNest RX8 143 yX4_isBend "SheetFolds" ∈ lw_tbl := (zt3 (List.mem_of_getElem? (i := 137) rfl))
theorem wi_X4_isBend : Cond.instanceMethod yX4_isBend ∈ zG := zgm (zt3 (List.mem_of_getElem? (i := 139) rfl)) rfl
theorem wc_X4_isBend : Cond.code yX4_isBend cX4_isBend 2 (some .boolean) ∈ zG := zgm (zt3 (List.mem_of_getElem? (i := 140) rfl)) rfl
theorem wm_X8_164 : Cond.methodLink RX8 164 yX8_isIn ∈ zG := zgm (zt3 (List.mem_of_getElem? (i := 141) rfl)) rfl
theorem ws_X8_isIn : Cond.static yX8_isIn ∈ zG := zgm (zt3 (List.mem_of_getElem? (i := 142) rfl)) rfl
theorem wc_X8_isIn : Cond.code yX8_isIn cX8_isIn 2 (some .boolean) ∈ zG := zgm (zt3 (List.mem_of_getElem? (i := 143) rfl)) rfl
theorem wm_X8_302 : Cond.methodLink RX8 302 yX8_bit ∈ zG := zgm (zt3 (List.mem_of_getElem? (i := 144) rfl)) rfl
theorem wmn_X8_171 : Cond.methodLinkNest RX8 171 yX4_countHangers "SheetFolds" ∈ lw_tbl := (zt3 (List.mem_of_getElem? (i := 145) rfl))
theorem wi_X4_countHangers : Cond.instanceMethod yX4_countHangers ∈ zG := zgm (zt3 (List.mem_of_getElem? (i := 147) rfl)) rfl
theorem wc_X4_countHangers : Cond.code yX4_countHangers cX4_countHangers 4 (some .int) ∈ zG := zgm (zt3 (List.mem_of_getElem? (i := 148) rfl)) rfl
theorem wm_X4_95 : Cond.methodLink RX4 95 yX4_hangsOn ∈ zG := zgm (zt3 (List.mem_of_getElem? (i := 149) rfl)) rfl
theorem wi_X4_hangsOn : Cond.instanceMethod yX4_hangsOn ∈ zG := zgm (zt3 (List.mem_of_getElem? (i := 151) rfl)) rfl
theorem wc_X4_hangsOn : Cond.code yX4_hangsOn cX4_hangsOn 5 (some .boolean) ∈ zG := zgm (zt3 (List.mem_of_getElem? (i := 152) rfl)) rfl
theorem wmn_X8_174 : Cond.methodLinkNest RX8 174 yX4_depth "SheetFolds" ∈ lw_tbl := (zt3 (List.mem_of_getElem? (i := 153) rfl))
theorem wi_X4_depth : Cond.instanceMethod yX4_depth ∈ zG := zgm (zt3 (List.mem_of_getElem? (i := 155) rfl)) rfl
theorem wc_X4_depth : Cond.code yX4_depth cX4_depth 4 (some .int) ∈ zG := zgm (zt3 (List.mem_of_getElem? (i := 156) rfl)) rfl
theorem wmn_X8_177 : Cond.methodLinkNest RX8 177 yX4_lengthOf "SheetFolds" ∈ lw_tbl := (zt3 (List.mem_of_getElem? (i := 157) rfl))
theorem wi_X4_lengthOf : Cond.instanceMethod yX4_lengthOf ∈ zG := zgm (zt3 (List.mem_of_getElem? (i := 159) rfl)) rfl
theorem wc_X4_lengthOf : Cond.code yX4_lengthOf cX4_lengthOf 5 (some .int) ∈ zG := zgm (zt3 (List.mem_of_getElem? (i := 160) rfl)) rfl
theorem wm_X4_99 : Cond.methodLink RX4 99 yX4_zoneOf ∈ zG := zgm (zt3 (List.mem_of_getElem? (i := 161) rfl)) rfl
theorem wi_X4_zoneOf : Cond.instanceMethod yX4_zoneOf ∈ zG := zgm (zt3 (List.mem_of_getElem? (i := 163) rfl)) rfl
theorem wc_X4_zoneOf : Cond.code yX4_zoneOf cX4_zoneOf 2 (some .int) ∈ zG := zgm (zt3 (List.mem_of_getElem? (i := 164) rfl)) rfl
theorem wm_X4_82 : Cond.methodLink RX4 82 yX4_allowanceOf ∈ zG := zgm (zt3 (List.mem_of_getElem? (i := 165) rfl)) rfl
theorem wi_X4_allowanceOf : Cond.instanceMethod yX4_allowanceOf ∈ zG := zgm (zt3 (List.mem_of_getElem? (i := 167) rfl)) rfl
theorem wc_X4_allowanceOf : Cond.code yX4_allowanceOf cX4_allowanceOf 2 (some .int) ∈ zG := zgm (zt3 (List.mem_of_getElem? (i := 168) rfl)) rfl
theorem wm_L_46 : Cond.methodLink RL 46 yX8_tool ∈ zG := zgm (zt3 (List.mem_of_getElem? (i := 169) rfl)) rfl
theorem wi_X8_tool : Cond.instanceMethod yX8_tool ∈ zG := zgm (zt3 (List.mem_of_getElem? (i := 170) rfl)) rfl
theorem wse_X8_X8_tool : Cond.selects RX8 yX8_tool yX8_tool ∈ zG := zgm (zt3 (List.mem_of_getElem? (i := 171) rfl)) rfl
theorem wc_X8_tool : Cond.code yX8_tool cX8_tool 2 (some .int) ∈ zG := zgm (zt3 (List.mem_of_getElem? (i := 172) rfl)) rfl
theorem wm_L_50 : Cond.methodLink RL 50 yX8_allowance ∈ zG := zgm (zt3 (List.mem_of_getElem? (i := 173) rfl)) rfl
theorem wi_X8_allowance : Cond.instanceMethod yX8_allowance ∈ zG := zgm (zt3 (List.mem_of_getElem? (i := 174) rfl)) rfl
theorem wse_X8_X8_allowance : Cond.selects RX8 yX8_allowance yX8_allowance ∈ zG := zgm (zt3 (List.mem_of_getElem? (i := 175) rfl)) rfl
theorem wc_X8_allowance : Cond.code yX8_allowance cX8_allowance 2 (some .int) ∈ zG := zgm (zt3 (List.mem_of_getElem? (i := 176) rfl)) rfl
theorem wmn_X8_183 : Cond.methodLinkNest RX8 183 yX4_isThere "SheetFolds" ∈ lw_tbl := (zt3 (List.mem_of_getElem? (i := 177) rfl))
theorem wi_X4_isThere : Cond.instanceMethod yX4_isThere ∈ zG := zgm (zt3 (List.mem_of_getElem? (i := 179) rfl)) rfl
theorem wc_X4_isThere : Cond.code yX4_isThere cX4_isThere 1 (some .boolean) ∈ zG := zgm (zt3 (List.mem_of_getElem? (i := 180) rfl)) rfl
theorem wm_X8_186 : Cond.methodLink RX8 186 yX8_isRadius ∈ zG := zgm (zt3 (List.mem_of_getElem? (i := 181) rfl)) rfl
theorem ws_X8_isRadius : Cond.static yX8_isRadius ∈ zG := zgm (zt3 (List.mem_of_getElem? (i := 182) rfl)) rfl
theorem wc_X8_isRadius : Cond.code yX8_isRadius cX8_isRadius 1 (some .boolean) ∈ zG := zgm (zt3 (List.mem_of_getElem? (i := 183) rfl)) rfl
theorem wmn_X8_189 : Cond.methodLinkNest RX8 189 yX4_allowanceOf "SheetFolds" ∈ lw_tbl := (zt3 (List.mem_of_getElem? (i := 184) rfl))
theorem wm_L_54 : Cond.methodLink RL 54 yX8_flat ∈ zG := zgm (zt3 (List.mem_of_getElem? (i := 185) rfl)) rfl
theorem wi_X8_flat : Cond.instanceMethod yX8_flat ∈ zG := zgm (zt3 (List.mem_of_getElem? (i := 186) rfl)) rfl
theorem wse_X8_X8_flat : Cond.selects RX8 yX8_flat yX8_flat ∈ zG := zgm (zt3 (List.mem_of_getElem? (i := 187) rfl)) rfl
theorem wc_X8_flat : Cond.code yX8_flat cX8_flat 3 (some .int) ∈ zG := zgm (zt3 (List.mem_of_getElem? (i := 188) rfl)) rfl
theorem wmn_X8_192 : Cond.methodLinkNest RX8 192 yX4_isPiece "SheetFolds" ∈ lw_tbl := (zt3 (List.mem_of_getElem? (i := 189) rfl))
theorem wi_X4_isPiece : Cond.instanceMethod yX4_isPiece ∈ zG := zgm (zt3 (List.mem_of_getElem? (i := 191) rfl)) rfl
theorem wc_X4_isPiece : Cond.code yX4_isPiece cX4_isPiece 2 (some .boolean) ∈ zG := zgm (zt3 (List.mem_of_getElem? (i := 192) rfl)) rfl
theorem wm_X4_64 : Cond.methodLink RX4 64 yX4_isFlange ∈ zG := zgm (zt3 (List.mem_of_getElem? (i := 193) rfl)) rfl
theorem wm_X4_68 : Cond.methodLink RX4 68 yX4_isBend ∈ zG := zgm (zt3 (List.mem_of_getElem? (i := 194) rfl)) rfl
theorem wk_X8_195 : Cond.constant RX8 195 (-1000000) ∈ zG := zgm (zt3 (List.mem_of_getElem? (i := 195) rfl)) rfl
theorem wmn_X8_196 : Cond.methodLinkNest RX8 196 yX5_placeFlat "SheetFolds" ∈ lw_tbl := (zt3 (List.mem_of_getElem? (i := 196) rfl))
theorem wi_X5_placeFlat : Cond.instanceMethod yX5_placeFlat ∈ zG := zgm (zt3 (List.mem_of_getElem? (i := 198) rfl)) rfl
theorem wc_X5_placeFlat : Cond.code yX5_placeFlat cX5_placeFlat 5 none ∈ zG := zgm (zt3 (List.mem_of_getElem? (i := 199) rfl)) rfl
theorem wm_X5_58 : Cond.methodLink RX5 58 yX5_place ∈ zG := zgm (zt3 (List.mem_of_getElem? (i := 200) rfl)) rfl
theorem wi_X5_place : Cond.instanceMethod yX5_place ∈ zG := zgm (zt3 (List.mem_of_getElem? (i := 202) rfl)) rfl
theorem wc_X5_place : Cond.code yX5_place cX5_place 5 none ∈ zG := zgm (zt3 (List.mem_of_getElem? (i := 203) rfl)) rfl
theorem wm_X5_36 : Cond.methodLink RX5 36 yX5_placeBase ∈ zG := zgm (zt3 (List.mem_of_getElem? (i := 204) rfl)) rfl
theorem wi_X5_placeBase : Cond.instanceMethod yX5_placeBase ∈ zG := zgm (zt3 (List.mem_of_getElem? (i := 206) rfl)) rfl
theorem wc_X5_placeBase : Cond.code yX5_placeBase cX5_placeBase 2 none ∈ zG := zgm (zt3 (List.mem_of_getElem? (i := 207) rfl)) rfl
theorem wm_X5_86 : Cond.methodLink RX5 86 yJ7_fill_53178 ∈ zG := zgm (zt3 (List.mem_of_getElem? (i := 208) rfl)) rfl
theorem wm_X5_82 : Cond.methodLink RX5 82 yX5_setBox ∈ zG := zgm (zt3 (List.mem_of_getElem? (i := 209) rfl)) rfl
theorem wi_X5_setBox : Cond.instanceMethod yX5_setBox ∈ zG := zgm (zt3 (List.mem_of_getElem? (i := 211) rfl)) rfl
theorem wc_X5_setBox : Cond.code yX5_setBox cX5_setBox 7 none ∈ zG := zgm (zt3 (List.mem_of_getElem? (i := 212) rfl)) rfl
theorem wm_X5_106 : Cond.methodLink RX5 106 (⟨"java/lang/System", "arraycopy", "(Ljava/lang/Object;ILjava/lang/Object;II)V"⟩ : MethodName) ∈ zG := zgm (zt3 (List.mem_of_getElem? (i := 213) rfl)) rfl
theorem ws_java_lang_System_arraycopy__Ljava_lang_Object_ILjava_lang_Object_II_V : Cond.static (⟨"java/lang/System", "arraycopy", "(Ljava/lang/Object;ILjava/lang/Object;II)V"⟩ : MethodName) ∈ zG := zgm (zt3 (List.mem_of_getElem? (i := 214) rfl)) rfl
theorem wn_java_lang_System_arraycopy__Ljava_lang_Object_ILjava_lang_Object_II_V : Cond.native (⟨"java/lang/System", "arraycopy", "(Ljava/lang/Object;ILjava/lang/Object;II)V"⟩ : MethodName) ∈ zG := zgm (zt3 (List.mem_of_getElem? (i := 215) rfl)) rfl
theorem wm_X5_98 : Cond.methodLink RX5 98 yX5_move ∈ zG := zgm (zt3 (List.mem_of_getElem? (i := 216) rfl)) rfl
theorem ws_X5_move : Cond.static yX5_move ∈ zG := zgm (zt3 (List.mem_of_getElem? (i := 217) rfl)) rfl
theorem wc_X5_move : Cond.code yX5_move cX5_move 3 none ∈ zG := zgm (zt3 (List.mem_of_getElem? (i := 218) rfl)) rfl
theorem wm_X5_121 : Cond.methodLink RX5 121 yJ9_min_7cf53 ∈ zG := zgm (zt3 (List.mem_of_getElem? (i := 219) rfl)) rfl
theorem ws_J9_min_7cf53 : Cond.static yJ9_min_7cf53 ∈ zG := zgm (zt3 (List.mem_of_getElem? (i := 220) rfl)) rfl
theorem wc_J9_min_7cf53 : Cond.code yJ9_min_7cf53 cJ9_min_7cf53 2 (some .int) ∈ zG := zgm (zt3 (List.mem_of_getElem? (i := 221) rfl)) rfl
theorem wm_X5_126 : Cond.methodLink RX5 126 yJ9_max_7cf53 ∈ zG := zgm (zt3 (List.mem_of_getElem? (i := 222) rfl)) rfl
theorem ws_J9_max_7cf53 : Cond.static yJ9_max_7cf53 ∈ zG := zgm (zt3 (List.mem_of_getElem? (i := 223) rfl)) rfl
theorem wc_J9_max_7cf53 : Cond.code yJ9_max_7cf53 cJ9_max_7cf53 2 (some .int) ∈ zG := zgm (zt3 (List.mem_of_getElem? (i := 224) rfl)) rfl
theorem wm_X5_46 : Cond.methodLink RX5 46 yX5_goToSide ∈ zG := zgm (zt3 (List.mem_of_getElem? (i := 225) rfl)) rfl
theorem wi_X5_goToSide : Cond.instanceMethod yX5_goToSide ∈ zG := zgm (zt3 (List.mem_of_getElem? (i := 227) rfl)) rfl
theorem wc_X5_goToSide : Cond.code yX5_goToSide cX5_goToSide 5 none ∈ zG := zgm (zt3 (List.mem_of_getElem? (i := 228) rfl)) rfl
theorem wm_X5_68 : Cond.methodLink RX5 68 yX5_alongSide ∈ zG := zgm (zt3 (List.mem_of_getElem? (i := 229) rfl)) rfl
theorem wi_X5_alongSide : Cond.instanceMethod yX5_alongSide ∈ zG := zgm (zt3 (List.mem_of_getElem? (i := 231) rfl)) rfl
theorem wc_X5_alongSide : Cond.code yX5_alongSide cX5_alongSide 3 (some .int) ∈ zG := zgm (zt3 (List.mem_of_getElem? (i := 232) rfl)) rfl
theorem wmn_X5_102 : Cond.methodLinkNest RX5 102 yX4_runsAlongX "SheetFolds" ∈ lw_tbl := (zt3 (List.mem_of_getElem? (i := 233) rfl))
theorem wmn_X5_115 : Cond.methodLinkNest RX5 115 yX4_sizeY "SheetFolds" ∈ lw_tbl := (zt3 (List.mem_of_getElem? (i := 234) rfl))
theorem wmn_X5_118 : Cond.methodLinkNest RX5 118 yX4_sizeX "SheetFolds" ∈ lw_tbl := (zt3 (List.mem_of_getElem? (i := 235) rfl))
theorem wmn_X5_50 : Cond.methodLinkNest RX5 50 yX8_isIn "SheetFolds" ∈ lw_tbl := (zt3 (List.mem_of_getElem? (i := 236) rfl))
theorem wm_X5_54 : Cond.methodLink RX5 54 yX5_placeFlange ∈ zG := zgm (zt3 (List.mem_of_getElem? (i := 237) rfl)) rfl
theorem wi_X5_placeFlange : Cond.instanceMethod yX5_placeFlange ∈ zG := zgm (zt3 (List.mem_of_getElem? (i := 239) rfl)) rfl
theorem wc_X5_placeFlange : Cond.code yX5_placeFlange cX5_placeFlange 11 none ∈ zG := zgm (zt4 (List.mem_of_getElem? (i := 0) rfl)) rfl
theorem wm_X5_75 : Cond.methodLink RX5 75 yX5_outward ∈ zG := zgm (zt4 (List.mem_of_getElem? (i := 1) rfl)) rfl
theorem wi_X5_outward : Cond.instanceMethod yX5_outward ∈ zG := zgm (zt4 (List.mem_of_getElem? (i := 3) rfl)) rfl
theorem wc_X5_outward : Cond.code yX5_outward cX5_outward 4 (some .int) ∈ zG := zgm (zt4 (List.mem_of_getElem? (i := 4) rfl)) rfl
theorem wm_X5_95 : Cond.methodLink RX5 95 yX5_against ∈ zG := zgm (zt4 (List.mem_of_getElem? (i := 5) rfl)) rfl
theorem ws_X5_against : Cond.static yX5_against ∈ zG := zgm (zt4 (List.mem_of_getElem? (i := 6) rfl)) rfl
theorem wc_X5_against : Cond.code yX5_against cX5_against 1 (some .int) ∈ zG := zgm (zt4 (List.mem_of_getElem? (i := 7) rfl)) rfl
theorem wmn_X5_78 : Cond.methodLinkNest RX5 78 yX4_zoneOf "SheetFolds" ∈ lw_tbl := (zt4 (List.mem_of_getElem? (i := 8) rfl))
theorem wmn_X8_199 : Cond.methodLinkNest RX8 199 yX5_lowOf "SheetFolds" ∈ lw_tbl := (zt4 (List.mem_of_getElem? (i := 9) rfl))
theorem wi_X5_lowOf : Cond.instanceMethod yX5_lowOf ∈ zG := zgm (zt4 (List.mem_of_getElem? (i := 11) rfl)) rfl
theorem wc_X5_lowOf : Cond.code yX5_lowOf cX5_lowOf 3 (some .int) ∈ zG := zgm (zt4 (List.mem_of_getElem? (i := 12) rfl)) rfl
theorem wmn_X8_203 : Cond.methodLinkNest RX8 203 yX5_highOf "SheetFolds" ∈ lw_tbl := (zt4 (List.mem_of_getElem? (i := 13) rfl))
theorem wi_X5_highOf : Cond.instanceMethod yX5_highOf ∈ zG := zgm (zt4 (List.mem_of_getElem? (i := 15) rfl)) rfl
theorem wc_X5_highOf : Cond.code yX5_highOf cX5_highOf 3 (some .int) ∈ zG := zgm (zt4 (List.mem_of_getElem? (i := 16) rfl)) rfl
theorem wm_L_58 : Cond.methodLink RL 58 yX8_flatBox ∈ zG := zgm (zt4 (List.mem_of_getElem? (i := 17) rfl)) rfl
theorem wi_X8_flatBox : Cond.instanceMethod yX8_flatBox ∈ zG := zgm (zt4 (List.mem_of_getElem? (i := 18) rfl)) rfl
theorem wse_X8_X8_flatBox : Cond.selects RX8 yX8_flatBox yX8_flatBox ∈ zG := zgm (zt4 (List.mem_of_getElem? (i := 19) rfl)) rfl
theorem wc_X8_flatBox : Cond.code yX8_flatBox cX8_flatBox 2 (some .int) ∈ zG := zgm (zt4 (List.mem_of_getElem? (i := 20) rfl)) rfl
theorem wmn_X8_206 : Cond.methodLinkNest RX8 206 yX5_area "SheetFolds" ∈ lw_tbl := (zt4 (List.mem_of_getElem? (i := 21) rfl))
theorem wi_X5_area : Cond.instanceMethod yX5_area ∈ zG := zgm (zt4 (List.mem_of_getElem? (i := 23) rfl)) rfl
theorem wc_X5_area : Cond.code yX5_area cX5_area 4 (some .int) ∈ zG := zgm (zt4 (List.mem_of_getElem? (i := 24) rfl)) rfl
theorem wmn_X5_144 : Cond.methodLinkNest RX5 144 yX4_isPiece "SheetFolds" ∈ lw_tbl := (zt4 (List.mem_of_getElem? (i := 25) rfl))
theorem wm_X5_132 : Cond.methodLink RX5 132 yX5_highOf ∈ zG := zgm (zt4 (List.mem_of_getElem? (i := 26) rfl)) rfl
theorem wm_X5_129 : Cond.methodLink RX5 129 yX5_lowOf ∈ zG := zgm (zt4 (List.mem_of_getElem? (i := 27) rfl)) rfl
theorem wmn_X8_210 : Cond.methodLinkNest RX8 210 yX5_leastLow "SheetFolds" ∈ lw_tbl := (zt4 (List.mem_of_getElem? (i := 28) rfl))
theorem wi_X5_leastLow : Cond.instanceMethod yX5_leastLow ∈ zG := zgm (zt4 (List.mem_of_getElem? (i := 30) rfl)) rfl
theorem wc_X5_leastLow : Cond.code yX5_leastLow cX5_leastLow 5 (some .int) ∈ zG := zgm (zt4 (List.mem_of_getElem? (i := 31) rfl)) rfl
theorem wmn_X8_213 : Cond.methodLinkNest RX8 213 yX5_mostHigh "SheetFolds" ∈ lw_tbl := (zt4 (List.mem_of_getElem? (i := 32) rfl))
theorem wi_X5_mostHigh : Cond.instanceMethod yX5_mostHigh ∈ zG := zgm (zt4 (List.mem_of_getElem? (i := 34) rfl)) rfl
theorem wc_X5_mostHigh : Cond.code yX5_mostHigh cX5_mostHigh 5 (some .int) ∈ zG := zgm (zt4 (List.mem_of_getElem? (i := 35) rfl)) rfl
theorem wm_L_62 : Cond.methodLink RL 62 yX8_overlap ∈ zG := zgm (zt4 (List.mem_of_getElem? (i := 36) rfl)) rfl
theorem wi_X8_overlap : Cond.instanceMethod yX8_overlap ∈ zG := zgm (zt4 (List.mem_of_getElem? (i := 37) rfl)) rfl
theorem wse_X8_X8_overlap : Cond.selects RX8 yX8_overlap yX8_overlap ∈ zG := zgm (zt4 (List.mem_of_getElem? (i := 38) rfl)) rfl
theorem wc_X8_overlap : Cond.code yX8_overlap cX8_overlap 4 (some .int) ∈ zG := zgm (zt4 (List.mem_of_getElem? (i := 39) rfl)) rfl
theorem wmn_X8_216 : Cond.methodLinkNest RX8 216 yX5_overlaps "SheetFolds" ∈ lw_tbl := (zt4 (List.mem_of_getElem? (i := 40) rfl))
theorem wi_X5_overlaps : Cond.instanceMethod yX5_overlaps ∈ zG := zgm (zt4 (List.mem_of_getElem? (i := 42) rfl)) rfl
theorem wc_X5_overlaps : Cond.code yX5_overlaps cX5_overlaps 7 (some .int) ∈ zG := zgm (zt4 (List.mem_of_getElem? (i := 43) rfl)) rfl
theorem wm_X5_147 : Cond.methodLink RX5 147 yX5_share ∈ zG := zgm (zt4 (List.mem_of_getElem? (i := 44) rfl)) rfl
theorem wi_X5_share : Cond.instanceMethod yX5_share ∈ zG := zgm (zt4 (List.mem_of_getElem? (i := 46) rfl)) rfl
theorem wc_X5_share : Cond.code yX5_share cX5_share 8 (some .boolean) ∈ zG := zgm (zt4 (List.mem_of_getElem? (i := 47) rfl)) rfl
theorem wm_L_66 : Cond.methodLink RL 66 yX8_space ∈ zG := zgm (zt4 (List.mem_of_getElem? (i := 48) rfl)) rfl
theorem wi_X8_space : Cond.instanceMethod yX8_space ∈ zG := zgm (zt4 (List.mem_of_getElem? (i := 49) rfl)) rfl
theorem wse_X8_X8_space : Cond.selects RX8 yX8_space yX8_space ∈ zG := zgm (zt4 (List.mem_of_getElem? (i := 50) rfl)) rfl
theorem wc_X8_space : Cond.code yX8_space cX8_space 3 (some .int) ∈ zG := zgm (zt4 (List.mem_of_getElem? (i := 51) rfl)) rfl
theorem wm_X8_220 : Cond.methodLink RX8 220 yX8_placeNow ∈ zG := zgm (zt4 (List.mem_of_getElem? (i := 52) rfl)) rfl
theorem wi_X8_placeNow : Cond.instanceMethod yX8_placeNow ∈ zG := zgm (zt4 (List.mem_of_getElem? (i := 54) rfl)) rfl
theorem wc_X8_placeNow : Cond.code yX8_placeNow cX8_placeNow 1 none ∈ zG := zgm (zt4 (List.mem_of_getElem? (i := 55) rfl)) rfl
theorem wmn_X8_235 : Cond.methodLinkNest RX8 235 yX5_place "SheetFolds" ∈ lw_tbl := (zt4 (List.mem_of_getElem? (i := 56) rfl))
theorem wm_L_70 : Cond.methodLink RL 70 yX8_spaceBox ∈ zG := zgm (zt4 (List.mem_of_getElem? (i := 57) rfl)) rfl
theorem wi_X8_spaceBox : Cond.instanceMethod yX8_spaceBox ∈ zG := zgm (zt4 (List.mem_of_getElem? (i := 58) rfl)) rfl
theorem wse_X8_X8_spaceBox : Cond.selects RX8 yX8_spaceBox yX8_spaceBox ∈ zG := zgm (zt4 (List.mem_of_getElem? (i := 59) rfl)) rfl
theorem wc_X8_spaceBox : Cond.code yX8_spaceBox cX8_spaceBox 2 (some .int) ∈ zG := zgm (zt4 (List.mem_of_getElem? (i := 60) rfl)) rfl
theorem wmn_X8_223 : Cond.methodLinkNest RX8 223 yX5_extent "SheetFolds" ∈ lw_tbl := (zt4 (List.mem_of_getElem? (i := 61) rfl))
theorem wi_X5_extent : Cond.instanceMethod yX5_extent ∈ zG := zgm (zt4 (List.mem_of_getElem? (i := 63) rfl)) rfl
theorem wc_X5_extent : Cond.code yX5_extent cX5_extent 3 (some .int) ∈ zG := zgm (zt4 (List.mem_of_getElem? (i := 64) rfl)) rfl
theorem wm_X5_135 : Cond.methodLink RX5 135 yX5_mostHigh ∈ zG := zgm (zt4 (List.mem_of_getElem? (i := 65) rfl)) rfl
theorem wm_X5_138 : Cond.methodLink RX5 138 yX5_leastLow ∈ zG := zgm (zt4 (List.mem_of_getElem? (i := 66) rfl)) rfl
theorem wm_L_74 : Cond.methodLink RL 74 yX8_gap ∈ zG := zgm (zt4 (List.mem_of_getElem? (i := 67) rfl)) rfl
theorem wi_X8_gap : Cond.instanceMethod yX8_gap ∈ zG := zgm (zt4 (List.mem_of_getElem? (i := 68) rfl)) rfl
theorem wse_X8_X8_gap : Cond.selects RX8 yX8_gap yX8_gap ∈ zG := zgm (zt4 (List.mem_of_getElem? (i := 69) rfl)) rfl
theorem wc_X8_gap : Cond.code yX8_gap cX8_gap 3 (some .int) ∈ zG := zgm (zt4 (List.mem_of_getElem? (i := 70) rfl)) rfl
theorem wmn_X8_226 : Cond.methodLinkNest RX8 226 yX5_gapOf "SheetFolds" ∈ lw_tbl := (zt4 (List.mem_of_getElem? (i := 71) rfl))
theorem wi_X5_gapOf : Cond.instanceMethod yX5_gapOf ∈ zG := zgm (zt4 (List.mem_of_getElem? (i := 73) rfl)) rfl
theorem wc_X5_gapOf : Cond.code yX5_gapOf cX5_gapOf 7 (some .int) ∈ zG := zgm (zt4 (List.mem_of_getElem? (i := 74) rfl)) rfl
theorem wm_L_78 : Cond.methodLink RL 78 yX8_normal ∈ zG := zgm (zt4 (List.mem_of_getElem? (i := 75) rfl)) rfl
theorem wi_X8_normal : Cond.instanceMethod yX8_normal ∈ zG := zgm (zt4 (List.mem_of_getElem? (i := 76) rfl)) rfl
theorem wse_X8_X8_normal : Cond.selects RX8 yX8_normal yX8_normal ∈ zG := zgm (zt4 (List.mem_of_getElem? (i := 77) rfl)) rfl
theorem wc_X8_normal : Cond.code yX8_normal cX8_normal 2 (some .int) ∈ zG := zgm (zt4 (List.mem_of_getElem? (i := 78) rfl)) rfl
theorem wmn_X8_229 : Cond.methodLinkNest RX8 229 yX5_signedNormal "SheetFolds" ∈ lw_tbl := (zt4 (List.mem_of_getElem? (i := 79) rfl))
theorem wi_X5_signedNormal : Cond.instanceMethod yX5_signedNormal ∈ zG := zgm (zt4 (List.mem_of_getElem? (i := 81) rfl)) rfl
theorem wc_X5_signedNormal : Cond.code yX5_signedNormal cX5_signedNormal 3 (some .int) ∈ zG := zgm (zt4 (List.mem_of_getElem? (i := 82) rfl)) rfl
theorem wm_L_82 : Cond.methodLink RL 82 yX8_clash ∈ zG := zgm (zt4 (List.mem_of_getElem? (i := 83) rfl)) rfl
theorem wi_X8_clash : Cond.instanceMethod yX8_clash ∈ zG := zgm (zt4 (List.mem_of_getElem? (i := 84) rfl)) rfl
theorem wse_X8_X8_clash : Cond.selects RX8 yX8_clash yX8_clash ∈ zG := zgm (zt4 (List.mem_of_getElem? (i := 85) rfl)) rfl
theorem wc_X8_clash : Cond.code yX8_clash cX8_clash 3 (some .int) ∈ zG := zgm (zt4 (List.mem_of_getElem? (i := 86) rfl)) rfl
theorem wmn_X8_232 : Cond.methodLinkNest RX8 232 yX4_isState "SheetFolds" ∈ lw_tbl := (zt4 (List.mem_of_getElem? (i := 87) rfl))
theorem wi_X4_isState : Cond.instanceMethod yX4_isState ∈ zG := zgm (zt4 (List.mem_of_getElem? (i := 89) rfl)) rfl
theorem wc_X4_isState : Cond.code yX4_isState cX4_isState 2 (some .boolean) ∈ zG := zgm (zt4 (List.mem_of_getElem? (i := 90) rfl)) rfl
theorem wm_X4_71 : Cond.methodLink RX4 71 yX4_isThere ∈ zG := zgm (zt4 (List.mem_of_getElem? (i := 91) rfl)) rfl
theorem wm_X4_75 : Cond.methodLink RX4 75 yX4_allBends ∈ zG := zgm (zt4 (List.mem_of_getElem? (i := 92) rfl)) rfl
theorem wi_X4_allBends : Cond.instanceMethod yX4_allBends ∈ zG := zgm (zt4 (List.mem_of_getElem? (i := 94) rfl)) rfl
theorem wc_X4_allBends : Cond.code yX4_allBends cX4_allBends 1 (some .int) ∈ zG := zgm (zt4 (List.mem_of_getElem? (i := 95) rfl)) rfl
theorem wmn_X8_238 : Cond.methodLinkNest RX8 238 yX5_clashes "SheetFolds" ∈ lw_tbl := (zt4 (List.mem_of_getElem? (i := 96) rfl))
theorem wi_X5_clashes : Cond.instanceMethod yX5_clashes ∈ zG := zgm (zt4 (List.mem_of_getElem? (i := 98) rfl)) rfl
theorem wc_X5_clashes : Cond.code yX5_clashes cX5_clashes 6 (some .int) ∈ zG := zgm (zt4 (List.mem_of_getElem? (i := 99) rfl)) rfl
theorem wm_X5_151 : Cond.methodLink RX5 151 yX5_doClash ∈ zG := zgm (zt4 (List.mem_of_getElem? (i := 100) rfl)) rfl
theorem wi_X5_doClash : Cond.instanceMethod yX5_doClash ∈ zG := zgm (zt4 (List.mem_of_getElem? (i := 102) rfl)) rfl
theorem wc_X5_doClash : Cond.code yX5_doClash cX5_doClash 5 (some .boolean) ∈ zG := zgm (zt4 (List.mem_of_getElem? (i := 103) rfl)) rfl
theorem wm_X5_154 : Cond.methodLink RX5 154 yX5_isWithin ∈ zG := zgm (zt4 (List.mem_of_getElem? (i := 104) rfl)) rfl
theorem wi_X5_isWithin : Cond.instanceMethod yX5_isWithin ∈ zG := zgm (zt4 (List.mem_of_getElem? (i := 106) rfl)) rfl
theorem wc_X5_isWithin : Cond.code yX5_isWithin cX5_isWithin 5 (some .boolean) ∈ zG := zgm (zt4 (List.mem_of_getElem? (i := 107) rfl)) rfl
theorem wm_L_86 : Cond.methodLink RL 86 yX8_meets ∈ zG := zgm (zt4 (List.mem_of_getElem? (i := 108) rfl)) rfl
theorem wi_X8_meets : Cond.instanceMethod yX8_meets ∈ zG := zgm (zt4 (List.mem_of_getElem? (i := 109) rfl)) rfl
theorem wse_X8_X8_meets : Cond.selects RX8 yX8_meets yX8_meets ∈ zG := zgm (zt4 (List.mem_of_getElem? (i := 110) rfl)) rfl
theorem wc_X8_meets : Cond.code yX8_meets cX8_meets 3 (some .int) ∈ zG := zgm (zt4 (List.mem_of_getElem? (i := 111) rfl)) rfl
theorem wmn_X8_241 : Cond.methodLinkNest RX8 241 yX5_metByPunch "SheetFolds" ∈ lw_tbl := (zt4 (List.mem_of_getElem? (i := 112) rfl))
theorem wi_X5_metByPunch : Cond.instanceMethod yX5_metByPunch ∈ zG := zgm (zt4 (List.mem_of_getElem? (i := 114) rfl)) rfl
theorem wc_X5_metByPunch : Cond.code yX5_metByPunch cX5_metByPunch 5 (some .int) ∈ zG := zgm (zt4 (List.mem_of_getElem? (i := 115) rfl)) rfl
theorem wm_X5_163 : Cond.methodLink RX5 163 yX5_standPunch ∈ zG := zgm (zt4 (List.mem_of_getElem? (i := 116) rfl)) rfl
theorem wi_X5_standPunch : Cond.instanceMethod yX5_standPunch ∈ zG := zgm (zt4 (List.mem_of_getElem? (i := 118) rfl)) rfl
theorem wc_X5_standPunch : Cond.code yX5_standPunch cX5_standPunch 8 (some .int) ∈ zG := zgm (zt4 (List.mem_of_getElem? (i := 119) rfl)) rfl
theorem wm_L_90 : Cond.methodLink RL 90 yX8_tools ∈ zG := zgm (zt4 (List.mem_of_getElem? (i := 120) rfl)) rfl
theorem wi_X8_tools : Cond.instanceMethod yX8_tools ∈ zG := zgm (zt4 (List.mem_of_getElem? (i := 121) rfl)) rfl
theorem wse_X8_X8_tools : Cond.selects RX8 yX8_tools yX8_tools ∈ zG := zgm (zt4 (List.mem_of_getElem? (i := 122) rfl)) rfl
theorem wc_X8_tools : Cond.code yX8_tools cX8_tools 3 (some .int) ∈ zG := zgm (zt4 (List.mem_of_getElem? (i := 123) rfl)) rfl
theorem wm_X8_247 : Cond.methodLink RX8 247 yJ6_bitCount_0f7a4 ∈ zG := zgm (zt4 (List.mem_of_getElem? (i := 124) rfl)) rfl
theorem wm_L_94 : Cond.methodLink RL 94 yX8_why ∈ zG := zgm (zt4 (List.mem_of_getElem? (i := 125) rfl)) rfl
theorem wi_X8_why : Cond.instanceMethod yX8_why ∈ zG := zgm (zt4 (List.mem_of_getElem? (i := 126) rfl)) rfl
theorem wse_X8_X8_why : Cond.selects RX8 yX8_why yX8_why ∈ zG := zgm (zt4 (List.mem_of_getElem? (i := 127) rfl)) rfl
theorem wc_X8_why : Cond.code yX8_why cX8_why 3 (some .int) ∈ zG := zgm (zt4 (List.mem_of_getElem? (i := 128) rfl)) rfl
theorem wm_X8_252 : Cond.methodLink RX8 252 yX8_reason ∈ zG := zgm (zt4 (List.mem_of_getElem? (i := 129) rfl)) rfl
theorem wi_X8_reason : Cond.instanceMethod yX8_reason ∈ zG := zgm (zt4 (List.mem_of_getElem? (i := 131) rfl)) rfl
theorem wc_X8_reason : Cond.code yX8_reason cX8_reason 3 (some .int) ∈ zG := zgm (zt4 (List.mem_of_getElem? (i := 132) rfl)) rfl
theorem wm_X8_323 : Cond.methodLink RX8 323 yX8_clashesIn ∈ zG := zgm (zt4 (List.mem_of_getElem? (i := 133) rfl)) rfl
theorem wi_X8_clashesIn : Cond.instanceMethod yX8_clashesIn ∈ zG := zgm (zt4 (List.mem_of_getElem? (i := 135) rfl)) rfl
theorem wc_X8_clashesIn : Cond.code yX8_clashesIn cX8_clashesIn 2 (some .boolean) ∈ zG := zgm (zt4 (List.mem_of_getElem? (i := 136) rfl)) rfl
theorem wm_L_98 : Cond.methodLink RL 98 yX8_orders ∈ zG := zgm (zt4 (List.mem_of_getElem? (i := 137) rfl)) rfl
theorem wi_X8_orders : Cond.instanceMethod yX8_orders ∈ zG := zgm (zt4 (List.mem_of_getElem? (i := 138) rfl)) rfl
theorem wse_X8_X8_orders : Cond.selects RX8 yX8_orders yX8_orders ∈ zG := zgm (zt4 (List.mem_of_getElem? (i := 139) rfl)) rfl
theorem wc_X8_orders : Cond.code yX8_orders cX8_orders 1 (some .int) ∈ zG := zgm (zt4 (List.mem_of_getElem? (i := 140) rfl)) rfl
theorem wm_X8_255 : Cond.methodLink RX8 255 yX8_searchOrders ∈ zG := zgm (zt4 (List.mem_of_getElem? (i := 141) rfl)) rfl
theorem wi_X8_searchOrders : Cond.instanceMethod yX8_searchOrders ∈ zG := zgm (zt4 (List.mem_of_getElem? (i := 143) rfl)) rfl
theorem wc_X8_searchOrders : Cond.code yX8_searchOrders cX8_searchOrders 1 (some .boolean) ∈ zG := zgm (zt4 (List.mem_of_getElem? (i := 144) rfl)) rfl
theorem wmn_X8_305 : Cond.methodLinkNest RX8 305 yX3_measureRooms "SheetFolds" ∈ lw_tbl := (zt4 (List.mem_of_getElem? (i := 145) rfl))
theorem wi_X3_measureRooms : Cond.instanceMethod yX3_measureRooms ∈ zG := zgm (zt4 (List.mem_of_getElem? (i := 147) rfl)) rfl
theorem wc_X3_measureRooms : Cond.code yX3_measureRooms cX3_measureRooms 7 none ∈ zG := zgm (zt4 (List.mem_of_getElem? (i := 148) rfl)) rfl
theorem wmn_X3_37 : Cond.methodLinkNest RX3 37 yX4_allBends "SheetFolds" ∈ lw_tbl := (zt4 (List.mem_of_getElem? (i := 149) rfl))
theorem wmn_X3_53 : Cond.methodLinkNest RX3 53 yX5_place "SheetFolds" ∈ lw_tbl := (zt4 (List.mem_of_getElem? (i := 150) rfl))
theorem wmn_X3_59 : Cond.methodLinkNest RX3 59 yX5_clashes "SheetFolds" ∈ lw_tbl := (zt4 (List.mem_of_getElem? (i := 151) rfl))
theorem wmn_X3_63 : Cond.methodLinkNest RX3 63 yX8_isIn "SheetFolds" ∈ lw_tbl := (zt4 (List.mem_of_getElem? (i := 152) rfl))
theorem wmn_X3_70 : Cond.methodLinkNest RX3 70 yX8_bit "SheetFolds" ∈ lw_tbl := (zt4 (List.mem_of_getElem? (i := 153) rfl))
theorem wm_X3_74 : Cond.methodLink RX3 74 yX3_cell ∈ zG := zgm (zt4 (List.mem_of_getElem? (i := 154) rfl)) rfl
theorem ws_X3_cell : Cond.static yX3_cell ∈ zG := zgm (zt4 (List.mem_of_getElem? (i := 155) rfl)) rfl
theorem wc_X3_cell : Cond.code yX3_cell cX3_cell 2 (some .int) ∈ zG := zgm (zt4 (List.mem_of_getElem? (i := 156) rfl)) rfl
theorem wmn_X3_77 : Cond.methodLinkNest RX3 77 yX5_roomFor "SheetFolds" ∈ lw_tbl := (zt4 (List.mem_of_getElem? (i := 157) rfl))
theorem wi_X5_roomFor : Cond.instanceMethod yX5_roomFor ∈ zG := zgm (zt4 (List.mem_of_getElem? (i := 159) rfl)) rfl
theorem wc_X5_roomFor : Cond.code yX5_roomFor cX5_roomFor 9 (some .int) ∈ zG := zgm (zt4 (List.mem_of_getElem? (i := 160) rfl)) rfl
theorem wmn_X8_309 : Cond.methodLinkNest RX8 309 yX3_searchFrom "SheetFolds" ∈ lw_tbl := (zt4 (List.mem_of_getElem? (i := 161) rfl))
theorem wi_X3_searchFrom : Cond.instanceMethod yX3_searchFrom ∈ zG := zgm (zt4 (List.mem_of_getElem? (i := 163) rfl)) rfl
theorem wc_X3_searchFrom : Cond.code yX3_searchFrom cX3_searchFrom 5 none ∈ zG := zgm (zt4 (List.mem_of_getElem? (i := 164) rfl)) rfl
theorem wm_X3_87 : Cond.methodLink RX3 87 yJ9_max_7cf53 ∈ zG := zgm (zt4 (List.mem_of_getElem? (i := 165) rfl)) rfl
theorem wm_X3_92 : Cond.methodLink RX3 92 yJ7_fill_031fb ∈ zG := zgm (zt4 (List.mem_of_getElem? (i := 166) rfl)) rfl
theorem ws_J7_fill_031fb : Cond.static yJ7_fill_031fb ∈ zG := zgm (zt4 (List.mem_of_getElem? (i := 167) rfl)) rfl
theorem wc_J7_fill_031fb : Cond.code yJ7_fill_031fb cJ7_fill_031fb 4 none ∈ zG := zgm (zt4 (List.mem_of_getElem? (i := 168) rfl)) rfl
theorem wm_X3_98 : Cond.methodLink RX3 98 yJ7_fill_53178 ∈ zG := zgm (zt4 (List.mem_of_getElem? (i := 169) rfl)) rfl
theorem wm_X3_101 : Cond.methodLink RX3 101 yX3_isReached ∈ zG := zgm (zt4 (List.mem_of_getElem? (i := 170) rfl)) rfl
theorem wi_X3_isReached : Cond.instanceMethod yX3_isReached ∈ zG := zgm (zt4 (List.mem_of_getElem? (i := 172) rfl)) rfl
theorem wc_X3_isReached : Cond.code yX3_isReached cX3_isReached 2 (some .boolean) ∈ zG := zgm (zt4 (List.mem_of_getElem? (i := 173) rfl)) rfl
theorem wm_X3_105 : Cond.methodLink RX3 105 yX3_isClear ∈ zG := zgm (zt4 (List.mem_of_getElem? (i := 174) rfl)) rfl
theorem wi_X3_isClear : Cond.instanceMethod yX3_isClear ∈ zG := zgm (zt4 (List.mem_of_getElem? (i := 176) rfl)) rfl
theorem wc_X3_isClear : Cond.code yX3_isClear cX3_isClear 3 (some .boolean) ∈ zG := zgm (zt4 (List.mem_of_getElem? (i := 177) rfl)) rfl
theorem wmn_X8_258 : Cond.methodLinkNest RX8 258 yX3_ordersFrom "SheetFolds" ∈ lw_tbl := (zt4 (List.mem_of_getElem? (i := 178) rfl))
theorem wi_X3_ordersFrom : Cond.instanceMethod yX3_ordersFrom ∈ zG := zgm (zt4 (List.mem_of_getElem? (i := 180) rfl)) rfl
theorem wc_X3_ordersFrom : Cond.code yX3_ordersFrom cX3_ordersFrom 2 (some .int) ∈ zG := zgm (zt4 (List.mem_of_getElem? (i := 181) rfl)) rfl
theorem wm_L_102 : Cond.methodLink RL 102 yX8_order ∈ zG := zgm (zt4 (List.mem_of_getElem? (i := 182) rfl)) rfl
theorem wi_X8_order : Cond.instanceMethod yX8_order ∈ zG := zgm (zt4 (List.mem_of_getElem? (i := 183) rfl)) rfl
theorem wse_X8_X8_order : Cond.selects RX8 yX8_order yX8_order ∈ zG := zgm (zt4 (List.mem_of_getElem? (i := 184) rfl)) rfl
theorem wc_X8_order : Cond.code yX8_order cX8_order 2 (some .int) ∈ zG := zgm (zt4 (List.mem_of_getElem? (i := 185) rfl)) rfl
theorem wmn_X8_261 : Cond.methodLinkNest RX8 261 yX3_walkFirst "SheetFolds" ∈ lw_tbl := (zt4 (List.mem_of_getElem? (i := 186) rfl))
theorem wi_X3_walkFirst : Cond.instanceMethod yX3_walkFirst ∈ zG := zgm (zt4 (List.mem_of_getElem? (i := 188) rfl)) rfl
theorem wc_X3_walkFirst : Cond.code yX3_walkFirst cX3_walkFirst 4 none ∈ zG := zgm (zt4 (List.mem_of_getElem? (i := 189) rfl)) rfl
theorem wm_X3_111 : Cond.methodLink RX3 111 yX3_firstThatGoesOn ∈ zG := zgm (zt4 (List.mem_of_getElem? (i := 190) rfl)) rfl
theorem wi_X3_firstThatGoesOn : Cond.instanceMethod yX3_firstThatGoesOn ∈ zG := zgm (zt4 (List.mem_of_getElem? (i := 192) rfl)) rfl
theorem wc_X3_firstThatGoesOn : Cond.code yX3_firstThatGoesOn cX3_firstThatGoesOn 3 (some .int) ∈ zG := zgm (zt4 (List.mem_of_getElem? (i := 193) rfl)) rfl
theorem wm_X3_117 : Cond.methodLink RX3 117 yX3_goesOn ∈ zG := zgm (zt4 (List.mem_of_getElem? (i := 194) rfl)) rfl
theorem wi_X3_goesOn : Cond.instanceMethod yX3_goesOn ∈ zG := zgm (zt4 (List.mem_of_getElem? (i := 196) rfl)) rfl
theorem wc_X3_goesOn : Cond.code yX3_goesOn cX3_goesOn 3 (some .boolean) ∈ zG := zgm (zt4 (List.mem_of_getElem? (i := 197) rfl)) rfl
theorem wm_X3_114 : Cond.methodLink RX3 114 yX3_append ∈ zG := zgm (zt4 (List.mem_of_getElem? (i := 198) rfl)) rfl
theorem wi_X3_append : Cond.instanceMethod yX3_append ∈ zG := zgm (zt4 (List.mem_of_getElem? (i := 200) rfl)) rfl
theorem wc_X3_append : Cond.code yX3_append cX3_append 3 (some .int) ∈ zG := zgm (zt4 (List.mem_of_getElem? (i := 201) rfl)) rfl
theorem wmn_X8_264 : Cond.methodLinkNest RX8 264 yX3_rowAt "SheetFolds" ∈ lw_tbl := (zt4 (List.mem_of_getElem? (i := 202) rfl))
theorem wi_X3_rowAt : Cond.instanceMethod yX3_rowAt ∈ zG := zgm (zt4 (List.mem_of_getElem? (i := 204) rfl)) rfl
theorem wc_X3_rowAt : Cond.code yX3_rowAt cX3_rowAt 2 (some .int) ∈ zG := zgm (zt4 (List.mem_of_getElem? (i := 205) rfl)) rfl
theorem wm_L_106 : Cond.methodLink RL 106 yX8_mayBeLast ∈ zG := zgm (zt4 (List.mem_of_getElem? (i := 206) rfl)) rfl
theorem wi_X8_mayBeLast : Cond.instanceMethod yX8_mayBeLast ∈ zG := zgm (zt4 (List.mem_of_getElem? (i := 207) rfl)) rfl
theorem wse_X8_X8_mayBeLast : Cond.selects RX8 yX8_mayBeLast yX8_mayBeLast ∈ zG := zgm (zt4 (List.mem_of_getElem? (i := 208) rfl)) rfl
theorem wc_X8_mayBeLast : Cond.code yX8_mayBeLast cX8_mayBeLast 2 (some .int) ∈ zG := zgm (zt4 (List.mem_of_getElem? (i := 209) rfl)) rfl
theorem wm_X8_267 : Cond.methodLink RX8 267 yX8_isUnmade ∈ zG := zgm (zt4 (List.mem_of_getElem? (i := 210) rfl)) rfl
theorem wi_X8_isUnmade : Cond.instanceMethod yX8_isUnmade ∈ zG := zgm (zt4 (List.mem_of_getElem? (i := 212) rfl)) rfl
theorem wc_X8_isUnmade : Cond.code yX8_isUnmade cX8_isUnmade 2 (some .boolean) ∈ zG := zgm (zt4 (List.mem_of_getElem? (i := 213) rfl)) rfl
theorem wmn_X8_270 : Cond.methodLinkNest RX8 270 yX3_canEndWith "SheetFolds" ∈ lw_tbl := (zt4 (List.mem_of_getElem? (i := 214) rfl))
theorem wi_X3_canEndWith : Cond.instanceMethod yX3_canEndWith ∈ zG := zgm (zt4 (List.mem_of_getElem? (i := 216) rfl)) rfl
theorem wc_X3_canEndWith : Cond.code yX3_canEndWith cX3_canEndWith 3 (some .boolean) ∈ zG := zgm (zt4 (List.mem_of_getElem? (i := 217) rfl)) rfl
theorem wm_L_110 : Cond.methodLink RL 110 yX8_ahead ∈ zG := zgm (zt4 (List.mem_of_getElem? (i := 218) rfl)) rfl
theorem wi_X8_ahead : Cond.instanceMethod yX8_ahead ∈ zG := zgm (zt4 (List.mem_of_getElem? (i := 219) rfl)) rfl
theorem wse_X8_X8_ahead : Cond.selects RX8 yX8_ahead yX8_ahead ∈ zG := zgm (zt4 (List.mem_of_getElem? (i := 220) rfl)) rfl
theorem wc_X8_ahead : Cond.code yX8_ahead cX8_ahead 3 (some .int) ∈ zG := zgm (zt4 (List.mem_of_getElem? (i := 221) rfl)) rfl
theorem wmn_X8_273 : Cond.methodLinkNest RX8 273 yX3_passesWithout "SheetFolds" ∈ lw_tbl := (zt4 (List.mem_of_getElem? (i := 222) rfl))
theorem wi_X3_passesWithout : Cond.instanceMethod yX3_passesWithout ∈ zG := zgm (zt4 (List.mem_of_getElem? (i := 224) rfl)) rfl
theorem wc_X3_passesWithout : Cond.code yX3_passesWithout cX3_passesWithout 4 (some .boolean) ∈ zG := zgm (zt4 (List.mem_of_getElem? (i := 225) rfl)) rfl
theorem wm_L_114 : Cond.methodLink RL 114 yX8_reached ∈ zG := zgm (zt4 (List.mem_of_getElem? (i := 226) rfl)) rfl
theorem wi_X8_reached : Cond.instanceMethod yX8_reached ∈ zG := zgm (zt4 (List.mem_of_getElem? (i := 227) rfl)) rfl
theorem wse_X8_X8_reached : Cond.selects RX8 yX8_reached yX8_reached ∈ zG := zgm (zt4 (List.mem_of_getElem? (i := 228) rfl)) rfl
theorem wc_X8_reached : Cond.code yX8_reached cX8_reached 2 (some .int) ∈ zG := zgm (zt4 (List.mem_of_getElem? (i := 229) rfl)) rfl
theorem wmn_X8_276 : Cond.methodLinkNest RX8 276 yX3_countReached "SheetFolds" ∈ lw_tbl := (zt4 (List.mem_of_getElem? (i := 230) rfl))
theorem wi_X3_countReached : Cond.instanceMethod yX3_countReached ∈ zG := zgm (zt4 (List.mem_of_getElem? (i := 232) rfl)) rfl
theorem wc_X3_countReached : Cond.code yX3_countReached cX3_countReached 3 (some .int) ∈ zG := zgm (zt4 (List.mem_of_getElem? (i := 233) rfl)) rfl
theorem wmn_X8_280 : Cond.methodLinkNest RX8 280 yX3_countDeadEnds "SheetFolds" ∈ lw_tbl := (zt4 (List.mem_of_getElem? (i := 234) rfl))
theorem wi_X3_countDeadEnds : Cond.instanceMethod yX3_countDeadEnds ∈ zG := zgm (zt4 (List.mem_of_getElem? (i := 236) rfl)) rfl
theorem wc_X3_countDeadEnds : Cond.code yX3_countDeadEnds cX3_countDeadEnds 3 (some .int) ∈ zG := zgm (zt4 (List.mem_of_getElem? (i := 237) rfl)) rfl
theorem wm_X3_123 : Cond.methodLink RX3 123 yX3_isDeadEnd ∈ zG := zgm (zt4 (List.mem_of_getElem? (i := 238) rfl)) rfl
theorem wi_X3_isDeadEnd : Cond.instanceMethod yX3_isDeadEnd ∈ zG := zgm (zt5 (List.mem_of_getElem? (i := 0) rfl)) rfl
theorem wc_X3_isDeadEnd : Cond.code yX3_isDeadEnd cX3_isDeadEnd 2 (some .boolean) ∈ zG := zgm (zt5 (List.mem_of_getElem? (i := 1) rfl)) rfl
theorem wm_X3_120 : Cond.methodLink RX3 120 yX3_clearBends ∈ zG := zgm (zt5 (List.mem_of_getElem? (i := 2) rfl)) rfl
theorem wi_X3_clearBends : Cond.instanceMethod yX3_clearBends ∈ zG := zgm (zt5 (List.mem_of_getElem? (i := 4) rfl)) rfl
theorem wc_X3_clearBends : Cond.code yX3_clearBends cX3_clearBends 4 (some .int) ∈ zG := zgm (zt5 (List.mem_of_getElem? (i := 5) rfl)) rfl
theorem wmn_X8_283 : Cond.methodLinkNest RX8 283 yX3_fullestDeadEnd "SheetFolds" ∈ lw_tbl := (zt5 (List.mem_of_getElem? (i := 6) rfl))
theorem wi_X3_fullestDeadEnd : Cond.instanceMethod yX3_fullestDeadEnd ∈ zG := zgm (zt5 (List.mem_of_getElem? (i := 8) rfl)) rfl
theorem wc_X3_fullestDeadEnd : Cond.code yX3_fullestDeadEnd cX3_fullestDeadEnd 3 (some .int) ∈ zG := zgm (zt5 (List.mem_of_getElem? (i := 9) rfl)) rfl
theorem wm_X3_126 : Cond.methodLink RX3 126 yJ6_bitCount_0f7a4 ∈ zG := zgm (zt5 (List.mem_of_getElem? (i := 10) rfl)) rfl
theorem wmn_X8_286 : Cond.methodLinkNest RX8 286 yX3_blocked "SheetFolds" ∈ lw_tbl := (zt5 (List.mem_of_getElem? (i := 11) rfl))
theorem wi_X3_blocked : Cond.instanceMethod yX3_blocked ∈ zG := zgm (zt5 (List.mem_of_getElem? (i := 13) rfl)) rfl
theorem wc_X3_blocked : Cond.code yX3_blocked cX3_blocked 3 (some .int) ∈ zG := zgm (zt5 (List.mem_of_getElem? (i := 14) rfl)) rfl
theorem wm_L_118 : Cond.methodLink RL 118 yX8_fewest ∈ zG := zgm (zt5 (List.mem_of_getElem? (i := 15) rfl)) rfl
theorem wi_X8_fewest : Cond.instanceMethod yX8_fewest ∈ zG := zgm (zt5 (List.mem_of_getElem? (i := 16) rfl)) rfl
theorem wse_X8_X8_fewest : Cond.selects RX8 yX8_fewest yX8_fewest ∈ zG := zgm (zt5 (List.mem_of_getElem? (i := 17) rfl)) rfl
theorem wc_X8_fewest : Cond.code yX8_fewest cX8_fewest 2 (some .int) ∈ zG := zgm (zt5 (List.mem_of_getElem? (i := 18) rfl)) rfl
theorem wmn_X8_289 : Cond.methodLinkNest RX8 289 yX3_countSwitches "SheetFolds" ∈ lw_tbl := (zt5 (List.mem_of_getElem? (i := 19) rfl))
theorem wi_X3_countSwitches : Cond.instanceMethod yX3_countSwitches ∈ zG := zgm (zt5 (List.mem_of_getElem? (i := 21) rfl)) rfl
theorem wc_X3_countSwitches : Cond.code yX3_countSwitches cX3_countSwitches 5 none ∈ zG := zgm (zt5 (List.mem_of_getElem? (i := 22) rfl)) rfl
theorem wm_X3_134 : Cond.methodLink RX3 134 yX3_leastFrom ∈ zG := zgm (zt5 (List.mem_of_getElem? (i := 23) rfl)) rfl
theorem wi_X3_leastFrom : Cond.instanceMethod yX3_leastFrom ∈ zG := zgm (zt5 (List.mem_of_getElem? (i := 25) rfl)) rfl
theorem wc_X3_leastFrom : Cond.code yX3_leastFrom cX3_leastFrom 5 (some .int) ∈ zG := zgm (zt5 (List.mem_of_getElem? (i := 26) rfl)) rfl
theorem wm_X3_137 : Cond.methodLink RX3 137 yX3_switchesWith ∈ zG := zgm (zt5 (List.mem_of_getElem? (i := 27) rfl)) rfl
theorem wi_X3_switchesWith : Cond.instanceMethod yX3_switchesWith ∈ zG := zgm (zt5 (List.mem_of_getElem? (i := 29) rfl)) rfl
theorem wc_X3_switchesWith : Cond.code yX3_switchesWith cX3_switchesWith 5 (some .int) ∈ zG := zgm (zt5 (List.mem_of_getElem? (i := 30) rfl)) rfl
theorem wm_X3_141 : Cond.methodLink RX3 141 yJ9_min_7cf53 ∈ zG := zgm (zt5 (List.mem_of_getElem? (i := 31) rfl)) rfl
theorem wmn_X8_293 : Cond.methodLinkNest RX8 293 yX3_leastFrom "SheetFolds" ∈ lw_tbl := (zt5 (List.mem_of_getElem? (i := 32) rfl))
theorem wm_L_122 : Cond.methodLink RL 122 yX8_thrifty ∈ zG := zgm (zt5 (List.mem_of_getElem? (i := 33) rfl)) rfl
theorem wi_X8_thrifty : Cond.instanceMethod yX8_thrifty ∈ zG := zgm (zt5 (List.mem_of_getElem? (i := 34) rfl)) rfl
theorem wse_X8_X8_thrifty : Cond.selects RX8 yX8_thrifty yX8_thrifty ∈ zG := zgm (zt5 (List.mem_of_getElem? (i := 35) rfl)) rfl
theorem wc_X8_thrifty : Cond.code yX8_thrifty cX8_thrifty 3 (some .int) ∈ zG := zgm (zt5 (List.mem_of_getElem? (i := 36) rfl)) rfl
theorem wmn_X8_296 : Cond.methodLinkNest RX8 296 yX3_walkThrifty "SheetFolds" ∈ lw_tbl := (zt5 (List.mem_of_getElem? (i := 37) rfl))
theorem wi_X3_walkThrifty : Cond.instanceMethod yX3_walkThrifty ∈ zG := zgm (zt5 (List.mem_of_getElem? (i := 39) rfl)) rfl
theorem wc_X3_walkThrifty : Cond.code yX3_walkThrifty cX3_walkThrifty 4 none ∈ zG := zgm (zt5 (List.mem_of_getElem? (i := 40) rfl)) rfl
theorem wm_X3_144 : Cond.methodLink RX3 144 yX3_firstThrifty ∈ zG := zgm (zt5 (List.mem_of_getElem? (i := 41) rfl)) rfl
theorem wi_X3_firstThrifty : Cond.instanceMethod yX3_firstThrifty ∈ zG := zgm (zt5 (List.mem_of_getElem? (i := 43) rfl)) rfl
theorem wc_X3_firstThrifty : Cond.code yX3_firstThrifty cX3_firstThrifty 5 (some .int) ∈ zG := zgm (zt5 (List.mem_of_getElem? (i := 44) rfl)) rfl
theorem wm_L_126 : Cond.methodLink RL 126 yX8_tallest ∈ zG := zgm (zt5 (List.mem_of_getElem? (i := 45) rfl)) rfl
theorem wi_X8_tallest : Cond.instanceMethod yX8_tallest ∈ zG := zgm (zt5 (List.mem_of_getElem? (i := 46) rfl)) rfl
theorem wse_X8_X8_tallest : Cond.selects RX8 yX8_tallest yX8_tallest ∈ zG := zgm (zt5 (List.mem_of_getElem? (i := 47) rfl)) rfl
theorem wc_X8_tallest : Cond.code yX8_tallest cX8_tallest 2 (some .int) ∈ zG := zgm (zt5 (List.mem_of_getElem? (i := 48) rfl)) rfl
theorem wmn_X8_299 : Cond.methodLinkNest RX8 299 yX3_tallestPunch "SheetFolds" ∈ lw_tbl := (zt5 (List.mem_of_getElem? (i := 49) rfl))
theorem wi_X3_tallestPunch : Cond.instanceMethod yX3_tallestPunch ∈ zG := zgm (zt5 (List.mem_of_getElem? (i := 51) rfl)) rfl
theorem wc_X3_tallestPunch : Cond.code yX3_tallestPunch cX3_tallestPunch 3 (some .int) ∈ zG := zgm (zt5 (List.mem_of_getElem? (i := 52) rfl)) rfl
theorem wm_L_130 : Cond.methodLink RL 130 yX8_turned ∈ zG := zgm (zt5 (List.mem_of_getElem? (i := 53) rfl)) rfl
theorem wi_X8_turned : Cond.instanceMethod yX8_turned ∈ zG := zgm (zt5 (List.mem_of_getElem? (i := 54) rfl)) rfl
theorem wse_X8_X8_turned : Cond.selects RX8 yX8_turned yX8_turned ∈ zG := zgm (zt5 (List.mem_of_getElem? (i := 55) rfl)) rfl
theorem wc_X8_turned : Cond.code yX8_turned cX8_turned 2 (some .int) ∈ zG := zgm (zt5 (List.mem_of_getElem? (i := 56) rfl)) rfl
theorem wm_L_134 : Cond.methodLink RL 134 yX8_mends ∈ zG := zgm (zt5 (List.mem_of_getElem? (i := 57) rfl)) rfl
theorem wi_X8_mends : Cond.instanceMethod yX8_mends ∈ zG := zgm (zt5 (List.mem_of_getElem? (i := 58) rfl)) rfl
theorem wse_X8_X8_mends : Cond.selects RX8 yX8_mends yX8_mends ∈ zG := zgm (zt5 (List.mem_of_getElem? (i := 59) rfl)) rfl
theorem wc_X8_mends : Cond.code yX8_mends cX8_mends 1 (some .int) ∈ zG := zgm (zt5 (List.mem_of_getElem? (i := 60) rfl)) rfl
theorem wmn_X8_313 : Cond.methodLinkNest RX8 313 yX2_leastTurns "SheetFolds" ∈ lw_tbl := (zt5 (List.mem_of_getElem? (i := 61) rfl))
theorem wi_X2_leastTurns : Cond.instanceMethod yX2_leastTurns ∈ zG := zgm (zt5 (List.mem_of_getElem? (i := 63) rfl)) rfl
theorem wc_X2_leastTurns : Cond.code yX2_leastTurns cX2_leastTurns 10 (some .int) ∈ zG := zgm (zt5 (List.mem_of_getElem? (i := 64) rfl)) rfl
theorem wmn_X2_9 : Cond.methodLinkNest RX2 9 yX4_needsTools "SheetFolds" ∈ lw_tbl := (zt5 (List.mem_of_getElem? (i := 65) rfl))
theorem wi_X4_needsTools : Cond.instanceMethod yX4_needsTools ∈ zG := zgm (zt5 (List.mem_of_getElem? (i := 67) rfl)) rfl
theorem wc_X4_needsTools : Cond.code yX4_needsTools cX4_needsTools 4 (some .boolean) ∈ zG := zgm (zt5 (List.mem_of_getElem? (i := 68) rfl)) rfl
theorem wmn_X4_114 : Cond.methodLinkNest RX4 114 yX8_isIn "SheetFolds" ∈ lw_tbl := (zt5 (List.mem_of_getElem? (i := 69) rfl))
theorem wf_X2_21 : Cond.fieldLink RX2 21 "SheetFolds$Mender" "POWERS" "[I" ∈ zG := zgm (zt5 (List.mem_of_getElem? (i := 70) rfl)) rfl
theorem wm_X2_25 : Cond.methodLink RX2 25 yJ7_fill_031fb ∈ zG := zgm (zt5 (List.mem_of_getElem? (i := 72) rfl)) rfl
theorem wm_X2_35 : Cond.methodLink RX2 35 yX2_codeOf ∈ zG := zgm (zt5 (List.mem_of_getElem? (i := 73) rfl)) rfl
theorem ws_X2_codeOf : Cond.static yX2_codeOf ∈ zG := zgm (zt5 (List.mem_of_getElem? (i := 74) rfl)) rfl
theorem wc_X2_codeOf : Cond.code yX2_codeOf cX2_codeOf 4 (some .int) ∈ zG := zgm (zt5 (List.mem_of_getElem? (i := 75) rfl)) rfl
theorem wmn_X2_65 : Cond.methodLinkNest RX2 65 yX8_isIn "SheetFolds" ∈ lw_tbl := (zt5 (List.mem_of_getElem? (i := 76) rfl))
theorem wm_X2_42 : Cond.methodLink RX2 42 yX2_decode ∈ zG := zgm (zt5 (List.mem_of_getElem? (i := 77) rfl)) rfl
theorem wi_X2_decode : Cond.instanceMethod yX2_decode ∈ zG := zgm (zt5 (List.mem_of_getElem? (i := 79) rfl)) rfl
theorem wc_X2_decode : Cond.code yX2_decode cX2_decode 4 none ∈ zG := zgm (zt5 (List.mem_of_getElem? (i := 80) rfl)) rfl
theorem wmn_X2_69 : Cond.methodLinkNest RX2 69 yX8_bit "SheetFolds" ∈ lw_tbl := (zt5 (List.mem_of_getElem? (i := 81) rfl))
theorem wmn_X2_49 : Cond.methodLinkNest RX2 49 yX4_allBends "SheetFolds" ∈ lw_tbl := (zt5 (List.mem_of_getElem? (i := 82) rfl))
theorem wm_X2_56 : Cond.methodLink RX2 56 yJ9_min_7cf53 ∈ zG := zgm (zt5 (List.mem_of_getElem? (i := 83) rfl)) rfl
theorem wm_X2_61 : Cond.methodLink RX2 61 yX2_spread ∈ zG := zgm (zt5 (List.mem_of_getElem? (i := 84) rfl)) rfl
theorem wi_X2_spread : Cond.instanceMethod yX2_spread ∈ zG := zgm (zt5 (List.mem_of_getElem? (i := 86) rfl)) rfl
theorem wc_X2_spread : Cond.code yX2_spread cX2_spread 7 none ∈ zG := zgm (zt5 (List.mem_of_getElem? (i := 87) rfl)) rfl
theorem wmn_X2_73 : Cond.methodLinkNest RX2 73 yX5_place "SheetFolds" ∈ lw_tbl := (zt5 (List.mem_of_getElem? (i := 88) rfl))
theorem wmn_X2_79 : Cond.methodLinkNest RX2 79 yX5_roomFor "SheetFolds" ∈ lw_tbl := (zt5 (List.mem_of_getElem? (i := 89) rfl))
theorem wm_X2_86 : Cond.methodLink RX2 86 yX2_mark ∈ zG := zgm (zt5 (List.mem_of_getElem? (i := 90) rfl)) rfl
theorem wi_X2_mark : Cond.instanceMethod yX2_mark ∈ zG := zgm (zt5 (List.mem_of_getElem? (i := 92) rfl)) rfl
theorem wc_X2_mark : Cond.code yX2_mark cX2_mark 5 none ∈ zG := zgm (zt5 (List.mem_of_getElem? (i := 93) rfl)) rfl
theorem wm_X2_89 : Cond.methodLink RX2 89 yJ6_bitCount_0f7a4 ∈ zG := zgm (zt5 (List.mem_of_getElem? (i := 94) rfl)) rfl
theorem wmn_X2_94 : Cond.methodLinkNest RX2 94 yX5_clashes "SheetFolds" ∈ lw_tbl := (zt5 (List.mem_of_getElem? (i := 95) rfl))
theorem wm_L_138 : Cond.methodLink RL 138 yX8_lacks ∈ zG := zgm (zt5 (List.mem_of_getElem? (i := 96) rfl)) rfl
theorem wi_X8_lacks : Cond.instanceMethod yX8_lacks ∈ zG := zgm (zt5 (List.mem_of_getElem? (i := 97) rfl)) rfl
theorem wse_X8_X8_lacks : Cond.selects RX8 yX8_lacks yX8_lacks ∈ zG := zgm (zt5 (List.mem_of_getElem? (i := 98) rfl)) rfl
theorem wc_X8_lacks : Cond.code yX8_lacks cX8_lacks 2 (some .int) ∈ zG := zgm (zt5 (List.mem_of_getElem? (i := 99) rfl)) rfl
theorem wmn_X8_317 : Cond.methodLinkNest RX8 317 yX4_leastWidthWithoutTools "SheetFolds" ∈ lw_tbl := (zt5 (List.mem_of_getElem? (i := 100) rfl))
theorem wi_X4_leastWidthWithoutTools : Cond.instanceMethod yX4_leastWidthWithoutTools ∈ zG := zgm (zt5 (List.mem_of_getElem? (i := 102) rfl)) rfl
theorem wc_X4_leastWidthWithoutTools : Cond.code yX4_leastWidthWithoutTools cX4_leastWidthWithoutTools 3 (some .int) ∈ zG := zgm (zt5 (List.mem_of_getElem? (i := 103) rfl)) rfl
theorem wmn_X8_320 : Cond.methodLinkNest RX8 320 yX4_countWithoutTools "SheetFolds" ∈ lw_tbl := (zt5 (List.mem_of_getElem? (i := 104) rfl))
theorem wi_X4_countWithoutTools : Cond.instanceMethod yX4_countWithoutTools ∈ zG := zgm (zt5 (List.mem_of_getElem? (i := 106) rfl)) rfl
theorem wc_X4_countWithoutTools : Cond.code yX4_countWithoutTools cX4_countWithoutTools 3 (some .int) ∈ zG := zgm (zt5 (List.mem_of_getElem? (i := 107) rfl)) rfl
theorem wm_L_142 : Cond.methodLink RL 142 yX8_opens ∈ zG := zgm (zt5 (List.mem_of_getElem? (i := 108) rfl)) rfl
theorem wi_X8_opens : Cond.instanceMethod yX8_opens ∈ zG := zgm (zt5 (List.mem_of_getElem? (i := 109) rfl)) rfl
theorem wse_X8_X8_opens : Cond.selects RX8 yX8_opens yX8_opens ∈ zG := zgm (zt5 (List.mem_of_getElem? (i := 110) rfl)) rfl
theorem wc_X8_opens : Cond.code yX8_opens cX8_opens 3 (some .int) ∈ zG := zgm (zt5 (List.mem_of_getElem? (i := 111) rfl)) rfl
theorem wm_L_146 : Cond.methodLink RL 146 yX8_smallest ∈ zG := zgm (zt5 (List.mem_of_getElem? (i := 112) rfl)) rfl
theorem wi_X8_smallest : Cond.instanceMethod yX8_smallest ∈ zG := zgm (zt5 (List.mem_of_getElem? (i := 113) rfl)) rfl
theorem wse_X8_X8_smallest : Cond.selects RX8 yX8_smallest yX8_smallest ∈ zG := zgm (zt5 (List.mem_of_getElem? (i := 114) rfl)) rfl
theorem wc_X8_smallest : Cond.code yX8_smallest cX8_smallest 6 (some .int) ∈ zG := zgm (zt5 (List.mem_of_getElem? (i := 115) rfl)) rfl
theorem wmn_X8_326 : Cond.methodLinkNest RX8 326 yX4_allBends "SheetFolds" ∈ lw_tbl := (zt5 (List.mem_of_getElem? (i := 116) rfl))
theorem wmn_X8_329 : Cond.methodLinkNest RX8 329 yX3_isReached "SheetFolds" ∈ lw_tbl := (zt5 (List.mem_of_getElem? (i := 117) rfl))
theorem wmn_X8_332 : Cond.methodLinkNest RX8 332 yX5_size "SheetFolds" ∈ lw_tbl := (zt5 (List.mem_of_getElem? (i := 118) rfl))
theorem wi_X5_size : Cond.instanceMethod yX5_size ∈ zG := zgm (zt5 (List.mem_of_getElem? (i := 120) rfl)) rfl
theorem wc_X5_size : Cond.code yX5_size cX5_size 2 (some .int) ∈ zG := zgm (zt5 (List.mem_of_getElem? (i := 121) rfl)) rfl
theorem wm_X5_141 : Cond.methodLink RX5 141 yX5_extent ∈ zG := zgm (zt5 (List.mem_of_getElem? (i := 122) rfl)) rfl
theorem wm_L_150 : Cond.methodLink RL 150 yX8_between ∈ zG := zgm (zt5 (List.mem_of_getElem? (i := 123) rfl)) rfl
theorem wi_X8_between : Cond.instanceMethod yX8_between ∈ zG := zgm (zt5 (List.mem_of_getElem? (i := 124) rfl)) rfl
theorem wse_X8_X8_between : Cond.selects RX8 yX8_between yX8_between ∈ zG := zgm (zt5 (List.mem_of_getElem? (i := 125) rfl)) rfl
theorem wc_X8_between : Cond.code yX8_between cX8_between 3 (some .int) ∈ zG := zgm (zt5 (List.mem_of_getElem? (i := 126) rfl)) rfl
theorem wmn_X8_334 : Cond.methodLinkNest RX8 334 yX4_bendsBetween "SheetFolds" ∈ lw_tbl := (zt5 (List.mem_of_getElem? (i := 127) rfl))
theorem wi_X4_bendsBetween : Cond.instanceMethod yX4_bendsBetween ∈ zG := zgm (zt5 (List.mem_of_getElem? (i := 129) rfl)) rfl
theorem wc_X4_bendsBetween : Cond.code yX4_bendsBetween cX4_bendsBetween 6 (some .int) ∈ zG := zgm (zt5 (List.mem_of_getElem? (i := 130) rfl)) rfl
theorem wm_L_154 : Cond.methodLink RL 154 yX8_see ∈ zG := zgm (zt5 (List.mem_of_getElem? (i := 131) rfl)) rfl
theorem wi_X8_see : Cond.instanceMethod yX8_see ∈ zG := zgm (zt5 (List.mem_of_getElem? (i := 132) rfl)) rfl
theorem wse_X8_X8_see : Cond.selects RX8 yX8_see yX8_see ∈ zG := zgm (zt5 (List.mem_of_getElem? (i := 133) rfl)) rfl
theorem wc_X8_see : Cond.code yX8_see cX8_see 2 (some .int) ∈ zG := zgm (zt5 (List.mem_of_getElem? (i := 134) rfl)) rfl
theorem wmn_X8_337 : Cond.methodLinkNest RX8 337 yX1_take "SheetFolds" ∈ lw_tbl := (zt5 (List.mem_of_getElem? (i := 135) rfl))
theorem wi_X1_take : Cond.instanceMethod yX1_take ∈ zG := zgm (zt5 (List.mem_of_getElem? (i := 137) rfl)) rfl
theorem wc_X1_take : Cond.code yX1_take cX1_take 6 (some .boolean) ∈ zG := zgm (zt5 (List.mem_of_getElem? (i := 138) rfl)) rfl
theorem wmn_X1_24 : Cond.methodLinkNest RX1 24 yX7_at "SheetFolds" ∈ lw_tbl := (zt5 (List.mem_of_getElem? (i := 139) rfl))
theorem wmn_X1_28 : Cond.methodLinkNest RX1 28 yX4_isBend "SheetFolds" ∈ lw_tbl := (zt5 (List.mem_of_getElem? (i := 140) rfl))
theorem wm_L_158 : Cond.methodLink RL 158 yX8_fits ∈ zG := zgm (zt5 (List.mem_of_getElem? (i := 141) rfl)) rfl
theorem wi_X8_fits : Cond.instanceMethod yX8_fits ∈ zG := zgm (zt5 (List.mem_of_getElem? (i := 142) rfl)) rfl
theorem wse_X8_X8_fits : Cond.selects RX8 yX8_fits yX8_fits ∈ zG := zgm (zt5 (List.mem_of_getElem? (i := 143) rfl)) rfl
theorem wc_X8_fits : Cond.code yX8_fits cX8_fits 3 (some .int) ∈ zG := zgm (zt5 (List.mem_of_getElem? (i := 144) rfl)) rfl
theorem wmn_X8_341 : Cond.methodLinkNest RX8 341 yX1_fitAt "SheetFolds" ∈ lw_tbl := (zt5 (List.mem_of_getElem? (i := 145) rfl))
theorem wi_X1_fitAt : Cond.instanceMethod yX1_fitAt ∈ zG := zgm (zt5 (List.mem_of_getElem? (i := 147) rfl)) rfl
theorem wc_X1_fitAt : Cond.code yX1_fitAt cX1_fitAt 6 (some .int) ∈ zG := zgm (zt5 (List.mem_of_getElem? (i := 148) rfl)) rfl
theorem wm_X1_47 : Cond.methodLink RX1 47 yX1_explains ∈ zG := zgm (zt5 (List.mem_of_getElem? (i := 149) rfl)) rfl
theorem wi_X1_explains : Cond.instanceMethod yX1_explains ∈ zG := zgm (zt5 (List.mem_of_getElem? (i := 151) rfl)) rfl
theorem wc_X1_explains : Cond.code yX1_explains cX1_explains 8 (some .boolean) ∈ zG := zgm (zt5 (List.mem_of_getElem? (i := 152) rfl)) rfl
theorem wmn_X1_37 : Cond.methodLinkNest RX1 37 yX4_allowanceOf "SheetFolds" ∈ lw_tbl := (zt5 (List.mem_of_getElem? (i := 153) rfl))
theorem wmn_X1_40 : Cond.methodLinkNest RX1 40 yX4_lengthOf "SheetFolds" ∈ lw_tbl := (zt5 (List.mem_of_getElem? (i := 154) rfl))
theorem wmn_X1_43 : Cond.methodLinkNest RX1 43 yX4_timesInLength "SheetFolds" ∈ lw_tbl := (zt5 (List.mem_of_getElem? (i := 155) rfl))
theorem wi_X4_timesInLength : Cond.instanceMethod yX4_timesInLength ∈ zG := zgm (zt5 (List.mem_of_getElem? (i := 157) rfl)) rfl
theorem wc_X4_timesInLength : Cond.code yX4_timesInLength cX4_timesInLength 6 (some .int) ∈ zG := zgm (zt5 (List.mem_of_getElem? (i := 158) rfl)) rfl
theorem wm_L_162 : Cond.methodLink RL 162 yX8_tells ∈ zG := zgm (zt5 (List.mem_of_getElem? (i := 159) rfl)) rfl
theorem wi_X8_tells : Cond.instanceMethod yX8_tells ∈ zG := zgm (zt5 (List.mem_of_getElem? (i := 160) rfl)) rfl
theorem wse_X8_X8_tells : Cond.selects RX8 yX8_tells yX8_tells ∈ zG := zgm (zt5 (List.mem_of_getElem? (i := 161) rfl)) rfl
theorem wc_X8_tells : Cond.code yX8_tells cX8_tells 5 (some .int) ∈ zG := zgm (zt5 (List.mem_of_getElem? (i := 162) rfl)) rfl
theorem wmn_X8_345 : Cond.methodLinkNest RX8 345 yX1_tellingFlange "SheetFolds" ∈ lw_tbl := (zt5 (List.mem_of_getElem? (i := 163) rfl))
theorem wi_X1_tellingFlange : Cond.instanceMethod yX1_tellingFlange ∈ zG := zgm (zt5 (List.mem_of_getElem? (i := 165) rfl)) rfl
theorem wc_X1_tellingFlange : Cond.code yX1_tellingFlange cX1_tellingFlange 6 (some .int) ∈ zG := zgm (zt5 (List.mem_of_getElem? (i := 166) rfl)) rfl
theorem wm_X1_54 : Cond.methodLink RX1 54 yX1_mostLeft ∈ zG := zgm (zt5 (List.mem_of_getElem? (i := 167) rfl)) rfl
theorem wi_X1_mostLeft : Cond.instanceMethod yX1_mostLeft ∈ zG := zgm (zt5 (List.mem_of_getElem? (i := 169) rfl)) rfl
theorem wc_X1_mostLeft : Cond.code yX1_mostLeft cX1_mostLeft 5 (some .int) ∈ zG := zgm (zt5 (List.mem_of_getElem? (i := 170) rfl)) rfl
theorem wmn_X8_348 : Cond.methodLinkNest RX8 348 yX1_mostLeft "SheetFolds" ∈ lw_tbl := (zt5 (List.mem_of_getElem? (i := 171) rfl))
theorem wm_L_166 : Cond.methodLink RL 166 yX8_bend ∈ zG := zgm (zt5 (List.mem_of_getElem? (i := 172) rfl)) rfl
theorem wi_X8_bend : Cond.instanceMethod yX8_bend ∈ zG := zgm (zt5 (List.mem_of_getElem? (i := 173) rfl)) rfl
theorem wse_X8_X8_bend : Cond.selects RX8 yX8_bend yX8_bend ∈ zG := zgm (zt5 (List.mem_of_getElem? (i := 174) rfl)) rfl
theorem wc_X8_bend : Cond.code yX8_bend cX8_bend 3 (some .int) ∈ zG := zgm (zt5 (List.mem_of_getElem? (i := 175) rfl)) rfl
theorem wm_X8_352 : Cond.methodLink RX8 352 yX8_remember ∈ zG := zgm (zt5 (List.mem_of_getElem? (i := 176) rfl)) rfl
theorem wi_X8_remember : Cond.instanceMethod yX8_remember ∈ zG := zgm (zt5 (List.mem_of_getElem? (i := 178) rfl)) rfl
theorem wc_X8_remember : Cond.code yX8_remember cX8_remember 1 none ∈ zG := zgm (zt5 (List.mem_of_getElem? (i := 179) rfl)) rfl
theorem wmn_X8_377 : Cond.methodLinkNest RX8 377 yX0_keep "SheetFolds" ∈ lw_tbl := (zt5 (List.mem_of_getElem? (i := 180) rfl))
theorem wi_X0_keep : Cond.instanceMethod yX0_keep ∈ zG := zgm (zt5 (List.mem_of_getElem? (i := 182) rfl)) rfl
theorem wc_X0_keep : Cond.code yX0_keep cX0_keep 4 none ∈ zG := zgm (zt5 (List.mem_of_getElem? (i := 183) rfl)) rfl
theorem wm_X0_30 : Cond.methodLink RX0 30 (⟨"java/lang/System", "arraycopy", "(Ljava/lang/Object;ILjava/lang/Object;II)V"⟩ : MethodName) ∈ zG := zgm (zt5 (List.mem_of_getElem? (i := 184) rfl)) rfl
theorem wm_X0_39 : Cond.methodLink RX0 39 yJ9_min_7cf53 ∈ zG := zgm (zt5 (List.mem_of_getElem? (i := 185) rfl)) rfl
theorem wm_X8_355 : Cond.methodLink RX8 355 yX8_setMade ∈ zG := zgm (zt5 (List.mem_of_getElem? (i := 186) rfl)) rfl
theorem wi_X8_setMade : Cond.instanceMethod yX8_setMade ∈ zG := zgm (zt5 (List.mem_of_getElem? (i := 188) rfl)) rfl
theorem wc_X8_setMade : Cond.code yX8_setMade cX8_setMade 2 none ∈ zG := zgm (zt5 (List.mem_of_getElem? (i := 189) rfl)) rfl
theorem wm_L_170 : Cond.methodLink RL 170 yX8_open ∈ zG := zgm (zt5 (List.mem_of_getElem? (i := 190) rfl)) rfl
theorem wi_X8_open : Cond.instanceMethod yX8_open ∈ zG := zgm (zt5 (List.mem_of_getElem? (i := 191) rfl)) rfl
theorem wse_X8_X8_open : Cond.selects RX8 yX8_open yX8_open ∈ zG := zgm (zt5 (List.mem_of_getElem? (i := 192) rfl)) rfl
theorem wc_X8_open : Cond.code yX8_open cX8_open 2 (some .boolean) ∈ zG := zgm (zt5 (List.mem_of_getElem? (i := 193) rfl)) rfl
theorem wm_L_174 : Cond.methodLink RL 174 yX8_turn ∈ zG := zgm (zt5 (List.mem_of_getElem? (i := 194) rfl)) rfl
theorem wi_X8_turn : Cond.instanceMethod yX8_turn ∈ zG := zgm (zt5 (List.mem_of_getElem? (i := 195) rfl)) rfl
theorem wse_X8_X8_turn : Cond.selects RX8 yX8_turn yX8_turn ∈ zG := zgm (zt5 (List.mem_of_getElem? (i := 196) rfl)) rfl
theorem wc_X8_turn : Cond.code yX8_turn cX8_turn 2 (some .boolean) ∈ zG := zgm (zt5 (List.mem_of_getElem? (i := 197) rfl)) rfl
theorem wm_L_178 : Cond.methodLink RL 178 yX8_lay ∈ zG := zgm (zt5 (List.mem_of_getElem? (i := 198) rfl)) rfl
theorem wi_X8_lay : Cond.instanceMethod yX8_lay ∈ zG := zgm (zt5 (List.mem_of_getElem? (i := 199) rfl)) rfl
theorem wse_X8_X8_lay : Cond.selects RX8 yX8_lay yX8_lay ∈ zG := zgm (zt5 (List.mem_of_getElem? (i := 200) rfl)) rfl
theorem wc_X8_lay : Cond.code yX8_lay cX8_lay 2 (some .boolean) ∈ zG := zgm (zt5 (List.mem_of_getElem? (i := 201) rfl)) rfl
theorem wm_L_182 : Cond.methodLink RL 182 yX8_follow ∈ zG := zgm (zt5 (List.mem_of_getElem? (i := 202) rfl)) rfl
theorem wi_X8_follow : Cond.instanceMethod yX8_follow ∈ zG := zgm (zt5 (List.mem_of_getElem? (i := 203) rfl)) rfl
theorem wse_X8_X8_follow : Cond.selects RX8 yX8_follow yX8_follow ∈ zG := zgm (zt5 (List.mem_of_getElem? (i := 204) rfl)) rfl
theorem wc_X8_follow : Cond.code yX8_follow cX8_follow 2 (some .int) ∈ zG := zgm (zt5 (List.mem_of_getElem? (i := 205) rfl)) rfl
theorem wmn_X8_358 : Cond.methodLinkNest RX8 358 yX3_firstOfRow "SheetFolds" ∈ lw_tbl := (zt5 (List.mem_of_getElem? (i := 206) rfl))
theorem wi_X3_firstOfRow : Cond.instanceMethod yX3_firstOfRow ∈ zG := zgm (zt5 (List.mem_of_getElem? (i := 208) rfl)) rfl
theorem wc_X3_firstOfRow : Cond.code yX3_firstOfRow cX3_firstOfRow 4 (some .int) ∈ zG := zgm (zt5 (List.mem_of_getElem? (i := 209) rfl)) rfl
theorem wm_L_186 : Cond.methodLink RL 186 yX8_allow ∈ zG := zgm (zt5 (List.mem_of_getElem? (i := 210) rfl)) rfl
theorem wi_X8_allow : Cond.instanceMethod yX8_allow ∈ zG := zgm (zt5 (List.mem_of_getElem? (i := 211) rfl)) rfl
theorem wse_X8_X8_allow : Cond.selects RX8 yX8_allow yX8_allow ∈ zG := zgm (zt5 (List.mem_of_getElem? (i := 212) rfl)) rfl
theorem wc_X8_allow : Cond.code yX8_allow cX8_allow 4 (some .boolean) ∈ zG := zgm (zt5 (List.mem_of_getElem? (i := 213) rfl)) rfl
theorem wm_L_191 : Cond.methodLink RL 191 yX8_press ∈ zG := zgm (zt5 (List.mem_of_getElem? (i := 214) rfl)) rfl
theorem wi_X8_press : Cond.instanceMethod yX8_press ∈ zG := zgm (zt5 (List.mem_of_getElem? (i := 215) rfl)) rfl
theorem wse_X8_X8_press : Cond.selects RX8 yX8_press yX8_press ∈ zG := zgm (zt5 (List.mem_of_getElem? (i := 216) rfl)) rfl
theorem wc_X8_press : Cond.code yX8_press cX8_press 2 (some .boolean) ∈ zG := zgm (zt5 (List.mem_of_getElem? (i := 217) rfl)) rfl
theorem wm_L_195 : Cond.methodLink RL 195 yX8_chance ∈ zG := zgm (zt5 (List.mem_of_getElem? (i := 218) rfl)) rfl
theorem wi_X8_chance : Cond.instanceMethod yX8_chance ∈ zG := zgm (zt5 (List.mem_of_getElem? (i := 219) rfl)) rfl
theorem wse_X8_X8_chance : Cond.selects RX8 yX8_chance yX8_chance ∈ zG := zgm (zt5 (List.mem_of_getElem? (i := 220) rfl)) rfl
theorem wc_X8_chance : Cond.code yX8_chance cX8_chance 3 (some .int) ∈ zG := zgm (zt5 (List.mem_of_getElem? (i := 221) rfl)) rfl
theorem wm_X8_368 : Cond.methodLink RX8 368 yX8_draw ∈ zG := zgm (zt5 (List.mem_of_getElem? (i := 222) rfl)) rfl
theorem wi_X8_draw : Cond.instanceMethod yX8_draw ∈ zG := zgm (zt5 (List.mem_of_getElem? (i := 224) rfl)) rfl
theorem wc_X8_draw : Cond.code yX8_draw cX8_draw 2 (some .int) ∈ zG := zgm (zt5 (List.mem_of_getElem? (i := 225) rfl)) rfl
theorem wk_X8_383 : Cond.constantLong RX8 383 (1103515245) ∈ zG := zgm (zt5 (List.mem_of_getElem? (i := 226) rfl)) rfl
theorem wk_X8_385 : Cond.constantLong RX8 385 (12345) ∈ zG := zgm (zt5 (List.mem_of_getElem? (i := 227) rfl)) rfl
theorem wk_X8_387 : Cond.constantLong RX8 387 (2147483647) ∈ zG := zgm (zt5 (List.mem_of_getElem? (i := 228) rfl)) rfl
theorem wm_X8_371 : Cond.methodLink RX8 371 yX8_tryOne ∈ zG := zgm (zt5 (List.mem_of_getElem? (i := 229) rfl)) rfl
theorem wi_X8_tryOne : Cond.instanceMethod yX8_tryOne ∈ zG := zgm (zt5 (List.mem_of_getElem? (i := 231) rfl)) rfl
theorem wc_X8_tryOne : Cond.code yX8_tryOne cX8_tryOne 2 none ∈ zG := zgm (zt5 (List.mem_of_getElem? (i := 232) rfl)) rfl
theorem wm_L_199 : Cond.methodLink RL 199 yX8_undo ∈ zG := zgm (zt5 (List.mem_of_getElem? (i := 233) rfl)) rfl
theorem wi_X8_undo : Cond.instanceMethod yX8_undo ∈ zG := zgm (zt5 (List.mem_of_getElem? (i := 234) rfl)) rfl
theorem wse_X8_X8_undo : Cond.selects RX8 yX8_undo yX8_undo ∈ zG := zgm (zt5 (List.mem_of_getElem? (i := 235) rfl)) rfl
theorem wc_X8_undo : Cond.code yX8_undo cX8_undo 1 (some .boolean) ∈ zG := zgm (zt5 (List.mem_of_getElem? (i := 236) rfl)) rfl
theorem wmn_X8_374 : Cond.methodLinkNest RX8 374 yX0_takeBack "SheetFolds" ∈ lw_tbl := (zt5 (List.mem_of_getElem? (i := 237) rfl))
theorem wi_X0_takeBack : Cond.instanceMethod yX0_takeBack ∈ zG := zgm (zt5 (List.mem_of_getElem? (i := 239) rfl)) rfl
theorem wc_X0_takeBack : Cond.code yX0_takeBack cX0_takeBack 3 (some .int) ∈ zG := zgm (zt6 (List.mem_of_getElem? (i := 0) rfl)) rfl
theorem wm_X0_45 : Cond.methodLink RX0 45 yJ9_max_7cf53 ∈ zG := zgm (zt6 (List.mem_of_getElem? (i := 1) rfl)) rfl
theorem wm_L_204 : Cond.methodLink RL 204 yX8_seed ∈ zG := zgm (zt6 (List.mem_of_getElem? (i := 2) rfl)) rfl
theorem wi_X8_seed : Cond.instanceMethod yX8_seed ∈ zG := zgm (zt6 (List.mem_of_getElem? (i := 3) rfl)) rfl
theorem wse_X8_X8_seed : Cond.selects RX8 yX8_seed yX8_seed ∈ zG := zgm (zt6 (List.mem_of_getElem? (i := 4) rfl)) rfl
theorem wc_X8_seed : Cond.code yX8_seed cX8_seed 2 (some .boolean) ∈ zG := zgm (zt6 (List.mem_of_getElem? (i := 5) rfl)) rfl
theorem wm_L_208 : Cond.methodLink RL 208 yX8_status ∈ zG := zgm (zt6 (List.mem_of_getElem? (i := 6) rfl)) rfl
theorem wi_X8_status : Cond.instanceMethod yX8_status ∈ zG := zgm (zt6 (List.mem_of_getElem? (i := 7) rfl)) rfl
theorem wse_X8_X8_status : Cond.selects RX8 yX8_status yX8_status ∈ zG := zgm (zt6 (List.mem_of_getElem? (i := 8) rfl)) rfl
theorem wc_X8_status : Cond.code yX8_status cX8_status 2 (some .int) ∈ zG := zgm (zt6 (List.mem_of_getElem? (i := 9) rfl)) rfl
theorem wcl_L_10 : Cond.classLink RL 10 RX9 ∈ zG := zgm (zt6 (List.mem_of_getElem? (i := 10) rfl)) rfl
theorem wob_X9 : Cond.instantiable RX9 37 ∈ zG := zgm (zt6 (List.mem_of_getElem? (i := 11) rfl)) rfl
theorem wm_L_12 : Cond.methodLink RL 12 yX9_init ∈ zG := zgm (zt6 (List.mem_of_getElem? (i := 12) rfl)) rfl
theorem wi_X9_init : Cond.instanceMethod yX9_init ∈ zG := zgm (zt6 (List.mem_of_getElem? (i := 13) rfl)) rfl
theorem wc_X9_init : Cond.code yX9_init cX9_init 1 none ∈ zG := zgm (zt6 (List.mem_of_getElem? (i := 14) rfl)) rfl
theorem wm_X9_1 : Cond.methodLink RX9 1 objectInit ∈ zG := zgm (zt6 (List.mem_of_getElem? (i := 15) rfl)) rfl
theorem wf_X9_7 : Cond.fieldLink RX9 7 "SheetFoldsModel" "told" "[I" ∈ zG := zgm (zt6 (List.mem_of_getElem? (i := 16) rfl)) rfl
theorem wf_X9_13 : Cond.fieldLink RX9 13 "SheetFoldsModel" "read" "[I" ∈ zG := zgm (zt6 (List.mem_of_getElem? (i := 17) rfl)) rfl
theorem wf_X9_16 : Cond.fieldLink RX9 16 "SheetFoldsModel" "now" "[I" ∈ zG := zgm (zt6 (List.mem_of_getElem? (i := 18) rfl)) rfl
theorem wf_X9_19 : Cond.fieldLink RX9 19 "SheetFoldsModel" "readNow" "[I" ∈ zG := zgm (zt6 (List.mem_of_getElem? (i := 19) rfl)) rfl
theorem wf_X9_22 : Cond.fieldLink RX9 22 "SheetFoldsModel" "kept" "[I" ∈ zG := zgm (zt6 (List.mem_of_getElem? (i := 20) rfl)) rfl
theorem wf_X9_25 : Cond.fieldLink RX9 25 "SheetFoldsModel" "undone" "I" ∈ zG := zgm (zt6 (List.mem_of_getElem? (i := 21) rfl)) rfl
theorem wf_X9_29 : Cond.fieldLink RX9 29 "SheetFoldsModel" "seed" "I" ∈ zG := zgm (zt6 (List.mem_of_getElem? (i := 22) rfl)) rfl
theorem wf_X9_32 : Cond.fieldLink RX9 32 "SheetFoldsModel" "hasPart" "Z" ∈ zG := zgm (zt6 (List.mem_of_getElem? (i := 23) rfl)) rfl
theorem wf_X9_36 : Cond.fieldLink RX9 36 "SheetFoldsModel" "tape" "[I" ∈ zG := zgm (zt6 (List.mem_of_getElem? (i := 24) rfl)) rfl
theorem wf_X9_39 : Cond.fieldLink RX9 39 "SheetFoldsModel" "taped" "I" ∈ zG := zgm (zt6 (List.mem_of_getElem? (i := 25) rfl)) rfl
theorem wf_X9_42 : Cond.fieldLink RX9 42 "SheetFoldsModel" "refused" "[I" ∈ zG := zgm (zt6 (List.mem_of_getElem? (i := 26) rfl)) rfl
theorem wf_X9_45 : Cond.fieldLink RX9 45 "SheetFoldsModel" "faultKind" "I" ∈ zG := zgm (zt6 (List.mem_of_getElem? (i := 27) rfl)) rfl
theorem wf_X9_48 : Cond.fieldLink RX9 48 "SheetFoldsModel" "faultPlace" "I" ∈ zG := zgm (zt6 (List.mem_of_getElem? (i := 28) rfl)) rfl
theorem wf_X9_51 : Cond.fieldLink RX9 51 "SheetFoldsModel" "size" "I" ∈ zG := zgm (zt6 (List.mem_of_getElem? (i := 29) rfl)) rfl
theorem wf_X9_54 : Cond.fieldLink RX9 54 "SheetFoldsModel" "at" "I" ∈ zG := zgm (zt6 (List.mem_of_getElem? (i := 30) rfl)) rfl
theorem wf_X9_57 : Cond.fieldLink RX9 57 "SheetFoldsModel" "from" "I" ∈ zG := zgm (zt6 (List.mem_of_getElem? (i := 31) rfl)) rfl
theorem wf_X9_60 : Cond.fieldLink RX9 60 "SheetFoldsModel" "wrong" "I" ∈ zG := zgm (zt6 (List.mem_of_getElem? (i := 32) rfl)) rfl
theorem wf_X9_63 : Cond.fieldLink RX9 63 "SheetFoldsModel" "wrongAt" "I" ∈ zG := zgm (zt6 (List.mem_of_getElem? (i := 33) rfl)) rfl
theorem wf_X9_66 : Cond.fieldLink RX9 66 "SheetFoldsModel" "ownLetters" "[I" ∈ zG := zgm (zt6 (List.mem_of_getElem? (i := 34) rfl)) rfl
theorem wf_X9_69 : Cond.fieldLink RX9 69 "SheetFoldsModel" "flats" "[I" ∈ zG := zgm (zt6 (List.mem_of_getElem? (i := 35) rfl)) rfl
theorem wf_X9_72 : Cond.fieldLink RX9 72 "SheetFoldsModel" "isLaid" "Z" ∈ zG := zgm (zt6 (List.mem_of_getElem? (i := 36) rfl)) rfl
theorem wf_X9_75 : Cond.fieldLink RX9 75 "SheetFoldsModel" "corner" "[I" ∈ zG := zgm (zt6 (List.mem_of_getElem? (i := 37) rfl)) rfl
theorem wf_X9_78 : Cond.fieldLink RX9 78 "SheetFoldsModel" "wayX" "[I" ∈ zG := zgm (zt6 (List.mem_of_getElem? (i := 38) rfl)) rfl
theorem wf_X9_81 : Cond.fieldLink RX9 81 "SheetFoldsModel" "wayY" "[I" ∈ zG := zgm (zt6 (List.mem_of_getElem? (i := 39) rfl)) rfl
theorem wf_X9_84 : Cond.fieldLink RX9 84 "SheetFoldsModel" "normal" "[I" ∈ zG := zgm (zt6 (List.mem_of_getElem? (i := 40) rfl)) rfl
theorem wf_X9_87 : Cond.fieldLink RX9 87 "SheetFoldsModel" "low" "[I" ∈ zG := zgm (zt6 (List.mem_of_getElem? (i := 41) rfl)) rfl
theorem wf_X9_90 : Cond.fieldLink RX9 90 "SheetFoldsModel" "high" "[I" ∈ zG := zgm (zt6 (List.mem_of_getElem? (i := 42) rfl)) rfl
theorem wf_X9_93 : Cond.fieldLink RX9 93 "SheetFoldsModel" "clear" "[I" ∈ zG := zgm (zt6 (List.mem_of_getElem? (i := 43) rfl)) rfl
theorem wf_X9_96 : Cond.fieldLink RX9 96 "SheetFoldsModel" "ways" "[I" ∈ zG := zgm (zt6 (List.mem_of_getElem? (i := 44) rfl)) rfl
theorem wf_X9_99 : Cond.fieldLink RX9 99 "SheetFoldsModel" "canBe" "[Z" ∈ zG := zgm (zt6 (List.mem_of_getElem? (i := 45) rfl)) rfl
theorem wf_X9_103 : Cond.fieldLink RX9 103 "SheetFoldsModel" "lain" "[I" ∈ zG := zgm (zt6 (List.mem_of_getElem? (i := 46) rfl)) rfl
theorem wf_X9_106 : Cond.fieldLink RX9 106 "SheetFoldsModel" "canTool" "I" ∈ zG := zgm (zt6 (List.mem_of_getElem? (i := 47) rfl)) rfl
theorem wf_X9_109 : Cond.fieldLink RX9 109 "SheetFoldsModel" "fewestBy" "[I" ∈ zG := zgm (zt6 (List.mem_of_getElem? (i := 48) rfl)) rfl
theorem wf_X9_112 : Cond.fieldLink RX9 112 "SheetFoldsModel" "sortOf" "[I" ∈ zG := zgm (zt6 (List.mem_of_getElem? (i := 49) rfl)) rfl
theorem wf_X9_115 : Cond.fieldLink RX9 115 "SheetFoldsModel" "rows" "I" ∈ zG := zgm (zt6 (List.mem_of_getElem? (i := 50) rfl)) rfl
theorem wf_X9_118 : Cond.fieldLink RX9 118 "SheetFoldsModel" "seenFlange" "[I" ∈ zG := zgm (zt6 (List.mem_of_getElem? (i := 51) rfl)) rfl
theorem wf_X9_121 : Cond.fieldLink RX9 121 "SheetFoldsModel" "seenLength" "[I" ∈ zG := zgm (zt6 (List.mem_of_getElem? (i := 52) rfl)) rfl
theorem war_boolean : Cond.arrayClass .boolean ∈ zG := zgm (zt6 (List.mem_of_getElem? (i := 128) rfl)) rfl
theorem wm_L_17 : Cond.methodLink RL 17 yX9_feed ∈ zG := zgm (zt6 (List.mem_of_getElem? (i := 129) rfl)) rfl
theorem wi_X9_feed : Cond.instanceMethod yX9_feed ∈ zG := zgm (zt6 (List.mem_of_getElem? (i := 130) rfl)) rfl
theorem wse_X9_X9_feed : Cond.selects RX9 yX9_feed yX9_feed ∈ zG := zgm (zt6 (List.mem_of_getElem? (i := 131) rfl)) rfl
theorem wc_X9_feed : Cond.code yX9_feed cX9_feed 6 (some .int) ∈ zG := zgm (zt6 (List.mem_of_getElem? (i := 132) rfl)) rfl
theorem wm_X9_124 : Cond.methodLink RX9 124 yX9_refuses ∈ zG := zgm (zt6 (List.mem_of_getElem? (i := 133) rfl)) rfl
theorem wi_X9_refuses : Cond.instanceMethod yX9_refuses ∈ zG := zgm (zt6 (List.mem_of_getElem? (i := 135) rfl)) rfl
theorem wc_X9_refuses : Cond.code yX9_refuses cX9_refuses 2 (some .int) ∈ zG := zgm (zt6 (List.mem_of_getElem? (i := 136) rfl)) rfl
theorem wm_X9_128 : Cond.methodLink RX9 128 yX9_lays ∈ zG := zgm (zt6 (List.mem_of_getElem? (i := 137) rfl)) rfl
theorem wi_X9_lays : Cond.instanceMethod yX9_lays ∈ zG := zgm (zt6 (List.mem_of_getElem? (i := 139) rfl)) rfl
theorem wc_X9_lays : Cond.code yX9_lays cX9_lays 3 none ∈ zG := zgm (zt6 (List.mem_of_getElem? (i := 140) rfl)) rfl
theorem wm_L_22 : Cond.methodLink RL 22 yX9_end ∈ zG := zgm (zt6 (List.mem_of_getElem? (i := 141) rfl)) rfl
theorem wi_X9_end : Cond.instanceMethod yX9_end ∈ zG := zgm (zt6 (List.mem_of_getElem? (i := 142) rfl)) rfl
theorem wse_X9_X9_end : Cond.selects RX9 yX9_end yX9_end ∈ zG := zgm (zt6 (List.mem_of_getElem? (i := 143) rfl)) rfl
theorem wc_X9_end : Cond.code yX9_end cX9_end 2 (some .boolean) ∈ zG := zgm (zt6 (List.mem_of_getElem? (i := 144) rfl)) rfl
theorem wm_X9_132 : Cond.methodLink RX9 132 yX9_isRefused ∈ zG := zgm (zt6 (List.mem_of_getElem? (i := 145) rfl)) rfl
theorem wi_X9_isRefused : Cond.instanceMethod yX9_isRefused ∈ zG := zgm (zt6 (List.mem_of_getElem? (i := 147) rfl)) rfl
theorem wc_X9_isRefused : Cond.code yX9_isRefused cX9_isRefused 2 (some .boolean) ∈ zG := zgm (zt6 (List.mem_of_getElem? (i := 148) rfl)) rfl
theorem wm_L_27 : Cond.methodLink RL 27 yX9_part ∈ zG := zgm (zt6 (List.mem_of_getElem? (i := 149) rfl)) rfl
theorem wi_X9_part : Cond.instanceMethod yX9_part ∈ zG := zgm (zt6 (List.mem_of_getElem? (i := 150) rfl)) rfl
theorem wse_X9_X9_part : Cond.selects RX9 yX9_part yX9_part ∈ zG := zgm (zt6 (List.mem_of_getElem? (i := 151) rfl)) rfl
theorem wc_X9_part : Cond.code yX9_part cX9_part 3 (some .int) ∈ zG := zgm (zt6 (List.mem_of_getElem? (i := 152) rfl)) rfl
theorem wm_X9_210 : Cond.methodLink RX9 210 yX9_taken ∈ zG := zgm (zt6 (List.mem_of_getElem? (i := 153) rfl)) rfl
theorem wi_X9_taken : Cond.instanceMethod yX9_taken ∈ zG := zgm (zt6 (List.mem_of_getElem? (i := 155) rfl)) rfl
theorem wc_X9_taken : Cond.code yX9_taken cX9_taken 2 (some .int) ∈ zG := zgm (zt6 (List.mem_of_getElem? (i := 156) rfl)) rfl
theorem wm_X9_213 : Cond.methodLink RX9 213 yX9_readsAll ∈ zG := zgm (zt6 (List.mem_of_getElem? (i := 157) rfl)) rfl
theorem wi_X9_readsAll : Cond.instanceMethod yX9_readsAll ∈ zG := zgm (zt6 (List.mem_of_getElem? (i := 159) rfl)) rfl
theorem wc_X9_readsAll : Cond.code yX9_readsAll cX9_readsAll 3 (some .int) ∈ zG := zgm (zt6 (List.mem_of_getElem? (i := 160) rfl)) rfl
theorem wm_X9_167 : Cond.methodLink RX9 167 yX9_must ∈ zG := zgm (zt6 (List.mem_of_getElem? (i := 161) rfl)) rfl
theorem wi_X9_must : Cond.instanceMethod yX9_must ∈ zG := zgm (zt6 (List.mem_of_getElem? (i := 163) rfl)) rfl
theorem wc_X9_must : Cond.code yX9_must cX9_must 2 none ∈ zG := zgm (zt6 (List.mem_of_getElem? (i := 164) rfl)) rfl
theorem wm_X9_157 : Cond.methodLink RX9 157 yX9_word ∈ zG := zgm (zt6 (List.mem_of_getElem? (i := 165) rfl)) rfl
theorem wi_X9_word : Cond.instanceMethod yX9_word ∈ zG := zgm (zt6 (List.mem_of_getElem? (i := 167) rfl)) rfl
theorem wc_X9_word : Cond.code yX9_word cX9_word 1 none ∈ zG := zgm (zt6 (List.mem_of_getElem? (i := 168) rfl)) rfl
theorem wm_X9_139 : Cond.methodLink RX9 139 yX9_goesWell ∈ zG := zgm (zt6 (List.mem_of_getElem? (i := 169) rfl)) rfl
theorem wi_X9_goesWell : Cond.instanceMethod yX9_goesWell ∈ zG := zgm (zt6 (List.mem_of_getElem? (i := 171) rfl)) rfl
theorem wc_X9_goesWell : Cond.code yX9_goesWell cX9_goesWell 1 (some .boolean) ∈ zG := zgm (zt6 (List.mem_of_getElem? (i := 172) rfl)) rfl
theorem wm_X9_143 : Cond.methodLink RX9 143 yX9_here ∈ zG := zgm (zt6 (List.mem_of_getElem? (i := 173) rfl)) rfl
theorem wi_X9_here : Cond.instanceMethod yX9_here ∈ zG := zgm (zt6 (List.mem_of_getElem? (i := 175) rfl)) rfl
theorem wc_X9_here : Cond.code yX9_here cX9_here 1 (some .int) ∈ zG := zgm (zt6 (List.mem_of_getElem? (i := 176) rfl)) rfl
theorem wm_X9_136 : Cond.methodLink RX9 136 yX9_byteAt ∈ zG := zgm (zt6 (List.mem_of_getElem? (i := 177) rfl)) rfl
theorem wi_X9_byteAt : Cond.instanceMethod yX9_byteAt ∈ zG := zgm (zt6 (List.mem_of_getElem? (i := 179) rfl)) rfl
theorem wc_X9_byteAt : Cond.code yX9_byteAt cX9_byteAt 2 (some .int) ∈ zG := zgm (zt6 (List.mem_of_getElem? (i := 180) rfl)) rfl
theorem wm_X9_147 : Cond.methodLink RX9 147 yX9_isSmall ∈ zG := zgm (zt6 (List.mem_of_getElem? (i := 181) rfl)) rfl
theorem wi_X9_isSmall : Cond.instanceMethod yX9_isSmall ∈ zG := zgm (zt6 (List.mem_of_getElem? (i := 183) rfl)) rfl
theorem wc_X9_isSmall : Cond.code yX9_isSmall cX9_isSmall 2 (some .boolean) ∈ zG := zgm (zt6 (List.mem_of_getElem? (i := 184) rfl)) rfl
theorem wm_X9_150 : Cond.methodLink RX9 150 yX9_isDigit ∈ zG := zgm (zt6 (List.mem_of_getElem? (i := 185) rfl)) rfl
theorem wi_X9_isDigit : Cond.instanceMethod yX9_isDigit ∈ zG := zgm (zt6 (List.mem_of_getElem? (i := 187) rfl)) rfl
theorem wc_X9_isDigit : Cond.code yX9_isDigit cX9_isDigit 2 (some .boolean) ∈ zG := zgm (zt6 (List.mem_of_getElem? (i := 188) rfl)) rfl
theorem wm_X9_153 : Cond.methodLink RX9 153 yX9_faults ∈ zG := zgm (zt6 (List.mem_of_getElem? (i := 189) rfl)) rfl
theorem wi_X9_faults : Cond.instanceMethod yX9_faults ∈ zG := zgm (zt6 (List.mem_of_getElem? (i := 191) rfl)) rfl
theorem wc_X9_faults : Cond.code yX9_faults cX9_faults 3 none ∈ zG := zgm (zt6 (List.mem_of_getElem? (i := 192) rfl)) rfl
theorem wm_X9_160 : Cond.methodLink RX9 160 yX9_own ∈ zG := zgm (zt6 (List.mem_of_getElem? (i := 193) rfl)) rfl
theorem wi_X9_own : Cond.instanceMethod yX9_own ∈ zG := zgm (zt6 (List.mem_of_getElem? (i := 195) rfl)) rfl
theorem wc_X9_own : Cond.code yX9_own cX9_own 4 (some .int) ∈ zG := zgm (zt6 (List.mem_of_getElem? (i := 196) rfl)) rfl
theorem wm_X9_193 : Cond.methodLink RX9 193 yX9_after ∈ zG := zgm (zt6 (List.mem_of_getElem? (i := 197) rfl)) rfl
theorem wi_X9_after : Cond.instanceMethod yX9_after ∈ zG := zgm (zt6 (List.mem_of_getElem? (i := 199) rfl)) rfl
theorem wc_X9_after : Cond.code yX9_after cX9_after 4 (some .int) ∈ zG := zgm (zt6 (List.mem_of_getElem? (i := 200) rfl)) rfl
theorem wm_X9_170 : Cond.methodLink RX9 170 yX9_number ∈ zG := zgm (zt6 (List.mem_of_getElem? (i := 201) rfl)) rfl
theorem wi_X9_number : Cond.instanceMethod yX9_number ∈ zG := zgm (zt6 (List.mem_of_getElem? (i := 203) rfl)) rfl
theorem wc_X9_number : Cond.code yX9_number cX9_number 4 (some .int) ∈ zG := zgm (zt6 (List.mem_of_getElem? (i := 204) rfl)) rfl
theorem wm_X9_163 : Cond.methodLink RX9 163 yX9_isIn ∈ zG := zgm (zt6 (List.mem_of_getElem? (i := 205) rfl)) rfl
theorem ws_X9_isIn : Cond.static yX9_isIn ∈ zG := zgm (zt6 (List.mem_of_getElem? (i := 206) rfl)) rfl
theorem wc_X9_isIn : Cond.code yX9_isIn cX9_isIn 3 (some .boolean) ∈ zG := zgm (zt6 (List.mem_of_getElem? (i := 207) rfl)) rfl
theorem wm_X9_204 : Cond.methodLink RX9 204 yX9_endsWell ∈ zG := zgm (zt6 (List.mem_of_getElem? (i := 208) rfl)) rfl
theorem wi_X9_endsWell : Cond.instanceMethod yX9_endsWell ∈ zG := zgm (zt6 (List.mem_of_getElem? (i := 210) rfl)) rfl
theorem wc_X9_endsWell : Cond.code yX9_endsWell cX9_endsWell 1 none ∈ zG := zgm (zt6 (List.mem_of_getElem? (i := 211) rfl)) rfl
theorem wm_X9_207 : Cond.methodLink RX9 207 yX9_readsLine ∈ zG := zgm (zt6 (List.mem_of_getElem? (i := 212) rfl)) rfl
theorem wi_X9_readsLine : Cond.instanceMethod yX9_readsLine ∈ zG := zgm (zt6 (List.mem_of_getElem? (i := 214) rfl)) rfl
theorem wc_X9_readsLine : Cond.code yX9_readsLine cX9_readsLine 4 none ∈ zG := zgm (zt6 (List.mem_of_getElem? (i := 215) rfl)) rfl
theorem wm_X9_201 : Cond.methodLink RX9 201 yX9_readsFlange ∈ zG := zgm (zt6 (List.mem_of_getElem? (i := 216) rfl)) rfl
theorem wi_X9_readsFlange : Cond.instanceMethod yX9_readsFlange ∈ zG := zgm (zt6 (List.mem_of_getElem? (i := 218) rfl)) rfl
theorem wc_X9_readsFlange : Cond.code yX9_readsFlange cX9_readsFlange 5 none ∈ zG := zgm (zt6 (List.mem_of_getElem? (i := 219) rfl)) rfl
theorem wm_X9_187 : Cond.methodLink RX9 187 yX9_name ∈ zG := zgm (zt6 (List.mem_of_getElem? (i := 220) rfl)) rfl
theorem wi_X9_name : Cond.instanceMethod yX9_name ∈ zG := zgm (zt6 (List.mem_of_getElem? (i := 222) rfl)) rfl
theorem wc_X9_name : Cond.code yX9_name cX9_name 1 none ∈ zG := zgm (zt6 (List.mem_of_getElem? (i := 223) rfl)) rfl
theorem wm_X9_190 : Cond.methodLink RX9 190 yX9_named ∈ zG := zgm (zt6 (List.mem_of_getElem? (i := 224) rfl)) rfl
theorem wi_X9_named : Cond.instanceMethod yX9_named ∈ zG := zgm (zt6 (List.mem_of_getElem? (i := 226) rfl)) rfl
theorem wc_X9_named : Cond.code yX9_named cX9_named 4 (some .int) ∈ zG := zgm (zt6 (List.mem_of_getElem? (i := 227) rfl)) rfl
theorem wm_X9_174 : Cond.methodLink RX9 174 yX9_signAt ∈ zG := zgm (zt6 (List.mem_of_getElem? (i := 228) rfl)) rfl
theorem wi_X9_signAt : Cond.instanceMethod yX9_signAt ∈ zG := zgm (zt6 (List.mem_of_getElem? (i := 230) rfl)) rfl
theorem wc_X9_signAt : Cond.code yX9_signAt cX9_signAt 2 (some .int) ∈ zG := zgm (zt6 (List.mem_of_getElem? (i := 231) rfl)) rfl
theorem wm_X9_197 : Cond.methodLink RX9 197 yX9_readsWidth ∈ zG := zgm (zt6 (List.mem_of_getElem? (i := 232) rfl)) rfl
theorem wi_X9_readsWidth : Cond.instanceMethod yX9_readsWidth ∈ zG := zgm (zt6 (List.mem_of_getElem? (i := 234) rfl)) rfl
theorem wc_X9_readsWidth : Cond.code yX9_readsWidth cX9_readsWidth 7 none ∈ zG := zgm (zt6 (List.mem_of_getElem? (i := 235) rfl)) rfl
theorem wm_X9_177 : Cond.methodLink RX9 177 yX9_sideOf ∈ zG := zgm (zt6 (List.mem_of_getElem? (i := 236) rfl)) rfl
theorem ws_X9_sideOf : Cond.static yX9_sideOf ∈ zG := zgm (zt6 (List.mem_of_getElem? (i := 237) rfl)) rfl
theorem wc_X9_sideOf : Cond.code yX9_sideOf cX9_sideOf 4 (some .int) ∈ zG := zgm (zt6 (List.mem_of_getElem? (i := 238) rfl)) rfl
theorem wm_X9_181 : Cond.methodLink RX9 181 yX9_lesser ∈ zG := zgm (zt6 (List.mem_of_getElem? (i := 239) rfl)) rfl
theorem ws_X9_lesser : Cond.static yX9_lesser ∈ zG := zgm (zt7 (List.mem_of_getElem? (i := 0) rfl)) rfl
theorem wc_X9_lesser : Cond.code yX9_lesser cX9_lesser 2 (some .int) ∈ zG := zgm (zt7 (List.mem_of_getElem? (i := 1) rfl)) rfl
theorem wm_X9_184 : Cond.methodLink RX9 184 yX9_greater ∈ zG := zgm (zt7 (List.mem_of_getElem? (i := 2) rfl)) rfl
theorem ws_X9_greater : Cond.static yX9_greater ∈ zG := zgm (zt7 (List.mem_of_getElem? (i := 3) rfl)) rfl
theorem wc_X9_greater : Cond.code yX9_greater cX9_greater 2 (some .int) ∈ zG := zgm (zt7 (List.mem_of_getElem? (i := 4) rfl)) rfl
theorem wm_L_32 : Cond.methodLink RL 32 yX9_fault ∈ zG := zgm (zt7 (List.mem_of_getElem? (i := 5) rfl)) rfl
theorem wi_X9_fault : Cond.instanceMethod yX9_fault ∈ zG := zgm (zt7 (List.mem_of_getElem? (i := 6) rfl)) rfl
theorem wse_X9_X9_fault : Cond.selects RX9 yX9_fault yX9_fault ∈ zG := zgm (zt7 (List.mem_of_getElem? (i := 7) rfl)) rfl
theorem wc_X9_fault : Cond.code yX9_fault cX9_fault 2 (some .int) ∈ zG := zgm (zt7 (List.mem_of_getElem? (i := 8) rfl)) rfl
theorem wm_L_36 : Cond.methodLink RL 36 yX9_has ∈ zG := zgm (zt7 (List.mem_of_getElem? (i := 9) rfl)) rfl
theorem wi_X9_has : Cond.instanceMethod yX9_has ∈ zG := zgm (zt7 (List.mem_of_getElem? (i := 10) rfl)) rfl
theorem wse_X9_X9_has : Cond.selects RX9 yX9_has yX9_has ∈ zG := zgm (zt7 (List.mem_of_getElem? (i := 11) rfl)) rfl
theorem wc_X9_has : Cond.code yX9_has cX9_has 2 (some .int) ∈ zG := zgm (zt7 (List.mem_of_getElem? (i := 12) rfl)) rfl
theorem wm_L_41 : Cond.methodLink RL 41 yX9_letter ∈ zG := zgm (zt7 (List.mem_of_getElem? (i := 13) rfl)) rfl
theorem wi_X9_letter : Cond.instanceMethod yX9_letter ∈ zG := zgm (zt7 (List.mem_of_getElem? (i := 14) rfl)) rfl
theorem wse_X9_X9_letter : Cond.selects RX9 yX9_letter yX9_letter ∈ zG := zgm (zt7 (List.mem_of_getElem? (i := 15) rfl)) rfl
theorem wc_X9_letter : Cond.code yX9_letter cX9_letter 3 (some .int) ∈ zG := zgm (zt7 (List.mem_of_getElem? (i := 16) rfl)) rfl
theorem wm_X9_229 : Cond.methodLink RX9 229 yX9_isFlange ∈ zG := zgm (zt7 (List.mem_of_getElem? (i := 17) rfl)) rfl
theorem wi_X9_isFlange : Cond.instanceMethod yX9_isFlange ∈ zG := zgm (zt7 (List.mem_of_getElem? (i := 19) rfl)) rfl
theorem wc_X9_isFlange : Cond.code yX9_isFlange cX9_isFlange 2 (some .boolean) ∈ zG := zgm (zt7 (List.mem_of_getElem? (i := 20) rfl)) rfl
theorem wm_X9_219 : Cond.methodLink RX9 219 yX9_flangeMany ∈ zG := zgm (zt7 (List.mem_of_getElem? (i := 21) rfl)) rfl
theorem wi_X9_flangeMany : Cond.instanceMethod yX9_flangeMany ∈ zG := zgm (zt7 (List.mem_of_getElem? (i := 23) rfl)) rfl
theorem wc_X9_flangeMany : Cond.code yX9_flangeMany cX9_flangeMany 1 (some .int) ∈ zG := zgm (zt7 (List.mem_of_getElem? (i := 24) rfl)) rfl
theorem wm_L_45 : Cond.methodLink RL 45 yX9_flange ∈ zG := zgm (zt7 (List.mem_of_getElem? (i := 25) rfl)) rfl
theorem wi_X9_flange : Cond.instanceMethod yX9_flange ∈ zG := zgm (zt7 (List.mem_of_getElem? (i := 26) rfl)) rfl
theorem wse_X9_X9_flange : Cond.selects RX9 yX9_flange yX9_flange ∈ zG := zgm (zt7 (List.mem_of_getElem? (i := 27) rfl)) rfl
theorem wc_X9_flange : Cond.code yX9_flange cX9_flange 3 (some .int) ∈ zG := zgm (zt7 (List.mem_of_getElem? (i := 28) rfl)) rfl
theorem wm_X9_235 : Cond.methodLink RX9 235 yX9_isBend ∈ zG := zgm (zt7 (List.mem_of_getElem? (i := 29) rfl)) rfl
theorem wi_X9_isBend : Cond.instanceMethod yX9_isBend ∈ zG := zgm (zt7 (List.mem_of_getElem? (i := 31) rfl)) rfl
theorem wc_X9_isBend : Cond.code yX9_isBend cX9_isBend 2 (some .boolean) ∈ zG := zgm (zt7 (List.mem_of_getElem? (i := 32) rfl)) rfl
theorem wm_X9_216 : Cond.methodLink RX9 216 yX9_bendMany ∈ zG := zgm (zt7 (List.mem_of_getElem? (i := 33) rfl)) rfl
theorem wi_X9_bendMany : Cond.instanceMethod yX9_bendMany ∈ zG := zgm (zt7 (List.mem_of_getElem? (i := 35) rfl)) rfl
theorem wc_X9_bendMany : Cond.code yX9_bendMany cX9_bendMany 1 (some .int) ∈ zG := zgm (zt7 (List.mem_of_getElem? (i := 36) rfl)) rfl
theorem wm_X9_238 : Cond.methodLink RX9 238 yX9_hangMany ∈ zG := zgm (zt7 (List.mem_of_getElem? (i := 37) rfl)) rfl
theorem wi_X9_hangMany : Cond.instanceMethod yX9_hangMany ∈ zG := zgm (zt7 (List.mem_of_getElem? (i := 39) rfl)) rfl
theorem wc_X9_hangMany : Cond.code yX9_hangMany cX9_hangMany 4 (some .int) ∈ zG := zgm (zt7 (List.mem_of_getElem? (i := 40) rfl)) rfl
theorem wm_X9_241 : Cond.methodLink RX9 241 yX9_depthOf ∈ zG := zgm (zt7 (List.mem_of_getElem? (i := 41) rfl)) rfl
theorem wi_X9_depthOf : Cond.instanceMethod yX9_depthOf ∈ zG := zgm (zt7 (List.mem_of_getElem? (i := 43) rfl)) rfl
theorem wc_X9_depthOf : Cond.code yX9_depthOf cX9_depthOf 4 (some .int) ∈ zG := zgm (zt7 (List.mem_of_getElem? (i := 44) rfl)) rfl
theorem wm_X9_244 : Cond.methodLink RX9 244 yX9_lengthOf ∈ zG := zgm (zt7 (List.mem_of_getElem? (i := 45) rfl)) rfl
theorem wi_X9_lengthOf : Cond.instanceMethod yX9_lengthOf ∈ zG := zgm (zt7 (List.mem_of_getElem? (i := 47) rfl)) rfl
theorem wc_X9_lengthOf : Cond.code yX9_lengthOf cX9_lengthOf 4 (some .int) ∈ zG := zgm (zt7 (List.mem_of_getElem? (i := 48) rfl)) rfl
theorem wm_X9_232 : Cond.methodLink RX9 232 yX9_allowanceOf ∈ zG := zgm (zt7 (List.mem_of_getElem? (i := 49) rfl)) rfl
theorem wi_X9_allowanceOf : Cond.instanceMethod yX9_allowanceOf ∈ zG := zgm (zt7 (List.mem_of_getElem? (i := 51) rfl)) rfl
theorem wc_X9_allowanceOf : Cond.code yX9_allowanceOf cX9_allowanceOf 2 (some .int) ∈ zG := zgm (zt7 (List.mem_of_getElem? (i := 52) rfl)) rfl
theorem wm_L_49 : Cond.methodLink RL 49 yX9_tool ∈ zG := zgm (zt7 (List.mem_of_getElem? (i := 53) rfl)) rfl
theorem wi_X9_tool : Cond.instanceMethod yX9_tool ∈ zG := zgm (zt7 (List.mem_of_getElem? (i := 54) rfl)) rfl
theorem wse_X9_X9_tool : Cond.selects RX9 yX9_tool yX9_tool ∈ zG := zgm (zt7 (List.mem_of_getElem? (i := 55) rfl)) rfl
theorem wc_X9_tool : Cond.code yX9_tool cX9_tool 2 (some .int) ∈ zG := zgm (zt7 (List.mem_of_getElem? (i := 56) rfl)) rfl
theorem wm_L_53 : Cond.methodLink RL 53 yX9_allowance ∈ zG := zgm (zt7 (List.mem_of_getElem? (i := 57) rfl)) rfl
theorem wi_X9_allowance : Cond.instanceMethod yX9_allowance ∈ zG := zgm (zt7 (List.mem_of_getElem? (i := 58) rfl)) rfl
theorem wse_X9_X9_allowance : Cond.selects RX9 yX9_allowance yX9_allowance ∈ zG := zgm (zt7 (List.mem_of_getElem? (i := 59) rfl)) rfl
theorem wc_X9_allowance : Cond.code yX9_allowance cX9_allowance 2 (some .int) ∈ zG := zgm (zt7 (List.mem_of_getElem? (i := 60) rfl)) rfl
theorem wm_L_57 : Cond.methodLink RL 57 yX9_flat ∈ zG := zgm (zt7 (List.mem_of_getElem? (i := 61) rfl)) rfl
theorem wi_X9_flat : Cond.instanceMethod yX9_flat ∈ zG := zgm (zt7 (List.mem_of_getElem? (i := 62) rfl)) rfl
theorem wse_X9_X9_flat : Cond.selects RX9 yX9_flat yX9_flat ∈ zG := zgm (zt7 (List.mem_of_getElem? (i := 63) rfl)) rfl
theorem wc_X9_flat : Cond.code yX9_flat cX9_flat 3 (some .int) ∈ zG := zgm (zt7 (List.mem_of_getElem? (i := 64) rfl)) rfl
theorem wm_X9_251 : Cond.methodLink RX9 251 yX9_isPiece ∈ zG := zgm (zt7 (List.mem_of_getElem? (i := 65) rfl)) rfl
theorem wi_X9_isPiece : Cond.instanceMethod yX9_isPiece ∈ zG := zgm (zt7 (List.mem_of_getElem? (i := 67) rfl)) rfl
theorem wc_X9_isPiece : Cond.code yX9_isPiece cX9_isPiece 2 (some .boolean) ∈ zG := zgm (zt7 (List.mem_of_getElem? (i := 68) rfl)) rfl
theorem wk_X9_254 : Cond.constant RX9 254 (-1000000) ∈ zG := zgm (zt7 (List.mem_of_getElem? (i := 69) rfl)) rfl
theorem wm_X9_255 : Cond.methodLink RX9 255 yX9_laysFlat ∈ zG := zgm (zt7 (List.mem_of_getElem? (i := 70) rfl)) rfl
theorem wi_X9_laysFlat : Cond.instanceMethod yX9_laysFlat ∈ zG := zgm (zt7 (List.mem_of_getElem? (i := 72) rfl)) rfl
theorem wc_X9_laysFlat : Cond.code yX9_laysFlat cX9_laysFlat 3 none ∈ zG := zgm (zt7 (List.mem_of_getElem? (i := 73) rfl)) rfl
theorem wm_X9_247 : Cond.methodLink RX9 247 yX9_laysBehind ∈ zG := zgm (zt7 (List.mem_of_getElem? (i := 74) rfl)) rfl
theorem wi_X9_laysBehind : Cond.instanceMethod yX9_laysBehind ∈ zG := zgm (zt7 (List.mem_of_getElem? (i := 76) rfl)) rfl
theorem wc_X9_laysBehind : Cond.code yX9_laysBehind cX9_laysBehind 10 none ∈ zG := zgm (zt7 (List.mem_of_getElem? (i := 77) rfl)) rfl
theorem wm_L_61 : Cond.methodLink RL 61 yX9_flatBox ∈ zG := zgm (zt7 (List.mem_of_getElem? (i := 78) rfl)) rfl
theorem wi_X9_flatBox : Cond.instanceMethod yX9_flatBox ∈ zG := zgm (zt7 (List.mem_of_getElem? (i := 79) rfl)) rfl
theorem wse_X9_X9_flatBox : Cond.selects RX9 yX9_flatBox yX9_flatBox ∈ zG := zgm (zt7 (List.mem_of_getElem? (i := 80) rfl)) rfl
theorem wc_X9_flatBox : Cond.code yX9_flatBox cX9_flatBox 4 (some .int) ∈ zG := zgm (zt7 (List.mem_of_getElem? (i := 81) rfl)) rfl
theorem wm_L_65 : Cond.methodLink RL 65 yX9_overlap ∈ zG := zgm (zt7 (List.mem_of_getElem? (i := 82) rfl)) rfl
theorem wi_X9_overlap : Cond.instanceMethod yX9_overlap ∈ zG := zgm (zt7 (List.mem_of_getElem? (i := 83) rfl)) rfl
theorem wse_X9_X9_overlap : Cond.selects RX9 yX9_overlap yX9_overlap ∈ zG := zgm (zt7 (List.mem_of_getElem? (i := 84) rfl)) rfl
theorem wc_X9_overlap : Cond.code yX9_overlap cX9_overlap 6 (some .int) ∈ zG := zgm (zt7 (List.mem_of_getElem? (i := 85) rfl)) rfl
theorem wm_X9_258 : Cond.methodLink RX9 258 yX9_doOverlap ∈ zG := zgm (zt7 (List.mem_of_getElem? (i := 86) rfl)) rfl
theorem wi_X9_doOverlap : Cond.instanceMethod yX9_doOverlap ∈ zG := zgm (zt7 (List.mem_of_getElem? (i := 88) rfl)) rfl
theorem wc_X9_doOverlap : Cond.code yX9_doOverlap cX9_doOverlap 5 (some .boolean) ∈ zG := zgm (zt7 (List.mem_of_getElem? (i := 89) rfl)) rfl
theorem wm_L_69 : Cond.methodLink RL 69 yX9_space ∈ zG := zgm (zt7 (List.mem_of_getElem? (i := 90) rfl)) rfl
theorem wi_X9_space : Cond.instanceMethod yX9_space ∈ zG := zgm (zt7 (List.mem_of_getElem? (i := 91) rfl)) rfl
theorem wse_X9_X9_space : Cond.selects RX9 yX9_space yX9_space ∈ zG := zgm (zt7 (List.mem_of_getElem? (i := 92) rfl)) rfl
theorem wc_X9_space : Cond.code yX9_space cX9_space 3 (some .int) ∈ zG := zgm (zt7 (List.mem_of_getElem? (i := 93) rfl)) rfl
theorem wm_X9_294 : Cond.methodLink RX9 294 yX9_laysSpace ∈ zG := zgm (zt7 (List.mem_of_getElem? (i := 94) rfl)) rfl
theorem wi_X9_laysSpace : Cond.instanceMethod yX9_laysSpace ∈ zG := zgm (zt7 (List.mem_of_getElem? (i := 96) rfl)) rfl
theorem wc_X9_laysSpace : Cond.code yX9_laysSpace cX9_laysSpace 3 none ∈ zG := zgm (zt7 (List.mem_of_getElem? (i := 97) rfl)) rfl
theorem wm_X9_276 : Cond.methodLink RX9 276 yX9_laysEnds ∈ zG := zgm (zt7 (List.mem_of_getElem? (i := 98) rfl)) rfl
theorem wi_X9_laysEnds : Cond.instanceMethod yX9_laysEnds ∈ zG := zgm (zt7 (List.mem_of_getElem? (i := 100) rfl)) rfl
theorem wc_X9_laysEnds : Cond.code yX9_laysEnds cX9_laysEnds 7 none ∈ zG := zgm (zt7 (List.mem_of_getElem? (i := 101) rfl)) rfl
theorem wm_X9_225 : Cond.methodLink RX9 225 yX9_isOf ∈ zG := zgm (zt7 (List.mem_of_getElem? (i := 102) rfl)) rfl
theorem ws_X9_isOf : Cond.static yX9_isOf ∈ zG := zgm (zt7 (List.mem_of_getElem? (i := 103) rfl)) rfl
theorem wc_X9_isOf : Cond.code yX9_isOf cX9_isOf 2 (some .boolean) ∈ zG := zgm (zt7 (List.mem_of_getElem? (i := 104) rfl)) rfl
theorem wm_X9_279 : Cond.methodLink RX9 279 yX9_standsUp ∈ zG := zgm (zt7 (List.mem_of_getElem? (i := 105) rfl)) rfl
theorem wi_X9_standsUp : Cond.instanceMethod yX9_standsUp ∈ zG := zgm (zt7 (List.mem_of_getElem? (i := 107) rfl)) rfl
theorem wc_X9_standsUp : Cond.code yX9_standsUp cX9_standsUp 6 none ∈ zG := zgm (zt7 (List.mem_of_getElem? (i := 108) rfl)) rfl
theorem wm_X9_273 : Cond.methodLink RX9 273 yX9_goesToSide ∈ zG := zgm (zt7 (List.mem_of_getElem? (i := 109) rfl)) rfl
theorem wi_X9_goesToSide : Cond.instanceMethod yX9_goesToSide ∈ zG := zgm (zt7 (List.mem_of_getElem? (i := 111) rfl)) rfl
theorem wc_X9_goesToSide : Cond.code yX9_goesToSide cX9_goesToSide 5 none ∈ zG := zgm (zt7 (List.mem_of_getElem? (i := 112) rfl)) rfl
theorem wm_X9_261 : Cond.methodLink RX9 261 yX9_copiesCorner ∈ zG := zgm (zt7 (List.mem_of_getElem? (i := 113) rfl)) rfl
theorem wi_X9_copiesCorner : Cond.instanceMethod yX9_copiesCorner ∈ zG := zgm (zt7 (List.mem_of_getElem? (i := 115) rfl)) rfl
theorem wc_X9_copiesCorner : Cond.code yX9_copiesCorner cX9_copiesCorner 4 none ∈ zG := zgm (zt7 (List.mem_of_getElem? (i := 116) rfl)) rfl
theorem wm_X9_264 : Cond.methodLink RX9 264 yX9_moves ∈ zG := zgm (zt7 (List.mem_of_getElem? (i := 117) rfl)) rfl
theorem wi_X9_moves : Cond.instanceMethod yX9_moves ∈ zG := zgm (zt7 (List.mem_of_getElem? (i := 119) rfl)) rfl
theorem wc_X9_moves : Cond.code yX9_moves cX9_moves 5 none ∈ zG := zgm (zt7 (List.mem_of_getElem? (i := 120) rfl)) rfl
theorem wm_X9_267 : Cond.methodLink RX9 267 yX9_alongY ∈ zG := zgm (zt7 (List.mem_of_getElem? (i := 121) rfl)) rfl
theorem wi_X9_alongY : Cond.instanceMethod yX9_alongY ∈ zG := zgm (zt7 (List.mem_of_getElem? (i := 123) rfl)) rfl
theorem wc_X9_alongY : Cond.code yX9_alongY cX9_alongY 2 (some .int) ∈ zG := zgm (zt7 (List.mem_of_getElem? (i := 124) rfl)) rfl
theorem wm_X9_270 : Cond.methodLink RX9 270 yX9_alongX ∈ zG := zgm (zt7 (List.mem_of_getElem? (i := 125) rfl)) rfl
theorem wi_X9_alongX : Cond.instanceMethod yX9_alongX ∈ zG := zgm (zt7 (List.mem_of_getElem? (i := 127) rfl)) rfl
theorem wc_X9_alongX : Cond.code yX9_alongX cX9_alongX 2 (some .int) ∈ zG := zgm (zt7 (List.mem_of_getElem? (i := 128) rfl)) rfl
theorem wm_X9_282 : Cond.methodLink RX9 282 yX9_goesOnFlat ∈ zG := zgm (zt7 (List.mem_of_getElem? (i := 129) rfl)) rfl
theorem wi_X9_goesOnFlat : Cond.instanceMethod yX9_goesOnFlat ∈ zG := zgm (zt7 (List.mem_of_getElem? (i := 131) rfl)) rfl
theorem wc_X9_goesOnFlat : Cond.code yX9_goesOnFlat cX9_goesOnFlat 3 none ∈ zG := zgm (zt7 (List.mem_of_getElem? (i := 132) rfl)) rfl
theorem wm_L_73 : Cond.methodLink RL 73 yX9_spaceBox ∈ zG := zgm (zt7 (List.mem_of_getElem? (i := 133) rfl)) rfl
theorem wi_X9_spaceBox : Cond.instanceMethod yX9_spaceBox ∈ zG := zgm (zt7 (List.mem_of_getElem? (i := 134) rfl)) rfl
theorem wse_X9_X9_spaceBox : Cond.selects RX9 yX9_spaceBox yX9_spaceBox ∈ zG := zgm (zt7 (List.mem_of_getElem? (i := 135) rfl)) rfl
theorem wc_X9_spaceBox : Cond.code yX9_spaceBox cX9_spaceBox 2 (some .int) ∈ zG := zgm (zt7 (List.mem_of_getElem? (i := 136) rfl)) rfl
theorem wm_X9_297 : Cond.methodLink RX9 297 yX9_longAlong ∈ zG := zgm (zt7 (List.mem_of_getElem? (i := 137) rfl)) rfl
theorem wi_X9_longAlong : Cond.instanceMethod yX9_longAlong ∈ zG := zgm (zt7 (List.mem_of_getElem? (i := 139) rfl)) rfl
theorem wc_X9_longAlong : Cond.code yX9_longAlong cX9_longAlong 5 (some .int) ∈ zG := zgm (zt7 (List.mem_of_getElem? (i := 140) rfl)) rfl
theorem wm_L_149 : Cond.methodLink RL 149 yX9_smallest ∈ zG := zgm (zt7 (List.mem_of_getElem? (i := 141) rfl)) rfl
theorem wi_X9_smallest : Cond.instanceMethod yX9_smallest ∈ zG := zgm (zt7 (List.mem_of_getElem? (i := 142) rfl)) rfl
theorem wse_X9_X9_smallest : Cond.selects RX9 yX9_smallest yX9_smallest ∈ zG := zgm (zt7 (List.mem_of_getElem? (i := 143) rfl)) rfl
theorem wc_X9_smallest : Cond.code yX9_smallest cX9_smallest 6 (some .int) ∈ zG := zgm (zt7 (List.mem_of_getElem? (i := 144) rfl)) rfl
theorem wm_X9_300 : Cond.methodLink RX9 300 yX9_laysClear ∈ zG := zgm (zt7 (List.mem_of_getElem? (i := 145) rfl)) rfl
theorem wi_X9_laysClear : Cond.instanceMethod yX9_laysClear ∈ zG := zgm (zt7 (List.mem_of_getElem? (i := 147) rfl)) rfl
theorem wc_X9_laysClear : Cond.code yX9_laysClear cX9_laysClear 1 none ∈ zG := zgm (zt7 (List.mem_of_getElem? (i := 148) rfl)) rfl
theorem wm_X9_341 : Cond.methodLink RX9 341 yX9_forgetsLain ∈ zG := zgm (zt7 (List.mem_of_getElem? (i := 149) rfl)) rfl
theorem wi_X9_forgetsLain : Cond.instanceMethod yX9_forgetsLain ∈ zG := zgm (zt7 (List.mem_of_getElem? (i := 151) rfl)) rfl
theorem wc_X9_forgetsLain : Cond.code yX9_forgetsLain cX9_forgetsLain 2 none ∈ zG := zgm (zt7 (List.mem_of_getElem? (i := 152) rfl)) rfl
theorem wm_X9_325 : Cond.methodLink RX9 325 yX9_toolsOf ∈ zG := zgm (zt7 (List.mem_of_getElem? (i := 153) rfl)) rfl
theorem wi_X9_toolsOf : Cond.instanceMethod yX9_toolsOf ∈ zG := zgm (zt7 (List.mem_of_getElem? (i := 155) rfl)) rfl
theorem wc_X9_toolsOf : Cond.code yX9_toolsOf cX9_toolsOf 4 (some .int) ∈ zG := zgm (zt7 (List.mem_of_getElem? (i := 156) rfl)) rfl
theorem wm_X9_319 : Cond.methodLink RX9 319 yX9_widthOf ∈ zG := zgm (zt7 (List.mem_of_getElem? (i := 157) rfl)) rfl
theorem wi_X9_widthOf : Cond.instanceMethod yX9_widthOf ∈ zG := zgm (zt7 (List.mem_of_getElem? (i := 159) rfl)) rfl
theorem wc_X9_widthOf : Cond.code yX9_widthOf cX9_widthOf 4 (some .int) ∈ zG := zgm (zt7 (List.mem_of_getElem? (i := 160) rfl)) rfl
theorem wm_X9_322 : Cond.methodLink RX9 322 yX9_bits ∈ zG := zgm (zt7 (List.mem_of_getElem? (i := 161) rfl)) rfl
theorem ws_X9_bits : Cond.static yX9_bits ∈ zG := zgm (zt7 (List.mem_of_getElem? (i := 162) rfl)) rfl
theorem wc_X9_bits : Cond.code yX9_bits cX9_bits 3 (some .int) ∈ zG := zgm (zt7 (List.mem_of_getElem? (i := 163) rfl)) rfl
theorem wm_X9_344 : Cond.methodLink RX9 344 yX9_laysClearAgain ∈ zG := zgm (zt7 (List.mem_of_getElem? (i := 164) rfl)) rfl
theorem wi_X9_laysClearAgain : Cond.instanceMethod yX9_laysClearAgain ∈ zG := zgm (zt7 (List.mem_of_getElem? (i := 166) rfl)) rfl
theorem wc_X9_laysClearAgain : Cond.code yX9_laysClearAgain cX9_laysClearAgain 7 none ∈ zG := zgm (zt7 (List.mem_of_getElem? (i := 167) rfl)) rfl
theorem wm_X9_222 : Cond.methodLink RX9 222 yX9_allBends ∈ zG := zgm (zt7 (List.mem_of_getElem? (i := 168) rfl)) rfl
theorem wi_X9_allBends : Cond.instanceMethod yX9_allBends ∈ zG := zgm (zt7 (List.mem_of_getElem? (i := 170) rfl)) rfl
theorem wc_X9_allBends : Cond.code yX9_allBends cX9_allBends 1 (some .int) ∈ zG := zgm (zt7 (List.mem_of_getElem? (i := 171) rfl)) rfl
theorem wm_X9_347 : Cond.methodLink RX9 347 yX9_lainOf ∈ zG := zgm (zt7 (List.mem_of_getElem? (i := 172) rfl)) rfl
theorem wi_X9_lainOf : Cond.instanceMethod yX9_lainOf ∈ zG := zgm (zt7 (List.mem_of_getElem? (i := 174) rfl)) rfl
theorem wc_X9_lainOf : Cond.code yX9_lainOf cX9_lainOf 4 (some .int) ∈ zG := zgm (zt7 (List.mem_of_getElem? (i := 175) rfl)) rfl
theorem wm_X9_334 : Cond.methodLink RX9 334 yX9_looksAt ∈ zG := zgm (zt7 (List.mem_of_getElem? (i := 176) rfl)) rfl
theorem wi_X9_looksAt : Cond.instanceMethod yX9_looksAt ∈ zG := zgm (zt7 (List.mem_of_getElem? (i := 178) rfl)) rfl
theorem wc_X9_looksAt : Cond.code yX9_looksAt cX9_looksAt 6 (some .int) ∈ zG := zgm (zt7 (List.mem_of_getElem? (i := 179) rfl)) rfl
theorem wm_X9_316 : Cond.methodLink RX9 316 yX9_metBy ∈ zG := zgm (zt7 (List.mem_of_getElem? (i := 180) rfl)) rfl
theorem wi_X9_metBy : Cond.instanceMethod yX9_metBy ∈ zG := zgm (zt7 (List.mem_of_getElem? (i := 182) rfl)) rfl
theorem wc_X9_metBy : Cond.code yX9_metBy cX9_metBy 4 (some .int) ∈ zG := zgm (zt7 (List.mem_of_getElem? (i := 183) rfl)) rfl
theorem wm_X9_313 : Cond.methodLink RX9 313 yX9_laysPunch ∈ zG := zgm (zt7 (List.mem_of_getElem? (i := 184) rfl)) rfl
theorem wi_X9_laysPunch : Cond.instanceMethod yX9_laysPunch ∈ zG := zgm (zt7 (List.mem_of_getElem? (i := 186) rfl)) rfl
theorem wc_X9_laysPunch : Cond.code yX9_laysPunch cX9_laysPunch 4 none ∈ zG := zgm (zt7 (List.mem_of_getElem? (i := 187) rfl)) rfl
theorem wm_X9_307 : Cond.methodLink RX9 307 yX9_doClash ∈ zG := zgm (zt7 (List.mem_of_getElem? (i := 188) rfl)) rfl
theorem wi_X9_doClash : Cond.instanceMethod yX9_doClash ∈ zG := zgm (zt7 (List.mem_of_getElem? (i := 190) rfl)) rfl
theorem wc_X9_doClash : Cond.code yX9_doClash cX9_doClash 5 (some .boolean) ∈ zG := zgm (zt7 (List.mem_of_getElem? (i := 191) rfl)) rfl
theorem wm_X9_285 : Cond.methodLink RX9 285 yX9_axisOf ∈ zG := zgm (zt7 (List.mem_of_getElem? (i := 192) rfl)) rfl
theorem wi_X9_axisOf : Cond.instanceMethod yX9_axisOf ∈ zG := zgm (zt7 (List.mem_of_getElem? (i := 194) rfl)) rfl
theorem wc_X9_axisOf : Cond.code yX9_axisOf cX9_axisOf 2 (some .int) ∈ zG := zgm (zt7 (List.mem_of_getElem? (i := 195) rfl)) rfl
theorem wm_X9_288 : Cond.methodLink RX9 288 yX9_isBetween ∈ zG := zgm (zt7 (List.mem_of_getElem? (i := 196) rfl)) rfl
theorem wi_X9_isBetween : Cond.instanceMethod yX9_isBetween ∈ zG := zgm (zt7 (List.mem_of_getElem? (i := 198) rfl)) rfl
theorem wc_X9_isBetween : Cond.code yX9_isBetween cX9_isBetween 4 (some .boolean) ∈ zG := zgm (zt7 (List.mem_of_getElem? (i := 199) rfl)) rfl
theorem wm_X9_291 : Cond.methodLink RX9 291 yX9_sharedAlong ∈ zG := zgm (zt7 (List.mem_of_getElem? (i := 200) rfl)) rfl
theorem wi_X9_sharedAlong : Cond.instanceMethod yX9_sharedAlong ∈ zG := zgm (zt7 (List.mem_of_getElem? (i := 202) rfl)) rfl
theorem wc_X9_sharedAlong : Cond.code yX9_sharedAlong cX9_sharedAlong 4 (some .int) ∈ zG := zgm (zt7 (List.mem_of_getElem? (i := 203) rfl)) rfl
theorem wm_X9_337 : Cond.methodLink RX9 337 yX9_anyClash ∈ zG := zgm (zt7 (List.mem_of_getElem? (i := 204) rfl)) rfl
theorem wi_X9_anyClash : Cond.instanceMethod yX9_anyClash ∈ zG := zgm (zt7 (List.mem_of_getElem? (i := 206) rfl)) rfl
theorem wc_X9_anyClash : Cond.code yX9_anyClash cX9_anyClash 3 (some .boolean) ∈ zG := zgm (zt7 (List.mem_of_getElem? (i := 207) rfl)) rfl
theorem wk_X9_340 : Cond.constant RX9 340 (65536) ∈ zG := zgm (zt7 (List.mem_of_getElem? (i := 208) rfl)) rfl
theorem wm_X9_303 : Cond.methodLink RX9 303 yX9_laysReached ∈ zG := zgm (zt7 (List.mem_of_getElem? (i := 209) rfl)) rfl
theorem wi_X9_laysReached : Cond.instanceMethod yX9_laysReached ∈ zG := zgm (zt7 (List.mem_of_getElem? (i := 211) rfl)) rfl
theorem wc_X9_laysReached : Cond.code yX9_laysReached cX9_laysReached 3 none ∈ zG := zgm (zt7 (List.mem_of_getElem? (i := 212) rfl)) rfl
theorem wk_X9_306 : Cond.constant RX9 306 (1000000) ∈ zG := zgm (zt7 (List.mem_of_getElem? (i := 213) rfl)) rfl
theorem wm_L_153 : Cond.methodLink RL 153 yX9_between ∈ zG := zgm (zt7 (List.mem_of_getElem? (i := 214) rfl)) rfl
theorem wi_X9_between : Cond.instanceMethod yX9_between ∈ zG := zgm (zt7 (List.mem_of_getElem? (i := 215) rfl)) rfl
theorem wse_X9_X9_between : Cond.selects RX9 yX9_between yX9_between ∈ zG := zgm (zt7 (List.mem_of_getElem? (i := 216) rfl)) rfl
theorem wc_X9_between : Cond.code yX9_between cX9_between 6 (some .int) ∈ zG := zgm (zt7 (List.mem_of_getElem? (i := 217) rfl)) rfl
theorem wm_L_77 : Cond.methodLink RL 77 yX9_gap ∈ zG := zgm (zt7 (List.mem_of_getElem? (i := 218) rfl)) rfl
theorem wi_X9_gap : Cond.instanceMethod yX9_gap ∈ zG := zgm (zt7 (List.mem_of_getElem? (i := 219) rfl)) rfl
theorem wse_X9_X9_gap : Cond.selects RX9 yX9_gap yX9_gap ∈ zG := zgm (zt7 (List.mem_of_getElem? (i := 220) rfl)) rfl
theorem wc_X9_gap : Cond.code yX9_gap cX9_gap 5 (some .int) ∈ zG := zgm (zt7 (List.mem_of_getElem? (i := 221) rfl)) rfl
theorem wm_L_81 : Cond.methodLink RL 81 yX9_normal ∈ zG := zgm (zt7 (List.mem_of_getElem? (i := 222) rfl)) rfl
theorem wi_X9_normal : Cond.instanceMethod yX9_normal ∈ zG := zgm (zt7 (List.mem_of_getElem? (i := 223) rfl)) rfl
theorem wse_X9_X9_normal : Cond.selects RX9 yX9_normal yX9_normal ∈ zG := zgm (zt7 (List.mem_of_getElem? (i := 224) rfl)) rfl
theorem wc_X9_normal : Cond.code yX9_normal cX9_normal 2 (some .int) ∈ zG := zgm (zt7 (List.mem_of_getElem? (i := 225) rfl)) rfl
theorem wm_L_85 : Cond.methodLink RL 85 yX9_clash ∈ zG := zgm (zt7 (List.mem_of_getElem? (i := 226) rfl)) rfl
theorem wi_X9_clash : Cond.instanceMethod yX9_clash ∈ zG := zgm (zt7 (List.mem_of_getElem? (i := 227) rfl)) rfl
theorem wse_X9_X9_clash : Cond.selects RX9 yX9_clash yX9_clash ∈ zG := zgm (zt7 (List.mem_of_getElem? (i := 228) rfl)) rfl
theorem wc_X9_clash : Cond.code yX9_clash cX9_clash 6 (some .int) ∈ zG := zgm (zt7 (List.mem_of_getElem? (i := 229) rfl)) rfl
theorem wm_X9_310 : Cond.methodLink RX9 310 yX9_isState ∈ zG := zgm (zt7 (List.mem_of_getElem? (i := 230) rfl)) rfl
theorem wi_X9_isState : Cond.instanceMethod yX9_isState ∈ zG := zgm (zt7 (List.mem_of_getElem? (i := 232) rfl)) rfl
theorem wc_X9_isState : Cond.code yX9_isState cX9_isState 2 (some .boolean) ∈ zG := zgm (zt7 (List.mem_of_getElem? (i := 233) rfl)) rfl
theorem wm_L_89 : Cond.methodLink RL 89 yX9_meets ∈ zG := zgm (zt7 (List.mem_of_getElem? (i := 234) rfl)) rfl
theorem wi_X9_meets : Cond.instanceMethod yX9_meets ∈ zG := zgm (zt7 (List.mem_of_getElem? (i := 235) rfl)) rfl
theorem wse_X9_X9_meets : Cond.selects RX9 yX9_meets yX9_meets ∈ zG := zgm (zt7 (List.mem_of_getElem? (i := 236) rfl)) rfl
theorem wc_X9_meets : Cond.code yX9_meets cX9_meets 3 (some .int) ∈ zG := zgm (zt7 (List.mem_of_getElem? (i := 237) rfl)) rfl
theorem wm_L_93 : Cond.methodLink RL 93 yX9_tools ∈ zG := zgm (zt7 (List.mem_of_getElem? (i := 238) rfl)) rfl
theorem wi_X9_tools : Cond.instanceMethod yX9_tools ∈ zG := zgm (zt7 (List.mem_of_getElem? (i := 239) rfl)) rfl
theorem wse_X9_X9_tools : Cond.selects RX9 yX9_tools yX9_tools ∈ zG := zgm (zt8 (List.mem_of_getElem? (i := 0) rfl)) rfl
theorem wc_X9_tools : Cond.code yX9_tools cX9_tools 4 (some .int) ∈ zG := zgm (zt8 (List.mem_of_getElem? (i := 1) rfl)) rfl
theorem wm_L_97 : Cond.methodLink RL 97 yX9_why ∈ zG := zgm (zt8 (List.mem_of_getElem? (i := 2) rfl)) rfl
theorem wi_X9_why : Cond.instanceMethod yX9_why ∈ zG := zgm (zt8 (List.mem_of_getElem? (i := 3) rfl)) rfl
theorem wse_X9_X9_why : Cond.selects RX9 yX9_why yX9_why ∈ zG := zgm (zt8 (List.mem_of_getElem? (i := 4) rfl)) rfl
theorem wc_X9_why : Cond.code yX9_why cX9_why 3 (some .int) ∈ zG := zgm (zt8 (List.mem_of_getElem? (i := 5) rfl)) rfl
theorem wm_X9_331 : Cond.methodLink RX9 331 yX9_whyNot ∈ zG := zgm (zt8 (List.mem_of_getElem? (i := 6) rfl)) rfl
theorem wi_X9_whyNot : Cond.instanceMethod yX9_whyNot ∈ zG := zgm (zt8 (List.mem_of_getElem? (i := 8) rfl)) rfl
theorem wc_X9_whyNot : Cond.code yX9_whyNot cX9_whyNot 3 (some .int) ∈ zG := zgm (zt8 (List.mem_of_getElem? (i := 9) rfl)) rfl
theorem wm_X9_328 : Cond.methodLink RX9 328 yX9_clash ∈ zG := zgm (zt8 (List.mem_of_getElem? (i := 10) rfl)) rfl
theorem wm_L_101 : Cond.methodLink RL 101 yX9_orders ∈ zG := zgm (zt8 (List.mem_of_getElem? (i := 11) rfl)) rfl
theorem wi_X9_orders : Cond.instanceMethod yX9_orders ∈ zG := zgm (zt8 (List.mem_of_getElem? (i := 12) rfl)) rfl
theorem wse_X9_X9_orders : Cond.selects RX9 yX9_orders yX9_orders ∈ zG := zgm (zt8 (List.mem_of_getElem? (i := 13) rfl)) rfl
theorem wc_X9_orders : Cond.code yX9_orders cX9_orders 1 (some .int) ∈ zG := zgm (zt8 (List.mem_of_getElem? (i := 14) rfl)) rfl
theorem wm_X9_353 : Cond.methodLink RX9 353 yX9_orderMany ∈ zG := zgm (zt8 (List.mem_of_getElem? (i := 15) rfl)) rfl
theorem wi_X9_orderMany : Cond.instanceMethod yX9_orderMany ∈ zG := zgm (zt8 (List.mem_of_getElem? (i := 17) rfl)) rfl
theorem wc_X9_orderMany : Cond.code yX9_orderMany cX9_orderMany 1 (some .int) ∈ zG := zgm (zt8 (List.mem_of_getElem? (i := 18) rfl)) rfl
theorem wm_X9_350 : Cond.methodLink RX9 350 yX9_laysWays ∈ zG := zgm (zt8 (List.mem_of_getElem? (i := 19) rfl)) rfl
theorem wi_X9_laysWays : Cond.instanceMethod yX9_laysWays ∈ zG := zgm (zt8 (List.mem_of_getElem? (i := 21) rfl)) rfl
theorem wc_X9_laysWays : Cond.code yX9_laysWays cX9_laysWays 7 (some .int) ∈ zG := zgm (zt8 (List.mem_of_getElem? (i := 22) rfl)) rfl
theorem wm_L_105 : Cond.methodLink RL 105 yX9_order ∈ zG := zgm (zt8 (List.mem_of_getElem? (i := 23) rfl)) rfl
theorem wi_X9_order : Cond.instanceMethod yX9_order ∈ zG := zgm (zt8 (List.mem_of_getElem? (i := 24) rfl)) rfl
theorem wse_X9_X9_order : Cond.selects RX9 yX9_order yX9_order ∈ zG := zgm (zt8 (List.mem_of_getElem? (i := 25) rfl)) rfl
theorem wc_X9_order : Cond.code yX9_order cX9_order 5 (some .int) ∈ zG := zgm (zt8 (List.mem_of_getElem? (i := 26) rfl)) rfl
theorem wm_L_109 : Cond.methodLink RL 109 yX9_mayBeLast ∈ zG := zgm (zt8 (List.mem_of_getElem? (i := 27) rfl)) rfl
theorem wi_X9_mayBeLast : Cond.instanceMethod yX9_mayBeLast ∈ zG := zgm (zt8 (List.mem_of_getElem? (i := 28) rfl)) rfl
theorem wse_X9_X9_mayBeLast : Cond.selects RX9 yX9_mayBeLast yX9_mayBeLast ∈ zG := zgm (zt8 (List.mem_of_getElem? (i := 29) rfl)) rfl
theorem wc_X9_mayBeLast : Cond.code yX9_mayBeLast cX9_mayBeLast 3 (some .int) ∈ zG := zgm (zt8 (List.mem_of_getElem? (i := 30) rfl)) rfl
theorem wm_X9_356 : Cond.methodLink RX9 356 yX9_isMade ∈ zG := zgm (zt8 (List.mem_of_getElem? (i := 31) rfl)) rfl
theorem wi_X9_isMade : Cond.instanceMethod yX9_isMade ∈ zG := zgm (zt8 (List.mem_of_getElem? (i := 33) rfl)) rfl
theorem wc_X9_isMade : Cond.code yX9_isMade cX9_isMade 2 (some .boolean) ∈ zG := zgm (zt8 (List.mem_of_getElem? (i := 34) rfl)) rfl
theorem wm_L_113 : Cond.methodLink RL 113 yX9_ahead ∈ zG := zgm (zt8 (List.mem_of_getElem? (i := 35) rfl)) rfl
theorem wi_X9_ahead : Cond.instanceMethod yX9_ahead ∈ zG := zgm (zt8 (List.mem_of_getElem? (i := 36) rfl)) rfl
theorem wse_X9_X9_ahead : Cond.selects RX9 yX9_ahead yX9_ahead ∈ zG := zgm (zt8 (List.mem_of_getElem? (i := 37) rfl)) rfl
theorem wc_X9_ahead : Cond.code yX9_ahead cX9_ahead 4 (some .int) ∈ zG := zgm (zt8 (List.mem_of_getElem? (i := 38) rfl)) rfl
theorem wm_L_117 : Cond.methodLink RL 117 yX9_reached ∈ zG := zgm (zt8 (List.mem_of_getElem? (i := 39) rfl)) rfl
theorem wi_X9_reached : Cond.instanceMethod yX9_reached ∈ zG := zgm (zt8 (List.mem_of_getElem? (i := 40) rfl)) rfl
theorem wse_X9_X9_reached : Cond.selects RX9 yX9_reached yX9_reached ∈ zG := zgm (zt8 (List.mem_of_getElem? (i := 41) rfl)) rfl
theorem wc_X9_reached : Cond.code yX9_reached cX9_reached 5 (some .int) ∈ zG := zgm (zt8 (List.mem_of_getElem? (i := 42) rfl)) rfl
theorem wm_X9_359 : Cond.methodLink RX9 359 yX9_deadEnds ∈ zG := zgm (zt8 (List.mem_of_getElem? (i := 43) rfl)) rfl
theorem wi_X9_deadEnds : Cond.instanceMethod yX9_deadEnds ∈ zG := zgm (zt8 (List.mem_of_getElem? (i := 45) rfl)) rfl
theorem wc_X9_deadEnds : Cond.code yX9_deadEnds cX9_deadEnds 5 (some .int) ∈ zG := zgm (zt8 (List.mem_of_getElem? (i := 46) rfl)) rfl
theorem wm_L_121 : Cond.methodLink RL 121 yX9_fewest ∈ zG := zgm (zt8 (List.mem_of_getElem? (i := 47) rfl)) rfl
theorem wi_X9_fewest : Cond.instanceMethod yX9_fewest ∈ zG := zgm (zt8 (List.mem_of_getElem? (i := 48) rfl)) rfl
theorem wse_X9_X9_fewest : Cond.selects RX9 yX9_fewest yX9_fewest ∈ zG := zgm (zt8 (List.mem_of_getElem? (i := 49) rfl)) rfl
theorem wc_X9_fewest : Cond.code yX9_fewest cX9_fewest 2 (some .int) ∈ zG := zgm (zt8 (List.mem_of_getElem? (i := 50) rfl)) rfl
theorem wm_X9_366 : Cond.methodLink RX9 366 yX9_laysFewest ∈ zG := zgm (zt8 (List.mem_of_getElem? (i := 51) rfl)) rfl
theorem wi_X9_laysFewest : Cond.instanceMethod yX9_laysFewest ∈ zG := zgm (zt8 (List.mem_of_getElem? (i := 53) rfl)) rfl
theorem wc_X9_laysFewest : Cond.code yX9_laysFewest cX9_laysFewest 7 none ∈ zG := zgm (zt8 (List.mem_of_getElem? (i := 54) rfl)) rfl
theorem wm_X9_363 : Cond.methodLink RX9 363 yX9_costAt ∈ zG := zgm (zt8 (List.mem_of_getElem? (i := 55) rfl)) rfl
theorem wi_X9_costAt : Cond.instanceMethod yX9_costAt ∈ zG := zgm (zt8 (List.mem_of_getElem? (i := 57) rfl)) rfl
theorem wc_X9_costAt : Cond.code yX9_costAt cX9_costAt 3 (some .int) ∈ zG := zgm (zt8 (List.mem_of_getElem? (i := 58) rfl)) rfl
theorem wm_L_125 : Cond.methodLink RL 125 yX9_thrifty ∈ zG := zgm (zt8 (List.mem_of_getElem? (i := 59) rfl)) rfl
theorem wi_X9_thrifty : Cond.instanceMethod yX9_thrifty ∈ zG := zgm (zt8 (List.mem_of_getElem? (i := 60) rfl)) rfl
theorem wse_X9_X9_thrifty : Cond.selects RX9 yX9_thrifty yX9_thrifty ∈ zG := zgm (zt8 (List.mem_of_getElem? (i := 61) rfl)) rfl
theorem wc_X9_thrifty : Cond.code yX9_thrifty cX9_thrifty 7 (some .int) ∈ zG := zgm (zt8 (List.mem_of_getElem? (i := 62) rfl)) rfl
theorem wm_X9_369 : Cond.methodLink RX9 369 yX9_fewest ∈ zG := zgm (zt8 (List.mem_of_getElem? (i := 63) rfl)) rfl
theorem wm_L_129 : Cond.methodLink RL 129 yX9_tallest ∈ zG := zgm (zt8 (List.mem_of_getElem? (i := 64) rfl)) rfl
theorem wi_X9_tallest : Cond.instanceMethod yX9_tallest ∈ zG := zgm (zt8 (List.mem_of_getElem? (i := 65) rfl)) rfl
theorem wse_X9_X9_tallest : Cond.selects RX9 yX9_tallest yX9_tallest ∈ zG := zgm (zt8 (List.mem_of_getElem? (i := 66) rfl)) rfl
theorem wc_X9_tallest : Cond.code yX9_tallest cX9_tallest 4 (some .int) ∈ zG := zgm (zt8 (List.mem_of_getElem? (i := 67) rfl)) rfl
theorem wm_X9_372 : Cond.methodLink RX9 372 yX9_isOrderBy ∈ zG := zgm (zt8 (List.mem_of_getElem? (i := 68) rfl)) rfl
theorem wi_X9_isOrderBy : Cond.instanceMethod yX9_isOrderBy ∈ zG := zgm (zt8 (List.mem_of_getElem? (i := 70) rfl)) rfl
theorem wc_X9_isOrderBy : Cond.code yX9_isOrderBy cX9_isOrderBy 4 (some .boolean) ∈ zG := zgm (zt8 (List.mem_of_getElem? (i := 71) rfl)) rfl
theorem wm_L_133 : Cond.methodLink RL 133 yX9_turned ∈ zG := zgm (zt8 (List.mem_of_getElem? (i := 72) rfl)) rfl
theorem wi_X9_turned : Cond.instanceMethod yX9_turned ∈ zG := zgm (zt8 (List.mem_of_getElem? (i := 73) rfl)) rfl
theorem wse_X9_X9_turned : Cond.selects RX9 yX9_turned yX9_turned ∈ zG := zgm (zt8 (List.mem_of_getElem? (i := 74) rfl)) rfl
theorem wc_X9_turned : Cond.code yX9_turned cX9_turned 3 (some .int) ∈ zG := zgm (zt8 (List.mem_of_getElem? (i := 75) rfl)) rfl
theorem wm_X9_375 : Cond.methodLink RX9 375 yX9_turnsAll ∈ zG := zgm (zt8 (List.mem_of_getElem? (i := 76) rfl)) rfl
theorem wi_X9_turnsAll : Cond.instanceMethod yX9_turnsAll ∈ zG := zgm (zt8 (List.mem_of_getElem? (i := 78) rfl)) rfl
theorem wc_X9_turnsAll : Cond.code yX9_turnsAll cX9_turnsAll 3 none ∈ zG := zgm (zt8 (List.mem_of_getElem? (i := 79) rfl)) rfl
theorem wm_L_137 : Cond.methodLink RL 137 yX9_mends ∈ zG := zgm (zt8 (List.mem_of_getElem? (i := 80) rfl)) rfl
theorem wi_X9_mends : Cond.instanceMethod yX9_mends ∈ zG := zgm (zt8 (List.mem_of_getElem? (i := 81) rfl)) rfl
theorem wse_X9_X9_mends : Cond.selects RX9 yX9_mends yX9_mends ∈ zG := zgm (zt8 (List.mem_of_getElem? (i := 82) rfl)) rfl
theorem wc_X9_mends : Cond.code yX9_mends cX9_mends 3 (some .int) ∈ zG := zgm (zt8 (List.mem_of_getElem? (i := 83) rfl)) rfl
theorem wm_L_141 : Cond.methodLink RL 141 yX9_lacks ∈ zG := zgm (zt8 (List.mem_of_getElem? (i := 84) rfl)) rfl
theorem wi_X9_lacks : Cond.instanceMethod yX9_lacks ∈ zG := zgm (zt8 (List.mem_of_getElem? (i := 85) rfl)) rfl
theorem wse_X9_X9_lacks : Cond.selects RX9 yX9_lacks yX9_lacks ∈ zG := zgm (zt8 (List.mem_of_getElem? (i := 86) rfl)) rfl
theorem wc_X9_lacks : Cond.code yX9_lacks cX9_lacks 5 (some .int) ∈ zG := zgm (zt8 (List.mem_of_getElem? (i := 87) rfl)) rfl
theorem wm_L_157 : Cond.methodLink RL 157 yX9_see ∈ zG := zgm (zt8 (List.mem_of_getElem? (i := 88) rfl)) rfl
theorem wi_X9_see : Cond.instanceMethod yX9_see ∈ zG := zgm (zt8 (List.mem_of_getElem? (i := 89) rfl)) rfl
theorem wse_X9_X9_see : Cond.selects RX9 yX9_see yX9_see ∈ zG := zgm (zt8 (List.mem_of_getElem? (i := 90) rfl)) rfl
theorem wc_X9_see : Cond.code yX9_see cX9_see 4 (some .int) ∈ zG := zgm (zt8 (List.mem_of_getElem? (i := 91) rfl)) rfl
theorem wm_L_161 : Cond.methodLink RL 161 yX9_fits ∈ zG := zgm (zt8 (List.mem_of_getElem? (i := 92) rfl)) rfl
theorem wi_X9_fits : Cond.instanceMethod yX9_fits ∈ zG := zgm (zt8 (List.mem_of_getElem? (i := 93) rfl)) rfl
theorem wse_X9_X9_fits : Cond.selects RX9 yX9_fits yX9_fits ∈ zG := zgm (zt8 (List.mem_of_getElem? (i := 94) rfl)) rfl
theorem wc_X9_fits : Cond.code yX9_fits cX9_fits 5 (some .int) ∈ zG := zgm (zt8 (List.mem_of_getElem? (i := 95) rfl)) rfl
theorem wm_X9_381 : Cond.methodLink RX9 381 yX9_isFit ∈ zG := zgm (zt8 (List.mem_of_getElem? (i := 96) rfl)) rfl
theorem wi_X9_isFit : Cond.instanceMethod yX9_isFit ∈ zG := zgm (zt8 (List.mem_of_getElem? (i := 98) rfl)) rfl
theorem wc_X9_isFit : Cond.code yX9_isFit cX9_isFit 4 (some .boolean) ∈ zG := zgm (zt8 (List.mem_of_getElem? (i := 99) rfl)) rfl
theorem wm_X9_378 : Cond.methodLink RX9 378 yX9_lengthBy ∈ zG := zgm (zt8 (List.mem_of_getElem? (i := 100) rfl)) rfl
theorem wi_X9_lengthBy : Cond.instanceMethod yX9_lengthBy ∈ zG := zgm (zt8 (List.mem_of_getElem? (i := 102) rfl)) rfl
theorem wc_X9_lengthBy : Cond.code yX9_lengthBy cX9_lengthBy 6 (some .int) ∈ zG := zgm (zt8 (List.mem_of_getElem? (i := 103) rfl)) rfl
theorem wm_L_165 : Cond.methodLink RL 165 yX9_tells ∈ zG := zgm (zt8 (List.mem_of_getElem? (i := 104) rfl)) rfl
theorem wi_X9_tells : Cond.instanceMethod yX9_tells ∈ zG := zgm (zt8 (List.mem_of_getElem? (i := 105) rfl)) rfl
theorem wse_X9_X9_tells : Cond.selects RX9 yX9_tells yX9_tells ∈ zG := zgm (zt8 (List.mem_of_getElem? (i := 106) rfl)) rfl
theorem wc_X9_tells : Cond.code yX9_tells cX9_tells 7 (some .int) ∈ zG := zgm (zt8 (List.mem_of_getElem? (i := 107) rfl)) rfl
theorem wm_X9_384 : Cond.methodLink RX9 384 yX9_fits ∈ zG := zgm (zt8 (List.mem_of_getElem? (i := 108) rfl)) rfl
theorem wm_X9_387 : Cond.methodLink RX9 387 yX9_leftBy ∈ zG := zgm (zt8 (List.mem_of_getElem? (i := 109) rfl)) rfl
theorem wi_X9_leftBy : Cond.instanceMethod yX9_leftBy ∈ zG := zgm (zt8 (List.mem_of_getElem? (i := 111) rfl)) rfl
theorem wc_X9_leftBy : Cond.code yX9_leftBy cX9_leftBy 7 (some .int) ∈ zG := zgm (zt8 (List.mem_of_getElem? (i := 112) rfl)) rfl
theorem wm_L_169 : Cond.methodLink RL 169 yX9_bend ∈ zG := zgm (zt8 (List.mem_of_getElem? (i := 113) rfl)) rfl
theorem wi_X9_bend : Cond.instanceMethod yX9_bend ∈ zG := zgm (zt8 (List.mem_of_getElem? (i := 114) rfl)) rfl
theorem wse_X9_X9_bend : Cond.selects RX9 yX9_bend yX9_bend ∈ zG := zgm (zt8 (List.mem_of_getElem? (i := 115) rfl)) rfl
theorem wc_X9_bend : Cond.code yX9_bend cX9_bend 3 (some .int) ∈ zG := zgm (zt8 (List.mem_of_getElem? (i := 116) rfl)) rfl
theorem wm_X9_390 : Cond.methodLink RX9 390 yX9_remembers ∈ zG := zgm (zt8 (List.mem_of_getElem? (i := 117) rfl)) rfl
theorem wi_X9_remembers : Cond.instanceMethod yX9_remembers ∈ zG := zgm (zt8 (List.mem_of_getElem? (i := 119) rfl)) rfl
theorem wc_X9_remembers : Cond.code yX9_remembers cX9_remembers 2 none ∈ zG := zgm (zt8 (List.mem_of_getElem? (i := 120) rfl)) rfl
theorem wm_L_145 : Cond.methodLink RL 145 yX9_opens ∈ zG := zgm (zt8 (List.mem_of_getElem? (i := 121) rfl)) rfl
theorem wi_X9_opens : Cond.instanceMethod yX9_opens ∈ zG := zgm (zt8 (List.mem_of_getElem? (i := 122) rfl)) rfl
theorem wse_X9_X9_opens : Cond.selects RX9 yX9_opens yX9_opens ∈ zG := zgm (zt8 (List.mem_of_getElem? (i := 123) rfl)) rfl
theorem wc_X9_opens : Cond.code yX9_opens cX9_opens 3 (some .int) ∈ zG := zgm (zt8 (List.mem_of_getElem? (i := 124) rfl)) rfl
theorem wm_X9_393 : Cond.methodLink RX9 393 yX9_canOpen ∈ zG := zgm (zt8 (List.mem_of_getElem? (i := 125) rfl)) rfl
theorem wi_X9_canOpen : Cond.instanceMethod yX9_canOpen ∈ zG := zgm (zt8 (List.mem_of_getElem? (i := 127) rfl)) rfl
theorem wc_X9_canOpen : Cond.code yX9_canOpen cX9_canOpen 2 (some .boolean) ∈ zG := zgm (zt8 (List.mem_of_getElem? (i := 128) rfl)) rfl
theorem wm_L_173 : Cond.methodLink RL 173 yX9_open ∈ zG := zgm (zt8 (List.mem_of_getElem? (i := 129) rfl)) rfl
theorem wi_X9_open : Cond.instanceMethod yX9_open ∈ zG := zgm (zt8 (List.mem_of_getElem? (i := 130) rfl)) rfl
theorem wse_X9_X9_open : Cond.selects RX9 yX9_open yX9_open ∈ zG := zgm (zt8 (List.mem_of_getElem? (i := 131) rfl)) rfl
theorem wc_X9_open : Cond.code yX9_open cX9_open 2 (some .boolean) ∈ zG := zgm (zt8 (List.mem_of_getElem? (i := 132) rfl)) rfl
theorem wm_L_177 : Cond.methodLink RL 177 yX9_turn ∈ zG := zgm (zt8 (List.mem_of_getElem? (i := 133) rfl)) rfl
theorem wi_X9_turn : Cond.instanceMethod yX9_turn ∈ zG := zgm (zt8 (List.mem_of_getElem? (i := 134) rfl)) rfl
theorem wse_X9_X9_turn : Cond.selects RX9 yX9_turn yX9_turn ∈ zG := zgm (zt8 (List.mem_of_getElem? (i := 135) rfl)) rfl
theorem wc_X9_turn : Cond.code yX9_turn cX9_turn 2 (some .boolean) ∈ zG := zgm (zt8 (List.mem_of_getElem? (i := 136) rfl)) rfl
theorem wm_L_181 : Cond.methodLink RL 181 yX9_lay ∈ zG := zgm (zt8 (List.mem_of_getElem? (i := 137) rfl)) rfl
theorem wi_X9_lay : Cond.instanceMethod yX9_lay ∈ zG := zgm (zt8 (List.mem_of_getElem? (i := 138) rfl)) rfl
theorem wse_X9_X9_lay : Cond.selects RX9 yX9_lay yX9_lay ∈ zG := zgm (zt8 (List.mem_of_getElem? (i := 139) rfl)) rfl
theorem wc_X9_lay : Cond.code yX9_lay cX9_lay 2 (some .boolean) ∈ zG := zgm (zt8 (List.mem_of_getElem? (i := 140) rfl)) rfl
theorem wm_L_185 : Cond.methodLink RL 185 yX9_follow ∈ zG := zgm (zt8 (List.mem_of_getElem? (i := 141) rfl)) rfl
theorem wi_X9_follow : Cond.instanceMethod yX9_follow ∈ zG := zgm (zt8 (List.mem_of_getElem? (i := 142) rfl)) rfl
theorem wse_X9_X9_follow : Cond.selects RX9 yX9_follow yX9_follow ∈ zG := zgm (zt8 (List.mem_of_getElem? (i := 143) rfl)) rfl
theorem wc_X9_follow : Cond.code yX9_follow cX9_follow 4 (some .int) ∈ zG := zgm (zt8 (List.mem_of_getElem? (i := 144) rfl)) rfl
theorem wm_X9_396 : Cond.methodLink RX9 396 yX9_order ∈ zG := zgm (zt8 (List.mem_of_getElem? (i := 145) rfl)) rfl
theorem wm_L_190 : Cond.methodLink RL 190 yX9_allow ∈ zG := zgm (zt8 (List.mem_of_getElem? (i := 146) rfl)) rfl
theorem wi_X9_allow : Cond.instanceMethod yX9_allow ∈ zG := zgm (zt8 (List.mem_of_getElem? (i := 147) rfl)) rfl
theorem wse_X9_X9_allow : Cond.selects RX9 yX9_allow yX9_allow ∈ zG := zgm (zt8 (List.mem_of_getElem? (i := 148) rfl)) rfl
theorem wc_X9_allow : Cond.code yX9_allow cX9_allow 3 (some .boolean) ∈ zG := zgm (zt8 (List.mem_of_getElem? (i := 149) rfl)) rfl
theorem wm_L_194 : Cond.methodLink RL 194 yX9_press ∈ zG := zgm (zt8 (List.mem_of_getElem? (i := 150) rfl)) rfl
theorem wi_X9_press : Cond.instanceMethod yX9_press ∈ zG := zgm (zt8 (List.mem_of_getElem? (i := 151) rfl)) rfl
theorem wse_X9_X9_press : Cond.selects RX9 yX9_press yX9_press ∈ zG := zgm (zt8 (List.mem_of_getElem? (i := 152) rfl)) rfl
theorem wc_X9_press : Cond.code yX9_press cX9_press 2 (some .boolean) ∈ zG := zgm (zt8 (List.mem_of_getElem? (i := 153) rfl)) rfl
theorem wm_L_198 : Cond.methodLink RL 198 yX9_chance ∈ zG := zgm (zt8 (List.mem_of_getElem? (i := 154) rfl)) rfl
theorem wi_X9_chance : Cond.instanceMethod yX9_chance ∈ zG := zgm (zt8 (List.mem_of_getElem? (i := 155) rfl)) rfl
theorem wse_X9_X9_chance : Cond.selects RX9 yX9_chance yX9_chance ∈ zG := zgm (zt8 (List.mem_of_getElem? (i := 156) rfl)) rfl
theorem wc_X9_chance : Cond.code yX9_chance cX9_chance 5 (some .int) ∈ zG := zgm (zt8 (List.mem_of_getElem? (i := 157) rfl)) rfl
theorem wm_X9_405 : Cond.methodLink RX9 405 yX9_draw ∈ zG := zgm (zt8 (List.mem_of_getElem? (i := 158) rfl)) rfl
theorem wi_X9_draw : Cond.instanceMethod yX9_draw ∈ zG := zgm (zt8 (List.mem_of_getElem? (i := 160) rfl)) rfl
theorem wc_X9_draw : Cond.code yX9_draw cX9_draw 2 (some .int) ∈ zG := zgm (zt8 (List.mem_of_getElem? (i := 161) rfl)) rfl
theorem wk_X9_399 : Cond.constantLong RX9 399 (1103515245) ∈ zG := zgm (zt8 (List.mem_of_getElem? (i := 162) rfl)) rfl
theorem wk_X9_401 : Cond.constantLong RX9 401 (12345) ∈ zG := zgm (zt8 (List.mem_of_getElem? (i := 163) rfl)) rfl
theorem wk_X9_403 : Cond.constantLong RX9 403 (2147483648) ∈ zG := zgm (zt8 (List.mem_of_getElem? (i := 164) rfl)) rfl
theorem wm_L_203 : Cond.methodLink RL 203 yX9_undo ∈ zG := zgm (zt8 (List.mem_of_getElem? (i := 165) rfl)) rfl
theorem wi_X9_undo : Cond.instanceMethod yX9_undo ∈ zG := zgm (zt8 (List.mem_of_getElem? (i := 166) rfl)) rfl
theorem wse_X9_X9_undo : Cond.selects RX9 yX9_undo yX9_undo ∈ zG := zgm (zt8 (List.mem_of_getElem? (i := 167) rfl)) rfl
theorem wc_X9_undo : Cond.code yX9_undo cX9_undo 2 (some .boolean) ∈ zG := zgm (zt8 (List.mem_of_getElem? (i := 168) rfl)) rfl
theorem wm_L_207 : Cond.methodLink RL 207 yX9_seed ∈ zG := zgm (zt8 (List.mem_of_getElem? (i := 169) rfl)) rfl
theorem wi_X9_seed : Cond.instanceMethod yX9_seed ∈ zG := zgm (zt8 (List.mem_of_getElem? (i := 170) rfl)) rfl
theorem wse_X9_X9_seed : Cond.selects RX9 yX9_seed yX9_seed ∈ zG := zgm (zt8 (List.mem_of_getElem? (i := 171) rfl)) rfl
theorem wc_X9_seed : Cond.code yX9_seed cX9_seed 2 (some .boolean) ∈ zG := zgm (zt8 (List.mem_of_getElem? (i := 172) rfl)) rfl
theorem wm_L_211 : Cond.methodLink RL 211 yX9_status ∈ zG := zgm (zt8 (List.mem_of_getElem? (i := 173) rfl)) rfl
theorem wi_X9_status : Cond.instanceMethod yX9_status ∈ zG := zgm (zt8 (List.mem_of_getElem? (i := 174) rfl)) rfl
theorem wse_X9_X9_status : Cond.selects RX9 yX9_status yX9_status ∈ zG := zgm (zt8 (List.mem_of_getElem? (i := 175) rfl)) rfl
theorem wc_X9_status : Cond.code yX9_status cX9_status 2 (some .int) ∈ zG := zgm (zt8 (List.mem_of_getElem? (i := 176) rfl)) rfl
theorem wf_J0_9 : Cond.fieldLink RJ0 9 "java/lang/String" "value" "[B" ∈ zG := zgm (zt8 (List.mem_of_getElem? (i := 177) rfl)) rfl
theorem wf_J0_15 : Cond.fieldLink RJ0 15 "java/lang/String" "coder" "B" ∈ zG := zgm (zt8 (List.mem_of_getElem? (i := 178) rfl)) rfl
theorem iX0 : ∀ w ∈ wsX00, w ∈ zG := fun w hw => by
  obtain ⟨k, hk, rfl⟩ := List.mem_map.mp hw
  have hk := List.mem_range.mp hk
  match k, hk with
  | 0, _ => exact zgm (zt1 (List.mem_of_getElem? (i := 178) rfl)) rfl
  | 1, _ => exact zgm (zt1 (List.mem_of_getElem? (i := 180) rfl)) rfl
  | 2, _ => exact zgm (zt1 (List.mem_of_getElem? (i := 182) rfl)) rfl
  | k + 3, h => exact absurd h (by omega)
theorem iX1 : ∀ w ∈ wsX10, w ∈ zG := fun w hw => by
  obtain ⟨k, hk, rfl⟩ := List.mem_map.mp hw
  have hk := List.mem_range.mp hk
  match k, hk with
  | 0, _ => exact zgm (zt1 (List.mem_of_getElem? (i := 195) rfl)) rfl
  | 1, _ => exact zgm (zt1 (List.mem_of_getElem? (i := 197) rfl)) rfl
  | 2, _ => exact zgm (zt1 (List.mem_of_getElem? (i := 199) rfl)) rfl
  | k + 3, h => exact absurd h (by omega)
theorem iX2 : ∀ w ∈ wsX20, w ∈ zG := fun w hw => by
  obtain ⟨k, hk, rfl⟩ := List.mem_map.mp hw
  have hk := List.mem_range.mp hk
  match k, hk with
  | 0, _ => exact zgm (zt1 (List.mem_of_getElem? (i := 161) rfl)) rfl
  | 1, _ => exact zgm (zt1 (List.mem_of_getElem? (i := 163) rfl)) rfl
  | 2, _ => exact zgm (zt1 (List.mem_of_getElem? (i := 165) rfl)) rfl
  | k + 3, h => exact absurd h (by omega)
theorem iX3 : ∀ w ∈ wsX30, w ∈ zG := fun w hw => by
  obtain ⟨k, hk, rfl⟩ := List.mem_map.mp hw
  have hk := List.mem_range.mp hk
  match k, hk with
  | 0, _ => exact zgm (zt1 (List.mem_of_getElem? (i := 125) rfl)) rfl
  | 1, _ => exact zgm (zt1 (List.mem_of_getElem? (i := 127) rfl)) rfl
  | 2, _ => exact zgm (zt1 (List.mem_of_getElem? (i := 129) rfl)) rfl
  | 3, _ => exact zgm (zt1 (List.mem_of_getElem? (i := 131) rfl)) rfl
  | 4, _ => exact zgm (zt1 (List.mem_of_getElem? (i := 133) rfl)) rfl
  | 5, _ => exact zgm (zt1 (List.mem_of_getElem? (i := 135) rfl)) rfl
  | 6, _ => exact zgm (zt1 (List.mem_of_getElem? (i := 137) rfl)) rfl
  | 7, _ => exact zgm (zt1 (List.mem_of_getElem? (i := 139) rfl)) rfl
  | 8, _ => exact zgm (zt1 (List.mem_of_getElem? (i := 141) rfl)) rfl
  | 9, _ => exact zgm (zt1 (List.mem_of_getElem? (i := 143) rfl)) rfl
  | 10, _ => exact zgm (zt1 (List.mem_of_getElem? (i := 145) rfl)) rfl
  | 11, _ => exact zgm (zt1 (List.mem_of_getElem? (i := 147) rfl)) rfl
  | 12, _ => exact zgm (zt1 (List.mem_of_getElem? (i := 149) rfl)) rfl
  | k + 13, h => exact absurd h (by omega)
theorem iX4 : ∀ w ∈ wsX40, w ∈ zG := fun w hw => by
  obtain ⟨k, hk, rfl⟩ := List.mem_map.mp hw
  have hk := List.mem_range.mp hk
  match k, hk with
  | 0, _ => exact zgm (zt2 (List.mem_of_getElem? (i := 33) rfl)) rfl
  | 1, _ => exact zgm (zt2 (List.mem_of_getElem? (i := 35) rfl)) rfl
  | 2, _ => exact zgm (zt2 (List.mem_of_getElem? (i := 37) rfl)) rfl
  | 3, _ => exact zgm (zt2 (List.mem_of_getElem? (i := 39) rfl)) rfl
  | 4, _ => exact zgm (zt2 (List.mem_of_getElem? (i := 41) rfl)) rfl
  | 5, _ => exact zgm (zt2 (List.mem_of_getElem? (i := 43) rfl)) rfl
  | 6, _ => exact zgm (zt2 (List.mem_of_getElem? (i := 45) rfl)) rfl
  | 7, _ => exact zgm (zt2 (List.mem_of_getElem? (i := 47) rfl)) rfl
  | 8, _ => exact zgm (zt2 (List.mem_of_getElem? (i := 49) rfl)) rfl
  | 9, _ => exact zgm (zt2 (List.mem_of_getElem? (i := 51) rfl)) rfl
  | 10, _ => exact zgm (zt2 (List.mem_of_getElem? (i := 53) rfl)) rfl
  | 11, _ => exact zgm (zt2 (List.mem_of_getElem? (i := 55) rfl)) rfl
  | 12, _ => exact zgm (zt2 (List.mem_of_getElem? (i := 57) rfl)) rfl
  | 13, _ => exact zgm (zt2 (List.mem_of_getElem? (i := 59) rfl)) rfl
  | 14, _ => exact zgm (zt2 (List.mem_of_getElem? (i := 61) rfl)) rfl
  | 15, _ => exact zgm (zt2 (List.mem_of_getElem? (i := 63) rfl)) rfl
  | k + 16, h => exact absurd h (by omega)
theorem iX5 : ∀ w ∈ wsX50, w ∈ zG := fun w hw => by
  obtain ⟨k, hk, rfl⟩ := List.mem_map.mp hw
  have hk := List.mem_range.mp hk
  match k, hk with
  | 0, _ => exact zgm (zt1 (List.mem_of_getElem? (i := 88) rfl)) rfl
  | 1, _ => exact zgm (zt1 (List.mem_of_getElem? (i := 90) rfl)) rfl
  | 2, _ => exact zgm (zt1 (List.mem_of_getElem? (i := 92) rfl)) rfl
  | 3, _ => exact zgm (zt1 (List.mem_of_getElem? (i := 94) rfl)) rfl
  | 4, _ => exact zgm (zt1 (List.mem_of_getElem? (i := 96) rfl)) rfl
  | 5, _ => exact zgm (zt1 (List.mem_of_getElem? (i := 98) rfl)) rfl
  | 6, _ => exact zgm (zt1 (List.mem_of_getElem? (i := 100) rfl)) rfl
  | 7, _ => exact zgm (zt1 (List.mem_of_getElem? (i := 102) rfl)) rfl
  | k + 8, h => exact absurd h (by omega)
theorem iX6 : ∀ w ∈ wsX60, w ∈ zG := fun w hw => by
  obtain ⟨k, hk, rfl⟩ := List.mem_map.mp hw
  have hk := List.mem_range.mp hk
  match k, hk with
  | 0, _ => exact zgm (zt1 (List.mem_of_getElem? (i := 59) rfl)) rfl
  | 1, _ => exact zgm (zt1 (List.mem_of_getElem? (i := 61) rfl)) rfl
  | 2, _ => exact zgm (zt1 (List.mem_of_getElem? (i := 63) rfl)) rfl
  | 3, _ => exact zgm (zt1 (List.mem_of_getElem? (i := 65) rfl)) rfl
  | 4, _ => exact zgm (zt1 (List.mem_of_getElem? (i := 67) rfl)) rfl
  | 5, _ => exact zgm (zt1 (List.mem_of_getElem? (i := 69) rfl)) rfl
  | 6, _ => exact zgm (zt1 (List.mem_of_getElem? (i := 71) rfl)) rfl
  | k + 7, h => exact absurd h (by omega)
theorem iX7 : ∀ w ∈ wsX70, w ∈ zG := fun w hw => by
  obtain ⟨k, hk, rfl⟩ := List.mem_map.mp hw
  have hk := List.mem_range.mp hk
  match k, hk with
  | 0, _ => exact zgm (zt1 (List.mem_of_getElem? (i := 38) rfl)) rfl
  | 1, _ => exact zgm (zt1 (List.mem_of_getElem? (i := 40) rfl)) rfl
  | k + 2, h => exact absurd h (by omega)
theorem iX8 : ∀ w ∈ wsX80, w ∈ zG := fun w hw => by
  obtain ⟨k, hk, rfl⟩ := List.mem_map.mp hw
  have hk := List.mem_range.mp hk
  match k, hk with
  | 0, _ => exact zgm (zt2 (List.mem_of_getElem? (i := 80) rfl)) rfl
  | 1, _ => exact zgm (zt2 (List.mem_of_getElem? (i := 82) rfl)) rfl
  | 2, _ => exact zgm (zt2 (List.mem_of_getElem? (i := 84) rfl)) rfl
  | 3, _ => exact zgm (zt2 (List.mem_of_getElem? (i := 86) rfl)) rfl
  | 4, _ => exact zgm (zt2 (List.mem_of_getElem? (i := 88) rfl)) rfl
  | 5, _ => exact zgm (zt2 (List.mem_of_getElem? (i := 90) rfl)) rfl
  | 6, _ => exact zgm (zt2 (List.mem_of_getElem? (i := 92) rfl)) rfl
  | 7, _ => exact zgm (zt2 (List.mem_of_getElem? (i := 94) rfl)) rfl
  | 8, _ => exact zgm (zt2 (List.mem_of_getElem? (i := 96) rfl)) rfl
  | 9, _ => exact zgm (zt2 (List.mem_of_getElem? (i := 98) rfl)) rfl
  | 10, _ => exact zgm (zt2 (List.mem_of_getElem? (i := 100) rfl)) rfl
  | 11, _ => exact zgm (zt2 (List.mem_of_getElem? (i := 102) rfl)) rfl
  | 12, _ => exact zgm (zt2 (List.mem_of_getElem? (i := 104) rfl)) rfl
  | 13, _ => exact zgm (zt2 (List.mem_of_getElem? (i := 106) rfl)) rfl
  | k + 14, h => exact absurd h (by omega)
theorem iX9 : ∀ w ∈ wsX90, w ∈ zG := fun w hw => by
  obtain ⟨k, hk, rfl⟩ := List.mem_map.mp hw
  have hk := List.mem_range.mp hk
  match k, hk with
  | 0, _ => exact zgm (zt6 (List.mem_of_getElem? (i := 53) rfl)) rfl
  | 1, _ => exact zgm (zt6 (List.mem_of_getElem? (i := 55) rfl)) rfl
  | 2, _ => exact zgm (zt6 (List.mem_of_getElem? (i := 57) rfl)) rfl
  | 3, _ => exact zgm (zt6 (List.mem_of_getElem? (i := 59) rfl)) rfl
  | 4, _ => exact zgm (zt6 (List.mem_of_getElem? (i := 61) rfl)) rfl
  | 5, _ => exact zgm (zt6 (List.mem_of_getElem? (i := 63) rfl)) rfl
  | 6, _ => exact zgm (zt6 (List.mem_of_getElem? (i := 65) rfl)) rfl
  | 7, _ => exact zgm (zt6 (List.mem_of_getElem? (i := 67) rfl)) rfl
  | 8, _ => exact zgm (zt6 (List.mem_of_getElem? (i := 69) rfl)) rfl
  | 9, _ => exact zgm (zt6 (List.mem_of_getElem? (i := 71) rfl)) rfl
  | 10, _ => exact zgm (zt6 (List.mem_of_getElem? (i := 73) rfl)) rfl
  | 11, _ => exact zgm (zt6 (List.mem_of_getElem? (i := 75) rfl)) rfl
  | 12, _ => exact zgm (zt6 (List.mem_of_getElem? (i := 77) rfl)) rfl
  | 13, _ => exact zgm (zt6 (List.mem_of_getElem? (i := 79) rfl)) rfl
  | 14, _ => exact zgm (zt6 (List.mem_of_getElem? (i := 81) rfl)) rfl
  | 15, _ => exact zgm (zt6 (List.mem_of_getElem? (i := 83) rfl)) rfl
  | 16, _ => exact zgm (zt6 (List.mem_of_getElem? (i := 85) rfl)) rfl
  | 17, _ => exact zgm (zt6 (List.mem_of_getElem? (i := 87) rfl)) rfl
  | 18, _ => exact zgm (zt6 (List.mem_of_getElem? (i := 89) rfl)) rfl
  | 19, _ => exact zgm (zt6 (List.mem_of_getElem? (i := 91) rfl)) rfl
  | 20, _ => exact zgm (zt6 (List.mem_of_getElem? (i := 93) rfl)) rfl
  | 21, _ => exact zgm (zt6 (List.mem_of_getElem? (i := 95) rfl)) rfl
  | 22, _ => exact zgm (zt6 (List.mem_of_getElem? (i := 97) rfl)) rfl
  | 23, _ => exact zgm (zt6 (List.mem_of_getElem? (i := 99) rfl)) rfl
  | 24, _ => exact zgm (zt6 (List.mem_of_getElem? (i := 101) rfl)) rfl
  | 25, _ => exact zgm (zt6 (List.mem_of_getElem? (i := 103) rfl)) rfl
  | 26, _ => exact zgm (zt6 (List.mem_of_getElem? (i := 105) rfl)) rfl
  | 27, _ => exact zgm (zt6 (List.mem_of_getElem? (i := 107) rfl)) rfl
  | 28, _ => exact zgm (zt6 (List.mem_of_getElem? (i := 109) rfl)) rfl
  | 29, _ => exact zgm (zt6 (List.mem_of_getElem? (i := 111) rfl)) rfl
  | 30, _ => exact zgm (zt6 (List.mem_of_getElem? (i := 113) rfl)) rfl
  | 31, _ => exact zgm (zt6 (List.mem_of_getElem? (i := 115) rfl)) rfl
  | 32, _ => exact zgm (zt6 (List.mem_of_getElem? (i := 117) rfl)) rfl
  | 33, _ => exact zgm (zt6 (List.mem_of_getElem? (i := 119) rfl)) rfl
  | 34, _ => exact zgm (zt6 (List.mem_of_getElem? (i := 121) rfl)) rfl
  | 35, _ => exact zgm (zt6 (List.mem_of_getElem? (i := 123) rfl)) rfl
  | 36, _ => exact zgm (zt6 (List.mem_of_getElem? (i := 125) rfl)) rfl
  | k + 37, h => exact absurd h (by omega)
theorem hJ0_charAt_5068e : yJ0_charAt_5068e.cls ≠ "java/lang/invoke/MethodHandle" ∧ yJ0_charAt_5068e.cls ≠ "java/lang/invoke/VarHandle" ∧ (parseMethodDescriptor yJ0_charAt_5068e.desc).map (fun d => d.parameters.length) = some 1 := by decide +kernel
theorem hJ0_checkIndex_df160 : yJ0_checkIndex_df160.cls ≠ "java/lang/invoke/MethodHandle" ∧ yJ0_checkIndex_df160.cls ≠ "java/lang/invoke/VarHandle" ∧ (parseMethodDescriptor yJ0_checkIndex_df160.desc).map (fun d => d.parameters.length) = some 2 := by decide +kernel
theorem hJ0_coder_7d493 : yJ0_coder_7d493.cls ≠ "java/lang/invoke/MethodHandle" ∧ yJ0_coder_7d493.cls ≠ "java/lang/invoke/VarHandle" ∧ (parseMethodDescriptor yJ0_coder_7d493.desc).map (fun d => d.parameters.length) = some 0 := by decide +kernel
theorem hJ0_isLatin1_aae02 : yJ0_isLatin1_aae02.cls ≠ "java/lang/invoke/MethodHandle" ∧ yJ0_isLatin1_aae02.cls ≠ "java/lang/invoke/VarHandle" ∧ (parseMethodDescriptor yJ0_isLatin1_aae02.desc).map (fun d => d.parameters.length) = some 0 := by decide +kernel
theorem hJ0_length_8abf5 : yJ0_length_8abf5.cls ≠ "java/lang/invoke/MethodHandle" ∧ yJ0_length_8abf5.cls ≠ "java/lang/invoke/VarHandle" ∧ (parseMethodDescriptor yJ0_length_8abf5.desc).map (fun d => d.parameters.length) = some 0 := by decide +kernel
theorem hJ1_charAt_3b067 : yJ1_charAt_3b067.cls ≠ "java/lang/invoke/MethodHandle" ∧ yJ1_charAt_3b067.cls ≠ "java/lang/invoke/VarHandle" ∧ (parseMethodDescriptor yJ1_charAt_3b067.desc).map (fun d => d.parameters.length) = some 2 := by decide +kernel
theorem hJ2_charAt_3b067 : yJ2_charAt_3b067.cls ≠ "java/lang/invoke/MethodHandle" ∧ yJ2_charAt_3b067.cls ≠ "java/lang/invoke/VarHandle" ∧ (parseMethodDescriptor yJ2_charAt_3b067.desc).map (fun d => d.parameters.length) = some 2 := by decide +kernel
theorem hJ2_checkIndex_2214a : yJ2_checkIndex_2214a.cls ≠ "java/lang/invoke/MethodHandle" ∧ yJ2_checkIndex_2214a.cls ≠ "java/lang/invoke/VarHandle" ∧ (parseMethodDescriptor yJ2_checkIndex_2214a.desc).map (fun d => d.parameters.length) = some 2 := by decide +kernel
theorem hJ2_getChar_3b067 : yJ2_getChar_3b067.cls ≠ "java/lang/invoke/MethodHandle" ∧ yJ2_getChar_3b067.cls ≠ "java/lang/invoke/VarHandle" ∧ (parseMethodDescriptor yJ2_getChar_3b067.desc).map (fun d => d.parameters.length) = some 2 := by decide +kernel
theorem hJ2_length_9d52b : yJ2_length_9d52b.cls ≠ "java/lang/invoke/MethodHandle" ∧ yJ2_length_9d52b.cls ≠ "java/lang/invoke/VarHandle" ∧ (parseMethodDescriptor yJ2_length_9d52b.desc).map (fun d => d.parameters.length) = some 1 := by decide +kernel
theorem hJ3_checkIndex_8e157 : yJ3_checkIndex_8e157.cls ≠ "java/lang/invoke/MethodHandle" ∧ yJ3_checkIndex_8e157.cls ≠ "java/lang/invoke/VarHandle" ∧ (parseMethodDescriptor yJ3_checkIndex_8e157.desc).map (fun d => d.parameters.length) = some 3 := by decide +kernel
theorem hJ6_bitCount_0f7a4 : yJ6_bitCount_0f7a4.cls ≠ "java/lang/invoke/MethodHandle" ∧ yJ6_bitCount_0f7a4.cls ≠ "java/lang/invoke/VarHandle" ∧ (parseMethodDescriptor yJ6_bitCount_0f7a4.desc).map (fun d => d.parameters.length) = some 1 := by decide +kernel
theorem hJ7_fill_031fb : yJ7_fill_031fb.cls ≠ "java/lang/invoke/MethodHandle" ∧ yJ7_fill_031fb.cls ≠ "java/lang/invoke/VarHandle" ∧ (parseMethodDescriptor yJ7_fill_031fb.desc).map (fun d => d.parameters.length) = some 2 := by decide +kernel
theorem hJ7_fill_53178 : yJ7_fill_53178.cls ≠ "java/lang/invoke/MethodHandle" ∧ yJ7_fill_53178.cls ≠ "java/lang/invoke/VarHandle" ∧ (parseMethodDescriptor yJ7_fill_53178.desc).map (fun d => d.parameters.length) = some 2 := by decide +kernel
theorem hJ9_max_7cf53 : yJ9_max_7cf53.cls ≠ "java/lang/invoke/MethodHandle" ∧ yJ9_max_7cf53.cls ≠ "java/lang/invoke/VarHandle" ∧ (parseMethodDescriptor yJ9_max_7cf53.desc).map (fun d => d.parameters.length) = some 2 := by decide +kernel
theorem hJ9_min_7cf53 : yJ9_min_7cf53.cls ≠ "java/lang/invoke/MethodHandle" ∧ yJ9_min_7cf53.cls ≠ "java/lang/invoke/VarHandle" ∧ (parseMethodDescriptor yJ9_min_7cf53.desc).map (fun d => d.parameters.length) = some 2 := by decide +kernel
theorem hX0_init : yX0_init.cls ≠ "java/lang/invoke/MethodHandle" ∧ yX0_init.cls ≠ "java/lang/invoke/VarHandle" ∧ (parseMethodDescriptor yX0_init.desc).map (fun d => d.parameters.length) = some 0 := by decide +kernel
theorem hX0_keep : yX0_keep.cls ≠ "java/lang/invoke/MethodHandle" ∧ yX0_keep.cls ≠ "java/lang/invoke/VarHandle" ∧ (parseMethodDescriptor yX0_keep.desc).map (fun d => d.parameters.length) = some 2 := by decide +kernel
theorem hX0_takeBack : yX0_takeBack.cls ≠ "java/lang/invoke/MethodHandle" ∧ yX0_takeBack.cls ≠ "java/lang/invoke/VarHandle" ∧ (parseMethodDescriptor yX0_takeBack.desc).map (fun d => d.parameters.length) = some 1 := by decide +kernel
theorem hX1_explains : yX1_explains.cls ≠ "java/lang/invoke/MethodHandle" ∧ yX1_explains.cls ≠ "java/lang/invoke/VarHandle" ∧ (parseMethodDescriptor yX1_explains.desc).map (fun d => d.parameters.length) = some 3 := by decide +kernel
theorem hX1_fitAt : yX1_fitAt.cls ≠ "java/lang/invoke/MethodHandle" ∧ yX1_fitAt.cls ≠ "java/lang/invoke/VarHandle" ∧ (parseMethodDescriptor yX1_fitAt.desc).map (fun d => d.parameters.length) = some 3 := by decide +kernel
theorem hX1_init : yX1_init.cls ≠ "java/lang/invoke/MethodHandle" ∧ yX1_init.cls ≠ "java/lang/invoke/VarHandle" ∧ (parseMethodDescriptor yX1_init.desc).map (fun d => d.parameters.length) = some 0 := by decide +kernel
theorem hX1_mostLeft : yX1_mostLeft.cls ≠ "java/lang/invoke/MethodHandle" ∧ yX1_mostLeft.cls ≠ "java/lang/invoke/VarHandle" ∧ (parseMethodDescriptor yX1_mostLeft.desc).map (fun d => d.parameters.length) = some 4 := by decide +kernel
theorem hX1_take : yX1_take.cls ≠ "java/lang/invoke/MethodHandle" ∧ yX1_take.cls ≠ "java/lang/invoke/VarHandle" ∧ (parseMethodDescriptor yX1_take.desc).map (fun d => d.parameters.length) = some 2 := by decide +kernel
theorem hX1_tellingFlange : yX1_tellingFlange.cls ≠ "java/lang/invoke/MethodHandle" ∧ yX1_tellingFlange.cls ≠ "java/lang/invoke/VarHandle" ∧ (parseMethodDescriptor yX1_tellingFlange.desc).map (fun d => d.parameters.length) = some 3 := by decide +kernel
theorem hX2_codeOf : yX2_codeOf.cls ≠ "java/lang/invoke/MethodHandle" ∧ yX2_codeOf.cls ≠ "java/lang/invoke/VarHandle" ∧ (parseMethodDescriptor yX2_codeOf.desc).map (fun d => d.parameters.length) = some 2 := by decide +kernel
theorem hX2_decode : yX2_decode.cls ≠ "java/lang/invoke/MethodHandle" ∧ yX2_decode.cls ≠ "java/lang/invoke/VarHandle" ∧ (parseMethodDescriptor yX2_decode.desc).map (fun d => d.parameters.length) = some 1 := by decide +kernel
theorem hX2_init : yX2_init.cls ≠ "java/lang/invoke/MethodHandle" ∧ yX2_init.cls ≠ "java/lang/invoke/VarHandle" ∧ (parseMethodDescriptor yX2_init.desc).map (fun d => d.parameters.length) = some 0 := by decide +kernel
theorem hX2_leastTurns : yX2_leastTurns.cls ≠ "java/lang/invoke/MethodHandle" ∧ yX2_leastTurns.cls ≠ "java/lang/invoke/VarHandle" ∧ (parseMethodDescriptor yX2_leastTurns.desc).map (fun d => d.parameters.length) = some 3 := by decide +kernel
theorem hX2_mark : yX2_mark.cls ≠ "java/lang/invoke/MethodHandle" ∧ yX2_mark.cls ≠ "java/lang/invoke/VarHandle" ∧ (parseMethodDescriptor yX2_mark.desc).map (fun d => d.parameters.length) = some 3 := by decide +kernel
theorem hX2_spread : yX2_spread.cls ≠ "java/lang/invoke/MethodHandle" ∧ yX2_spread.cls ≠ "java/lang/invoke/VarHandle" ∧ (parseMethodDescriptor yX2_spread.desc).map (fun d => d.parameters.length) = some 3 := by decide +kernel
theorem hX3_append : yX3_append.cls ≠ "java/lang/invoke/MethodHandle" ∧ yX3_append.cls ≠ "java/lang/invoke/VarHandle" ∧ (parseMethodDescriptor yX3_append.desc).map (fun d => d.parameters.length) = some 2 := by decide +kernel
theorem hX3_blocked : yX3_blocked.cls ≠ "java/lang/invoke/MethodHandle" ∧ yX3_blocked.cls ≠ "java/lang/invoke/VarHandle" ∧ (parseMethodDescriptor yX3_blocked.desc).map (fun d => d.parameters.length) = some 0 := by decide +kernel
theorem hX3_canEndWith : yX3_canEndWith.cls ≠ "java/lang/invoke/MethodHandle" ∧ yX3_canEndWith.cls ≠ "java/lang/invoke/VarHandle" ∧ (parseMethodDescriptor yX3_canEndWith.desc).map (fun d => d.parameters.length) = some 1 := by decide +kernel
theorem hX3_cell : yX3_cell.cls ≠ "java/lang/invoke/MethodHandle" ∧ yX3_cell.cls ≠ "java/lang/invoke/VarHandle" ∧ (parseMethodDescriptor yX3_cell.desc).map (fun d => d.parameters.length) = some 2 := by decide +kernel
theorem hX3_clearBends : yX3_clearBends.cls ≠ "java/lang/invoke/MethodHandle" ∧ yX3_clearBends.cls ≠ "java/lang/invoke/VarHandle" ∧ (parseMethodDescriptor yX3_clearBends.desc).map (fun d => d.parameters.length) = some 1 := by decide +kernel
theorem hX3_countDeadEnds : yX3_countDeadEnds.cls ≠ "java/lang/invoke/MethodHandle" ∧ yX3_countDeadEnds.cls ≠ "java/lang/invoke/VarHandle" ∧ (parseMethodDescriptor yX3_countDeadEnds.desc).map (fun d => d.parameters.length) = some 0 := by decide +kernel
theorem hX3_countReached : yX3_countReached.cls ≠ "java/lang/invoke/MethodHandle" ∧ yX3_countReached.cls ≠ "java/lang/invoke/VarHandle" ∧ (parseMethodDescriptor yX3_countReached.desc).map (fun d => d.parameters.length) = some 0 := by decide +kernel
theorem hX3_countSwitches : yX3_countSwitches.cls ≠ "java/lang/invoke/MethodHandle" ∧ yX3_countSwitches.cls ≠ "java/lang/invoke/VarHandle" ∧ (parseMethodDescriptor yX3_countSwitches.desc).map (fun d => d.parameters.length) = some 2 := by decide +kernel
theorem hX3_firstOfRow : yX3_firstOfRow.cls ≠ "java/lang/invoke/MethodHandle" ∧ yX3_firstOfRow.cls ≠ "java/lang/invoke/VarHandle" ∧ (parseMethodDescriptor yX3_firstOfRow.desc).map (fun d => d.parameters.length) = some 1 := by decide +kernel
theorem hX3_firstThatGoesOn : yX3_firstThatGoesOn.cls ≠ "java/lang/invoke/MethodHandle" ∧ yX3_firstThatGoesOn.cls ≠ "java/lang/invoke/VarHandle" ∧ (parseMethodDescriptor yX3_firstThatGoesOn.desc).map (fun d => d.parameters.length) = some 1 := by decide +kernel
theorem hX3_firstThrifty : yX3_firstThrifty.cls ≠ "java/lang/invoke/MethodHandle" ∧ yX3_firstThrifty.cls ≠ "java/lang/invoke/VarHandle" ∧ (parseMethodDescriptor yX3_firstThrifty.desc).map (fun d => d.parameters.length) = some 2 := by decide +kernel
theorem hX3_fullestDeadEnd : yX3_fullestDeadEnd.cls ≠ "java/lang/invoke/MethodHandle" ∧ yX3_fullestDeadEnd.cls ≠ "java/lang/invoke/VarHandle" ∧ (parseMethodDescriptor yX3_fullestDeadEnd.desc).map (fun d => d.parameters.length) = some 0 := by decide +kernel
theorem hX3_goesOn : yX3_goesOn.cls ≠ "java/lang/invoke/MethodHandle" ∧ yX3_goesOn.cls ≠ "java/lang/invoke/VarHandle" ∧ (parseMethodDescriptor yX3_goesOn.desc).map (fun d => d.parameters.length) = some 2 := by decide +kernel
theorem hX3_init : yX3_init.cls ≠ "java/lang/invoke/MethodHandle" ∧ yX3_init.cls ≠ "java/lang/invoke/VarHandle" ∧ (parseMethodDescriptor yX3_init.desc).map (fun d => d.parameters.length) = some 0 := by decide +kernel
theorem hX3_isClear : yX3_isClear.cls ≠ "java/lang/invoke/MethodHandle" ∧ yX3_isClear.cls ≠ "java/lang/invoke/VarHandle" ∧ (parseMethodDescriptor yX3_isClear.desc).map (fun d => d.parameters.length) = some 2 := by decide +kernel
theorem hX3_isDeadEnd : yX3_isDeadEnd.cls ≠ "java/lang/invoke/MethodHandle" ∧ yX3_isDeadEnd.cls ≠ "java/lang/invoke/VarHandle" ∧ (parseMethodDescriptor yX3_isDeadEnd.desc).map (fun d => d.parameters.length) = some 1 := by decide +kernel
theorem hX3_isReached : yX3_isReached.cls ≠ "java/lang/invoke/MethodHandle" ∧ yX3_isReached.cls ≠ "java/lang/invoke/VarHandle" ∧ (parseMethodDescriptor yX3_isReached.desc).map (fun d => d.parameters.length) = some 1 := by decide +kernel
theorem hX3_leastFrom : yX3_leastFrom.cls ≠ "java/lang/invoke/MethodHandle" ∧ yX3_leastFrom.cls ≠ "java/lang/invoke/VarHandle" ∧ (parseMethodDescriptor yX3_leastFrom.desc).map (fun d => d.parameters.length) = some 2 := by decide +kernel
theorem hX3_measureRooms : yX3_measureRooms.cls ≠ "java/lang/invoke/MethodHandle" ∧ yX3_measureRooms.cls ≠ "java/lang/invoke/VarHandle" ∧ (parseMethodDescriptor yX3_measureRooms.desc).map (fun d => d.parameters.length) = some 3 := by decide +kernel
theorem hX3_ordersFrom : yX3_ordersFrom.cls ≠ "java/lang/invoke/MethodHandle" ∧ yX3_ordersFrom.cls ≠ "java/lang/invoke/VarHandle" ∧ (parseMethodDescriptor yX3_ordersFrom.desc).map (fun d => d.parameters.length) = some 1 := by decide +kernel
theorem hX3_passesWithout : yX3_passesWithout.cls ≠ "java/lang/invoke/MethodHandle" ∧ yX3_passesWithout.cls ≠ "java/lang/invoke/VarHandle" ∧ (parseMethodDescriptor yX3_passesWithout.desc).map (fun d => d.parameters.length) = some 2 := by decide +kernel
theorem hX3_rowAt : yX3_rowAt.cls ≠ "java/lang/invoke/MethodHandle" ∧ yX3_rowAt.cls ≠ "java/lang/invoke/VarHandle" ∧ (parseMethodDescriptor yX3_rowAt.desc).map (fun d => d.parameters.length) = some 1 := by decide +kernel
theorem hX3_searchFrom : yX3_searchFrom.cls ≠ "java/lang/invoke/MethodHandle" ∧ yX3_searchFrom.cls ≠ "java/lang/invoke/VarHandle" ∧ (parseMethodDescriptor yX3_searchFrom.desc).map (fun d => d.parameters.length) = some 2 := by decide +kernel
theorem hX3_switchesWith : yX3_switchesWith.cls ≠ "java/lang/invoke/MethodHandle" ∧ yX3_switchesWith.cls ≠ "java/lang/invoke/VarHandle" ∧ (parseMethodDescriptor yX3_switchesWith.desc).map (fun d => d.parameters.length) = some 3 := by decide +kernel
theorem hX3_tallestPunch : yX3_tallestPunch.cls ≠ "java/lang/invoke/MethodHandle" ∧ yX3_tallestPunch.cls ≠ "java/lang/invoke/VarHandle" ∧ (parseMethodDescriptor yX3_tallestPunch.desc).map (fun d => d.parameters.length) = some 0 := by decide +kernel
theorem hX3_walkFirst : yX3_walkFirst.cls ≠ "java/lang/invoke/MethodHandle" ∧ yX3_walkFirst.cls ≠ "java/lang/invoke/VarHandle" ∧ (parseMethodDescriptor yX3_walkFirst.desc).map (fun d => d.parameters.length) = some 0 := by decide +kernel
theorem hX3_walkThrifty : yX3_walkThrifty.cls ≠ "java/lang/invoke/MethodHandle" ∧ yX3_walkThrifty.cls ≠ "java/lang/invoke/VarHandle" ∧ (parseMethodDescriptor yX3_walkThrifty.desc).map (fun d => d.parameters.length) = some 0 := by decide +kernel
theorem hX4_allBends : yX4_allBends.cls ≠ "java/lang/invoke/MethodHandle" ∧ yX4_allBends.cls ≠ "java/lang/invoke/VarHandle" ∧ (parseMethodDescriptor yX4_allBends.desc).map (fun d => d.parameters.length) = some 0 := by decide +kernel
theorem hX4_allowanceOf : yX4_allowanceOf.cls ≠ "java/lang/invoke/MethodHandle" ∧ yX4_allowanceOf.cls ≠ "java/lang/invoke/VarHandle" ∧ (parseMethodDescriptor yX4_allowanceOf.desc).map (fun d => d.parameters.length) = some 1 := by decide +kernel
theorem hX4_bendsBetween : yX4_bendsBetween.cls ≠ "java/lang/invoke/MethodHandle" ∧ yX4_bendsBetween.cls ≠ "java/lang/invoke/VarHandle" ∧ (parseMethodDescriptor yX4_bendsBetween.desc).map (fun d => d.parameters.length) = some 2 := by decide +kernel
theorem hX4_chooseTools : yX4_chooseTools.cls ≠ "java/lang/invoke/MethodHandle" ∧ yX4_chooseTools.cls ≠ "java/lang/invoke/VarHandle" ∧ (parseMethodDescriptor yX4_chooseTools.desc).map (fun d => d.parameters.length) = some 0 := by decide +kernel
theorem hX4_clear : yX4_clear.cls ≠ "java/lang/invoke/MethodHandle" ∧ yX4_clear.cls ≠ "java/lang/invoke/VarHandle" ∧ (parseMethodDescriptor yX4_clear.desc).map (fun d => d.parameters.length) = some 0 := by decide +kernel
theorem hX4_countHangers : yX4_countHangers.cls ≠ "java/lang/invoke/MethodHandle" ∧ yX4_countHangers.cls ≠ "java/lang/invoke/VarHandle" ∧ (parseMethodDescriptor yX4_countHangers.desc).map (fun d => d.parameters.length) = some 1 := by decide +kernel
theorem hX4_countWithoutTools : yX4_countWithoutTools.cls ≠ "java/lang/invoke/MethodHandle" ∧ yX4_countWithoutTools.cls ≠ "java/lang/invoke/VarHandle" ∧ (parseMethodDescriptor yX4_countWithoutTools.desc).map (fun d => d.parameters.length) = some 0 := by decide +kernel
theorem hX4_depth : yX4_depth.cls ≠ "java/lang/invoke/MethodHandle" ∧ yX4_depth.cls ≠ "java/lang/invoke/VarHandle" ∧ (parseMethodDescriptor yX4_depth.desc).map (fun d => d.parameters.length) = some 1 := by decide +kernel
theorem hX4_hangsBy : yX4_hangsBy.cls ≠ "java/lang/invoke/MethodHandle" ∧ yX4_hangsBy.cls ≠ "java/lang/invoke/VarHandle" ∧ (parseMethodDescriptor yX4_hangsBy.desc).map (fun d => d.parameters.length) = some 2 := by decide +kernel
theorem hX4_hangsOn : yX4_hangsOn.cls ≠ "java/lang/invoke/MethodHandle" ∧ yX4_hangsOn.cls ≠ "java/lang/invoke/VarHandle" ∧ (parseMethodDescriptor yX4_hangsOn.desc).map (fun d => d.parameters.length) = some 2 := by decide +kernel
theorem hX4_init : yX4_init.cls ≠ "java/lang/invoke/MethodHandle" ∧ yX4_init.cls ≠ "java/lang/invoke/VarHandle" ∧ (parseMethodDescriptor yX4_init.desc).map (fun d => d.parameters.length) = some 0 := by decide +kernel
theorem hX4_isBend : yX4_isBend.cls ≠ "java/lang/invoke/MethodHandle" ∧ yX4_isBend.cls ≠ "java/lang/invoke/VarHandle" ∧ (parseMethodDescriptor yX4_isBend.desc).map (fun d => d.parameters.length) = some 1 := by decide +kernel
theorem hX4_isFlange : yX4_isFlange.cls ≠ "java/lang/invoke/MethodHandle" ∧ yX4_isFlange.cls ≠ "java/lang/invoke/VarHandle" ∧ (parseMethodDescriptor yX4_isFlange.desc).map (fun d => d.parameters.length) = some 1 := by decide +kernel
theorem hX4_isPiece : yX4_isPiece.cls ≠ "java/lang/invoke/MethodHandle" ∧ yX4_isPiece.cls ≠ "java/lang/invoke/VarHandle" ∧ (parseMethodDescriptor yX4_isPiece.desc).map (fun d => d.parameters.length) = some 1 := by decide +kernel
theorem hX4_isState : yX4_isState.cls ≠ "java/lang/invoke/MethodHandle" ∧ yX4_isState.cls ≠ "java/lang/invoke/VarHandle" ∧ (parseMethodDescriptor yX4_isState.desc).map (fun d => d.parameters.length) = some 1 := by decide +kernel
theorem hX4_isThere : yX4_isThere.cls ≠ "java/lang/invoke/MethodHandle" ∧ yX4_isThere.cls ≠ "java/lang/invoke/VarHandle" ∧ (parseMethodDescriptor yX4_isThere.desc).map (fun d => d.parameters.length) = some 0 := by decide +kernel
theorem hX4_leastWidthWithoutTools : yX4_leastWidthWithoutTools.cls ≠ "java/lang/invoke/MethodHandle" ∧ yX4_leastWidthWithoutTools.cls ≠ "java/lang/invoke/VarHandle" ∧ (parseMethodDescriptor yX4_leastWidthWithoutTools.desc).map (fun d => d.parameters.length) = some 0 := by decide +kernel
theorem hX4_lengthOf : yX4_lengthOf.cls ≠ "java/lang/invoke/MethodHandle" ∧ yX4_lengthOf.cls ≠ "java/lang/invoke/VarHandle" ∧ (parseMethodDescriptor yX4_lengthOf.desc).map (fun d => d.parameters.length) = some 1 := by decide +kernel
theorem hX4_needsTools : yX4_needsTools.cls ≠ "java/lang/invoke/MethodHandle" ∧ yX4_needsTools.cls ≠ "java/lang/invoke/VarHandle" ∧ (parseMethodDescriptor yX4_needsTools.desc).map (fun d => d.parameters.length) = some 1 := by decide +kernel
theorem hX4_offerTools : yX4_offerTools.cls ≠ "java/lang/invoke/MethodHandle" ∧ yX4_offerTools.cls ≠ "java/lang/invoke/VarHandle" ∧ (parseMethodDescriptor yX4_offerTools.desc).map (fun d => d.parameters.length) = some 2 := by decide +kernel
theorem hX4_runsAlongX : yX4_runsAlongX.cls ≠ "java/lang/invoke/MethodHandle" ∧ yX4_runsAlongX.cls ≠ "java/lang/invoke/VarHandle" ∧ (parseMethodDescriptor yX4_runsAlongX.desc).map (fun d => d.parameters.length) = some 1 := by decide +kernel
theorem hX4_sharesSide : yX4_sharesSide.cls ≠ "java/lang/invoke/MethodHandle" ∧ yX4_sharesSide.cls ≠ "java/lang/invoke/VarHandle" ∧ (parseMethodDescriptor yX4_sharesSide.desc).map (fun d => d.parameters.length) = some 2 := by decide +kernel
theorem hX4_sideLength : yX4_sideLength.cls ≠ "java/lang/invoke/MethodHandle" ∧ yX4_sideLength.cls ≠ "java/lang/invoke/VarHandle" ∧ (parseMethodDescriptor yX4_sideLength.desc).map (fun d => d.parameters.length) = some 2 := by decide +kernel
theorem hX4_sizeX : yX4_sizeX.cls ≠ "java/lang/invoke/MethodHandle" ∧ yX4_sizeX.cls ≠ "java/lang/invoke/VarHandle" ∧ (parseMethodDescriptor yX4_sizeX.desc).map (fun d => d.parameters.length) = some 1 := by decide +kernel
theorem hX4_sizeY : yX4_sizeY.cls ≠ "java/lang/invoke/MethodHandle" ∧ yX4_sizeY.cls ≠ "java/lang/invoke/VarHandle" ∧ (parseMethodDescriptor yX4_sizeY.desc).map (fun d => d.parameters.length) = some 1 := by decide +kernel
theorem hX4_timesInLength : yX4_timesInLength.cls ≠ "java/lang/invoke/MethodHandle" ∧ yX4_timesInLength.cls ≠ "java/lang/invoke/VarHandle" ∧ (parseMethodDescriptor yX4_timesInLength.desc).map (fun d => d.parameters.length) = some 2 := by decide +kernel
theorem hX4_widthOfTools : yX4_widthOfTools.cls ≠ "java/lang/invoke/MethodHandle" ∧ yX4_widthOfTools.cls ≠ "java/lang/invoke/VarHandle" ∧ (parseMethodDescriptor yX4_widthOfTools.desc).map (fun d => d.parameters.length) = some 1 := by decide +kernel
theorem hX4_zoneOf : yX4_zoneOf.cls ≠ "java/lang/invoke/MethodHandle" ∧ yX4_zoneOf.cls ≠ "java/lang/invoke/VarHandle" ∧ (parseMethodDescriptor yX4_zoneOf.desc).map (fun d => d.parameters.length) = some 1 := by decide +kernel
theorem hX5_against : yX5_against.cls ≠ "java/lang/invoke/MethodHandle" ∧ yX5_against.cls ≠ "java/lang/invoke/VarHandle" ∧ (parseMethodDescriptor yX5_against.desc).map (fun d => d.parameters.length) = some 1 := by decide +kernel
theorem hX5_alongSide : yX5_alongSide.cls ≠ "java/lang/invoke/MethodHandle" ∧ yX5_alongSide.cls ≠ "java/lang/invoke/VarHandle" ∧ (parseMethodDescriptor yX5_alongSide.desc).map (fun d => d.parameters.length) = some 2 := by decide +kernel
theorem hX5_area : yX5_area.cls ≠ "java/lang/invoke/MethodHandle" ∧ yX5_area.cls ≠ "java/lang/invoke/VarHandle" ∧ (parseMethodDescriptor yX5_area.desc).map (fun d => d.parameters.length) = some 1 := by decide +kernel
theorem hX5_clashes : yX5_clashes.cls ≠ "java/lang/invoke/MethodHandle" ∧ yX5_clashes.cls ≠ "java/lang/invoke/VarHandle" ∧ (parseMethodDescriptor yX5_clashes.desc).map (fun d => d.parameters.length) = some 2 := by decide +kernel
theorem hX5_doClash : yX5_doClash.cls ≠ "java/lang/invoke/MethodHandle" ∧ yX5_doClash.cls ≠ "java/lang/invoke/VarHandle" ∧ (parseMethodDescriptor yX5_doClash.desc).map (fun d => d.parameters.length) = some 2 := by decide +kernel
theorem hX5_extent : yX5_extent.cls ≠ "java/lang/invoke/MethodHandle" ∧ yX5_extent.cls ≠ "java/lang/invoke/VarHandle" ∧ (parseMethodDescriptor yX5_extent.desc).map (fun d => d.parameters.length) = some 2 := by decide +kernel
theorem hX5_gapOf : yX5_gapOf.cls ≠ "java/lang/invoke/MethodHandle" ∧ yX5_gapOf.cls ≠ "java/lang/invoke/VarHandle" ∧ (parseMethodDescriptor yX5_gapOf.desc).map (fun d => d.parameters.length) = some 2 := by decide +kernel
theorem hX5_goToSide : yX5_goToSide.cls ≠ "java/lang/invoke/MethodHandle" ∧ yX5_goToSide.cls ≠ "java/lang/invoke/VarHandle" ∧ (parseMethodDescriptor yX5_goToSide.desc).map (fun d => d.parameters.length) = some 2 := by decide +kernel
theorem hX5_highOf : yX5_highOf.cls ≠ "java/lang/invoke/MethodHandle" ∧ yX5_highOf.cls ≠ "java/lang/invoke/VarHandle" ∧ (parseMethodDescriptor yX5_highOf.desc).map (fun d => d.parameters.length) = some 2 := by decide +kernel
theorem hX5_init : yX5_init.cls ≠ "java/lang/invoke/MethodHandle" ∧ yX5_init.cls ≠ "java/lang/invoke/VarHandle" ∧ (parseMethodDescriptor yX5_init.desc).map (fun d => d.parameters.length) = some 0 := by decide +kernel
theorem hX5_isWithin : yX5_isWithin.cls ≠ "java/lang/invoke/MethodHandle" ∧ yX5_isWithin.cls ≠ "java/lang/invoke/VarHandle" ∧ (parseMethodDescriptor yX5_isWithin.desc).map (fun d => d.parameters.length) = some 3 := by decide +kernel
theorem hX5_leastLow : yX5_leastLow.cls ≠ "java/lang/invoke/MethodHandle" ∧ yX5_leastLow.cls ≠ "java/lang/invoke/VarHandle" ∧ (parseMethodDescriptor yX5_leastLow.desc).map (fun d => d.parameters.length) = some 2 := by decide +kernel
theorem hX5_lowOf : yX5_lowOf.cls ≠ "java/lang/invoke/MethodHandle" ∧ yX5_lowOf.cls ≠ "java/lang/invoke/VarHandle" ∧ (parseMethodDescriptor yX5_lowOf.desc).map (fun d => d.parameters.length) = some 2 := by decide +kernel
theorem hX5_metByPunch : yX5_metByPunch.cls ≠ "java/lang/invoke/MethodHandle" ∧ yX5_metByPunch.cls ≠ "java/lang/invoke/VarHandle" ∧ (parseMethodDescriptor yX5_metByPunch.desc).map (fun d => d.parameters.length) = some 2 := by decide +kernel
theorem hX5_mostHigh : yX5_mostHigh.cls ≠ "java/lang/invoke/MethodHandle" ∧ yX5_mostHigh.cls ≠ "java/lang/invoke/VarHandle" ∧ (parseMethodDescriptor yX5_mostHigh.desc).map (fun d => d.parameters.length) = some 2 := by decide +kernel
theorem hX5_move : yX5_move.cls ≠ "java/lang/invoke/MethodHandle" ∧ yX5_move.cls ≠ "java/lang/invoke/VarHandle" ∧ (parseMethodDescriptor yX5_move.desc).map (fun d => d.parameters.length) = some 3 := by decide +kernel
theorem hX5_outward : yX5_outward.cls ≠ "java/lang/invoke/MethodHandle" ∧ yX5_outward.cls ≠ "java/lang/invoke/VarHandle" ∧ (parseMethodDescriptor yX5_outward.desc).map (fun d => d.parameters.length) = some 2 := by decide +kernel
theorem hX5_overlaps : yX5_overlaps.cls ≠ "java/lang/invoke/MethodHandle" ∧ yX5_overlaps.cls ≠ "java/lang/invoke/VarHandle" ∧ (parseMethodDescriptor yX5_overlaps.desc).map (fun d => d.parameters.length) = some 2 := by decide +kernel
theorem hX5_place : yX5_place.cls ≠ "java/lang/invoke/MethodHandle" ∧ yX5_place.cls ≠ "java/lang/invoke/VarHandle" ∧ (parseMethodDescriptor yX5_place.desc).map (fun d => d.parameters.length) = some 3 := by decide +kernel
theorem hX5_placeBase : yX5_placeBase.cls ≠ "java/lang/invoke/MethodHandle" ∧ yX5_placeBase.cls ≠ "java/lang/invoke/VarHandle" ∧ (parseMethodDescriptor yX5_placeBase.desc).map (fun d => d.parameters.length) = some 1 := by decide +kernel
theorem hX5_placeFlange : yX5_placeFlange.cls ≠ "java/lang/invoke/MethodHandle" ∧ yX5_placeFlange.cls ≠ "java/lang/invoke/VarHandle" ∧ (parseMethodDescriptor yX5_placeFlange.desc).map (fun d => d.parameters.length) = some 4 := by decide +kernel
theorem hX5_placeFlat : yX5_placeFlat.cls ≠ "java/lang/invoke/MethodHandle" ∧ yX5_placeFlat.cls ≠ "java/lang/invoke/VarHandle" ∧ (parseMethodDescriptor yX5_placeFlat.desc).map (fun d => d.parameters.length) = some 1 := by decide +kernel
theorem hX5_roomFor : yX5_roomFor.cls ≠ "java/lang/invoke/MethodHandle" ∧ yX5_roomFor.cls ≠ "java/lang/invoke/VarHandle" ∧ (parseMethodDescriptor yX5_roomFor.desc).map (fun d => d.parameters.length) = some 3 := by decide +kernel
theorem hX5_setBox : yX5_setBox.cls ≠ "java/lang/invoke/MethodHandle" ∧ yX5_setBox.cls ≠ "java/lang/invoke/VarHandle" ∧ (parseMethodDescriptor yX5_setBox.desc).map (fun d => d.parameters.length) = some 5 := by decide +kernel
theorem hX5_share : yX5_share.cls ≠ "java/lang/invoke/MethodHandle" ∧ yX5_share.cls ≠ "java/lang/invoke/VarHandle" ∧ (parseMethodDescriptor yX5_share.desc).map (fun d => d.parameters.length) = some 3 := by decide +kernel
theorem hX5_signedNormal : yX5_signedNormal.cls ≠ "java/lang/invoke/MethodHandle" ∧ yX5_signedNormal.cls ≠ "java/lang/invoke/VarHandle" ∧ (parseMethodDescriptor yX5_signedNormal.desc).map (fun d => d.parameters.length) = some 1 := by decide +kernel
theorem hX5_size : yX5_size.cls ≠ "java/lang/invoke/MethodHandle" ∧ yX5_size.cls ≠ "java/lang/invoke/VarHandle" ∧ (parseMethodDescriptor yX5_size.desc).map (fun d => d.parameters.length) = some 1 := by decide +kernel
theorem hX5_standPunch : yX5_standPunch.cls ≠ "java/lang/invoke/MethodHandle" ∧ yX5_standPunch.cls ≠ "java/lang/invoke/VarHandle" ∧ (parseMethodDescriptor yX5_standPunch.desc).map (fun d => d.parameters.length) = some 4 := by decide +kernel
theorem hX6_begin : yX6_begin.cls ≠ "java/lang/invoke/MethodHandle" ∧ yX6_begin.cls ≠ "java/lang/invoke/VarHandle" ∧ (parseMethodDescriptor yX6_begin.desc).map (fun d => d.parameters.length) = some 1 := by decide +kernel
theorem hX6_checkWidth : yX6_checkWidth.cls ≠ "java/lang/invoke/MethodHandle" ∧ yX6_checkWidth.cls ≠ "java/lang/invoke/VarHandle" ∧ (parseMethodDescriptor yX6_checkWidth.desc).map (fun d => d.parameters.length) = some 1 := by decide +kernel
theorem hX6_fail : yX6_fail.cls ≠ "java/lang/invoke/MethodHandle" ∧ yX6_fail.cls ≠ "java/lang/invoke/VarHandle" ∧ (parseMethodDescriptor yX6_fail.desc).map (fun d => d.parameters.length) = some 2 := by decide +kernel
theorem hX6_find : yX6_find.cls ≠ "java/lang/invoke/MethodHandle" ∧ yX6_find.cls ≠ "java/lang/invoke/VarHandle" ∧ (parseMethodDescriptor yX6_find.desc).map (fun d => d.parameters.length) = some 1 := by decide +kernel
theorem hX6_init : yX6_init.cls ≠ "java/lang/invoke/MethodHandle" ∧ yX6_init.cls ≠ "java/lang/invoke/VarHandle" ∧ (parseMethodDescriptor yX6_init.desc).map (fun d => d.parameters.length) = some 1 := by decide +kernel
theorem hX6_isDigit : yX6_isDigit.cls ≠ "java/lang/invoke/MethodHandle" ∧ yX6_isDigit.cls ≠ "java/lang/invoke/VarHandle" ∧ (parseMethodDescriptor yX6_isDigit.desc).map (fun d => d.parameters.length) = some 1 := by decide +kernel
theorem hX6_isLetter : yX6_isLetter.cls ≠ "java/lang/invoke/MethodHandle" ∧ yX6_isLetter.cls ≠ "java/lang/invoke/VarHandle" ∧ (parseMethodDescriptor yX6_isLetter.desc).map (fun d => d.parameters.length) = some 1 := by decide +kernel
theorem hX6_isOwnWord : yX6_isOwnWord.cls ≠ "java/lang/invoke/MethodHandle" ∧ yX6_isOwnWord.cls ≠ "java/lang/invoke/VarHandle" ∧ (parseMethodDescriptor yX6_isOwnWord.desc).map (fun d => d.parameters.length) = some 0 := by decide +kernel
theorem hX6_isUp : yX6_isUp.cls ≠ "java/lang/invoke/MethodHandle" ∧ yX6_isUp.cls ≠ "java/lang/invoke/VarHandle" ∧ (parseMethodDescriptor yX6_isUp.desc).map (fun d => d.parameters.length) = some 0 := by decide +kernel
theorem hX6_keyword : yX6_keyword.cls ≠ "java/lang/invoke/MethodHandle" ∧ yX6_keyword.cls ≠ "java/lang/invoke/VarHandle" ∧ (parseMethodDescriptor yX6_keyword.desc).map (fun d => d.parameters.length) = some 1 := by decide +kernel
theorem hX6_moreText : yX6_moreText.cls ≠ "java/lang/invoke/MethodHandle" ∧ yX6_moreText.cls ≠ "java/lang/invoke/VarHandle" ∧ (parseMethodDescriptor yX6_moreText.desc).map (fun d => d.parameters.length) = some 0 := by decide +kernel
theorem hX6_name : yX6_name.cls ≠ "java/lang/invoke/MethodHandle" ∧ yX6_name.cls ≠ "java/lang/invoke/VarHandle" ∧ (parseMethodDescriptor yX6_name.desc).map (fun d => d.parameters.length) = some 0 := by decide +kernel
theorem hX6_newName : yX6_newName.cls ≠ "java/lang/invoke/MethodHandle" ∧ yX6_newName.cls ≠ "java/lang/invoke/VarHandle" ∧ (parseMethodDescriptor yX6_newName.desc).map (fun d => d.parameters.length) = some 0 := by decide +kernel
theorem hX6_number : yX6_number.cls ≠ "java/lang/invoke/MethodHandle" ∧ yX6_number.cls ≠ "java/lang/invoke/VarHandle" ∧ (parseMethodDescriptor yX6_number.desc).map (fun d => d.parameters.length) = some 2 := by decide +kernel
theorem hX6_read : yX6_read.cls ≠ "java/lang/invoke/MethodHandle" ∧ yX6_read.cls ≠ "java/lang/invoke/VarHandle" ∧ (parseMethodDescriptor yX6_read.desc).map (fun d => d.parameters.length) = some 1 := by decide +kernel
theorem hX6_readAllow : yX6_readAllow.cls ≠ "java/lang/invoke/MethodHandle" ∧ yX6_readAllow.cls ≠ "java/lang/invoke/VarHandle" ∧ (parseMethodDescriptor yX6_readAllow.desc).map (fun d => d.parameters.length) = some 0 := by decide +kernel
theorem hX6_readFlange : yX6_readFlange.cls ≠ "java/lang/invoke/MethodHandle" ∧ yX6_readFlange.cls ≠ "java/lang/invoke/VarHandle" ∧ (parseMethodDescriptor yX6_readFlange.desc).map (fun d => d.parameters.length) = some 0 := by decide +kernel
theorem hX6_readSheet : yX6_readSheet.cls ≠ "java/lang/invoke/MethodHandle" ∧ yX6_readSheet.cls ≠ "java/lang/invoke/VarHandle" ∧ (parseMethodDescriptor yX6_readSheet.desc).map (fun d => d.parameters.length) = some 0 := by decide +kernel
theorem hX6_readTool : yX6_readTool.cls ≠ "java/lang/invoke/MethodHandle" ∧ yX6_readTool.cls ≠ "java/lang/invoke/VarHandle" ∧ (parseMethodDescriptor yX6_readTool.desc).map (fun d => d.parameters.length) = some 0 := by decide +kernel
theorem hX6_readWord : yX6_readWord.cls ≠ "java/lang/invoke/MethodHandle" ∧ yX6_readWord.cls ≠ "java/lang/invoke/VarHandle" ∧ (parseMethodDescriptor yX6_readWord.desc).map (fun d => d.parameters.length) = some 0 := by decide +kernel
theorem hX6_semicolon : yX6_semicolon.cls ≠ "java/lang/invoke/MethodHandle" ∧ yX6_semicolon.cls ≠ "java/lang/invoke/VarHandle" ∧ (parseMethodDescriptor yX6_semicolon.desc).map (fun d => d.parameters.length) = some 0 := by decide +kernel
theorem hX6_sideOf : yX6_sideOf.cls ≠ "java/lang/invoke/MethodHandle" ∧ yX6_sideOf.cls ≠ "java/lang/invoke/VarHandle" ∧ (parseMethodDescriptor yX6_sideOf.desc).map (fun d => d.parameters.length) = some 1 := by decide +kernel
theorem hX6_skipBlanks : yX6_skipBlanks.cls ≠ "java/lang/invoke/MethodHandle" ∧ yX6_skipBlanks.cls ≠ "java/lang/invoke/VarHandle" ∧ (parseMethodDescriptor yX6_skipBlanks.desc).map (fun d => d.parameters.length) = some 0 := by decide +kernel
theorem hX6_where : yX6_where.cls ≠ "java/lang/invoke/MethodHandle" ∧ yX6_where.cls ≠ "java/lang/invoke/VarHandle" ∧ (parseMethodDescriptor yX6_where.desc).map (fun d => d.parameters.length) = some 0 := by decide +kernel
theorem hX6_wordIs : yX6_wordIs.cls ≠ "java/lang/invoke/MethodHandle" ∧ yX6_wordIs.cls ≠ "java/lang/invoke/VarHandle" ∧ (parseMethodDescriptor yX6_wordIs.desc).map (fun d => d.parameters.length) = some 1 := by decide +kernel
theorem hX7_at : yX7_at.cls ≠ "java/lang/invoke/MethodHandle" ∧ yX7_at.cls ≠ "java/lang/invoke/VarHandle" ∧ (parseMethodDescriptor yX7_at.desc).map (fun d => d.parameters.length) = some 1 := by decide +kernel
theorem hX7_hasRoom : yX7_hasRoom.cls ≠ "java/lang/invoke/MethodHandle" ∧ yX7_hasRoom.cls ≠ "java/lang/invoke/VarHandle" ∧ (parseMethodDescriptor yX7_hasRoom.desc).map (fun d => d.parameters.length) = some 0 := by decide +kernel
theorem hX7_init : yX7_init.cls ≠ "java/lang/invoke/MethodHandle" ∧ yX7_init.cls ≠ "java/lang/invoke/VarHandle" ∧ (parseMethodDescriptor yX7_init.desc).map (fun d => d.parameters.length) = some 0 := by decide +kernel
theorem hX7_put : yX7_put.cls ≠ "java/lang/invoke/MethodHandle" ∧ yX7_put.cls ≠ "java/lang/invoke/VarHandle" ∧ (parseMethodDescriptor yX7_put.desc).map (fun d => d.parameters.length) = some 1 := by decide +kernel
theorem hX8_ahead : yX8_ahead.cls ≠ "java/lang/invoke/MethodHandle" ∧ yX8_ahead.cls ≠ "java/lang/invoke/VarHandle" ∧ (parseMethodDescriptor yX8_ahead.desc).map (fun d => d.parameters.length) = some 2 := by decide +kernel
theorem hX8_allow : yX8_allow.cls ≠ "java/lang/invoke/MethodHandle" ∧ yX8_allow.cls ≠ "java/lang/invoke/VarHandle" ∧ (parseMethodDescriptor yX8_allow.desc).map (fun d => d.parameters.length) = some 2 := by decide +kernel
theorem hX8_allowance : yX8_allowance.cls ≠ "java/lang/invoke/MethodHandle" ∧ yX8_allowance.cls ≠ "java/lang/invoke/VarHandle" ∧ (parseMethodDescriptor yX8_allowance.desc).map (fun d => d.parameters.length) = some 1 := by decide +kernel
theorem hX8_bend : yX8_bend.cls ≠ "java/lang/invoke/MethodHandle" ∧ yX8_bend.cls ≠ "java/lang/invoke/VarHandle" ∧ (parseMethodDescriptor yX8_bend.desc).map (fun d => d.parameters.length) = some 1 := by decide +kernel
theorem hX8_between : yX8_between.cls ≠ "java/lang/invoke/MethodHandle" ∧ yX8_between.cls ≠ "java/lang/invoke/VarHandle" ∧ (parseMethodDescriptor yX8_between.desc).map (fun d => d.parameters.length) = some 2 := by decide +kernel
theorem hX8_bit : yX8_bit.cls ≠ "java/lang/invoke/MethodHandle" ∧ yX8_bit.cls ≠ "java/lang/invoke/VarHandle" ∧ (parseMethodDescriptor yX8_bit.desc).map (fun d => d.parameters.length) = some 1 := by decide +kernel
theorem hX8_chance : yX8_chance.cls ≠ "java/lang/invoke/MethodHandle" ∧ yX8_chance.cls ≠ "java/lang/invoke/VarHandle" ∧ (parseMethodDescriptor yX8_chance.desc).map (fun d => d.parameters.length) = some 1 := by decide +kernel
theorem hX8_clash : yX8_clash.cls ≠ "java/lang/invoke/MethodHandle" ∧ yX8_clash.cls ≠ "java/lang/invoke/VarHandle" ∧ (parseMethodDescriptor yX8_clash.desc).map (fun d => d.parameters.length) = some 2 := by decide +kernel
theorem hX8_clashesIn : yX8_clashesIn.cls ≠ "java/lang/invoke/MethodHandle" ∧ yX8_clashesIn.cls ≠ "java/lang/invoke/VarHandle" ∧ (parseMethodDescriptor yX8_clashesIn.desc).map (fun d => d.parameters.length) = some 1 := by decide +kernel
theorem hX8_deny : yX8_deny.cls ≠ "java/lang/invoke/MethodHandle" ∧ yX8_deny.cls ≠ "java/lang/invoke/VarHandle" ∧ (parseMethodDescriptor yX8_deny.desc).map (fun d => d.parameters.length) = some 1 := by decide +kernel
theorem hX8_draw : yX8_draw.cls ≠ "java/lang/invoke/MethodHandle" ∧ yX8_draw.cls ≠ "java/lang/invoke/VarHandle" ∧ (parseMethodDescriptor yX8_draw.desc).map (fun d => d.parameters.length) = some 1 := by decide +kernel
theorem hX8_end : yX8_end.cls ≠ "java/lang/invoke/MethodHandle" ∧ yX8_end.cls ≠ "java/lang/invoke/VarHandle" ∧ (parseMethodDescriptor yX8_end.desc).map (fun d => d.parameters.length) = some 1 := by decide +kernel
theorem hX8_fault : yX8_fault.cls ≠ "java/lang/invoke/MethodHandle" ∧ yX8_fault.cls ≠ "java/lang/invoke/VarHandle" ∧ (parseMethodDescriptor yX8_fault.desc).map (fun d => d.parameters.length) = some 1 := by decide +kernel
theorem hX8_feed : yX8_feed.cls ≠ "java/lang/invoke/MethodHandle" ∧ yX8_feed.cls ≠ "java/lang/invoke/VarHandle" ∧ (parseMethodDescriptor yX8_feed.desc).map (fun d => d.parameters.length) = some 5 := by decide +kernel
theorem hX8_fewest : yX8_fewest.cls ≠ "java/lang/invoke/MethodHandle" ∧ yX8_fewest.cls ≠ "java/lang/invoke/VarHandle" ∧ (parseMethodDescriptor yX8_fewest.desc).map (fun d => d.parameters.length) = some 1 := by decide +kernel
theorem hX8_fits : yX8_fits.cls ≠ "java/lang/invoke/MethodHandle" ∧ yX8_fits.cls ≠ "java/lang/invoke/VarHandle" ∧ (parseMethodDescriptor yX8_fits.desc).map (fun d => d.parameters.length) = some 2 := by decide +kernel
theorem hX8_flange : yX8_flange.cls ≠ "java/lang/invoke/MethodHandle" ∧ yX8_flange.cls ≠ "java/lang/invoke/VarHandle" ∧ (parseMethodDescriptor yX8_flange.desc).map (fun d => d.parameters.length) = some 2 := by decide +kernel
theorem hX8_flat : yX8_flat.cls ≠ "java/lang/invoke/MethodHandle" ∧ yX8_flat.cls ≠ "java/lang/invoke/VarHandle" ∧ (parseMethodDescriptor yX8_flat.desc).map (fun d => d.parameters.length) = some 2 := by decide +kernel
theorem hX8_flatBox : yX8_flatBox.cls ≠ "java/lang/invoke/MethodHandle" ∧ yX8_flatBox.cls ≠ "java/lang/invoke/VarHandle" ∧ (parseMethodDescriptor yX8_flatBox.desc).map (fun d => d.parameters.length) = some 1 := by decide +kernel
theorem hX8_follow : yX8_follow.cls ≠ "java/lang/invoke/MethodHandle" ∧ yX8_follow.cls ≠ "java/lang/invoke/VarHandle" ∧ (parseMethodDescriptor yX8_follow.desc).map (fun d => d.parameters.length) = some 1 := by decide +kernel
theorem hX8_gap : yX8_gap.cls ≠ "java/lang/invoke/MethodHandle" ∧ yX8_gap.cls ≠ "java/lang/invoke/VarHandle" ∧ (parseMethodDescriptor yX8_gap.desc).map (fun d => d.parameters.length) = some 2 := by decide +kernel
theorem hX8_has : yX8_has.cls ≠ "java/lang/invoke/MethodHandle" ∧ yX8_has.cls ≠ "java/lang/invoke/VarHandle" ∧ (parseMethodDescriptor yX8_has.desc).map (fun d => d.parameters.length) = some 1 := by decide +kernel
theorem hX8_init : yX8_init.cls ≠ "java/lang/invoke/MethodHandle" ∧ yX8_init.cls ≠ "java/lang/invoke/VarHandle" ∧ (parseMethodDescriptor yX8_init.desc).map (fun d => d.parameters.length) = some 0 := by decide +kernel
theorem hX8_isIn : yX8_isIn.cls ≠ "java/lang/invoke/MethodHandle" ∧ yX8_isIn.cls ≠ "java/lang/invoke/VarHandle" ∧ (parseMethodDescriptor yX8_isIn.desc).map (fun d => d.parameters.length) = some 2 := by decide +kernel
theorem hX8_isRadius : yX8_isRadius.cls ≠ "java/lang/invoke/MethodHandle" ∧ yX8_isRadius.cls ≠ "java/lang/invoke/VarHandle" ∧ (parseMethodDescriptor yX8_isRadius.desc).map (fun d => d.parameters.length) = some 1 := by decide +kernel
theorem hX8_isUnmade : yX8_isUnmade.cls ≠ "java/lang/invoke/MethodHandle" ∧ yX8_isUnmade.cls ≠ "java/lang/invoke/VarHandle" ∧ (parseMethodDescriptor yX8_isUnmade.desc).map (fun d => d.parameters.length) = some 1 := by decide +kernel
theorem hX8_lacks : yX8_lacks.cls ≠ "java/lang/invoke/MethodHandle" ∧ yX8_lacks.cls ≠ "java/lang/invoke/VarHandle" ∧ (parseMethodDescriptor yX8_lacks.desc).map (fun d => d.parameters.length) = some 1 := by decide +kernel
theorem hX8_lay : yX8_lay.cls ≠ "java/lang/invoke/MethodHandle" ∧ yX8_lay.cls ≠ "java/lang/invoke/VarHandle" ∧ (parseMethodDescriptor yX8_lay.desc).map (fun d => d.parameters.length) = some 1 := by decide +kernel
theorem hX8_letter : yX8_letter.cls ≠ "java/lang/invoke/MethodHandle" ∧ yX8_letter.cls ≠ "java/lang/invoke/VarHandle" ∧ (parseMethodDescriptor yX8_letter.desc).map (fun d => d.parameters.length) = some 2 := by decide +kernel
theorem hX8_mayBeLast : yX8_mayBeLast.cls ≠ "java/lang/invoke/MethodHandle" ∧ yX8_mayBeLast.cls ≠ "java/lang/invoke/VarHandle" ∧ (parseMethodDescriptor yX8_mayBeLast.desc).map (fun d => d.parameters.length) = some 1 := by decide +kernel
theorem hX8_meets : yX8_meets.cls ≠ "java/lang/invoke/MethodHandle" ∧ yX8_meets.cls ≠ "java/lang/invoke/VarHandle" ∧ (parseMethodDescriptor yX8_meets.desc).map (fun d => d.parameters.length) = some 2 := by decide +kernel
theorem hX8_mends : yX8_mends.cls ≠ "java/lang/invoke/MethodHandle" ∧ yX8_mends.cls ≠ "java/lang/invoke/VarHandle" ∧ (parseMethodDescriptor yX8_mends.desc).map (fun d => d.parameters.length) = some 0 := by decide +kernel
theorem hX8_normal : yX8_normal.cls ≠ "java/lang/invoke/MethodHandle" ∧ yX8_normal.cls ≠ "java/lang/invoke/VarHandle" ∧ (parseMethodDescriptor yX8_normal.desc).map (fun d => d.parameters.length) = some 1 := by decide +kernel
theorem hX8_open : yX8_open.cls ≠ "java/lang/invoke/MethodHandle" ∧ yX8_open.cls ≠ "java/lang/invoke/VarHandle" ∧ (parseMethodDescriptor yX8_open.desc).map (fun d => d.parameters.length) = some 1 := by decide +kernel
theorem hX8_opens : yX8_opens.cls ≠ "java/lang/invoke/MethodHandle" ∧ yX8_opens.cls ≠ "java/lang/invoke/VarHandle" ∧ (parseMethodDescriptor yX8_opens.desc).map (fun d => d.parameters.length) = some 0 := by decide +kernel
theorem hX8_order : yX8_order.cls ≠ "java/lang/invoke/MethodHandle" ∧ yX8_order.cls ≠ "java/lang/invoke/VarHandle" ∧ (parseMethodDescriptor yX8_order.desc).map (fun d => d.parameters.length) = some 1 := by decide +kernel
theorem hX8_orders : yX8_orders.cls ≠ "java/lang/invoke/MethodHandle" ∧ yX8_orders.cls ≠ "java/lang/invoke/VarHandle" ∧ (parseMethodDescriptor yX8_orders.desc).map (fun d => d.parameters.length) = some 0 := by decide +kernel
theorem hX8_overlap : yX8_overlap.cls ≠ "java/lang/invoke/MethodHandle" ∧ yX8_overlap.cls ≠ "java/lang/invoke/VarHandle" ∧ (parseMethodDescriptor yX8_overlap.desc).map (fun d => d.parameters.length) = some 2 := by decide +kernel
theorem hX8_part : yX8_part.cls ≠ "java/lang/invoke/MethodHandle" ∧ yX8_part.cls ≠ "java/lang/invoke/VarHandle" ∧ (parseMethodDescriptor yX8_part.desc).map (fun d => d.parameters.length) = some 0 := by decide +kernel
theorem hX8_partChanged : yX8_partChanged.cls ≠ "java/lang/invoke/MethodHandle" ∧ yX8_partChanged.cls ≠ "java/lang/invoke/VarHandle" ∧ (parseMethodDescriptor yX8_partChanged.desc).map (fun d => d.parameters.length) = some 0 := by decide +kernel
theorem hX8_placeNow : yX8_placeNow.cls ≠ "java/lang/invoke/MethodHandle" ∧ yX8_placeNow.cls ≠ "java/lang/invoke/VarHandle" ∧ (parseMethodDescriptor yX8_placeNow.desc).map (fun d => d.parameters.length) = some 0 := by decide +kernel
theorem hX8_press : yX8_press.cls ≠ "java/lang/invoke/MethodHandle" ∧ yX8_press.cls ≠ "java/lang/invoke/VarHandle" ∧ (parseMethodDescriptor yX8_press.desc).map (fun d => d.parameters.length) = some 1 := by decide +kernel
theorem hX8_reached : yX8_reached.cls ≠ "java/lang/invoke/MethodHandle" ∧ yX8_reached.cls ≠ "java/lang/invoke/VarHandle" ∧ (parseMethodDescriptor yX8_reached.desc).map (fun d => d.parameters.length) = some 1 := by decide +kernel
theorem hX8_reason : yX8_reason.cls ≠ "java/lang/invoke/MethodHandle" ∧ yX8_reason.cls ≠ "java/lang/invoke/VarHandle" ∧ (parseMethodDescriptor yX8_reason.desc).map (fun d => d.parameters.length) = some 2 := by decide +kernel
theorem hX8_refuse : yX8_refuse.cls ≠ "java/lang/invoke/MethodHandle" ∧ yX8_refuse.cls ≠ "java/lang/invoke/VarHandle" ∧ (parseMethodDescriptor yX8_refuse.desc).map (fun d => d.parameters.length) = some 1 := by decide +kernel
theorem hX8_remember : yX8_remember.cls ≠ "java/lang/invoke/MethodHandle" ∧ yX8_remember.cls ≠ "java/lang/invoke/VarHandle" ∧ (parseMethodDescriptor yX8_remember.desc).map (fun d => d.parameters.length) = some 0 := by decide +kernel
theorem hX8_searchOrders : yX8_searchOrders.cls ≠ "java/lang/invoke/MethodHandle" ∧ yX8_searchOrders.cls ≠ "java/lang/invoke/VarHandle" ∧ (parseMethodDescriptor yX8_searchOrders.desc).map (fun d => d.parameters.length) = some 0 := by decide +kernel
theorem hX8_see : yX8_see.cls ≠ "java/lang/invoke/MethodHandle" ∧ yX8_see.cls ≠ "java/lang/invoke/VarHandle" ∧ (parseMethodDescriptor yX8_see.desc).map (fun d => d.parameters.length) = some 0 := by decide +kernel
theorem hX8_seed : yX8_seed.cls ≠ "java/lang/invoke/MethodHandle" ∧ yX8_seed.cls ≠ "java/lang/invoke/VarHandle" ∧ (parseMethodDescriptor yX8_seed.desc).map (fun d => d.parameters.length) = some 1 := by decide +kernel
theorem hX8_setMade : yX8_setMade.cls ≠ "java/lang/invoke/MethodHandle" ∧ yX8_setMade.cls ≠ "java/lang/invoke/VarHandle" ∧ (parseMethodDescriptor yX8_setMade.desc).map (fun d => d.parameters.length) = some 1 := by decide +kernel
theorem hX8_smallest : yX8_smallest.cls ≠ "java/lang/invoke/MethodHandle" ∧ yX8_smallest.cls ≠ "java/lang/invoke/VarHandle" ∧ (parseMethodDescriptor yX8_smallest.desc).map (fun d => d.parameters.length) = some 1 := by decide +kernel
theorem hX8_space : yX8_space.cls ≠ "java/lang/invoke/MethodHandle" ∧ yX8_space.cls ≠ "java/lang/invoke/VarHandle" ∧ (parseMethodDescriptor yX8_space.desc).map (fun d => d.parameters.length) = some 2 := by decide +kernel
theorem hX8_spaceBox : yX8_spaceBox.cls ≠ "java/lang/invoke/MethodHandle" ∧ yX8_spaceBox.cls ≠ "java/lang/invoke/VarHandle" ∧ (parseMethodDescriptor yX8_spaceBox.desc).map (fun d => d.parameters.length) = some 1 := by decide +kernel
theorem hX8_status : yX8_status.cls ≠ "java/lang/invoke/MethodHandle" ∧ yX8_status.cls ≠ "java/lang/invoke/VarHandle" ∧ (parseMethodDescriptor yX8_status.desc).map (fun d => d.parameters.length) = some 1 := by decide +kernel
theorem hX8_tallest : yX8_tallest.cls ≠ "java/lang/invoke/MethodHandle" ∧ yX8_tallest.cls ≠ "java/lang/invoke/VarHandle" ∧ (parseMethodDescriptor yX8_tallest.desc).map (fun d => d.parameters.length) = some 0 := by decide +kernel
theorem hX8_tells : yX8_tells.cls ≠ "java/lang/invoke/MethodHandle" ∧ yX8_tells.cls ≠ "java/lang/invoke/VarHandle" ∧ (parseMethodDescriptor yX8_tells.desc).map (fun d => d.parameters.length) = some 2 := by decide +kernel
theorem hX8_thrifty : yX8_thrifty.cls ≠ "java/lang/invoke/MethodHandle" ∧ yX8_thrifty.cls ≠ "java/lang/invoke/VarHandle" ∧ (parseMethodDescriptor yX8_thrifty.desc).map (fun d => d.parameters.length) = some 2 := by decide +kernel
theorem hX8_tool : yX8_tool.cls ≠ "java/lang/invoke/MethodHandle" ∧ yX8_tool.cls ≠ "java/lang/invoke/VarHandle" ∧ (parseMethodDescriptor yX8_tool.desc).map (fun d => d.parameters.length) = some 1 := by decide +kernel
theorem hX8_tools : yX8_tools.cls ≠ "java/lang/invoke/MethodHandle" ∧ yX8_tools.cls ≠ "java/lang/invoke/VarHandle" ∧ (parseMethodDescriptor yX8_tools.desc).map (fun d => d.parameters.length) = some 2 := by decide +kernel
theorem hX8_tryOne : yX8_tryOne.cls ≠ "java/lang/invoke/MethodHandle" ∧ yX8_tryOne.cls ≠ "java/lang/invoke/VarHandle" ∧ (parseMethodDescriptor yX8_tryOne.desc).map (fun d => d.parameters.length) = some 1 := by decide +kernel
theorem hX8_turn : yX8_turn.cls ≠ "java/lang/invoke/MethodHandle" ∧ yX8_turn.cls ≠ "java/lang/invoke/VarHandle" ∧ (parseMethodDescriptor yX8_turn.desc).map (fun d => d.parameters.length) = some 1 := by decide +kernel
theorem hX8_turned : yX8_turned.cls ≠ "java/lang/invoke/MethodHandle" ∧ yX8_turned.cls ≠ "java/lang/invoke/VarHandle" ∧ (parseMethodDescriptor yX8_turned.desc).map (fun d => d.parameters.length) = some 1 := by decide +kernel
theorem hX8_undo : yX8_undo.cls ≠ "java/lang/invoke/MethodHandle" ∧ yX8_undo.cls ≠ "java/lang/invoke/VarHandle" ∧ (parseMethodDescriptor yX8_undo.desc).map (fun d => d.parameters.length) = some 0 := by decide +kernel
theorem hX8_why : yX8_why.cls ≠ "java/lang/invoke/MethodHandle" ∧ yX8_why.cls ≠ "java/lang/invoke/VarHandle" ∧ (parseMethodDescriptor yX8_why.desc).map (fun d => d.parameters.length) = some 2 := by decide +kernel
theorem hX9_after : yX9_after.cls ≠ "java/lang/invoke/MethodHandle" ∧ yX9_after.cls ≠ "java/lang/invoke/VarHandle" ∧ (parseMethodDescriptor yX9_after.desc).map (fun d => d.parameters.length) = some 3 := by decide +kernel
theorem hX9_ahead : yX9_ahead.cls ≠ "java/lang/invoke/MethodHandle" ∧ yX9_ahead.cls ≠ "java/lang/invoke/VarHandle" ∧ (parseMethodDescriptor yX9_ahead.desc).map (fun d => d.parameters.length) = some 2 := by decide +kernel
theorem hX9_allBends : yX9_allBends.cls ≠ "java/lang/invoke/MethodHandle" ∧ yX9_allBends.cls ≠ "java/lang/invoke/VarHandle" ∧ (parseMethodDescriptor yX9_allBends.desc).map (fun d => d.parameters.length) = some 0 := by decide +kernel
theorem hX9_allow : yX9_allow.cls ≠ "java/lang/invoke/MethodHandle" ∧ yX9_allow.cls ≠ "java/lang/invoke/VarHandle" ∧ (parseMethodDescriptor yX9_allow.desc).map (fun d => d.parameters.length) = some 2 := by decide +kernel
theorem hX9_allowance : yX9_allowance.cls ≠ "java/lang/invoke/MethodHandle" ∧ yX9_allowance.cls ≠ "java/lang/invoke/VarHandle" ∧ (parseMethodDescriptor yX9_allowance.desc).map (fun d => d.parameters.length) = some 1 := by decide +kernel
theorem hX9_allowanceOf : yX9_allowanceOf.cls ≠ "java/lang/invoke/MethodHandle" ∧ yX9_allowanceOf.cls ≠ "java/lang/invoke/VarHandle" ∧ (parseMethodDescriptor yX9_allowanceOf.desc).map (fun d => d.parameters.length) = some 1 := by decide +kernel
theorem hX9_alongX : yX9_alongX.cls ≠ "java/lang/invoke/MethodHandle" ∧ yX9_alongX.cls ≠ "java/lang/invoke/VarHandle" ∧ (parseMethodDescriptor yX9_alongX.desc).map (fun d => d.parameters.length) = some 1 := by decide +kernel
theorem hX9_alongY : yX9_alongY.cls ≠ "java/lang/invoke/MethodHandle" ∧ yX9_alongY.cls ≠ "java/lang/invoke/VarHandle" ∧ (parseMethodDescriptor yX9_alongY.desc).map (fun d => d.parameters.length) = some 1 := by decide +kernel
theorem hX9_anyClash : yX9_anyClash.cls ≠ "java/lang/invoke/MethodHandle" ∧ yX9_anyClash.cls ≠ "java/lang/invoke/VarHandle" ∧ (parseMethodDescriptor yX9_anyClash.desc).map (fun d => d.parameters.length) = some 0 := by decide +kernel
theorem hX9_axisOf : yX9_axisOf.cls ≠ "java/lang/invoke/MethodHandle" ∧ yX9_axisOf.cls ≠ "java/lang/invoke/VarHandle" ∧ (parseMethodDescriptor yX9_axisOf.desc).map (fun d => d.parameters.length) = some 1 := by decide +kernel
theorem hX9_bend : yX9_bend.cls ≠ "java/lang/invoke/MethodHandle" ∧ yX9_bend.cls ≠ "java/lang/invoke/VarHandle" ∧ (parseMethodDescriptor yX9_bend.desc).map (fun d => d.parameters.length) = some 1 := by decide +kernel
theorem hX9_bendMany : yX9_bendMany.cls ≠ "java/lang/invoke/MethodHandle" ∧ yX9_bendMany.cls ≠ "java/lang/invoke/VarHandle" ∧ (parseMethodDescriptor yX9_bendMany.desc).map (fun d => d.parameters.length) = some 0 := by decide +kernel
theorem hX9_between : yX9_between.cls ≠ "java/lang/invoke/MethodHandle" ∧ yX9_between.cls ≠ "java/lang/invoke/VarHandle" ∧ (parseMethodDescriptor yX9_between.desc).map (fun d => d.parameters.length) = some 2 := by decide +kernel
theorem hX9_bits : yX9_bits.cls ≠ "java/lang/invoke/MethodHandle" ∧ yX9_bits.cls ≠ "java/lang/invoke/VarHandle" ∧ (parseMethodDescriptor yX9_bits.desc).map (fun d => d.parameters.length) = some 1 := by decide +kernel
theorem hX9_byteAt : yX9_byteAt.cls ≠ "java/lang/invoke/MethodHandle" ∧ yX9_byteAt.cls ≠ "java/lang/invoke/VarHandle" ∧ (parseMethodDescriptor yX9_byteAt.desc).map (fun d => d.parameters.length) = some 1 := by decide +kernel
theorem hX9_canOpen : yX9_canOpen.cls ≠ "java/lang/invoke/MethodHandle" ∧ yX9_canOpen.cls ≠ "java/lang/invoke/VarHandle" ∧ (parseMethodDescriptor yX9_canOpen.desc).map (fun d => d.parameters.length) = some 1 := by decide +kernel
theorem hX9_chance : yX9_chance.cls ≠ "java/lang/invoke/MethodHandle" ∧ yX9_chance.cls ≠ "java/lang/invoke/VarHandle" ∧ (parseMethodDescriptor yX9_chance.desc).map (fun d => d.parameters.length) = some 1 := by decide +kernel
theorem hX9_clash : yX9_clash.cls ≠ "java/lang/invoke/MethodHandle" ∧ yX9_clash.cls ≠ "java/lang/invoke/VarHandle" ∧ (parseMethodDescriptor yX9_clash.desc).map (fun d => d.parameters.length) = some 2 := by decide +kernel
theorem hX9_copiesCorner : yX9_copiesCorner.cls ≠ "java/lang/invoke/MethodHandle" ∧ yX9_copiesCorner.cls ≠ "java/lang/invoke/VarHandle" ∧ (parseMethodDescriptor yX9_copiesCorner.desc).map (fun d => d.parameters.length) = some 2 := by decide +kernel
theorem hX9_costAt : yX9_costAt.cls ≠ "java/lang/invoke/MethodHandle" ∧ yX9_costAt.cls ≠ "java/lang/invoke/VarHandle" ∧ (parseMethodDescriptor yX9_costAt.desc).map (fun d => d.parameters.length) = some 2 := by decide +kernel
theorem hX9_deadEnds : yX9_deadEnds.cls ≠ "java/lang/invoke/MethodHandle" ∧ yX9_deadEnds.cls ≠ "java/lang/invoke/VarHandle" ∧ (parseMethodDescriptor yX9_deadEnds.desc).map (fun d => d.parameters.length) = some 1 := by decide +kernel
theorem hX9_depthOf : yX9_depthOf.cls ≠ "java/lang/invoke/MethodHandle" ∧ yX9_depthOf.cls ≠ "java/lang/invoke/VarHandle" ∧ (parseMethodDescriptor yX9_depthOf.desc).map (fun d => d.parameters.length) = some 1 := by decide +kernel
theorem hX9_doClash : yX9_doClash.cls ≠ "java/lang/invoke/MethodHandle" ∧ yX9_doClash.cls ≠ "java/lang/invoke/VarHandle" ∧ (parseMethodDescriptor yX9_doClash.desc).map (fun d => d.parameters.length) = some 2 := by decide +kernel
theorem hX9_doOverlap : yX9_doOverlap.cls ≠ "java/lang/invoke/MethodHandle" ∧ yX9_doOverlap.cls ≠ "java/lang/invoke/VarHandle" ∧ (parseMethodDescriptor yX9_doOverlap.desc).map (fun d => d.parameters.length) = some 2 := by decide +kernel
theorem hX9_draw : yX9_draw.cls ≠ "java/lang/invoke/MethodHandle" ∧ yX9_draw.cls ≠ "java/lang/invoke/VarHandle" ∧ (parseMethodDescriptor yX9_draw.desc).map (fun d => d.parameters.length) = some 1 := by decide +kernel
theorem hX9_end : yX9_end.cls ≠ "java/lang/invoke/MethodHandle" ∧ yX9_end.cls ≠ "java/lang/invoke/VarHandle" ∧ (parseMethodDescriptor yX9_end.desc).map (fun d => d.parameters.length) = some 1 := by decide +kernel
theorem hX9_endsWell : yX9_endsWell.cls ≠ "java/lang/invoke/MethodHandle" ∧ yX9_endsWell.cls ≠ "java/lang/invoke/VarHandle" ∧ (parseMethodDescriptor yX9_endsWell.desc).map (fun d => d.parameters.length) = some 0 := by decide +kernel
theorem hX9_fault : yX9_fault.cls ≠ "java/lang/invoke/MethodHandle" ∧ yX9_fault.cls ≠ "java/lang/invoke/VarHandle" ∧ (parseMethodDescriptor yX9_fault.desc).map (fun d => d.parameters.length) = some 1 := by decide +kernel
theorem hX9_faults : yX9_faults.cls ≠ "java/lang/invoke/MethodHandle" ∧ yX9_faults.cls ≠ "java/lang/invoke/VarHandle" ∧ (parseMethodDescriptor yX9_faults.desc).map (fun d => d.parameters.length) = some 2 := by decide +kernel
theorem hX9_feed : yX9_feed.cls ≠ "java/lang/invoke/MethodHandle" ∧ yX9_feed.cls ≠ "java/lang/invoke/VarHandle" ∧ (parseMethodDescriptor yX9_feed.desc).map (fun d => d.parameters.length) = some 5 := by decide +kernel
theorem hX9_fewest : yX9_fewest.cls ≠ "java/lang/invoke/MethodHandle" ∧ yX9_fewest.cls ≠ "java/lang/invoke/VarHandle" ∧ (parseMethodDescriptor yX9_fewest.desc).map (fun d => d.parameters.length) = some 1 := by decide +kernel
theorem hX9_fits : yX9_fits.cls ≠ "java/lang/invoke/MethodHandle" ∧ yX9_fits.cls ≠ "java/lang/invoke/VarHandle" ∧ (parseMethodDescriptor yX9_fits.desc).map (fun d => d.parameters.length) = some 2 := by decide +kernel
theorem hX9_flange : yX9_flange.cls ≠ "java/lang/invoke/MethodHandle" ∧ yX9_flange.cls ≠ "java/lang/invoke/VarHandle" ∧ (parseMethodDescriptor yX9_flange.desc).map (fun d => d.parameters.length) = some 2 := by decide +kernel
theorem hX9_flangeMany : yX9_flangeMany.cls ≠ "java/lang/invoke/MethodHandle" ∧ yX9_flangeMany.cls ≠ "java/lang/invoke/VarHandle" ∧ (parseMethodDescriptor yX9_flangeMany.desc).map (fun d => d.parameters.length) = some 0 := by decide +kernel
theorem hX9_flat : yX9_flat.cls ≠ "java/lang/invoke/MethodHandle" ∧ yX9_flat.cls ≠ "java/lang/invoke/VarHandle" ∧ (parseMethodDescriptor yX9_flat.desc).map (fun d => d.parameters.length) = some 2 := by decide +kernel
theorem hX9_flatBox : yX9_flatBox.cls ≠ "java/lang/invoke/MethodHandle" ∧ yX9_flatBox.cls ≠ "java/lang/invoke/VarHandle" ∧ (parseMethodDescriptor yX9_flatBox.desc).map (fun d => d.parameters.length) = some 1 := by decide +kernel
theorem hX9_follow : yX9_follow.cls ≠ "java/lang/invoke/MethodHandle" ∧ yX9_follow.cls ≠ "java/lang/invoke/VarHandle" ∧ (parseMethodDescriptor yX9_follow.desc).map (fun d => d.parameters.length) = some 1 := by decide +kernel
theorem hX9_forgetsLain : yX9_forgetsLain.cls ≠ "java/lang/invoke/MethodHandle" ∧ yX9_forgetsLain.cls ≠ "java/lang/invoke/VarHandle" ∧ (parseMethodDescriptor yX9_forgetsLain.desc).map (fun d => d.parameters.length) = some 0 := by decide +kernel
theorem hX9_gap : yX9_gap.cls ≠ "java/lang/invoke/MethodHandle" ∧ yX9_gap.cls ≠ "java/lang/invoke/VarHandle" ∧ (parseMethodDescriptor yX9_gap.desc).map (fun d => d.parameters.length) = some 2 := by decide +kernel
theorem hX9_goesOnFlat : yX9_goesOnFlat.cls ≠ "java/lang/invoke/MethodHandle" ∧ yX9_goesOnFlat.cls ≠ "java/lang/invoke/VarHandle" ∧ (parseMethodDescriptor yX9_goesOnFlat.desc).map (fun d => d.parameters.length) = some 2 := by decide +kernel
theorem hX9_goesToSide : yX9_goesToSide.cls ≠ "java/lang/invoke/MethodHandle" ∧ yX9_goesToSide.cls ≠ "java/lang/invoke/VarHandle" ∧ (parseMethodDescriptor yX9_goesToSide.desc).map (fun d => d.parameters.length) = some 3 := by decide +kernel
theorem hX9_goesWell : yX9_goesWell.cls ≠ "java/lang/invoke/MethodHandle" ∧ yX9_goesWell.cls ≠ "java/lang/invoke/VarHandle" ∧ (parseMethodDescriptor yX9_goesWell.desc).map (fun d => d.parameters.length) = some 0 := by decide +kernel
theorem hX9_greater : yX9_greater.cls ≠ "java/lang/invoke/MethodHandle" ∧ yX9_greater.cls ≠ "java/lang/invoke/VarHandle" ∧ (parseMethodDescriptor yX9_greater.desc).map (fun d => d.parameters.length) = some 2 := by decide +kernel
theorem hX9_hangMany : yX9_hangMany.cls ≠ "java/lang/invoke/MethodHandle" ∧ yX9_hangMany.cls ≠ "java/lang/invoke/VarHandle" ∧ (parseMethodDescriptor yX9_hangMany.desc).map (fun d => d.parameters.length) = some 1 := by decide +kernel
theorem hX9_has : yX9_has.cls ≠ "java/lang/invoke/MethodHandle" ∧ yX9_has.cls ≠ "java/lang/invoke/VarHandle" ∧ (parseMethodDescriptor yX9_has.desc).map (fun d => d.parameters.length) = some 1 := by decide +kernel
theorem hX9_here : yX9_here.cls ≠ "java/lang/invoke/MethodHandle" ∧ yX9_here.cls ≠ "java/lang/invoke/VarHandle" ∧ (parseMethodDescriptor yX9_here.desc).map (fun d => d.parameters.length) = some 0 := by decide +kernel
theorem hX9_init : yX9_init.cls ≠ "java/lang/invoke/MethodHandle" ∧ yX9_init.cls ≠ "java/lang/invoke/VarHandle" ∧ (parseMethodDescriptor yX9_init.desc).map (fun d => d.parameters.length) = some 0 := by decide +kernel
theorem hX9_isBend : yX9_isBend.cls ≠ "java/lang/invoke/MethodHandle" ∧ yX9_isBend.cls ≠ "java/lang/invoke/VarHandle" ∧ (parseMethodDescriptor yX9_isBend.desc).map (fun d => d.parameters.length) = some 1 := by decide +kernel
theorem hX9_isBetween : yX9_isBetween.cls ≠ "java/lang/invoke/MethodHandle" ∧ yX9_isBetween.cls ≠ "java/lang/invoke/VarHandle" ∧ (parseMethodDescriptor yX9_isBetween.desc).map (fun d => d.parameters.length) = some 3 := by decide +kernel
theorem hX9_isDigit : yX9_isDigit.cls ≠ "java/lang/invoke/MethodHandle" ∧ yX9_isDigit.cls ≠ "java/lang/invoke/VarHandle" ∧ (parseMethodDescriptor yX9_isDigit.desc).map (fun d => d.parameters.length) = some 1 := by decide +kernel
theorem hX9_isFit : yX9_isFit.cls ≠ "java/lang/invoke/MethodHandle" ∧ yX9_isFit.cls ≠ "java/lang/invoke/VarHandle" ∧ (parseMethodDescriptor yX9_isFit.desc).map (fun d => d.parameters.length) = some 2 := by decide +kernel
theorem hX9_isFlange : yX9_isFlange.cls ≠ "java/lang/invoke/MethodHandle" ∧ yX9_isFlange.cls ≠ "java/lang/invoke/VarHandle" ∧ (parseMethodDescriptor yX9_isFlange.desc).map (fun d => d.parameters.length) = some 1 := by decide +kernel
theorem hX9_isIn : yX9_isIn.cls ≠ "java/lang/invoke/MethodHandle" ∧ yX9_isIn.cls ≠ "java/lang/invoke/VarHandle" ∧ (parseMethodDescriptor yX9_isIn.desc).map (fun d => d.parameters.length) = some 3 := by decide +kernel
theorem hX9_isMade : yX9_isMade.cls ≠ "java/lang/invoke/MethodHandle" ∧ yX9_isMade.cls ≠ "java/lang/invoke/VarHandle" ∧ (parseMethodDescriptor yX9_isMade.desc).map (fun d => d.parameters.length) = some 1 := by decide +kernel
theorem hX9_isOf : yX9_isOf.cls ≠ "java/lang/invoke/MethodHandle" ∧ yX9_isOf.cls ≠ "java/lang/invoke/VarHandle" ∧ (parseMethodDescriptor yX9_isOf.desc).map (fun d => d.parameters.length) = some 2 := by decide +kernel
theorem hX9_isOrderBy : yX9_isOrderBy.cls ≠ "java/lang/invoke/MethodHandle" ∧ yX9_isOrderBy.cls ≠ "java/lang/invoke/VarHandle" ∧ (parseMethodDescriptor yX9_isOrderBy.desc).map (fun d => d.parameters.length) = some 1 := by decide +kernel
theorem hX9_isPiece : yX9_isPiece.cls ≠ "java/lang/invoke/MethodHandle" ∧ yX9_isPiece.cls ≠ "java/lang/invoke/VarHandle" ∧ (parseMethodDescriptor yX9_isPiece.desc).map (fun d => d.parameters.length) = some 1 := by decide +kernel
theorem hX9_isRefused : yX9_isRefused.cls ≠ "java/lang/invoke/MethodHandle" ∧ yX9_isRefused.cls ≠ "java/lang/invoke/VarHandle" ∧ (parseMethodDescriptor yX9_isRefused.desc).map (fun d => d.parameters.length) = some 1 := by decide +kernel
theorem hX9_isSmall : yX9_isSmall.cls ≠ "java/lang/invoke/MethodHandle" ∧ yX9_isSmall.cls ≠ "java/lang/invoke/VarHandle" ∧ (parseMethodDescriptor yX9_isSmall.desc).map (fun d => d.parameters.length) = some 1 := by decide +kernel
theorem hX9_isState : yX9_isState.cls ≠ "java/lang/invoke/MethodHandle" ∧ yX9_isState.cls ≠ "java/lang/invoke/VarHandle" ∧ (parseMethodDescriptor yX9_isState.desc).map (fun d => d.parameters.length) = some 1 := by decide +kernel
theorem hX9_lacks : yX9_lacks.cls ≠ "java/lang/invoke/MethodHandle" ∧ yX9_lacks.cls ≠ "java/lang/invoke/VarHandle" ∧ (parseMethodDescriptor yX9_lacks.desc).map (fun d => d.parameters.length) = some 1 := by decide +kernel
theorem hX9_lainOf : yX9_lainOf.cls ≠ "java/lang/invoke/MethodHandle" ∧ yX9_lainOf.cls ≠ "java/lang/invoke/VarHandle" ∧ (parseMethodDescriptor yX9_lainOf.desc).map (fun d => d.parameters.length) = some 1 := by decide +kernel
theorem hX9_lay : yX9_lay.cls ≠ "java/lang/invoke/MethodHandle" ∧ yX9_lay.cls ≠ "java/lang/invoke/VarHandle" ∧ (parseMethodDescriptor yX9_lay.desc).map (fun d => d.parameters.length) = some 1 := by decide +kernel
theorem hX9_lays : yX9_lays.cls ≠ "java/lang/invoke/MethodHandle" ∧ yX9_lays.cls ≠ "java/lang/invoke/VarHandle" ∧ (parseMethodDescriptor yX9_lays.desc).map (fun d => d.parameters.length) = some 1 := by decide +kernel
theorem hX9_laysBehind : yX9_laysBehind.cls ≠ "java/lang/invoke/MethodHandle" ∧ yX9_laysBehind.cls ≠ "java/lang/invoke/VarHandle" ∧ (parseMethodDescriptor yX9_laysBehind.desc).map (fun d => d.parameters.length) = some 4 := by decide +kernel
theorem hX9_laysClear : yX9_laysClear.cls ≠ "java/lang/invoke/MethodHandle" ∧ yX9_laysClear.cls ≠ "java/lang/invoke/VarHandle" ∧ (parseMethodDescriptor yX9_laysClear.desc).map (fun d => d.parameters.length) = some 0 := by decide +kernel
theorem hX9_laysClearAgain : yX9_laysClearAgain.cls ≠ "java/lang/invoke/MethodHandle" ∧ yX9_laysClearAgain.cls ≠ "java/lang/invoke/VarHandle" ∧ (parseMethodDescriptor yX9_laysClearAgain.desc).map (fun d => d.parameters.length) = some 0 := by decide +kernel
theorem hX9_laysEnds : yX9_laysEnds.cls ≠ "java/lang/invoke/MethodHandle" ∧ yX9_laysEnds.cls ≠ "java/lang/invoke/VarHandle" ∧ (parseMethodDescriptor yX9_laysEnds.desc).map (fun d => d.parameters.length) = some 3 := by decide +kernel
theorem hX9_laysFewest : yX9_laysFewest.cls ≠ "java/lang/invoke/MethodHandle" ∧ yX9_laysFewest.cls ≠ "java/lang/invoke/VarHandle" ∧ (parseMethodDescriptor yX9_laysFewest.desc).map (fun d => d.parameters.length) = some 1 := by decide +kernel
theorem hX9_laysFlat : yX9_laysFlat.cls ≠ "java/lang/invoke/MethodHandle" ∧ yX9_laysFlat.cls ≠ "java/lang/invoke/VarHandle" ∧ (parseMethodDescriptor yX9_laysFlat.desc).map (fun d => d.parameters.length) = some 0 := by decide +kernel
theorem hX9_laysPunch : yX9_laysPunch.cls ≠ "java/lang/invoke/MethodHandle" ∧ yX9_laysPunch.cls ≠ "java/lang/invoke/VarHandle" ∧ (parseMethodDescriptor yX9_laysPunch.desc).map (fun d => d.parameters.length) = some 1 := by decide +kernel
theorem hX9_laysReached : yX9_laysReached.cls ≠ "java/lang/invoke/MethodHandle" ∧ yX9_laysReached.cls ≠ "java/lang/invoke/VarHandle" ∧ (parseMethodDescriptor yX9_laysReached.desc).map (fun d => d.parameters.length) = some 0 := by decide +kernel
theorem hX9_laysSpace : yX9_laysSpace.cls ≠ "java/lang/invoke/MethodHandle" ∧ yX9_laysSpace.cls ≠ "java/lang/invoke/VarHandle" ∧ (parseMethodDescriptor yX9_laysSpace.desc).map (fun d => d.parameters.length) = some 1 := by decide +kernel
theorem hX9_laysWays : yX9_laysWays.cls ≠ "java/lang/invoke/MethodHandle" ∧ yX9_laysWays.cls ≠ "java/lang/invoke/VarHandle" ∧ (parseMethodDescriptor yX9_laysWays.desc).map (fun d => d.parameters.length) = some 2 := by decide +kernel
theorem hX9_leftBy : yX9_leftBy.cls ≠ "java/lang/invoke/MethodHandle" ∧ yX9_leftBy.cls ≠ "java/lang/invoke/VarHandle" ∧ (parseMethodDescriptor yX9_leftBy.desc).map (fun d => d.parameters.length) = some 2 := by decide +kernel
theorem hX9_lengthBy : yX9_lengthBy.cls ≠ "java/lang/invoke/MethodHandle" ∧ yX9_lengthBy.cls ≠ "java/lang/invoke/VarHandle" ∧ (parseMethodDescriptor yX9_lengthBy.desc).map (fun d => d.parameters.length) = some 3 := by decide +kernel
theorem hX9_lengthOf : yX9_lengthOf.cls ≠ "java/lang/invoke/MethodHandle" ∧ yX9_lengthOf.cls ≠ "java/lang/invoke/VarHandle" ∧ (parseMethodDescriptor yX9_lengthOf.desc).map (fun d => d.parameters.length) = some 1 := by decide +kernel
theorem hX9_lesser : yX9_lesser.cls ≠ "java/lang/invoke/MethodHandle" ∧ yX9_lesser.cls ≠ "java/lang/invoke/VarHandle" ∧ (parseMethodDescriptor yX9_lesser.desc).map (fun d => d.parameters.length) = some 2 := by decide +kernel
theorem hX9_letter : yX9_letter.cls ≠ "java/lang/invoke/MethodHandle" ∧ yX9_letter.cls ≠ "java/lang/invoke/VarHandle" ∧ (parseMethodDescriptor yX9_letter.desc).map (fun d => d.parameters.length) = some 2 := by decide +kernel
theorem hX9_longAlong : yX9_longAlong.cls ≠ "java/lang/invoke/MethodHandle" ∧ yX9_longAlong.cls ≠ "java/lang/invoke/VarHandle" ∧ (parseMethodDescriptor yX9_longAlong.desc).map (fun d => d.parameters.length) = some 1 := by decide +kernel
theorem hX9_looksAt : yX9_looksAt.cls ≠ "java/lang/invoke/MethodHandle" ∧ yX9_looksAt.cls ≠ "java/lang/invoke/VarHandle" ∧ (parseMethodDescriptor yX9_looksAt.desc).map (fun d => d.parameters.length) = some 1 := by decide +kernel
theorem hX9_mayBeLast : yX9_mayBeLast.cls ≠ "java/lang/invoke/MethodHandle" ∧ yX9_mayBeLast.cls ≠ "java/lang/invoke/VarHandle" ∧ (parseMethodDescriptor yX9_mayBeLast.desc).map (fun d => d.parameters.length) = some 1 := by decide +kernel
theorem hX9_meets : yX9_meets.cls ≠ "java/lang/invoke/MethodHandle" ∧ yX9_meets.cls ≠ "java/lang/invoke/VarHandle" ∧ (parseMethodDescriptor yX9_meets.desc).map (fun d => d.parameters.length) = some 2 := by decide +kernel
theorem hX9_mends : yX9_mends.cls ≠ "java/lang/invoke/MethodHandle" ∧ yX9_mends.cls ≠ "java/lang/invoke/VarHandle" ∧ (parseMethodDescriptor yX9_mends.desc).map (fun d => d.parameters.length) = some 0 := by decide +kernel
theorem hX9_metBy : yX9_metBy.cls ≠ "java/lang/invoke/MethodHandle" ∧ yX9_metBy.cls ≠ "java/lang/invoke/VarHandle" ∧ (parseMethodDescriptor yX9_metBy.desc).map (fun d => d.parameters.length) = some 1 := by decide +kernel
theorem hX9_moves : yX9_moves.cls ≠ "java/lang/invoke/MethodHandle" ∧ yX9_moves.cls ≠ "java/lang/invoke/VarHandle" ∧ (parseMethodDescriptor yX9_moves.desc).map (fun d => d.parameters.length) = some 3 := by decide +kernel
theorem hX9_must : yX9_must.cls ≠ "java/lang/invoke/MethodHandle" ∧ yX9_must.cls ≠ "java/lang/invoke/VarHandle" ∧ (parseMethodDescriptor yX9_must.desc).map (fun d => d.parameters.length) = some 1 := by decide +kernel
theorem hX9_name : yX9_name.cls ≠ "java/lang/invoke/MethodHandle" ∧ yX9_name.cls ≠ "java/lang/invoke/VarHandle" ∧ (parseMethodDescriptor yX9_name.desc).map (fun d => d.parameters.length) = some 0 := by decide +kernel
theorem hX9_named : yX9_named.cls ≠ "java/lang/invoke/MethodHandle" ∧ yX9_named.cls ≠ "java/lang/invoke/VarHandle" ∧ (parseMethodDescriptor yX9_named.desc).map (fun d => d.parameters.length) = some 0 := by decide +kernel
theorem hX9_normal : yX9_normal.cls ≠ "java/lang/invoke/MethodHandle" ∧ yX9_normal.cls ≠ "java/lang/invoke/VarHandle" ∧ (parseMethodDescriptor yX9_normal.desc).map (fun d => d.parameters.length) = some 1 := by decide +kernel
theorem hX9_number : yX9_number.cls ≠ "java/lang/invoke/MethodHandle" ∧ yX9_number.cls ≠ "java/lang/invoke/VarHandle" ∧ (parseMethodDescriptor yX9_number.desc).map (fun d => d.parameters.length) = some 2 := by decide +kernel
theorem hX9_open : yX9_open.cls ≠ "java/lang/invoke/MethodHandle" ∧ yX9_open.cls ≠ "java/lang/invoke/VarHandle" ∧ (parseMethodDescriptor yX9_open.desc).map (fun d => d.parameters.length) = some 1 := by decide +kernel
theorem hX9_opens : yX9_opens.cls ≠ "java/lang/invoke/MethodHandle" ∧ yX9_opens.cls ≠ "java/lang/invoke/VarHandle" ∧ (parseMethodDescriptor yX9_opens.desc).map (fun d => d.parameters.length) = some 0 := by decide +kernel
theorem hX9_order : yX9_order.cls ≠ "java/lang/invoke/MethodHandle" ∧ yX9_order.cls ≠ "java/lang/invoke/VarHandle" ∧ (parseMethodDescriptor yX9_order.desc).map (fun d => d.parameters.length) = some 1 := by decide +kernel
theorem hX9_orderMany : yX9_orderMany.cls ≠ "java/lang/invoke/MethodHandle" ∧ yX9_orderMany.cls ≠ "java/lang/invoke/VarHandle" ∧ (parseMethodDescriptor yX9_orderMany.desc).map (fun d => d.parameters.length) = some 0 := by decide +kernel
theorem hX9_orders : yX9_orders.cls ≠ "java/lang/invoke/MethodHandle" ∧ yX9_orders.cls ≠ "java/lang/invoke/VarHandle" ∧ (parseMethodDescriptor yX9_orders.desc).map (fun d => d.parameters.length) = some 0 := by decide +kernel
theorem hX9_overlap : yX9_overlap.cls ≠ "java/lang/invoke/MethodHandle" ∧ yX9_overlap.cls ≠ "java/lang/invoke/VarHandle" ∧ (parseMethodDescriptor yX9_overlap.desc).map (fun d => d.parameters.length) = some 2 := by decide +kernel
theorem hX9_own : yX9_own.cls ≠ "java/lang/invoke/MethodHandle" ∧ yX9_own.cls ≠ "java/lang/invoke/VarHandle" ∧ (parseMethodDescriptor yX9_own.desc).map (fun d => d.parameters.length) = some 0 := by decide +kernel
theorem hX9_part : yX9_part.cls ≠ "java/lang/invoke/MethodHandle" ∧ yX9_part.cls ≠ "java/lang/invoke/VarHandle" ∧ (parseMethodDescriptor yX9_part.desc).map (fun d => d.parameters.length) = some 0 := by decide +kernel
theorem hX9_press : yX9_press.cls ≠ "java/lang/invoke/MethodHandle" ∧ yX9_press.cls ≠ "java/lang/invoke/VarHandle" ∧ (parseMethodDescriptor yX9_press.desc).map (fun d => d.parameters.length) = some 1 := by decide +kernel
theorem hX9_reached : yX9_reached.cls ≠ "java/lang/invoke/MethodHandle" ∧ yX9_reached.cls ≠ "java/lang/invoke/VarHandle" ∧ (parseMethodDescriptor yX9_reached.desc).map (fun d => d.parameters.length) = some 1 := by decide +kernel
theorem hX9_readsAll : yX9_readsAll.cls ≠ "java/lang/invoke/MethodHandle" ∧ yX9_readsAll.cls ≠ "java/lang/invoke/VarHandle" ∧ (parseMethodDescriptor yX9_readsAll.desc).map (fun d => d.parameters.length) = some 0 := by decide +kernel
theorem hX9_readsFlange : yX9_readsFlange.cls ≠ "java/lang/invoke/MethodHandle" ∧ yX9_readsFlange.cls ≠ "java/lang/invoke/VarHandle" ∧ (parseMethodDescriptor yX9_readsFlange.desc).map (fun d => d.parameters.length) = some 0 := by decide +kernel
theorem hX9_readsLine : yX9_readsLine.cls ≠ "java/lang/invoke/MethodHandle" ∧ yX9_readsLine.cls ≠ "java/lang/invoke/VarHandle" ∧ (parseMethodDescriptor yX9_readsLine.desc).map (fun d => d.parameters.length) = some 1 := by decide +kernel
theorem hX9_readsWidth : yX9_readsWidth.cls ≠ "java/lang/invoke/MethodHandle" ∧ yX9_readsWidth.cls ≠ "java/lang/invoke/VarHandle" ∧ (parseMethodDescriptor yX9_readsWidth.desc).map (fun d => d.parameters.length) = some 3 := by decide +kernel
theorem hX9_refuses : yX9_refuses.cls ≠ "java/lang/invoke/MethodHandle" ∧ yX9_refuses.cls ≠ "java/lang/invoke/VarHandle" ∧ (parseMethodDescriptor yX9_refuses.desc).map (fun d => d.parameters.length) = some 1 := by decide +kernel
theorem hX9_remembers : yX9_remembers.cls ≠ "java/lang/invoke/MethodHandle" ∧ yX9_remembers.cls ≠ "java/lang/invoke/VarHandle" ∧ (parseMethodDescriptor yX9_remembers.desc).map (fun d => d.parameters.length) = some 0 := by decide +kernel
theorem hX9_see : yX9_see.cls ≠ "java/lang/invoke/MethodHandle" ∧ yX9_see.cls ≠ "java/lang/invoke/VarHandle" ∧ (parseMethodDescriptor yX9_see.desc).map (fun d => d.parameters.length) = some 0 := by decide +kernel
theorem hX9_seed : yX9_seed.cls ≠ "java/lang/invoke/MethodHandle" ∧ yX9_seed.cls ≠ "java/lang/invoke/VarHandle" ∧ (parseMethodDescriptor yX9_seed.desc).map (fun d => d.parameters.length) = some 1 := by decide +kernel
theorem hX9_sharedAlong : yX9_sharedAlong.cls ≠ "java/lang/invoke/MethodHandle" ∧ yX9_sharedAlong.cls ≠ "java/lang/invoke/VarHandle" ∧ (parseMethodDescriptor yX9_sharedAlong.desc).map (fun d => d.parameters.length) = some 3 := by decide +kernel
theorem hX9_sideOf : yX9_sideOf.cls ≠ "java/lang/invoke/MethodHandle" ∧ yX9_sideOf.cls ≠ "java/lang/invoke/VarHandle" ∧ (parseMethodDescriptor yX9_sideOf.desc).map (fun d => d.parameters.length) = some 3 := by decide +kernel
theorem hX9_signAt : yX9_signAt.cls ≠ "java/lang/invoke/MethodHandle" ∧ yX9_signAt.cls ≠ "java/lang/invoke/VarHandle" ∧ (parseMethodDescriptor yX9_signAt.desc).map (fun d => d.parameters.length) = some 1 := by decide +kernel
theorem hX9_smallest : yX9_smallest.cls ≠ "java/lang/invoke/MethodHandle" ∧ yX9_smallest.cls ≠ "java/lang/invoke/VarHandle" ∧ (parseMethodDescriptor yX9_smallest.desc).map (fun d => d.parameters.length) = some 1 := by decide +kernel
theorem hX9_space : yX9_space.cls ≠ "java/lang/invoke/MethodHandle" ∧ yX9_space.cls ≠ "java/lang/invoke/VarHandle" ∧ (parseMethodDescriptor yX9_space.desc).map (fun d => d.parameters.length) = some 2 := by decide +kernel
theorem hX9_spaceBox : yX9_spaceBox.cls ≠ "java/lang/invoke/MethodHandle" ∧ yX9_spaceBox.cls ≠ "java/lang/invoke/VarHandle" ∧ (parseMethodDescriptor yX9_spaceBox.desc).map (fun d => d.parameters.length) = some 1 := by decide +kernel
theorem hX9_standsUp : yX9_standsUp.cls ≠ "java/lang/invoke/MethodHandle" ∧ yX9_standsUp.cls ≠ "java/lang/invoke/VarHandle" ∧ (parseMethodDescriptor yX9_standsUp.desc).map (fun d => d.parameters.length) = some 2 := by decide +kernel
theorem hX9_status : yX9_status.cls ≠ "java/lang/invoke/MethodHandle" ∧ yX9_status.cls ≠ "java/lang/invoke/VarHandle" ∧ (parseMethodDescriptor yX9_status.desc).map (fun d => d.parameters.length) = some 1 := by decide +kernel
theorem hX9_taken : yX9_taken.cls ≠ "java/lang/invoke/MethodHandle" ∧ yX9_taken.cls ≠ "java/lang/invoke/VarHandle" ∧ (parseMethodDescriptor yX9_taken.desc).map (fun d => d.parameters.length) = some 0 := by decide +kernel
theorem hX9_tallest : yX9_tallest.cls ≠ "java/lang/invoke/MethodHandle" ∧ yX9_tallest.cls ≠ "java/lang/invoke/VarHandle" ∧ (parseMethodDescriptor yX9_tallest.desc).map (fun d => d.parameters.length) = some 0 := by decide +kernel
theorem hX9_tells : yX9_tells.cls ≠ "java/lang/invoke/MethodHandle" ∧ yX9_tells.cls ≠ "java/lang/invoke/VarHandle" ∧ (parseMethodDescriptor yX9_tells.desc).map (fun d => d.parameters.length) = some 2 := by decide +kernel
theorem hX9_thrifty : yX9_thrifty.cls ≠ "java/lang/invoke/MethodHandle" ∧ yX9_thrifty.cls ≠ "java/lang/invoke/VarHandle" ∧ (parseMethodDescriptor yX9_thrifty.desc).map (fun d => d.parameters.length) = some 2 := by decide +kernel
theorem hX9_tool : yX9_tool.cls ≠ "java/lang/invoke/MethodHandle" ∧ yX9_tool.cls ≠ "java/lang/invoke/VarHandle" ∧ (parseMethodDescriptor yX9_tool.desc).map (fun d => d.parameters.length) = some 1 := by decide +kernel
theorem hX9_tools : yX9_tools.cls ≠ "java/lang/invoke/MethodHandle" ∧ yX9_tools.cls ≠ "java/lang/invoke/VarHandle" ∧ (parseMethodDescriptor yX9_tools.desc).map (fun d => d.parameters.length) = some 2 := by decide +kernel
theorem hX9_toolsOf : yX9_toolsOf.cls ≠ "java/lang/invoke/MethodHandle" ∧ yX9_toolsOf.cls ≠ "java/lang/invoke/VarHandle" ∧ (parseMethodDescriptor yX9_toolsOf.desc).map (fun d => d.parameters.length) = some 1 := by decide +kernel
theorem hX9_turn : yX9_turn.cls ≠ "java/lang/invoke/MethodHandle" ∧ yX9_turn.cls ≠ "java/lang/invoke/VarHandle" ∧ (parseMethodDescriptor yX9_turn.desc).map (fun d => d.parameters.length) = some 1 := by decide +kernel
theorem hX9_turned : yX9_turned.cls ≠ "java/lang/invoke/MethodHandle" ∧ yX9_turned.cls ≠ "java/lang/invoke/VarHandle" ∧ (parseMethodDescriptor yX9_turned.desc).map (fun d => d.parameters.length) = some 1 := by decide +kernel
theorem hX9_turnsAll : yX9_turnsAll.cls ≠ "java/lang/invoke/MethodHandle" ∧ yX9_turnsAll.cls ≠ "java/lang/invoke/VarHandle" ∧ (parseMethodDescriptor yX9_turnsAll.desc).map (fun d => d.parameters.length) = some 1 := by decide +kernel
theorem hX9_undo : yX9_undo.cls ≠ "java/lang/invoke/MethodHandle" ∧ yX9_undo.cls ≠ "java/lang/invoke/VarHandle" ∧ (parseMethodDescriptor yX9_undo.desc).map (fun d => d.parameters.length) = some 0 := by decide +kernel
theorem hX9_why : yX9_why.cls ≠ "java/lang/invoke/MethodHandle" ∧ yX9_why.cls ≠ "java/lang/invoke/VarHandle" ∧ (parseMethodDescriptor yX9_why.desc).map (fun d => d.parameters.length) = some 2 := by decide +kernel
theorem hX9_whyNot : yX9_whyNot.cls ≠ "java/lang/invoke/MethodHandle" ∧ yX9_whyNot.cls ≠ "java/lang/invoke/VarHandle" ∧ (parseMethodDescriptor yX9_whyNot.desc).map (fun d => d.parameters.length) = some 2 := by decide +kernel
theorem hX9_widthOf : yX9_widthOf.cls ≠ "java/lang/invoke/MethodHandle" ∧ yX9_widthOf.cls ≠ "java/lang/invoke/VarHandle" ∧ (parseMethodDescriptor yX9_widthOf.desc).map (fun d => d.parameters.length) = some 1 := by decide +kernel
theorem hX9_word : yX9_word.cls ≠ "java/lang/invoke/MethodHandle" ∧ yX9_word.cls ≠ "java/lang/invoke/VarHandle" ∧ (parseMethodDescriptor yX9_word.desc).map (fun d => d.parameters.length) = some 0 := by decide +kernel
