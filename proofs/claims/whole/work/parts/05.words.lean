theorem kf_X1_9 : Cond.fieldLink RX1 9 "LiveViews$State" "asOf" "I" ∈ lw_tbl := List.mem_append_right _ (List.mem_append_left _ (List.mem_of_getElem? (i := 22) rfl))
theorem kf_X3_84 : Cond.fieldLinkNest RX3 84 "LiveViews$State" "asOf" "I" "LiveViews" ∈ lw_tbl := List.mem_append_right _ (List.mem_append_left _ (List.mem_of_getElem? (i := 23) rfl))
theorem kf_X1_15 : Cond.fieldLink RX1 15 "LiveViews$State" "changes" "[I" ∈ lw_tbl := List.mem_append_right _ (List.mem_append_left _ (List.mem_of_getElem? (i := 24) rfl))
theorem kf_X0_25 : Cond.fieldLinkNest RX0 25 "LiveViews$State" "changes" "[I" "LiveViews" ∈ lw_tbl := List.mem_append_right _ (List.mem_append_left _ (List.mem_of_getElem? (i := 25) rfl))
theorem kf_X3_121 : Cond.fieldLinkNest RX3 121 "LiveViews$State" "changes" "[I" "LiveViews" ∈ lw_tbl := List.mem_append_right _ (List.mem_append_left _ (List.mem_of_getElem? (i := 26) rfl))
theorem kf_X1_19 : Cond.fieldLink RX1 19 "LiveViews$State" "words" "[I" ∈ lw_tbl := List.mem_append_right _ (List.mem_append_left _ (List.mem_of_getElem? (i := 27) rfl))
theorem kf_X3_117 : Cond.fieldLinkNest RX3 117 "LiveViews$State" "words" "[I" "LiveViews" ∈ lw_tbl := List.mem_append_right _ (List.mem_append_left _ (List.mem_of_getElem? (i := 28) rfl))
theorem kf_X2_13 : Cond.fieldLink RX2 13 "LiveViews$View" "made" "I" ∈ lw_tbl := List.mem_append_right _ (List.mem_append_left _ (List.mem_of_getElem? (i := 46) rfl))
theorem kf_X3_104 : Cond.fieldLinkNest RX3 104 "LiveViews$View" "made" "I" "LiveViews" ∈ lw_tbl := List.mem_append_right _ (List.mem_append_left _ (List.mem_of_getElem? (i := 47) rfl))
theorem kf_X2_16 : Cond.fieldLink RX2 16 "LiveViews$View" "state" "LLiveViews$State;" ∈ lw_tbl := List.mem_append_right _ (List.mem_append_left _ (List.mem_of_getElem? (i := 48) rfl))
theorem kf_X3_74 : Cond.fieldLinkNest RX3 74 "LiveViews$View" "state" "LLiveViews$State;" "LiveViews" ∈ lw_tbl := List.mem_append_right _ (List.mem_append_left _ (List.mem_of_getElem? (i := 49) rfl))
theorem kf_X2_20 : Cond.fieldLink RX2 20 "LiveViews$View" "parts" "[LLiveViews$Segment;" ∈ lw_tbl := List.mem_append_right _ (List.mem_append_left _ (List.mem_of_getElem? (i := 50) rfl))
theorem kf_X3_131 : Cond.fieldLinkNest RX3 131 "LiveViews$View" "parts" "[LLiveViews$Segment;" "LiveViews" ∈ lw_tbl := List.mem_append_right _ (List.mem_append_left _ (List.mem_of_getElem? (i := 51) rfl))
theorem kf_X2_7 : Cond.fieldLink RX2 7 "LiveViews$View" "opened" "I" ∈ lw_tbl := List.mem_append_right _ (List.mem_append_left _ (List.mem_of_getElem? (i := 52) rfl))
theorem kf_X3_114 : Cond.fieldLinkNest RX3 114 "LiveViews$View" "opened" "I" "LiveViews" ∈ lw_tbl := List.mem_append_right _ (List.mem_append_left _ (List.mem_of_getElem? (i := 53) rfl))
theorem kf_X3_10 : Cond.fieldLink RX3 10 "LiveViews" "now" "LLiveViews$State;" ∈ lw_tbl := List.mem_append_right _ (List.mem_append_left _ (List.mem_of_getElem? (i := 63) rfl))
theorem kf_X3_16 : Cond.fieldLink RX3 16 "LiveViews" "safe" "LLiveViews$State;" ∈ lw_tbl := List.mem_append_right _ (List.mem_append_left _ (List.mem_of_getElem? (i := 64) rfl))
theorem kf_X3_21 : Cond.fieldLink RX3 21 "LiveViews" "views" "[LLiveViews$View;" ∈ lw_tbl := List.mem_append_right _ (List.mem_append_left _ (List.mem_of_getElem? (i := 65) rfl))
theorem kf_X3_25 : Cond.fieldLink RX3 25 "LiveViews" "viewsMade" "I" ∈ lw_tbl := List.mem_append_right _ (List.mem_append_left _ (List.mem_of_getElem? (i := 66) rfl))
theorem kf_X3_52 : Cond.fieldLink RX3 52 "LiveViews" "latest" "LLiveViews$View;" ∈ lw_tbl := List.mem_append_right _ (List.mem_append_left _ (List.mem_of_getElem? (i := 67) rfl))
theorem kf_X3_56 : Cond.fieldLink RX3 56 "LiveViews" "committed" "LLiveViews$View;" ∈ lw_tbl := List.mem_append_right _ (List.mem_append_left _ (List.mem_of_getElem? (i := 68) rfl))
theorem kf_X3_29 : Cond.fieldLink RX3 29 "LiveViews" "segmentsMade" "I" ∈ lw_tbl := List.mem_append_right _ (List.mem_append_left _ (List.mem_of_getElem? (i := 69) rfl))
theorem kf_X3_32 : Cond.fieldLink RX3 32 "LiveViews" "copied" "I" ∈ lw_tbl := List.mem_append_right _ (List.mem_append_left _ (List.mem_of_getElem? (i := 70) rfl))
theorem kf_X3_35 : Cond.fieldLink RX3 35 "LiveViews" "missed" "I" ∈ lw_tbl := List.mem_append_right _ (List.mem_append_left _ (List.mem_of_getElem? (i := 71) rfl))
theorem kf_X3_38 : Cond.fieldLink RX3 38 "LiveViews" "conflictExpected" "I" ∈ lw_tbl := List.mem_append_right _ (List.mem_append_left _ (List.mem_of_getElem? (i := 72) rfl))
theorem kf_X3_41 : Cond.fieldLink RX3 41 "LiveViews" "conflictFound" "I" ∈ lw_tbl := List.mem_append_right _ (List.mem_append_left _ (List.mem_of_getElem? (i := 73) rfl))
theorem kf_X3_44 : Cond.fieldLink RX3 44 "LiveViews" "countings" "I" ∈ lw_tbl := List.mem_append_right _ (List.mem_append_left _ (List.mem_of_getElem? (i := 74) rfl))
theorem kf_X0_22 : Cond.fieldLink RX0 22 "LiveViews$Segment" "made" "I" ∈ lw_tbl := List.mem_append_right _ (List.mem_append_left _ (List.mem_of_getElem? (i := 198) rfl))
theorem kf_X3_135 : Cond.fieldLinkNest RX3 135 "LiveViews$Segment" "made" "I" "LiveViews" ∈ lw_tbl := List.mem_append_right _ (List.mem_append_left _ (List.mem_of_getElem? (i := 199) rfl))
theorem kf_X0_9 : Cond.fieldLink RX0 9 "LiveViews$Segment" "written" "[I" ∈ lw_tbl := List.mem_append_right _ (List.mem_append_left _ (List.mem_of_getElem? (i := 200) rfl))
theorem kf_X0_15 : Cond.fieldLink RX0 15 "LiveViews$Segment" "rows" "I" ∈ lw_tbl := List.mem_append_right _ (List.mem_append_left _ (List.mem_of_getElem? (i := 201) rfl))
theorem kf_X3_136 : Cond.fieldLinkNest RX3 136 "LiveViews$Segment" "rows" "I" "LiveViews" ∈ lw_tbl := List.mem_append_right _ (List.mem_append_left _ (List.mem_of_getElem? (i := 202) rfl))
theorem kf_X0_19 : Cond.fieldLink RX0 19 "LiveViews$Segment" "lastCounting" "I" ∈ lw_tbl := List.mem_append_right _ (List.mem_append_left _ (List.mem_of_getElem? (i := 203) rfl))
theorem kf_X3_210 : Cond.fieldLinkNest RX3 210 "LiveViews$Segment" "lastCounting" "I" "LiveViews" ∈ lw_tbl := List.mem_append_right _ (List.mem_append_left _ (List.mem_of_getElem? (i := 204) rfl))
theorem kf_X4_58 : Cond.fieldLink RX4 58 "LiveViewsModel" "changes" "I" ∈ lw_tbl := List.mem_append_right _ (List.mem_append_right _ (List.mem_append_left _ (List.mem_of_getElem? (i := 105) rfl)))
theorem kf_X4_7 : Cond.fieldLink RX4 7 "LiveViewsModel" "changeKey" "[I" ∈ lw_tbl := List.mem_append_right _ (List.mem_append_right _ (List.mem_append_left _ (List.mem_of_getElem? (i := 106) rfl)))
theorem kf_X4_13 : Cond.fieldLink RX4 13 "LiveViewsModel" "changeWords" "[I" ∈ lw_tbl := List.mem_append_right _ (List.mem_append_right _ (List.mem_append_left _ (List.mem_of_getElem? (i := 107) rfl)))
theorem kf_X4_79 : Cond.fieldLink RX4 79 "LiveViewsModel" "missed" "I" ∈ lw_tbl := List.mem_append_right _ (List.mem_append_right _ (List.mem_append_left _ (List.mem_of_getElem? (i := 108) rfl)))
theorem kf_X4_16 : Cond.fieldLink RX4 16 "LiveViewsModel" "expectedThen" "I" ∈ lw_tbl := List.mem_append_right _ (List.mem_append_right _ (List.mem_append_left _ (List.mem_of_getElem? (i := 109) rfl)))
theorem kf_X4_20 : Cond.fieldLink RX4 20 "LiveViewsModel" "wasThen" "I" ∈ lw_tbl := List.mem_append_right _ (List.mem_append_right _ (List.mem_append_left _ (List.mem_of_getElem? (i := 110) rfl)))
theorem kf_X4_82 : Cond.fieldLink RX4 82 "LiveViewsModel" "made" "I" ∈ lw_tbl := List.mem_append_right _ (List.mem_append_right _ (List.mem_append_left _ (List.mem_of_getElem? (i := 111) rfl)))
theorem kf_X4_23 : Cond.fieldLink RX4 23 "LiveViewsModel" "rows" "[I" ∈ lw_tbl := List.mem_append_right _ (List.mem_append_right _ (List.mem_append_left _ (List.mem_of_getElem? (i := 112) rfl)))
theorem kf_X4_26 : Cond.fieldLink RX4 26 "LiveViewsModel" "row" "[I" ∈ lw_tbl := List.mem_append_right _ (List.mem_append_right _ (List.mem_append_left _ (List.mem_of_getElem? (i := 113) rfl)))
theorem kf_X4_85 : Cond.fieldLink RX4 85 "LiveViewsModel" "copied" "I" ∈ lw_tbl := List.mem_append_right _ (List.mem_append_right _ (List.mem_append_left _ (List.mem_of_getElem? (i := 114) rfl)))
theorem kf_X4_29 : Cond.fieldLink RX4 29 "LiveViewsModel" "views" "I" ∈ lw_tbl := List.mem_append_right _ (List.mem_append_right _ (List.mem_append_left _ (List.mem_of_getElem? (i := 115) rfl)))
theorem kf_X4_32 : Cond.fieldLink RX4 32 "LiveViewsModel" "asOf" "[I" ∈ lw_tbl := List.mem_append_right _ (List.mem_append_right _ (List.mem_append_left _ (List.mem_of_getElem? (i := 116) rfl)))
theorem kf_X4_35 : Cond.fieldLink RX4 35 "LiveViewsModel" "many" "[I" ∈ lw_tbl := List.mem_append_right _ (List.mem_append_right _ (List.mem_append_left _ (List.mem_of_getElem? (i := 117) rfl)))
theorem kf_X4_38 : Cond.fieldLink RX4 38 "LiveViewsModel" "of" "[I" ∈ lw_tbl := List.mem_append_right _ (List.mem_append_right _ (List.mem_append_left _ (List.mem_of_getElem? (i := 118) rfl)))
theorem kf_X4_41 : Cond.fieldLink RX4 41 "LiveViewsModel" "opened" "[I" ∈ lw_tbl := List.mem_append_right _ (List.mem_append_right _ (List.mem_append_left _ (List.mem_of_getElem? (i := 119) rfl)))
theorem kf_X4_48 : Cond.fieldLink RX4 48 "LiveViewsModel" "latest" "I" ∈ lw_tbl := List.mem_append_right _ (List.mem_append_right _ (List.mem_append_left _ (List.mem_of_getElem? (i := 120) rfl)))
theorem kf_X4_51 : Cond.fieldLink RX4 51 "LiveViewsModel" "committed" "I" ∈ lw_tbl := List.mem_append_right _ (List.mem_append_right _ (List.mem_append_left _ (List.mem_of_getElem? (i := 121) rfl)))
theorem kf_X4_101 : Cond.fieldLink RX4 101 "LiveViewsModel" "safe" "I" ∈ lw_tbl := List.mem_append_right _ (List.mem_append_right _ (List.mem_append_left _ (List.mem_of_getElem? (i := 122) rfl)))
theorem km_L_9 : Cond.methodLink RL 9 yX3_init ∈ lw_tbl := List.mem_append_right _ (List.mem_append_left _ (List.mem_of_getElem? (i := 10) rfl))
theorem km_X3_1 : Cond.methodLink RX3 1 objectInit ∈ lw_tbl := List.mem_append_right _ (List.mem_append_left _ (List.mem_of_getElem? (i := 13) rfl))
theorem km_X3_9 : Cond.methodLinkNest RX3 9 yX1_init "LiveViews" ∈ lw_tbl := List.mem_append_right _ (List.mem_append_left _ (List.mem_of_getElem? (i := 18) rfl))
theorem km_X1_3 : Cond.methodLink RX1 3 objectInit ∈ lw_tbl := List.mem_append_right _ (List.mem_append_left _ (List.mem_of_getElem? (i := 21) rfl))
theorem km_X3_49 : Cond.methodLinkNest RX3 49 yX2_init "LiveViews" ∈ lw_tbl := List.mem_append_right _ (List.mem_append_left _ (List.mem_of_getElem? (i := 42) rfl))
theorem km_X2_1 : Cond.methodLink RX2 1 objectInit ∈ lw_tbl := List.mem_append_right _ (List.mem_append_left _ (List.mem_of_getElem? (i := 45) rfl))
theorem km_L_13 : Cond.methodLink RL 13 yX3_write ∈ lw_tbl := List.mem_append_right _ (List.mem_append_left _ (List.mem_of_getElem? (i := 100) rfl))
theorem km_X3_59 : Cond.methodLink RX3 59 yX3_isKey ∈ lw_tbl := List.mem_append_right _ (List.mem_append_left _ (List.mem_of_getElem? (i := 104) rfl))
theorem km_X3_63 : Cond.methodLink RX3 63 yX3_change ∈ lw_tbl := List.mem_append_right _ (List.mem_append_left _ (List.mem_of_getElem? (i := 107) rfl))
theorem km_X3_158 : Cond.methodLinkNest RX3 158 yX1_writtenAs "LiveViews" ∈ lw_tbl := List.mem_append_right _ (List.mem_append_left _ (List.mem_of_getElem? (i := 111) rfl))
theorem km_X1_28 : Cond.methodLink RX1 28 yX1_lives ∈ lw_tbl := List.mem_append_right _ (List.mem_append_left _ (List.mem_of_getElem? (i := 115) rfl))
theorem km_X3_91 : Cond.methodLinkNest RX3 91 yX1_change "LiveViews" ∈ lw_tbl := List.mem_append_right _ (List.mem_append_left _ (List.mem_of_getElem? (i := 119) rfl))
theorem km_L_18 : Cond.methodLink RL 18 yX3_remove ∈ lw_tbl := List.mem_append_right _ (List.mem_append_left _ (List.mem_of_getElem? (i := 123) rfl))
theorem km_L_23 : Cond.methodLink RL 23 yX3_drop ∈ lw_tbl := List.mem_append_right _ (List.mem_append_left _ (List.mem_of_getElem? (i := 127) rfl))
theorem km_X3_67 : Cond.methodLink RX3 67 yX3_heldView ∈ lw_tbl := List.mem_append_right _ (List.mem_append_left _ (List.mem_of_getElem? (i := 131) rfl))
theorem km_X3_71 : Cond.methodLink RX3 71 yX3_isQuery ∈ lw_tbl := List.mem_append_right _ (List.mem_append_left _ (List.mem_of_getElem? (i := 135) rfl))
theorem km_X3_77 : Cond.methodLink RX3 77 yX3_countFitting ∈ lw_tbl := List.mem_append_right _ (List.mem_append_left _ (List.mem_of_getElem? (i := 138) rfl))
theorem km_X3_124 : Cond.methodLinkNest RX3 124 yX1_fits "LiveViews" ∈ lw_tbl := List.mem_append_right _ (List.mem_append_left _ (List.mem_of_getElem? (i := 141) rfl))
theorem km_X3_81 : Cond.methodLink RX3 81 yX3_countUnchanged ∈ lw_tbl := List.mem_append_right _ (List.mem_append_left _ (List.mem_of_getElem? (i := 145) rfl))
theorem km_X3_87 : Cond.methodLink RX3 87 yX3_isUnchanged ∈ lw_tbl := List.mem_append_right _ (List.mem_append_left _ (List.mem_of_getElem? (i := 149) rfl))
theorem km_L_27 : Cond.methodLink RL 27 yX3_conflict ∈ lw_tbl := List.mem_append_right _ (List.mem_append_left _ (List.mem_of_getElem? (i := 153) rfl))
theorem km_L_32 : Cond.methodLink RL 32 yX3_refresh ∈ lw_tbl := List.mem_append_right _ (List.mem_append_left _ (List.mem_of_getElem? (i := 157) rfl))
theorem km_X3_94 : Cond.methodLink RX3 94 yX3_hasRoomToRefresh ∈ lw_tbl := List.mem_append_right _ (List.mem_append_left _ (List.mem_of_getElem? (i := 161) rfl))
theorem km_X3_98 : Cond.methodLink RX3 98 yX3_refreshLatest ∈ lw_tbl := List.mem_append_right _ (List.mem_append_left _ (List.mem_of_getElem? (i := 165) rfl))
theorem km_X3_139 : Cond.methodLinkNest RX3 139 yX0_countLive "LiveViews" ∈ lw_tbl := List.mem_append_right _ (List.mem_append_left _ (List.mem_of_getElem? (i := 169) rfl))
theorem km_X0_30 : Cond.methodLink RX0 30 yX0_isLive ∈ lw_tbl := List.mem_append_right _ (List.mem_append_left _ (List.mem_of_getElem? (i := 174) rfl))
theorem km_X3_161 : Cond.methodLink RX3 161 yX3_hasNewRow ∈ lw_tbl := List.mem_append_right _ (List.mem_append_left _ (List.mem_of_getElem? (i := 178) rfl))
theorem km_X3_181 : Cond.methodLink RX3 181 yX3_isNewRow ∈ lw_tbl := List.mem_append_right _ (List.mem_append_left _ (List.mem_of_getElem? (i := 182) rfl))
theorem km_X3_165 : Cond.methodLink RX3 165 yX3_segmentOfNewRows ∈ lw_tbl := List.mem_append_right _ (List.mem_append_left _ (List.mem_of_getElem? (i := 186) rfl))
theorem km_X3_184 : Cond.methodLink RX3 184 yX3_makeSegment ∈ lw_tbl := List.mem_append_right _ (List.mem_append_left _ (List.mem_of_getElem? (i := 190) rfl))
theorem km_X3_199 : Cond.methodLinkNest RX3 199 yX0_init "LiveViews" ∈ lw_tbl := List.mem_append_right _ (List.mem_append_left _ (List.mem_of_getElem? (i := 194) rfl))
theorem km_X0_3 : Cond.methodLink RX0 3 objectInit ∈ lw_tbl := List.mem_append_right _ (List.mem_append_left _ (List.mem_of_getElem? (i := 197) rfl))
theorem km_X3_187 : Cond.methodLink RX3 187 yX3_putRow ∈ lw_tbl := List.mem_append_right _ (List.mem_append_left _ (List.mem_of_getElem? (i := 214) rfl))
theorem km_X3_202 : Cond.methodLinkNest RX3 202 yX0_put "LiveViews" ∈ lw_tbl := List.mem_append_right _ (List.mem_append_left _ (List.mem_of_getElem? (i := 218) rfl))
theorem km_X3_169 : Cond.methodLink RX3 169 yX3_mergeFewest ∈ lw_tbl := List.mem_append_right _ (List.mem_append_left _ (List.mem_of_getElem? (i := 222) rfl))
theorem km_X3_191 : Cond.methodLink RX3 191 yX3_segmentOfLiveRows ∈ lw_tbl := List.mem_append_right _ (List.mem_append_left _ (List.mem_of_getElem? (i := 226) rfl))
theorem km_X3_195 : Cond.methodLinkNest RX3 195 yX0_isLive "LiveViews" ∈ lw_tbl := List.mem_append_right _ (List.mem_append_left _ (List.mem_of_getElem? (i := 230) rfl))
theorem km_X3_173 : Cond.methodLink RX3 173 yX3_firstOf ∈ lw_tbl := List.mem_append_right _ (List.mem_append_left _ (List.mem_of_getElem? (i := 231) rfl))
theorem km_X3_177 : Cond.methodLink RX3 177 yX3_addView ∈ lw_tbl := List.mem_append_right _ (List.mem_append_left _ (List.mem_of_getElem? (i := 234) rfl))
theorem km_X3_107 : Cond.methodLinkNest RX3 107 yX1_copyFrom "LiveViews" ∈ lw_tbl := List.mem_append_right _ (List.mem_append_left _ (List.mem_of_getElem? (i := 238) rfl))
theorem km_X1_22 : Cond.methodLink RX1 22 arraycopyName ∈ lw_tbl := List.mem_append_right _ (List.mem_append_right _ (List.mem_append_left _ (List.mem_of_getElem? (i := 2) rfl)))
theorem km_X3_101 : Cond.methodLink RX3 101 yX3_letGo ∈ lw_tbl := List.mem_append_right _ (List.mem_append_right _ (List.mem_append_left _ (List.mem_of_getElem? (i := 5) rfl)))
theorem km_L_37 : Cond.methodLink RL 37 yX3_commit ∈ lw_tbl := List.mem_append_right _ (List.mem_append_right _ (List.mem_append_left _ (List.mem_of_getElem? (i := 9) rfl)))
theorem km_L_41 : Cond.methodLink RL 41 yX3_sync ∈ lw_tbl := List.mem_append_right _ (List.mem_append_right _ (List.mem_append_left _ (List.mem_of_getElem? (i := 13) rfl)))
theorem km_L_45 : Cond.methodLink RL 45 yX3_crash ∈ lw_tbl := List.mem_append_right _ (List.mem_append_right _ (List.mem_append_left _ (List.mem_of_getElem? (i := 17) rfl)))
theorem km_X3_111 : Cond.methodLink RX3 111 yX3_closeAll ∈ lw_tbl := List.mem_append_right _ (List.mem_append_right _ (List.mem_append_left _ (List.mem_of_getElem? (i := 21) rfl)))
theorem km_L_49 : Cond.methodLink RL 49 yX3_open ∈ lw_tbl := List.mem_append_right _ (List.mem_append_right _ (List.mem_append_left _ (List.mem_of_getElem? (i := 25) rfl)))
theorem km_L_53 : Cond.methodLink RL 53 yX3_close ∈ lw_tbl := List.mem_append_right _ (List.mem_append_right _ (List.mem_append_left _ (List.mem_of_getElem? (i := 29) rfl)))
theorem km_L_57 : Cond.methodLink RL 57 yX3_get ∈ lw_tbl := List.mem_append_right _ (List.mem_append_right _ (List.mem_append_left _ (List.mem_of_getElem? (i := 33) rfl)))
theorem km_L_61 : Cond.methodLink RL 61 yX3_number ∈ lw_tbl := List.mem_append_right _ (List.mem_append_right _ (List.mem_append_left _ (List.mem_of_getElem? (i := 37) rfl)))
theorem km_L_65 : Cond.methodLink RL 65 yX3_at ∈ lw_tbl := List.mem_append_right _ (List.mem_append_right _ (List.mem_append_left _ (List.mem_of_getElem? (i := 41) rfl)))
theorem km_L_69 : Cond.methodLink RL 69 yX3_find ∈ lw_tbl := List.mem_append_right _ (List.mem_append_right _ (List.mem_append_left _ (List.mem_of_getElem? (i := 45) rfl)))
theorem km_L_73 : Cond.methodLink RL 73 yX3_match ∈ lw_tbl := List.mem_append_right _ (List.mem_append_right _ (List.mem_append_left _ (List.mem_of_getElem? (i := 49) rfl)))
theorem km_X3_128 : Cond.methodLinkNest RX3 128 yX1_countBefore "LiveViews" ∈ lw_tbl := List.mem_append_right _ (List.mem_append_right _ (List.mem_append_left _ (List.mem_of_getElem? (i := 53) rfl)))
theorem km_X1_38 : Cond.methodLink RX1 38 yX1_fits ∈ lw_tbl := List.mem_append_right _ (List.mem_append_right _ (List.mem_append_left _ (List.mem_of_getElem? (i := 57) rfl)))
theorem km_X1_42 : Cond.methodLink RX1 42 yX1_rank ∈ lw_tbl := List.mem_append_right _ (List.mem_append_right _ (List.mem_append_left _ (List.mem_of_getElem? (i := 58) rfl)))
theorem km_X1_32 : Cond.methodLink RX1 32 yJ6_bitCount_0f7a4 ∈ lw_tbl := List.mem_append_right _ (List.mem_append_right _ (List.mem_append_left _ (List.mem_of_getElem? (i := 62) rfl)))
theorem km_L_78 : Cond.methodLink RL 78 yX3_segments ∈ lw_tbl := List.mem_append_right _ (List.mem_append_right _ (List.mem_append_left _ (List.mem_of_getElem? (i := 68) rfl)))
theorem km_L_82 : Cond.methodLink RL 82 yX3_segment ∈ lw_tbl := List.mem_append_right _ (List.mem_append_right _ (List.mem_append_left _ (List.mem_of_getElem? (i := 72) rfl)))
theorem km_X3_143 : Cond.methodLink RX3 143 yX3_keyOrOutside ∈ lw_tbl := List.mem_append_right _ (List.mem_append_right _ (List.mem_append_left _ (List.mem_of_getElem? (i := 76) rfl)))
theorem km_X3_154 : Cond.methodLinkNest RX3 154 yX0_keyOfRow "LiveViews" ∈ lw_tbl := List.mem_append_right _ (List.mem_append_right _ (List.mem_append_left _ (List.mem_of_getElem? (i := 79) rfl)))
theorem km_L_86 : Cond.methodLink RL 86 yX3_told ∈ lw_tbl := List.mem_append_right _ (List.mem_append_right _ (List.mem_append_left _ (List.mem_of_getElem? (i := 83) rfl)))
theorem km_X3_147 : Cond.methodLink RX3 147 yX3_countSegmentsThere ∈ lw_tbl := List.mem_append_right _ (List.mem_append_right _ (List.mem_append_left _ (List.mem_of_getElem? (i := 87) rfl)))
theorem km_X3_206 : Cond.methodLink RX3 206 yX3_markSegments ∈ lw_tbl := List.mem_append_right _ (List.mem_append_right _ (List.mem_append_left _ (List.mem_of_getElem? (i := 91) rfl)))
theorem km_X3_151 : Cond.methodLink RX3 151 yX3_countHeld ∈ lw_tbl := List.mem_append_right _ (List.mem_append_right _ (List.mem_append_left _ (List.mem_of_getElem? (i := 95) rfl)))
theorem km_L_12 : Cond.methodLink RL 12 yX4_init ∈ lw_tbl := List.mem_append_right _ (List.mem_append_right _ (List.mem_append_left _ (List.mem_of_getElem? (i := 101) rfl)))
theorem km_X4_1 : Cond.methodLink RX4 1 objectInit ∈ lw_tbl := List.mem_append_right _ (List.mem_append_right _ (List.mem_append_left _ (List.mem_of_getElem? (i := 104) rfl)))
theorem km_L_17 : Cond.methodLink RL 17 yX4_write ∈ lw_tbl := List.mem_append_right _ (List.mem_append_right _ (List.mem_append_left _ (List.mem_of_getElem? (i := 160) rfl)))
theorem km_X4_44 : Cond.methodLink RX4 44 yX4_in ∈ lw_tbl := List.mem_append_right _ (List.mem_append_right _ (List.mem_append_left _ (List.mem_of_getElem? (i := 164) rfl)))
theorem km_X4_68 : Cond.methodLink RX4 68 yX4_told ∈ lw_tbl := List.mem_append_right _ (List.mem_append_right _ (List.mem_append_left _ (List.mem_of_getElem? (i := 167) rfl)))
theorem km_X4_61 : Cond.methodLink RX4 61 yX4_written ∈ lw_tbl := List.mem_append_right _ (List.mem_append_right _ (List.mem_append_left _ (List.mem_of_getElem? (i := 171) rfl)))
theorem km_X4_54 : Cond.methodLink RX4 54 yX4_change ∈ lw_tbl := List.mem_append_right _ (List.mem_append_right _ (List.mem_append_left _ (List.mem_of_getElem? (i := 175) rfl)))
theorem km_X4_64 : Cond.methodLink RX4 64 yX4_add ∈ lw_tbl := List.mem_append_right _ (List.mem_append_right _ (List.mem_append_left _ (List.mem_of_getElem? (i := 179) rfl)))
theorem km_L_22 : Cond.methodLink RL 22 yX4_remove ∈ lw_tbl := List.mem_append_right _ (List.mem_append_right _ (List.mem_append_left _ (List.mem_of_getElem? (i := 183) rfl)))
theorem km_L_26 : Cond.methodLink RL 26 yX4_drop ∈ lw_tbl := List.mem_append_right _ (List.mem_append_right _ (List.mem_append_left _ (List.mem_of_getElem? (i := 187) rfl)))
theorem km_X4_72 : Cond.methodLink RX4 72 yX4_isHeld ∈ lw_tbl := List.mem_append_right _ (List.mem_append_right _ (List.mem_append_left _ (List.mem_of_getElem? (i := 191) rfl)))
theorem km_X4_76 : Cond.methodLink RX4 76 yX4_has ∈ lw_tbl := List.mem_append_right _ (List.mem_append_right _ (List.mem_append_left _ (List.mem_of_getElem? (i := 195) rfl)))
theorem km_L_31 : Cond.methodLink RL 31 yX4_conflict ∈ lw_tbl := List.mem_append_right _ (List.mem_append_right _ (List.mem_append_left _ (List.mem_of_getElem? (i := 199) rfl)))
theorem km_L_36 : Cond.methodLink RL 36 yX4_refresh ∈ lw_tbl := List.mem_append_right _ (List.mem_append_right _ (List.mem_append_left _ (List.mem_of_getElem? (i := 203) rfl)))
theorem km_X4_88 : Cond.methodLink RX4 88 yX4_hasNews ∈ lw_tbl := List.mem_append_right _ (List.mem_append_right _ (List.mem_append_left _ (List.mem_of_getElem? (i := 207) rfl)))
theorem km_X4_98 : Cond.methodLink RX4 98 yX4_renew ∈ lw_tbl := List.mem_append_right _ (List.mem_append_right _ (List.mem_append_left _ (List.mem_of_getElem? (i := 211) rfl)))
theorem km_X4_92 : Cond.methodLink RX4 92 yX4_live ∈ lw_tbl := List.mem_append_right _ (List.mem_append_right _ (List.mem_append_left _ (List.mem_of_getElem? (i := 215) rfl)))
theorem km_X4_95 : Cond.methodLink RX4 95 yX4_merged ∈ lw_tbl := List.mem_append_right _ (List.mem_append_right _ (List.mem_append_left _ (List.mem_of_getElem? (i := 219) rfl)))
theorem km_L_40 : Cond.methodLink RL 40 yX4_commit ∈ lw_tbl := List.mem_append_right _ (List.mem_append_right _ (List.mem_append_left _ (List.mem_of_getElem? (i := 223) rfl)))
theorem km_L_44 : Cond.methodLink RL 44 yX4_sync ∈ lw_tbl := List.mem_append_right _ (List.mem_append_right _ (List.mem_append_left _ (List.mem_of_getElem? (i := 227) rfl)))
theorem km_L_48 : Cond.methodLink RL 48 yX4_crash ∈ lw_tbl := List.mem_append_right _ (List.mem_append_right _ (List.mem_append_left _ (List.mem_of_getElem? (i := 231) rfl)))
theorem km_L_52 : Cond.methodLink RL 52 yX4_open ∈ lw_tbl := List.mem_append_right _ (List.mem_append_right _ (List.mem_append_left _ (List.mem_of_getElem? (i := 235) rfl)))
theorem km_L_56 : Cond.methodLink RL 56 yX4_close ∈ lw_tbl := List.mem_append_right _ (List.mem_append_right _ (List.mem_append_left _ (List.mem_of_getElem? (i := 239) rfl)))
theorem km_L_60 : Cond.methodLink RL 60 yX4_get ∈ lw_tbl := List.mem_append_right _ (List.mem_append_right _ (List.mem_append_right _ (List.mem_of_getElem? (i := 3) rfl)))
theorem km_L_64 : Cond.methodLink RL 64 yX4_number ∈ lw_tbl := List.mem_append_right _ (List.mem_append_right _ (List.mem_append_right _ (List.mem_of_getElem? (i := 7) rfl)))
theorem km_L_68 : Cond.methodLink RL 68 yX4_at ∈ lw_tbl := List.mem_append_right _ (List.mem_append_right _ (List.mem_append_right _ (List.mem_of_getElem? (i := 11) rfl)))
theorem km_L_72 : Cond.methodLink RL 72 yX4_find ∈ lw_tbl := List.mem_append_right _ (List.mem_append_right _ (List.mem_append_right _ (List.mem_of_getElem? (i := 15) rfl)))
theorem km_L_77 : Cond.methodLink RL 77 yX4_match ∈ lw_tbl := List.mem_append_right _ (List.mem_append_right _ (List.mem_append_right _ (List.mem_of_getElem? (i := 19) rfl)))
theorem km_X4_108 : Cond.methodLink RX4 108 yX4_worth ∈ lw_tbl := List.mem_append_right _ (List.mem_append_right _ (List.mem_append_right _ (List.mem_of_getElem? (i := 23) rfl)))
theorem km_X4_104 : Cond.methodLink RX4 104 yX4_bits ∈ lw_tbl := List.mem_append_right _ (List.mem_append_right _ (List.mem_append_right _ (List.mem_of_getElem? (i := 27) rfl)))
theorem km_L_81 : Cond.methodLink RL 81 yX4_segments ∈ lw_tbl := List.mem_append_right _ (List.mem_append_right _ (List.mem_append_right _ (List.mem_of_getElem? (i := 30) rfl)))
theorem km_L_85 : Cond.methodLink RL 85 yX4_segment ∈ lw_tbl := List.mem_append_right _ (List.mem_append_right _ (List.mem_append_right _ (List.mem_of_getElem? (i := 34) rfl)))
theorem km_L_89 : Cond.methodLink RL 89 yX4_told_ ∈ lw_tbl := List.mem_append_right _ (List.mem_append_right _ (List.mem_append_right _ (List.mem_of_getElem? (i := 38) rfl)))
theorem km_X4_111 : Cond.methodLink RX4 111 yX4_isThere ∈ lw_tbl := List.mem_append_right _ (List.mem_append_right _ (List.mem_append_right _ (List.mem_of_getElem? (i := 42) rfl)))
theorem kc_L_7 : Cond.classLink RL 7 RX3 ∈ lw_tbl := List.mem_append_right _ (List.mem_append_left _ (List.mem_of_getElem? (i := 8) rfl))
theorem kc_X3_7 : Cond.classLink RX3 7 RX1 ∈ lw_tbl := List.mem_append_right _ (List.mem_append_left _ (List.mem_of_getElem? (i := 16) rfl))
theorem kc_X3_19 : Cond.classLink RX3 19 RX2 ∈ lw_tbl := List.mem_append_right _ (List.mem_append_left _ (List.mem_of_getElem? (i := 37) rfl))
theorem kc_X3_47 : Cond.classLink RX3 47 RX0 ∈ lw_tbl := List.mem_append_right _ (List.mem_append_left _ (List.mem_of_getElem? (i := 40) rfl))
theorem kc_L_10 : Cond.classLink RL 10 RX4 ∈ lw_tbl := List.mem_append_right _ (List.mem_append_right _ (List.mem_append_left _ (List.mem_of_getElem? (i := 99) rfl)))
theorem kk_J6_265 : Cond.constant RJ6 265 1431655765 ∈ lw_tbl := List.mem_append_right _ (List.mem_append_right _ (List.mem_append_left _ (List.mem_of_getElem? (i := 65) rfl)))
theorem kk_J6_266 : Cond.constant RJ6 266 858993459 ∈ lw_tbl := List.mem_append_right _ (List.mem_append_right _ (List.mem_append_left _ (List.mem_of_getElem? (i := 66) rfl)))
theorem kk_J6_267 : Cond.constant RJ6 267 252645135 ∈ lw_tbl := List.mem_append_right _ (List.mem_append_right _ (List.mem_append_left _ (List.mem_of_getElem? (i := 67) rfl)))
theorem kz_L : Cond.initialized RL ∈ lw_tbl := List.mem_append_right _ (List.mem_append_left _ (List.mem_of_getElem? (i := 0) rfl))
theorem kz_X3 : Cond.initialized RX3 ∈ lw_tbl := List.mem_append_right _ (List.mem_append_left _ (List.mem_of_getElem? (i := 1) rfl))
theorem kz_X1 : Cond.initialized RX1 ∈ lw_tbl := List.mem_append_right _ (List.mem_append_left _ (List.mem_of_getElem? (i := 2) rfl))
theorem kz_X2 : Cond.initialized RX2 ∈ lw_tbl := List.mem_append_right _ (List.mem_append_left _ (List.mem_of_getElem? (i := 3) rfl))
theorem kz_X4 : Cond.initialized RX4 ∈ lw_tbl := List.mem_append_right _ (List.mem_append_left _ (List.mem_of_getElem? (i := 4) rfl))
theorem kz_X0 : Cond.initialized RX0 ∈ lw_tbl := List.mem_append_right _ (List.mem_append_left _ (List.mem_of_getElem? (i := 5) rfl))
theorem kz_J10 : Cond.initialized RJ10 ∈ lw_tbl := List.mem_append_right _ (List.mem_append_left _ (List.mem_of_getElem? (i := 6) rfl))
theorem kz_J6 : Cond.initialized RJ6 ∈ lw_tbl := List.mem_append_right _ (List.mem_append_left _ (List.mem_of_getElem? (i := 7) rfl))
theorem kn_X3 : Cond.instantiable RX3 12 ∈ lw_tbl := List.mem_append_right _ (List.mem_append_left _ (List.mem_of_getElem? (i := 9) rfl))
theorem ki_X3_init : Cond.instanceMethod yX3_init ∈ lw_tbl := List.mem_append_right _ (List.mem_append_left _ (List.mem_of_getElem? (i := 11) rfl))
theorem ki_obj : Cond.instanceMethod objectInit ∈ lw_tbl := List.mem_append_right _ (List.mem_append_left _ (List.mem_of_getElem? (i := 14) rfl))
theorem kn_X1 : Cond.instantiable RX1 3 ∈ lw_tbl := List.mem_append_right _ (List.mem_append_left _ (List.mem_of_getElem? (i := 17) rfl))
theorem ki_X1_init : Cond.instanceMethod yX1_init ∈ lw_tbl := List.mem_append_right _ (List.mem_append_left _ (List.mem_of_getElem? (i := 19) rfl))
theorem kn_X2 : Cond.instantiable RX2 4 ∈ lw_tbl := List.mem_append_right _ (List.mem_append_left _ (List.mem_of_getElem? (i := 39) rfl))
theorem ki_X2_init : Cond.instanceMethod yX2_init ∈ lw_tbl := List.mem_append_right _ (List.mem_append_left _ (List.mem_of_getElem? (i := 43) rfl))
theorem ki_X3_write : Cond.instanceMethod yX3_write ∈ lw_tbl := List.mem_append_right _ (List.mem_append_left _ (List.mem_of_getElem? (i := 101) rfl))
theorem ks_X3_write : Cond.selects RX3 yX3_write yX3_write ∈ lw_tbl := List.mem_append_right _ (List.mem_append_left _ (List.mem_of_getElem? (i := 102) rfl))
theorem kt_X3_isKey : Cond.static yX3_isKey ∈ lw_tbl := List.mem_append_right _ (List.mem_append_left _ (List.mem_of_getElem? (i := 105) rfl))
theorem ki_X3_change : Cond.instanceMethod yX3_change ∈ lw_tbl := List.mem_append_right _ (List.mem_append_left _ (List.mem_of_getElem? (i := 109) rfl))
theorem ki_X1_writtenAs : Cond.instanceMethod yX1_writtenAs ∈ lw_tbl := List.mem_append_right _ (List.mem_append_left _ (List.mem_of_getElem? (i := 113) rfl))
theorem ki_X1_lives : Cond.instanceMethod yX1_lives ∈ lw_tbl := List.mem_append_right _ (List.mem_append_left _ (List.mem_of_getElem? (i := 117) rfl))
theorem ki_X1_change : Cond.instanceMethod yX1_change ∈ lw_tbl := List.mem_append_right _ (List.mem_append_left _ (List.mem_of_getElem? (i := 121) rfl))
theorem ki_X3_remove : Cond.instanceMethod yX3_remove ∈ lw_tbl := List.mem_append_right _ (List.mem_append_left _ (List.mem_of_getElem? (i := 124) rfl))
theorem ks_X3_remove : Cond.selects RX3 yX3_remove yX3_remove ∈ lw_tbl := List.mem_append_right _ (List.mem_append_left _ (List.mem_of_getElem? (i := 125) rfl))
theorem ki_X3_drop : Cond.instanceMethod yX3_drop ∈ lw_tbl := List.mem_append_right _ (List.mem_append_left _ (List.mem_of_getElem? (i := 128) rfl))
theorem ks_X3_drop : Cond.selects RX3 yX3_drop yX3_drop ∈ lw_tbl := List.mem_append_right _ (List.mem_append_left _ (List.mem_of_getElem? (i := 129) rfl))
theorem ki_X3_heldView : Cond.instanceMethod yX3_heldView ∈ lw_tbl := List.mem_append_right _ (List.mem_append_left _ (List.mem_of_getElem? (i := 133) rfl))
theorem kt_X3_isQuery : Cond.static yX3_isQuery ∈ lw_tbl := List.mem_append_right _ (List.mem_append_left _ (List.mem_of_getElem? (i := 136) rfl))
theorem kt_X3_countFitting : Cond.static yX3_countFitting ∈ lw_tbl := List.mem_append_right _ (List.mem_append_left _ (List.mem_of_getElem? (i := 139) rfl))
theorem ki_X1_fits : Cond.instanceMethod yX1_fits ∈ lw_tbl := List.mem_append_right _ (List.mem_append_left _ (List.mem_of_getElem? (i := 143) rfl))
theorem ki_X3_countUnchanged : Cond.instanceMethod yX3_countUnchanged ∈ lw_tbl := List.mem_append_right _ (List.mem_append_left _ (List.mem_of_getElem? (i := 147) rfl))
theorem ki_X3_isUnchanged : Cond.instanceMethod yX3_isUnchanged ∈ lw_tbl := List.mem_append_right _ (List.mem_append_left _ (List.mem_of_getElem? (i := 151) rfl))
theorem ki_X3_conflict : Cond.instanceMethod yX3_conflict ∈ lw_tbl := List.mem_append_right _ (List.mem_append_left _ (List.mem_of_getElem? (i := 154) rfl))
theorem ks_X3_conflict : Cond.selects RX3 yX3_conflict yX3_conflict ∈ lw_tbl := List.mem_append_right _ (List.mem_append_left _ (List.mem_of_getElem? (i := 155) rfl))
theorem ki_X3_refresh : Cond.instanceMethod yX3_refresh ∈ lw_tbl := List.mem_append_right _ (List.mem_append_left _ (List.mem_of_getElem? (i := 158) rfl))
theorem ks_X3_refresh : Cond.selects RX3 yX3_refresh yX3_refresh ∈ lw_tbl := List.mem_append_right _ (List.mem_append_left _ (List.mem_of_getElem? (i := 159) rfl))
theorem ki_X3_hasRoomToRefresh : Cond.instanceMethod yX3_hasRoomToRefresh ∈ lw_tbl := List.mem_append_right _ (List.mem_append_left _ (List.mem_of_getElem? (i := 163) rfl))
theorem ki_X3_refreshLatest : Cond.instanceMethod yX3_refreshLatest ∈ lw_tbl := List.mem_append_right _ (List.mem_append_left _ (List.mem_of_getElem? (i := 167) rfl))
theorem ki_X0_countLive : Cond.instanceMethod yX0_countLive ∈ lw_tbl := List.mem_append_right _ (List.mem_append_left _ (List.mem_of_getElem? (i := 171) rfl))
theorem kn_X0 : Cond.instantiable RX0 4 ∈ lw_tbl := List.mem_append_right _ (List.mem_append_left _ (List.mem_of_getElem? (i := 172) rfl))
theorem ki_X0_isLive : Cond.instanceMethod yX0_isLive ∈ lw_tbl := List.mem_append_right _ (List.mem_append_left _ (List.mem_of_getElem? (i := 176) rfl))
theorem ki_X3_hasNewRow : Cond.instanceMethod yX3_hasNewRow ∈ lw_tbl := List.mem_append_right _ (List.mem_append_left _ (List.mem_of_getElem? (i := 180) rfl))
theorem ki_X3_isNewRow : Cond.instanceMethod yX3_isNewRow ∈ lw_tbl := List.mem_append_right _ (List.mem_append_left _ (List.mem_of_getElem? (i := 184) rfl))
theorem ki_X3_segmentOfNewRows : Cond.instanceMethod yX3_segmentOfNewRows ∈ lw_tbl := List.mem_append_right _ (List.mem_append_left _ (List.mem_of_getElem? (i := 188) rfl))
theorem ki_X3_makeSegment : Cond.instanceMethod yX3_makeSegment ∈ lw_tbl := List.mem_append_right _ (List.mem_append_left _ (List.mem_of_getElem? (i := 192) rfl))
theorem ki_X0_init : Cond.instanceMethod yX0_init ∈ lw_tbl := List.mem_append_right _ (List.mem_append_left _ (List.mem_of_getElem? (i := 195) rfl))
theorem ki_X3_putRow : Cond.instanceMethod yX3_putRow ∈ lw_tbl := List.mem_append_right _ (List.mem_append_left _ (List.mem_of_getElem? (i := 216) rfl))
theorem ki_X0_put : Cond.instanceMethod yX0_put ∈ lw_tbl := List.mem_append_right _ (List.mem_append_left _ (List.mem_of_getElem? (i := 220) rfl))
theorem ki_X3_mergeFewest : Cond.instanceMethod yX3_mergeFewest ∈ lw_tbl := List.mem_append_right _ (List.mem_append_left _ (List.mem_of_getElem? (i := 224) rfl))
theorem ki_X3_segmentOfLiveRows : Cond.instanceMethod yX3_segmentOfLiveRows ∈ lw_tbl := List.mem_append_right _ (List.mem_append_left _ (List.mem_of_getElem? (i := 228) rfl))
theorem kt_X3_firstOf : Cond.static yX3_firstOf ∈ lw_tbl := List.mem_append_right _ (List.mem_append_left _ (List.mem_of_getElem? (i := 232) rfl))
theorem ki_X3_addView : Cond.instanceMethod yX3_addView ∈ lw_tbl := List.mem_append_right _ (List.mem_append_left _ (List.mem_of_getElem? (i := 236) rfl))
theorem ki_X1_copyFrom : Cond.instanceMethod yX1_copyFrom ∈ lw_tbl := List.mem_append_right _ (List.mem_append_right _ (List.mem_append_left _ (List.mem_of_getElem? (i := 0) rfl)))
theorem kt_copy : Cond.static arraycopyName ∈ lw_tbl := List.mem_append_right _ (List.mem_append_right _ (List.mem_append_left _ (List.mem_of_getElem? (i := 3) rfl)))
theorem kv_copy : Cond.native arraycopyName ∈ lw_tbl := List.mem_append_right _ (List.mem_append_right _ (List.mem_append_left _ (List.mem_of_getElem? (i := 4) rfl)))
theorem ki_X3_letGo : Cond.instanceMethod yX3_letGo ∈ lw_tbl := List.mem_append_right _ (List.mem_append_right _ (List.mem_append_left _ (List.mem_of_getElem? (i := 7) rfl)))
theorem ki_X3_commit : Cond.instanceMethod yX3_commit ∈ lw_tbl := List.mem_append_right _ (List.mem_append_right _ (List.mem_append_left _ (List.mem_of_getElem? (i := 10) rfl)))
theorem ks_X3_commit : Cond.selects RX3 yX3_commit yX3_commit ∈ lw_tbl := List.mem_append_right _ (List.mem_append_right _ (List.mem_append_left _ (List.mem_of_getElem? (i := 11) rfl)))
theorem ki_X3_sync : Cond.instanceMethod yX3_sync ∈ lw_tbl := List.mem_append_right _ (List.mem_append_right _ (List.mem_append_left _ (List.mem_of_getElem? (i := 14) rfl)))
theorem ks_X3_sync : Cond.selects RX3 yX3_sync yX3_sync ∈ lw_tbl := List.mem_append_right _ (List.mem_append_right _ (List.mem_append_left _ (List.mem_of_getElem? (i := 15) rfl)))
theorem ki_X3_crash : Cond.instanceMethod yX3_crash ∈ lw_tbl := List.mem_append_right _ (List.mem_append_right _ (List.mem_append_left _ (List.mem_of_getElem? (i := 18) rfl)))
theorem ks_X3_crash : Cond.selects RX3 yX3_crash yX3_crash ∈ lw_tbl := List.mem_append_right _ (List.mem_append_right _ (List.mem_append_left _ (List.mem_of_getElem? (i := 19) rfl)))
theorem ki_X3_closeAll : Cond.instanceMethod yX3_closeAll ∈ lw_tbl := List.mem_append_right _ (List.mem_append_right _ (List.mem_append_left _ (List.mem_of_getElem? (i := 23) rfl)))
theorem ki_X3_open : Cond.instanceMethod yX3_open ∈ lw_tbl := List.mem_append_right _ (List.mem_append_right _ (List.mem_append_left _ (List.mem_of_getElem? (i := 26) rfl)))
theorem ks_X3_open : Cond.selects RX3 yX3_open yX3_open ∈ lw_tbl := List.mem_append_right _ (List.mem_append_right _ (List.mem_append_left _ (List.mem_of_getElem? (i := 27) rfl)))
theorem ki_X3_close : Cond.instanceMethod yX3_close ∈ lw_tbl := List.mem_append_right _ (List.mem_append_right _ (List.mem_append_left _ (List.mem_of_getElem? (i := 30) rfl)))
theorem ks_X3_close : Cond.selects RX3 yX3_close yX3_close ∈ lw_tbl := List.mem_append_right _ (List.mem_append_right _ (List.mem_append_left _ (List.mem_of_getElem? (i := 31) rfl)))
theorem ki_X3_get : Cond.instanceMethod yX3_get ∈ lw_tbl := List.mem_append_right _ (List.mem_append_right _ (List.mem_append_left _ (List.mem_of_getElem? (i := 34) rfl)))
theorem ks_X3_get : Cond.selects RX3 yX3_get yX3_get ∈ lw_tbl := List.mem_append_right _ (List.mem_append_right _ (List.mem_append_left _ (List.mem_of_getElem? (i := 35) rfl)))
theorem ki_X3_number : Cond.instanceMethod yX3_number ∈ lw_tbl := List.mem_append_right _ (List.mem_append_right _ (List.mem_append_left _ (List.mem_of_getElem? (i := 38) rfl)))
theorem ks_X3_number : Cond.selects RX3 yX3_number yX3_number ∈ lw_tbl := List.mem_append_right _ (List.mem_append_right _ (List.mem_append_left _ (List.mem_of_getElem? (i := 39) rfl)))
theorem ki_X3_at : Cond.instanceMethod yX3_at ∈ lw_tbl := List.mem_append_right _ (List.mem_append_right _ (List.mem_append_left _ (List.mem_of_getElem? (i := 42) rfl)))
theorem ks_X3_at : Cond.selects RX3 yX3_at yX3_at ∈ lw_tbl := List.mem_append_right _ (List.mem_append_right _ (List.mem_append_left _ (List.mem_of_getElem? (i := 43) rfl)))
theorem ki_X3_find : Cond.instanceMethod yX3_find ∈ lw_tbl := List.mem_append_right _ (List.mem_append_right _ (List.mem_append_left _ (List.mem_of_getElem? (i := 46) rfl)))
theorem ks_X3_find : Cond.selects RX3 yX3_find yX3_find ∈ lw_tbl := List.mem_append_right _ (List.mem_append_right _ (List.mem_append_left _ (List.mem_of_getElem? (i := 47) rfl)))
theorem ki_X3_match : Cond.instanceMethod yX3_match ∈ lw_tbl := List.mem_append_right _ (List.mem_append_right _ (List.mem_append_left _ (List.mem_of_getElem? (i := 50) rfl)))
theorem ks_X3_match : Cond.selects RX3 yX3_match yX3_match ∈ lw_tbl := List.mem_append_right _ (List.mem_append_right _ (List.mem_append_left _ (List.mem_of_getElem? (i := 51) rfl)))
theorem ki_X1_countBefore : Cond.instanceMethod yX1_countBefore ∈ lw_tbl := List.mem_append_right _ (List.mem_append_right _ (List.mem_append_left _ (List.mem_of_getElem? (i := 55) rfl)))
theorem ki_X1_rank : Cond.instanceMethod yX1_rank ∈ lw_tbl := List.mem_append_right _ (List.mem_append_right _ (List.mem_append_left _ (List.mem_of_getElem? (i := 60) rfl)))
theorem kt_J6_bitCount_0f7a4 : Cond.static yJ6_bitCount_0f7a4 ∈ lw_tbl := List.mem_append_right _ (List.mem_append_right _ (List.mem_append_left _ (List.mem_of_getElem? (i := 63) rfl)))
theorem ki_X3_segments : Cond.instanceMethod yX3_segments ∈ lw_tbl := List.mem_append_right _ (List.mem_append_right _ (List.mem_append_left _ (List.mem_of_getElem? (i := 69) rfl)))
theorem ks_X3_segments : Cond.selects RX3 yX3_segments yX3_segments ∈ lw_tbl := List.mem_append_right _ (List.mem_append_right _ (List.mem_append_left _ (List.mem_of_getElem? (i := 70) rfl)))
theorem ki_X3_segment : Cond.instanceMethod yX3_segment ∈ lw_tbl := List.mem_append_right _ (List.mem_append_right _ (List.mem_append_left _ (List.mem_of_getElem? (i := 73) rfl)))
theorem ks_X3_segment : Cond.selects RX3 yX3_segment yX3_segment ∈ lw_tbl := List.mem_append_right _ (List.mem_append_right _ (List.mem_append_left _ (List.mem_of_getElem? (i := 74) rfl)))
theorem kt_X3_keyOrOutside : Cond.static yX3_keyOrOutside ∈ lw_tbl := List.mem_append_right _ (List.mem_append_right _ (List.mem_append_left _ (List.mem_of_getElem? (i := 77) rfl)))
theorem ki_X0_keyOfRow : Cond.instanceMethod yX0_keyOfRow ∈ lw_tbl := List.mem_append_right _ (List.mem_append_right _ (List.mem_append_left _ (List.mem_of_getElem? (i := 81) rfl)))
theorem ki_X3_told : Cond.instanceMethod yX3_told ∈ lw_tbl := List.mem_append_right _ (List.mem_append_right _ (List.mem_append_left _ (List.mem_of_getElem? (i := 84) rfl)))
theorem ks_X3_told : Cond.selects RX3 yX3_told yX3_told ∈ lw_tbl := List.mem_append_right _ (List.mem_append_right _ (List.mem_append_left _ (List.mem_of_getElem? (i := 85) rfl)))
theorem ki_X3_countSegmentsThere : Cond.instanceMethod yX3_countSegmentsThere ∈ lw_tbl := List.mem_append_right _ (List.mem_append_right _ (List.mem_append_left _ (List.mem_of_getElem? (i := 89) rfl)))
theorem ki_X3_markSegments : Cond.instanceMethod yX3_markSegments ∈ lw_tbl := List.mem_append_right _ (List.mem_append_right _ (List.mem_append_left _ (List.mem_of_getElem? (i := 93) rfl)))
theorem ki_X3_countHeld : Cond.instanceMethod yX3_countHeld ∈ lw_tbl := List.mem_append_right _ (List.mem_append_right _ (List.mem_append_left _ (List.mem_of_getElem? (i := 97) rfl)))
theorem kn_X4 : Cond.instantiable RX4 18 ∈ lw_tbl := List.mem_append_right _ (List.mem_append_right _ (List.mem_append_left _ (List.mem_of_getElem? (i := 100) rfl)))
theorem ki_X4_init : Cond.instanceMethod yX4_init ∈ lw_tbl := List.mem_append_right _ (List.mem_append_right _ (List.mem_append_left _ (List.mem_of_getElem? (i := 102) rfl)))
theorem ki_X4_write : Cond.instanceMethod yX4_write ∈ lw_tbl := List.mem_append_right _ (List.mem_append_right _ (List.mem_append_left _ (List.mem_of_getElem? (i := 161) rfl)))
theorem ks_X4_write : Cond.selects RX4 yX4_write yX4_write ∈ lw_tbl := List.mem_append_right _ (List.mem_append_right _ (List.mem_append_left _ (List.mem_of_getElem? (i := 162) rfl)))
theorem kt_X4_in : Cond.static yX4_in ∈ lw_tbl := List.mem_append_right _ (List.mem_append_right _ (List.mem_append_left _ (List.mem_of_getElem? (i := 165) rfl)))
theorem ki_X4_told : Cond.instanceMethod yX4_told ∈ lw_tbl := List.mem_append_right _ (List.mem_append_right _ (List.mem_append_left _ (List.mem_of_getElem? (i := 169) rfl)))
theorem ki_X4_written : Cond.instanceMethod yX4_written ∈ lw_tbl := List.mem_append_right _ (List.mem_append_right _ (List.mem_append_left _ (List.mem_of_getElem? (i := 173) rfl)))
theorem ki_X4_change : Cond.instanceMethod yX4_change ∈ lw_tbl := List.mem_append_right _ (List.mem_append_right _ (List.mem_append_left _ (List.mem_of_getElem? (i := 177) rfl)))
theorem ki_X4_add : Cond.instanceMethod yX4_add ∈ lw_tbl := List.mem_append_right _ (List.mem_append_right _ (List.mem_append_left _ (List.mem_of_getElem? (i := 181) rfl)))
theorem ki_X4_remove : Cond.instanceMethod yX4_remove ∈ lw_tbl := List.mem_append_right _ (List.mem_append_right _ (List.mem_append_left _ (List.mem_of_getElem? (i := 184) rfl)))
theorem ks_X4_remove : Cond.selects RX4 yX4_remove yX4_remove ∈ lw_tbl := List.mem_append_right _ (List.mem_append_right _ (List.mem_append_left _ (List.mem_of_getElem? (i := 185) rfl)))
theorem ki_X4_drop : Cond.instanceMethod yX4_drop ∈ lw_tbl := List.mem_append_right _ (List.mem_append_right _ (List.mem_append_left _ (List.mem_of_getElem? (i := 188) rfl)))
theorem ks_X4_drop : Cond.selects RX4 yX4_drop yX4_drop ∈ lw_tbl := List.mem_append_right _ (List.mem_append_right _ (List.mem_append_left _ (List.mem_of_getElem? (i := 189) rfl)))
theorem ki_X4_isHeld : Cond.instanceMethod yX4_isHeld ∈ lw_tbl := List.mem_append_right _ (List.mem_append_right _ (List.mem_append_left _ (List.mem_of_getElem? (i := 193) rfl)))
theorem ki_X4_has : Cond.instanceMethod yX4_has ∈ lw_tbl := List.mem_append_right _ (List.mem_append_right _ (List.mem_append_left _ (List.mem_of_getElem? (i := 197) rfl)))
theorem ki_X4_conflict : Cond.instanceMethod yX4_conflict ∈ lw_tbl := List.mem_append_right _ (List.mem_append_right _ (List.mem_append_left _ (List.mem_of_getElem? (i := 200) rfl)))
theorem ks_X4_conflict : Cond.selects RX4 yX4_conflict yX4_conflict ∈ lw_tbl := List.mem_append_right _ (List.mem_append_right _ (List.mem_append_left _ (List.mem_of_getElem? (i := 201) rfl)))
theorem ki_X4_refresh : Cond.instanceMethod yX4_refresh ∈ lw_tbl := List.mem_append_right _ (List.mem_append_right _ (List.mem_append_left _ (List.mem_of_getElem? (i := 204) rfl)))
theorem ks_X4_refresh : Cond.selects RX4 yX4_refresh yX4_refresh ∈ lw_tbl := List.mem_append_right _ (List.mem_append_right _ (List.mem_append_left _ (List.mem_of_getElem? (i := 205) rfl)))
theorem ki_X4_hasNews : Cond.instanceMethod yX4_hasNews ∈ lw_tbl := List.mem_append_right _ (List.mem_append_right _ (List.mem_append_left _ (List.mem_of_getElem? (i := 209) rfl)))
theorem ki_X4_renew : Cond.instanceMethod yX4_renew ∈ lw_tbl := List.mem_append_right _ (List.mem_append_right _ (List.mem_append_left _ (List.mem_of_getElem? (i := 213) rfl)))
theorem ki_X4_live : Cond.instanceMethod yX4_live ∈ lw_tbl := List.mem_append_right _ (List.mem_append_right _ (List.mem_append_left _ (List.mem_of_getElem? (i := 217) rfl)))
theorem ki_X4_merged : Cond.instanceMethod yX4_merged ∈ lw_tbl := List.mem_append_right _ (List.mem_append_right _ (List.mem_append_left _ (List.mem_of_getElem? (i := 221) rfl)))
theorem ki_X4_commit : Cond.instanceMethod yX4_commit ∈ lw_tbl := List.mem_append_right _ (List.mem_append_right _ (List.mem_append_left _ (List.mem_of_getElem? (i := 224) rfl)))
theorem ks_X4_commit : Cond.selects RX4 yX4_commit yX4_commit ∈ lw_tbl := List.mem_append_right _ (List.mem_append_right _ (List.mem_append_left _ (List.mem_of_getElem? (i := 225) rfl)))
theorem ki_X4_sync : Cond.instanceMethod yX4_sync ∈ lw_tbl := List.mem_append_right _ (List.mem_append_right _ (List.mem_append_left _ (List.mem_of_getElem? (i := 228) rfl)))
theorem ks_X4_sync : Cond.selects RX4 yX4_sync yX4_sync ∈ lw_tbl := List.mem_append_right _ (List.mem_append_right _ (List.mem_append_left _ (List.mem_of_getElem? (i := 229) rfl)))
theorem ki_X4_crash : Cond.instanceMethod yX4_crash ∈ lw_tbl := List.mem_append_right _ (List.mem_append_right _ (List.mem_append_left _ (List.mem_of_getElem? (i := 232) rfl)))
theorem ks_X4_crash : Cond.selects RX4 yX4_crash yX4_crash ∈ lw_tbl := List.mem_append_right _ (List.mem_append_right _ (List.mem_append_left _ (List.mem_of_getElem? (i := 233) rfl)))
theorem ki_X4_open : Cond.instanceMethod yX4_open ∈ lw_tbl := List.mem_append_right _ (List.mem_append_right _ (List.mem_append_left _ (List.mem_of_getElem? (i := 236) rfl)))
theorem ks_X4_open : Cond.selects RX4 yX4_open yX4_open ∈ lw_tbl := List.mem_append_right _ (List.mem_append_right _ (List.mem_append_left _ (List.mem_of_getElem? (i := 237) rfl)))
theorem ki_X4_close : Cond.instanceMethod yX4_close ∈ lw_tbl := List.mem_append_right _ (List.mem_append_right _ (List.mem_append_right _ (List.mem_of_getElem? (i := 0) rfl)))
theorem ks_X4_close : Cond.selects RX4 yX4_close yX4_close ∈ lw_tbl := List.mem_append_right _ (List.mem_append_right _ (List.mem_append_right _ (List.mem_of_getElem? (i := 1) rfl)))
theorem ki_X4_get : Cond.instanceMethod yX4_get ∈ lw_tbl := List.mem_append_right _ (List.mem_append_right _ (List.mem_append_right _ (List.mem_of_getElem? (i := 4) rfl)))
theorem ks_X4_get : Cond.selects RX4 yX4_get yX4_get ∈ lw_tbl := List.mem_append_right _ (List.mem_append_right _ (List.mem_append_right _ (List.mem_of_getElem? (i := 5) rfl)))
theorem ki_X4_number : Cond.instanceMethod yX4_number ∈ lw_tbl := List.mem_append_right _ (List.mem_append_right _ (List.mem_append_right _ (List.mem_of_getElem? (i := 8) rfl)))
theorem ks_X4_number : Cond.selects RX4 yX4_number yX4_number ∈ lw_tbl := List.mem_append_right _ (List.mem_append_right _ (List.mem_append_right _ (List.mem_of_getElem? (i := 9) rfl)))
theorem ki_X4_at : Cond.instanceMethod yX4_at ∈ lw_tbl := List.mem_append_right _ (List.mem_append_right _ (List.mem_append_right _ (List.mem_of_getElem? (i := 12) rfl)))
theorem ks_X4_at : Cond.selects RX4 yX4_at yX4_at ∈ lw_tbl := List.mem_append_right _ (List.mem_append_right _ (List.mem_append_right _ (List.mem_of_getElem? (i := 13) rfl)))
theorem ki_X4_find : Cond.instanceMethod yX4_find ∈ lw_tbl := List.mem_append_right _ (List.mem_append_right _ (List.mem_append_right _ (List.mem_of_getElem? (i := 16) rfl)))
theorem ks_X4_find : Cond.selects RX4 yX4_find yX4_find ∈ lw_tbl := List.mem_append_right _ (List.mem_append_right _ (List.mem_append_right _ (List.mem_of_getElem? (i := 17) rfl)))
theorem ki_X4_match : Cond.instanceMethod yX4_match ∈ lw_tbl := List.mem_append_right _ (List.mem_append_right _ (List.mem_append_right _ (List.mem_of_getElem? (i := 20) rfl)))
theorem ks_X4_match : Cond.selects RX4 yX4_match yX4_match ∈ lw_tbl := List.mem_append_right _ (List.mem_append_right _ (List.mem_append_right _ (List.mem_of_getElem? (i := 21) rfl)))
theorem ki_X4_worth : Cond.instanceMethod yX4_worth ∈ lw_tbl := List.mem_append_right _ (List.mem_append_right _ (List.mem_append_right _ (List.mem_of_getElem? (i := 25) rfl)))
theorem kt_X4_bits : Cond.static yX4_bits ∈ lw_tbl := List.mem_append_right _ (List.mem_append_right _ (List.mem_append_right _ (List.mem_of_getElem? (i := 28) rfl)))
theorem ki_X4_segments : Cond.instanceMethod yX4_segments ∈ lw_tbl := List.mem_append_right _ (List.mem_append_right _ (List.mem_append_right _ (List.mem_of_getElem? (i := 31) rfl)))
theorem ks_X4_segments : Cond.selects RX4 yX4_segments yX4_segments ∈ lw_tbl := List.mem_append_right _ (List.mem_append_right _ (List.mem_append_right _ (List.mem_of_getElem? (i := 32) rfl)))
theorem ki_X4_segment : Cond.instanceMethod yX4_segment ∈ lw_tbl := List.mem_append_right _ (List.mem_append_right _ (List.mem_append_right _ (List.mem_of_getElem? (i := 35) rfl)))
theorem ks_X4_segment : Cond.selects RX4 yX4_segment yX4_segment ∈ lw_tbl := List.mem_append_right _ (List.mem_append_right _ (List.mem_append_right _ (List.mem_of_getElem? (i := 36) rfl)))
theorem ki_X4_told_ : Cond.instanceMethod yX4_told_ ∈ lw_tbl := List.mem_append_right _ (List.mem_append_right _ (List.mem_append_right _ (List.mem_of_getElem? (i := 39) rfl)))
theorem ks_X4_told_ : Cond.selects RX4 yX4_told_ yX4_told_ ∈ lw_tbl := List.mem_append_right _ (List.mem_append_right _ (List.mem_append_right _ (List.mem_of_getElem? (i := 40) rfl)))
theorem ki_X4_isThere : Cond.instanceMethod yX4_isThere ∈ lw_tbl := List.mem_append_right _ (List.mem_append_right _ (List.mem_append_right _ (List.mem_of_getElem? (i := 44) rfl)))
theorem ks_X3_change : Cond.selects RX3 yX3_change yX3_change ∈ lw_tbl := List.mem_append_left _ (List.mem_of_getElem? (i := 0) rfl)
theorem ks_X1_writtenAs : Cond.selects RX1 yX1_writtenAs yX1_writtenAs ∈ lw_tbl := List.mem_append_left _ (List.mem_of_getElem? (i := 1) rfl)
theorem ks_X1_lives : Cond.selects RX1 yX1_lives yX1_lives ∈ lw_tbl := List.mem_append_left _ (List.mem_of_getElem? (i := 2) rfl)
theorem ks_X1_change : Cond.selects RX1 yX1_change yX1_change ∈ lw_tbl := List.mem_append_left _ (List.mem_of_getElem? (i := 3) rfl)
theorem ks_X3_heldView : Cond.selects RX3 yX3_heldView yX3_heldView ∈ lw_tbl := List.mem_append_left _ (List.mem_of_getElem? (i := 4) rfl)
theorem ks_X1_fits : Cond.selects RX1 yX1_fits yX1_fits ∈ lw_tbl := List.mem_append_left _ (List.mem_of_getElem? (i := 5) rfl)
theorem ks_X3_countUnchanged : Cond.selects RX3 yX3_countUnchanged yX3_countUnchanged ∈ lw_tbl := List.mem_append_left _ (List.mem_of_getElem? (i := 6) rfl)
theorem ks_X3_isUnchanged : Cond.selects RX3 yX3_isUnchanged yX3_isUnchanged ∈ lw_tbl := List.mem_append_left _ (List.mem_of_getElem? (i := 7) rfl)
theorem ks_X3_hasRoomToRefresh : Cond.selects RX3 yX3_hasRoomToRefresh yX3_hasRoomToRefresh ∈ lw_tbl := List.mem_append_left _ (List.mem_of_getElem? (i := 8) rfl)
theorem ks_X3_refreshLatest : Cond.selects RX3 yX3_refreshLatest yX3_refreshLatest ∈ lw_tbl := List.mem_append_left _ (List.mem_of_getElem? (i := 9) rfl)
theorem ks_X0_countLive : Cond.selects RX0 yX0_countLive yX0_countLive ∈ lw_tbl := List.mem_append_left _ (List.mem_of_getElem? (i := 10) rfl)
theorem ks_X0_isLive : Cond.selects RX0 yX0_isLive yX0_isLive ∈ lw_tbl := List.mem_append_left _ (List.mem_of_getElem? (i := 11) rfl)
theorem ks_X3_hasNewRow : Cond.selects RX3 yX3_hasNewRow yX3_hasNewRow ∈ lw_tbl := List.mem_append_left _ (List.mem_of_getElem? (i := 12) rfl)
theorem ks_X3_isNewRow : Cond.selects RX3 yX3_isNewRow yX3_isNewRow ∈ lw_tbl := List.mem_append_left _ (List.mem_of_getElem? (i := 13) rfl)
theorem ks_X3_segmentOfNewRows : Cond.selects RX3 yX3_segmentOfNewRows yX3_segmentOfNewRows ∈ lw_tbl := List.mem_append_left _ (List.mem_of_getElem? (i := 14) rfl)
theorem ks_X3_makeSegment : Cond.selects RX3 yX3_makeSegment yX3_makeSegment ∈ lw_tbl := List.mem_append_left _ (List.mem_of_getElem? (i := 15) rfl)
theorem ks_X3_putRow : Cond.selects RX3 yX3_putRow yX3_putRow ∈ lw_tbl := List.mem_append_left _ (List.mem_of_getElem? (i := 16) rfl)
theorem ks_X0_put : Cond.selects RX0 yX0_put yX0_put ∈ lw_tbl := List.mem_append_left _ (List.mem_of_getElem? (i := 17) rfl)
theorem ks_X3_mergeFewest : Cond.selects RX3 yX3_mergeFewest yX3_mergeFewest ∈ lw_tbl := List.mem_append_left _ (List.mem_of_getElem? (i := 18) rfl)
theorem ks_X3_segmentOfLiveRows : Cond.selects RX3 yX3_segmentOfLiveRows yX3_segmentOfLiveRows ∈ lw_tbl := List.mem_append_left _ (List.mem_of_getElem? (i := 19) rfl)
theorem ks_X3_addView : Cond.selects RX3 yX3_addView yX3_addView ∈ lw_tbl := List.mem_append_left _ (List.mem_of_getElem? (i := 20) rfl)
theorem ks_X1_copyFrom : Cond.selects RX1 yX1_copyFrom yX1_copyFrom ∈ lw_tbl := List.mem_append_left _ (List.mem_of_getElem? (i := 21) rfl)
theorem ks_X3_letGo : Cond.selects RX3 yX3_letGo yX3_letGo ∈ lw_tbl := List.mem_append_left _ (List.mem_of_getElem? (i := 22) rfl)
theorem ks_X3_closeAll : Cond.selects RX3 yX3_closeAll yX3_closeAll ∈ lw_tbl := List.mem_append_left _ (List.mem_of_getElem? (i := 23) rfl)
theorem ks_X1_countBefore : Cond.selects RX1 yX1_countBefore yX1_countBefore ∈ lw_tbl := List.mem_append_left _ (List.mem_of_getElem? (i := 24) rfl)
theorem ks_X1_rank : Cond.selects RX1 yX1_rank yX1_rank ∈ lw_tbl := List.mem_append_left _ (List.mem_of_getElem? (i := 25) rfl)
theorem ks_X0_keyOfRow : Cond.selects RX0 yX0_keyOfRow yX0_keyOfRow ∈ lw_tbl := List.mem_append_left _ (List.mem_of_getElem? (i := 26) rfl)
theorem ks_X3_countSegmentsThere : Cond.selects RX3 yX3_countSegmentsThere yX3_countSegmentsThere ∈ lw_tbl := List.mem_append_left _ (List.mem_of_getElem? (i := 27) rfl)
theorem ks_X3_markSegments : Cond.selects RX3 yX3_markSegments yX3_markSegments ∈ lw_tbl := List.mem_append_left _ (List.mem_of_getElem? (i := 28) rfl)
theorem ks_X3_countHeld : Cond.selects RX3 yX3_countHeld yX3_countHeld ∈ lw_tbl := List.mem_append_left _ (List.mem_of_getElem? (i := 29) rfl)
theorem ks_X4_told : Cond.selects RX4 yX4_told yX4_told ∈ lw_tbl := List.mem_append_left _ (List.mem_of_getElem? (i := 30) rfl)
theorem ks_X4_written : Cond.selects RX4 yX4_written yX4_written ∈ lw_tbl := List.mem_append_left _ (List.mem_of_getElem? (i := 31) rfl)
theorem ks_X4_change : Cond.selects RX4 yX4_change yX4_change ∈ lw_tbl := List.mem_append_left _ (List.mem_of_getElem? (i := 32) rfl)
theorem ks_X4_add : Cond.selects RX4 yX4_add yX4_add ∈ lw_tbl := List.mem_append_left _ (List.mem_of_getElem? (i := 33) rfl)
theorem ks_X4_isHeld : Cond.selects RX4 yX4_isHeld yX4_isHeld ∈ lw_tbl := List.mem_append_left _ (List.mem_of_getElem? (i := 34) rfl)
theorem ks_X4_has : Cond.selects RX4 yX4_has yX4_has ∈ lw_tbl := List.mem_append_left _ (List.mem_of_getElem? (i := 35) rfl)
theorem ks_X4_hasNews : Cond.selects RX4 yX4_hasNews yX4_hasNews ∈ lw_tbl := List.mem_append_left _ (List.mem_of_getElem? (i := 36) rfl)
theorem ks_X4_renew : Cond.selects RX4 yX4_renew yX4_renew ∈ lw_tbl := List.mem_append_left _ (List.mem_of_getElem? (i := 37) rfl)
theorem ks_X4_live : Cond.selects RX4 yX4_live yX4_live ∈ lw_tbl := List.mem_append_left _ (List.mem_of_getElem? (i := 38) rfl)
theorem ks_X4_merged : Cond.selects RX4 yX4_merged yX4_merged ∈ lw_tbl := List.mem_append_left _ (List.mem_of_getElem? (i := 39) rfl)
theorem ks_X4_worth : Cond.selects RX4 yX4_worth yX4_worth ∈ lw_tbl := List.mem_append_left _ (List.mem_of_getElem? (i := 40) rfl)
theorem ks_X4_isThere : Cond.selects RX4 yX4_isThere yX4_isThere ∈ lw_tbl := List.mem_append_left _ (List.mem_of_getElem? (i := 41) rfl)
theorem kq_X3_init : cal_ok yX3_init cX3_init 2 none 0 := ⟨List.mem_append_right _ (List.mem_append_left _ (List.mem_of_getElem? (i := 12) rfl)), kz_X3, by decide, by decide, by decide +kernel⟩
theorem ko_obj : Cond.code objectInit ⟨#[0xb1]⟩ 1 none ∈ lw_tbl := List.mem_append_right _ (List.mem_append_left _ (List.mem_of_getElem? (i := 15) rfl))
theorem kq_X1_init : cal_ok yX1_init cX1_init 1 none 0 := ⟨List.mem_append_right _ (List.mem_append_left _ (List.mem_of_getElem? (i := 20) rfl)), kz_X1, by decide, by decide, by decide +kernel⟩
theorem kq_X2_init : cal_ok yX2_init cX2_init 4 none 3 := ⟨List.mem_append_right _ (List.mem_append_left _ (List.mem_of_getElem? (i := 44) rfl)), kz_X2, by decide, by decide, by decide +kernel⟩
theorem kq_X3_write : cal_ok yX3_write cX3_write 4 (some .int) 3 := ⟨List.mem_append_right _ (List.mem_append_left _ (List.mem_of_getElem? (i := 103) rfl)), kz_X3, by decide, by decide, by decide +kernel⟩
theorem kq_X3_isKey : cal_ok yX3_isKey cX3_isKey 1 (some .boolean) 1 := ⟨List.mem_append_right _ (List.mem_append_left _ (List.mem_of_getElem? (i := 106) rfl)), kz_X3, by decide, by decide, by decide +kernel⟩
theorem kq_X3_change : cal_ok yX3_change cX3_change 5 (some .int) 3 := ⟨List.mem_append_right _ (List.mem_append_left _ (List.mem_of_getElem? (i := 110) rfl)), kz_X3, by decide, by decide, by decide +kernel⟩
theorem kq_X1_writtenAs : cal_ok yX1_writtenAs cX1_writtenAs 2 (some .int) 1 := ⟨List.mem_append_right _ (List.mem_append_left _ (List.mem_of_getElem? (i := 114) rfl)), kz_X1, by decide, by decide, by decide +kernel⟩
theorem kq_X1_lives : cal_ok yX1_lives cX1_lives 2 (some .boolean) 1 := ⟨List.mem_append_right _ (List.mem_append_left _ (List.mem_of_getElem? (i := 118) rfl)), kz_X1, by decide, by decide, by decide +kernel⟩
theorem kq_X1_change : cal_ok yX1_change cX1_change 3 (some .int) 2 := ⟨List.mem_append_right _ (List.mem_append_left _ (List.mem_of_getElem? (i := 122) rfl)), kz_X1, by decide, by decide, by decide +kernel⟩
theorem kq_X3_remove : cal_ok yX3_remove cX3_remove 3 (some .int) 2 := ⟨List.mem_append_right _ (List.mem_append_left _ (List.mem_of_getElem? (i := 126) rfl)), kz_X3, by decide, by decide, by decide +kernel⟩
theorem kq_X3_drop : cal_ok yX3_drop cX3_drop 7 (some .int) 2 := ⟨List.mem_append_right _ (List.mem_append_left _ (List.mem_of_getElem? (i := 130) rfl)), kz_X3, by decide, by decide, by decide +kernel⟩
theorem kq_X3_heldView : cal_ok yX3_heldView cX3_heldView 2 (some (.object "LiveViews$View")) 1 := ⟨List.mem_append_right _ (List.mem_append_left _ (List.mem_of_getElem? (i := 134) rfl)), kz_X3, by decide, by decide, by decide +kernel⟩
theorem kq_X3_isQuery : cal_ok yX3_isQuery cX3_isQuery 1 (some .boolean) 1 := ⟨List.mem_append_right _ (List.mem_append_left _ (List.mem_of_getElem? (i := 137) rfl)), kz_X3, by decide, by decide, by decide +kernel⟩
theorem kq_X3_countFitting : cal_ok yX3_countFitting cX3_countFitting 4 (some .int) 2 := ⟨List.mem_append_right _ (List.mem_append_left _ (List.mem_of_getElem? (i := 140) rfl)), kz_X3, by decide, by decide, by decide +kernel⟩
theorem kq_X1_fits : cal_ok yX1_fits cX1_fits 3 (some .boolean) 2 := ⟨List.mem_append_right _ (List.mem_append_left _ (List.mem_of_getElem? (i := 144) rfl)), kz_X1, by decide, by decide, by decide +kernel⟩
theorem kq_X3_countUnchanged : cal_ok yX3_countUnchanged cX3_countUnchanged 5 (some .int) 2 := ⟨List.mem_append_right _ (List.mem_append_left _ (List.mem_of_getElem? (i := 148) rfl)), kz_X3, by decide, by decide, by decide +kernel⟩
theorem kq_X3_isUnchanged : cal_ok yX3_isUnchanged cX3_isUnchanged 4 (some .boolean) 3 := ⟨List.mem_append_right _ (List.mem_append_left _ (List.mem_of_getElem? (i := 152) rfl)), kz_X3, by decide, by decide, by decide +kernel⟩
theorem kq_X3_conflict : cal_ok yX3_conflict cX3_conflict 2 (some .int) 1 := ⟨List.mem_append_right _ (List.mem_append_left _ (List.mem_of_getElem? (i := 156) rfl)), kz_X3, by decide, by decide, by decide +kernel⟩
theorem kq_X3_refresh : cal_ok yX3_refresh cX3_refresh 1 (some .int) 0 := ⟨List.mem_append_right _ (List.mem_append_left _ (List.mem_of_getElem? (i := 160) rfl)), kz_X3, by decide, by decide, by decide +kernel⟩
theorem kq_X3_hasRoomToRefresh : cal_ok yX3_hasRoomToRefresh cX3_hasRoomToRefresh 3 (some .boolean) 2 := ⟨List.mem_append_right _ (List.mem_append_left _ (List.mem_of_getElem? (i := 164) rfl)), kz_X3, by decide, by decide, by decide +kernel⟩
theorem kq_X3_refreshLatest : cal_ok yX3_refreshLatest cX3_refreshLatest 4 none 0 := ⟨List.mem_append_right _ (List.mem_append_left _ (List.mem_of_getElem? (i := 168) rfl)), kz_X3, by decide, by decide, by decide +kernel⟩
theorem kq_X0_countLive : cal_ok yX0_countLive cX0_countLive 4 (some .int) 1 := ⟨List.mem_append_right _ (List.mem_append_left _ (List.mem_of_getElem? (i := 173) rfl)), kz_X0, by decide, by decide, by decide +kernel⟩
theorem kq_X0_isLive : cal_ok yX0_isLive cX0_isLive 3 (some .boolean) 2 := ⟨List.mem_append_right _ (List.mem_append_left _ (List.mem_of_getElem? (i := 177) rfl)), kz_X0, by decide, by decide, by decide +kernel⟩
theorem kq_X3_hasNewRow : cal_ok yX3_hasNewRow cX3_hasNewRow 2 (some .boolean) 0 := ⟨List.mem_append_right _ (List.mem_append_left _ (List.mem_of_getElem? (i := 181) rfl)), kz_X3, by decide, by decide, by decide +kernel⟩
theorem kq_X3_isNewRow : cal_ok yX3_isNewRow cX3_isNewRow 2 (some .boolean) 1 := ⟨List.mem_append_right _ (List.mem_append_left _ (List.mem_of_getElem? (i := 185) rfl)), kz_X3, by decide, by decide, by decide +kernel⟩
theorem kq_X3_segmentOfNewRows : cal_ok yX3_segmentOfNewRows cX3_segmentOfNewRows 3 (some (.object "LiveViews$Segment")) 0 := ⟨List.mem_append_right _ (List.mem_append_left _ (List.mem_of_getElem? (i := 189) rfl)), kz_X3, by decide, by decide, by decide +kernel⟩
theorem kq_X3_makeSegment : cal_ok yX3_makeSegment cX3_makeSegment 2 (some (.object "LiveViews$Segment")) 0 := ⟨List.mem_append_right _ (List.mem_append_left _ (List.mem_of_getElem? (i := 193) rfl)), kz_X3, by decide, by decide, by decide +kernel⟩
theorem kq_X0_init : cal_ok yX0_init cX0_init 2 none 1 := ⟨List.mem_append_right _ (List.mem_append_left _ (List.mem_of_getElem? (i := 196) rfl)), kz_X0, by decide, by decide, by decide +kernel⟩
theorem kq_X3_putRow : cal_ok yX3_putRow cX3_putRow 3 none 2 := ⟨List.mem_append_right _ (List.mem_append_left _ (List.mem_of_getElem? (i := 217) rfl)), kz_X3, by decide, by decide, by decide +kernel⟩
theorem kq_X0_put : cal_ok yX0_put cX0_put 3 none 2 := ⟨List.mem_append_right _ (List.mem_append_left _ (List.mem_of_getElem? (i := 221) rfl)), kz_X0, by decide, by decide, by decide +kernel⟩
theorem kq_X3_mergeFewest : cal_ok yX3_mergeFewest cX3_mergeFewest 7 none 2 := ⟨List.mem_append_right _ (List.mem_append_left _ (List.mem_of_getElem? (i := 225) rfl)), kz_X3, by decide, by decide, by decide +kernel⟩
theorem kq_X3_segmentOfLiveRows : cal_ok yX3_segmentOfLiveRows cX3_segmentOfLiveRows 5 (some (.object "LiveViews$Segment")) 2 := ⟨List.mem_append_right _ (List.mem_append_left _ (List.mem_of_getElem? (i := 229) rfl)), kz_X3, by decide, by decide, by decide +kernel⟩
theorem kq_X3_firstOf : cal_ok yX3_firstOf cX3_firstOf 4 (some (.array (.object "LiveViews$Segment"))) 2 := ⟨List.mem_append_right _ (List.mem_append_left _ (List.mem_of_getElem? (i := 233) rfl)), kz_X3, by decide, by decide, by decide +kernel⟩
theorem kq_X3_addView : cal_ok yX3_addView cX3_addView 3 none 1 := ⟨List.mem_append_right _ (List.mem_append_left _ (List.mem_of_getElem? (i := 237) rfl)), kz_X3, by decide, by decide, by decide +kernel⟩
theorem kq_X1_copyFrom : cal_ok yX1_copyFrom cX1_copyFrom 2 none 1 := ⟨List.mem_append_right _ (List.mem_append_right _ (List.mem_append_left _ (List.mem_of_getElem? (i := 1) rfl))), kz_X1, by decide, by decide, by decide +kernel⟩
theorem kq_X3_letGo : cal_ok yX3_letGo cX3_letGo 3 none 0 := ⟨List.mem_append_right _ (List.mem_append_right _ (List.mem_append_left _ (List.mem_of_getElem? (i := 8) rfl))), kz_X3, by decide, by decide, by decide +kernel⟩
theorem kq_X3_commit : cal_ok yX3_commit cX3_commit 1 (some .int) 0 := ⟨List.mem_append_right _ (List.mem_append_right _ (List.mem_append_left _ (List.mem_of_getElem? (i := 12) rfl))), kz_X3, by decide, by decide, by decide +kernel⟩
theorem kq_X3_sync : cal_ok yX3_sync cX3_sync 2 (some .int) 0 := ⟨List.mem_append_right _ (List.mem_append_right _ (List.mem_append_left _ (List.mem_of_getElem? (i := 16) rfl))), kz_X3, by decide, by decide, by decide +kernel⟩
theorem kq_X3_crash : cal_ok yX3_crash cX3_crash 2 (some .int) 0 := ⟨List.mem_append_right _ (List.mem_append_right _ (List.mem_append_left _ (List.mem_of_getElem? (i := 20) rfl))), kz_X3, by decide, by decide, by decide +kernel⟩
theorem kq_X3_closeAll : cal_ok yX3_closeAll cX3_closeAll 2 none 0 := ⟨List.mem_append_right _ (List.mem_append_right _ (List.mem_append_left _ (List.mem_of_getElem? (i := 24) rfl))), kz_X3, by decide, by decide, by decide +kernel⟩
theorem kq_X3_open : cal_ok yX3_open cX3_open 3 (some .int) 1 := ⟨List.mem_append_right _ (List.mem_append_right _ (List.mem_append_left _ (List.mem_of_getElem? (i := 28) rfl))), kz_X3, by decide, by decide, by decide +kernel⟩
theorem kq_X3_close : cal_ok yX3_close cX3_close 3 (some .int) 1 := ⟨List.mem_append_right _ (List.mem_append_right _ (List.mem_append_left _ (List.mem_of_getElem? (i := 32) rfl))), kz_X3, by decide, by decide, by decide +kernel⟩
theorem kq_X3_get : cal_ok yX3_get cX3_get 2 (some .int) 1 := ⟨List.mem_append_right _ (List.mem_append_right _ (List.mem_append_left _ (List.mem_of_getElem? (i := 36) rfl))), kz_X3, by decide, by decide, by decide +kernel⟩
theorem kq_X3_number : cal_ok yX3_number cX3_number 2 (some .int) 1 := ⟨List.mem_append_right _ (List.mem_append_right _ (List.mem_append_left _ (List.mem_of_getElem? (i := 40) rfl))), kz_X3, by decide, by decide, by decide +kernel⟩
theorem kq_X3_at : cal_ok yX3_at cX3_at 4 (some .int) 2 := ⟨List.mem_append_right _ (List.mem_append_right _ (List.mem_append_left _ (List.mem_of_getElem? (i := 44) rfl))), kz_X3, by decide, by decide, by decide +kernel⟩
theorem kq_X3_find : cal_ok yX3_find cX3_find 4 (some .int) 2 := ⟨List.mem_append_right _ (List.mem_append_right _ (List.mem_append_left _ (List.mem_of_getElem? (i := 48) rfl))), kz_X3, by decide, by decide, by decide +kernel⟩
theorem kq_X3_match : cal_ok yX3_match cX3_match 8 (some .int) 4 := ⟨List.mem_append_right _ (List.mem_append_right _ (List.mem_append_left _ (List.mem_of_getElem? (i := 52) rfl))), kz_X3, by decide, by decide, by decide +kernel⟩
theorem kq_X1_countBefore : cal_ok yX1_countBefore cX1_countBefore 6 (some .int) 3 := ⟨List.mem_append_right _ (List.mem_append_right _ (List.mem_append_left _ (List.mem_of_getElem? (i := 56) rfl))), kz_X1, by decide, by decide, by decide +kernel⟩
theorem kq_X1_rank : cal_ok yX1_rank cX1_rank 3 (some .int) 2 := ⟨List.mem_append_right _ (List.mem_append_right _ (List.mem_append_left _ (List.mem_of_getElem? (i := 61) rfl))), kz_X1, by decide, by decide, by decide +kernel⟩
theorem kq_J6_bitCount_0f7a4 : cal_ok yJ6_bitCount_0f7a4 cJ6_bitCount_0f7a4 1 (some .int) 1 := ⟨List.mem_append_right _ (List.mem_append_right _ (List.mem_append_left _ (List.mem_of_getElem? (i := 64) rfl))), kz_J6, by decide, by decide, by decide +kernel⟩
theorem kq_X3_segments : cal_ok yX3_segments cX3_segments 3 (some .int) 1 := ⟨List.mem_append_right _ (List.mem_append_right _ (List.mem_append_left _ (List.mem_of_getElem? (i := 71) rfl))), kz_X3, by decide, by decide, by decide +kernel⟩
theorem kq_X3_segment : cal_ok yX3_segment cX3_segment 6 (some .int) 3 := ⟨List.mem_append_right _ (List.mem_append_right _ (List.mem_append_left _ (List.mem_of_getElem? (i := 75) rfl))), kz_X3, by decide, by decide, by decide +kernel⟩
theorem kq_X3_keyOrOutside : cal_ok yX3_keyOrOutside cX3_keyOrOutside 2 (some .int) 2 := ⟨List.mem_append_right _ (List.mem_append_right _ (List.mem_append_left _ (List.mem_of_getElem? (i := 78) rfl))), kz_X3, by decide, by decide, by decide +kernel⟩
theorem kq_X0_keyOfRow : cal_ok yX0_keyOfRow cX0_keyOfRow 4 (some .int) 1 := ⟨List.mem_append_right _ (List.mem_append_right _ (List.mem_append_left _ (List.mem_of_getElem? (i := 82) rfl))), kz_X0, by decide, by decide, by decide +kernel⟩
theorem kq_X3_told : cal_ok yX3_told cX3_told 2 (some .int) 1 := ⟨List.mem_append_right _ (List.mem_append_right _ (List.mem_append_left _ (List.mem_of_getElem? (i := 86) rfl))), kz_X3, by decide, by decide, by decide +kernel⟩
theorem kq_X3_countSegmentsThere : cal_ok yX3_countSegmentsThere cX3_countSegmentsThere 3 (some .int) 0 := ⟨List.mem_append_right _ (List.mem_append_right _ (List.mem_append_left _ (List.mem_of_getElem? (i := 90) rfl))), kz_X3, by decide, by decide, by decide +kernel⟩
theorem kq_X3_markSegments : cal_ok yX3_markSegments cX3_markSegments 5 (some .int) 1 := ⟨List.mem_append_right _ (List.mem_append_right _ (List.mem_append_left _ (List.mem_of_getElem? (i := 94) rfl))), kz_X3, by decide, by decide, by decide +kernel⟩
theorem kq_X3_countHeld : cal_ok yX3_countHeld cX3_countHeld 3 (some .int) 0 := ⟨List.mem_append_right _ (List.mem_append_right _ (List.mem_append_left _ (List.mem_of_getElem? (i := 98) rfl))), kz_X3, by decide, by decide, by decide +kernel⟩
theorem kq_X4_init : cal_ok yX4_init cX4_init 1 none 0 := ⟨List.mem_append_right _ (List.mem_append_right _ (List.mem_append_left _ (List.mem_of_getElem? (i := 103) rfl))), kz_X4, by decide, by decide, by decide +kernel⟩
theorem kq_X4_write : cal_ok yX4_write cX4_write 4 (some .int) 3 := ⟨List.mem_append_right _ (List.mem_append_right _ (List.mem_append_left _ (List.mem_of_getElem? (i := 163) rfl))), kz_X4, by decide, by decide, by decide +kernel⟩
theorem kq_X4_in : cal_ok yX4_in cX4_in 3 (some .boolean) 3 := ⟨List.mem_append_right _ (List.mem_append_right _ (List.mem_append_left _ (List.mem_of_getElem? (i := 166) rfl))), kz_X4, by decide, by decide, by decide +kernel⟩
theorem kq_X4_told : cal_ok yX4_told cX4_told 5 (some .int) 3 := ⟨List.mem_append_right _ (List.mem_append_right _ (List.mem_append_left _ (List.mem_of_getElem? (i := 170) rfl))), kz_X4, by decide, by decide, by decide +kernel⟩
theorem kq_X4_written : cal_ok yX4_written cX4_written 4 (some .int) 2 := ⟨List.mem_append_right _ (List.mem_append_right _ (List.mem_append_left _ (List.mem_of_getElem? (i := 174) rfl))), kz_X4, by decide, by decide, by decide +kernel⟩
theorem kq_X4_change : cal_ok yX4_change cX4_change 4 (some .int) 2 := ⟨List.mem_append_right _ (List.mem_append_right _ (List.mem_append_left _ (List.mem_of_getElem? (i := 178) rfl))), kz_X4, by decide, by decide, by decide +kernel⟩
theorem kq_X4_add : cal_ok yX4_add cX4_add 3 none 2 := ⟨List.mem_append_right _ (List.mem_append_right _ (List.mem_append_left _ (List.mem_of_getElem? (i := 182) rfl))), kz_X4, by decide, by decide, by decide +kernel⟩
theorem kq_X4_remove : cal_ok yX4_remove cX4_remove 3 (some .int) 2 := ⟨List.mem_append_right _ (List.mem_append_right _ (List.mem_append_left _ (List.mem_of_getElem? (i := 186) rfl))), kz_X4, by decide, by decide, by decide +kernel⟩
theorem kq_X4_drop : cal_ok yX4_drop cX4_drop 7 (some .int) 2 := ⟨List.mem_append_right _ (List.mem_append_right _ (List.mem_append_left _ (List.mem_of_getElem? (i := 190) rfl))), kz_X4, by decide, by decide, by decide +kernel⟩
theorem kq_X4_isHeld : cal_ok yX4_isHeld cX4_isHeld 2 (some .boolean) 1 := ⟨List.mem_append_right _ (List.mem_append_right _ (List.mem_append_left _ (List.mem_of_getElem? (i := 194) rfl))), kz_X4, by decide, by decide, by decide +kernel⟩
theorem kq_X4_has : cal_ok yX4_has cX4_has 5 (some .boolean) 3 := ⟨List.mem_append_right _ (List.mem_append_right _ (List.mem_append_left _ (List.mem_of_getElem? (i := 198) rfl))), kz_X4, by decide, by decide, by decide +kernel⟩
theorem kq_X4_conflict : cal_ok yX4_conflict cX4_conflict 2 (some .int) 1 := ⟨List.mem_append_right _ (List.mem_append_right _ (List.mem_append_left _ (List.mem_of_getElem? (i := 202) rfl))), kz_X4, by decide, by decide, by decide +kernel⟩
theorem kq_X4_refresh : cal_ok yX4_refresh cX4_refresh 1 (some .int) 0 := ⟨List.mem_append_right _ (List.mem_append_right _ (List.mem_append_left _ (List.mem_of_getElem? (i := 206) rfl))), kz_X4, by decide, by decide, by decide +kernel⟩
theorem kq_X4_hasNews : cal_ok yX4_hasNews cX4_hasNews 1 (some .boolean) 0 := ⟨List.mem_append_right _ (List.mem_append_right _ (List.mem_append_left _ (List.mem_of_getElem? (i := 210) rfl))), kz_X4, by decide, by decide, by decide +kernel⟩
theorem kq_X4_renew : cal_ok yX4_renew cX4_renew 7 none 0 := ⟨List.mem_append_right _ (List.mem_append_right _ (List.mem_append_left _ (List.mem_of_getElem? (i := 214) rfl))), kz_X4, by decide, by decide, by decide +kernel⟩
theorem kq_X4_live : cal_ok yX4_live cX4_live 6 (some .int) 2 := ⟨List.mem_append_right _ (List.mem_append_right _ (List.mem_append_left _ (List.mem_of_getElem? (i := 218) rfl))), kz_X4, by decide, by decide, by decide +kernel⟩
theorem kq_X4_merged : cal_ok yX4_merged cX4_merged 10 (some .int) 3 := ⟨List.mem_append_right _ (List.mem_append_right _ (List.mem_append_left _ (List.mem_of_getElem? (i := 222) rfl))), kz_X4, by decide, by decide, by decide +kernel⟩
theorem kq_X4_commit : cal_ok yX4_commit cX4_commit 1 (some .int) 0 := ⟨List.mem_append_right _ (List.mem_append_right _ (List.mem_append_left _ (List.mem_of_getElem? (i := 226) rfl))), kz_X4, by decide, by decide, by decide +kernel⟩
theorem kq_X4_sync : cal_ok yX4_sync cX4_sync 2 (some .int) 0 := ⟨List.mem_append_right _ (List.mem_append_right _ (List.mem_append_left _ (List.mem_of_getElem? (i := 230) rfl))), kz_X4, by decide, by decide, by decide +kernel⟩
theorem kq_X4_crash : cal_ok yX4_crash cX4_crash 3 (some .int) 0 := ⟨List.mem_append_right _ (List.mem_append_right _ (List.mem_append_left _ (List.mem_of_getElem? (i := 234) rfl))), kz_X4, by decide, by decide, by decide +kernel⟩
theorem kq_X4_open : cal_ok yX4_open cX4_open 2 (some .int) 1 := ⟨List.mem_append_right _ (List.mem_append_right _ (List.mem_append_left _ (List.mem_of_getElem? (i := 238) rfl))), kz_X4, by decide, by decide, by decide +kernel⟩
theorem kq_X4_close : cal_ok yX4_close cX4_close 2 (some .int) 1 := ⟨List.mem_append_right _ (List.mem_append_right _ (List.mem_append_right _ (List.mem_of_getElem? (i := 2) rfl))), kz_X4, by decide, by decide, by decide +kernel⟩
theorem kq_X4_get : cal_ok yX4_get cX4_get 2 (some .int) 1 := ⟨List.mem_append_right _ (List.mem_append_right _ (List.mem_append_right _ (List.mem_of_getElem? (i := 6) rfl))), kz_X4, by decide, by decide, by decide +kernel⟩
theorem kq_X4_number : cal_ok yX4_number cX4_number 2 (some .int) 1 := ⟨List.mem_append_right _ (List.mem_append_right _ (List.mem_append_right _ (List.mem_of_getElem? (i := 10) rfl))), kz_X4, by decide, by decide, by decide +kernel⟩
theorem kq_X4_at : cal_ok yX4_at cX4_at 3 (some .int) 2 := ⟨List.mem_append_right _ (List.mem_append_right _ (List.mem_append_right _ (List.mem_of_getElem? (i := 14) rfl))), kz_X4, by decide, by decide, by decide +kernel⟩
theorem kq_X4_find : cal_ok yX4_find cX4_find 5 (some .int) 2 := ⟨List.mem_append_right _ (List.mem_append_right _ (List.mem_append_right _ (List.mem_of_getElem? (i := 18) rfl))), kz_X4, by decide, by decide, by decide +kernel⟩
theorem kq_X4_match : cal_ok yX4_match cX4_match 8 (some .int) 4 := ⟨List.mem_append_right _ (List.mem_append_right _ (List.mem_append_right _ (List.mem_of_getElem? (i := 22) rfl))), kz_X4, by decide, by decide, by decide +kernel⟩
theorem kq_X4_worth : cal_ok yX4_worth cX4_worth 5 (some .int) 3 := ⟨List.mem_append_right _ (List.mem_append_right _ (List.mem_append_right _ (List.mem_of_getElem? (i := 26) rfl))), kz_X4, by decide, by decide, by decide +kernel⟩
theorem kq_X4_bits : cal_ok yX4_bits cX4_bits 3 (some .int) 1 := ⟨List.mem_append_right _ (List.mem_append_right _ (List.mem_append_right _ (List.mem_of_getElem? (i := 29) rfl))), kz_X4, by decide, by decide, by decide +kernel⟩
theorem kq_X4_segments : cal_ok yX4_segments cX4_segments 2 (some .int) 1 := ⟨List.mem_append_right _ (List.mem_append_right _ (List.mem_append_right _ (List.mem_of_getElem? (i := 33) rfl))), kz_X4, by decide, by decide, by decide +kernel⟩
theorem kq_X4_segment : cal_ok yX4_segment cX4_segment 5 (some .int) 3 := ⟨List.mem_append_right _ (List.mem_append_right _ (List.mem_append_right _ (List.mem_of_getElem? (i := 37) rfl))), kz_X4, by decide, by decide, by decide +kernel⟩
theorem kq_X4_told_ : cal_ok yX4_told_ cX4_told_ 4 (some .int) 1 := ⟨List.mem_append_right _ (List.mem_append_right _ (List.mem_append_right _ (List.mem_of_getElem? (i := 41) rfl))), kz_X4, by decide, by decide, by decide +kernel⟩
theorem kq_X4_isThere : cal_ok yX4_isThere cX4_isThere 4 (some .boolean) 1 := ⟨List.mem_append_right _ (List.mem_append_right _ (List.mem_append_right _ (List.mem_of_getElem? (i := 45) rfl))), kz_X4, by decide, by decide, by decide +kernel⟩
