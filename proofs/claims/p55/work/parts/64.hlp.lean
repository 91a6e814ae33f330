theorem q_w_L_appoint : Cond.codeWith yL_appoint cL_appoint 5 (some .int) [(0, 7, 8, 20), (0, 7, 13, 22), (0, 7, 18, 24)] ∈ lw_all := lw_in 568 (by decide +kernel) (by decide +kernel)
theorem q_i_X8_appoint : Cond.instanceMethod yX8_appoint ∈ lw_all := lw_in 571 (by decide +kernel) (by decide +kernel)
theorem q_s_X8_appoint : Cond.selects yX8_appoint.cls yX8_appoint yX8_appoint ∈ lw_all := lw_in 572 (by decide +kernel) (by decide +kernel)
theorem q_c_X8_appoint : Cond.code yX8_appoint cX8_appoint 4 (some .int) ∈ lw_all := lw_in 573 (by decide +kernel) (by decide +kernel)
theorem q_l_L_14 : Cond.methodLink RL 14 yX8_appoint ∈ lw_all := lw_in 570 (by decide +kernel) (by decide +kernel)
theorem q_k_L_20 : Cond.classLink RL 20 "java/lang/IndexOutOfBoundsException" ∈ lw_all := lw_in 333 (by decide +kernel) (by decide +kernel)
theorem q_k_L_22 : Cond.classLink RL 22 "java/lang/IllegalArgumentException" ∈ lw_all := lw_in 569 (by decide +kernel) (by decide +kernel)
theorem q_k_L_24 : Cond.classLink RL 24 "java/lang/IllegalStateException" ∈ lw_all := lw_in 483 (by decide +kernel) (by decide +kernel)
theorem q_w_L_promote : Cond.codeWith yL_promote cL_promote 3 (some .int) [(0, 5, 6, 20), (0, 5, 10, 24)] ∈ lw_all := lw_in 653 (by decide +kernel) (by decide +kernel)
theorem q_i_X8_promote : Cond.instanceMethod yX8_promote ∈ lw_all := lw_in 655 (by decide +kernel) (by decide +kernel)
theorem q_s_X8_promote : Cond.selects yX8_promote.cls yX8_promote yX8_promote ∈ lw_all := lw_in 656 (by decide +kernel) (by decide +kernel)
theorem q_c_X8_promote : Cond.code yX8_promote cX8_promote 2 (some .int) ∈ lw_all := lw_in 657 (by decide +kernel) (by decide +kernel)
theorem q_l_L_26 : Cond.methodLink RL 26 yX8_promote ∈ lw_all := lw_in 654 (by decide +kernel) (by decide +kernel)
theorem q_w_L_transfer : Cond.codeWith yL_transfer cL_transfer 4 (some .int) [(0, 6, 7, 20), (0, 6, 11, 22), (0, 6, 15, 34), (0, 6, 19, 24)] ∈ lw_all := lw_in 664 (by decide +kernel) (by decide +kernel)
theorem q_i_X8_transfer : Cond.instanceMethod yX8_transfer ∈ lw_all := lw_in 667 (by decide +kernel) (by decide +kernel)
theorem q_s_X8_transfer : Cond.selects yX8_transfer.cls yX8_transfer yX8_transfer ∈ lw_all := lw_in 668 (by decide +kernel) (by decide +kernel)
theorem q_c_X8_transfer : Cond.code yX8_transfer cX8_transfer 3 (some .int) ∈ lw_all := lw_in 669 (by decide +kernel) (by decide +kernel)
theorem q_l_L_30 : Cond.methodLink RL 30 yX8_transfer ∈ lw_all := lw_in 666 (by decide +kernel) (by decide +kernel)
theorem q_k_L_34 : Cond.classLink RL 34 "java/lang/UnsupportedOperationException" ∈ lw_all := lw_in 665 (by decide +kernel) (by decide +kernel)
theorem q_w_L_dismiss : Cond.codeWith yL_dismiss cL_dismiss 3 (some .int) [(0, 5, 6, 20), (0, 5, 10, 22)] ∈ lw_all := lw_in 678 (by decide +kernel) (by decide +kernel)
theorem q_i_X8_dismiss : Cond.instanceMethod yX8_dismiss ∈ lw_all := lw_in 680 (by decide +kernel) (by decide +kernel)
theorem q_s_X8_dismiss : Cond.selects yX8_dismiss.cls yX8_dismiss yX8_dismiss ∈ lw_all := lw_in 681 (by decide +kernel) (by decide +kernel)
theorem q_c_X8_dismiss : Cond.code yX8_dismiss cX8_dismiss 2 (some .int) ∈ lw_all := lw_in 682 (by decide +kernel) (by decide +kernel)
theorem q_l_L_36 : Cond.methodLink RL 36 yX8_dismiss ∈ lw_all := lw_in 679 (by decide +kernel) (by decide +kernel)
theorem q_w_L_issue : Cond.codeWith yL_issue cL_issue 5 (some .int) [(0, 7, 8, 20), (0, 7, 13, 22), (0, 7, 18, 24), (0, 7, 23, 34)] ∈ lw_all := lw_in 1157 (by decide +kernel) (by decide +kernel)
theorem q_i_X8_issue : Cond.instanceMethod yX8_issue ∈ lw_all := lw_in 1159 (by decide +kernel) (by decide +kernel)
theorem q_s_X8_issue : Cond.selects yX8_issue.cls yX8_issue yX8_issue ∈ lw_all := lw_in 1160 (by decide +kernel) (by decide +kernel)
theorem q_c_X8_issue : Cond.code yX8_issue cX8_issue 4 (some .int) ∈ lw_all := lw_in 1161 (by decide +kernel) (by decide +kernel)
theorem q_l_L_39 : Cond.methodLink RL 39 yX8_issue ∈ lw_all := lw_in 1158 (by decide +kernel) (by decide +kernel)
theorem q_w_L_passHours : Cond.codeWith yL_passHours cL_passHours 3 (some .int) [(0, 5, 6, 22)] ∈ lw_all := lw_in 738 (by decide +kernel) (by decide +kernel)
theorem q_i_X8_passHours : Cond.instanceMethod yX8_passHours ∈ lw_all := lw_in 740 (by decide +kernel) (by decide +kernel)
theorem q_s_X8_passHours : Cond.selects yX8_passHours.cls yX8_passHours yX8_passHours ∈ lw_all := lw_in 741 (by decide +kernel) (by decide +kernel)
theorem q_c_X8_passHours : Cond.code yX8_passHours cX8_passHours 2 (some .int) ∈ lw_all := lw_in 742 (by decide +kernel) (by decide +kernel)
theorem q_l_L_42 : Cond.methodLink RL 42 yX8_passHours ∈ lw_all := lw_in 739 (by decide +kernel) (by decide +kernel)
theorem q_w_L_define : Cond.codeWith yL_define cL_define 5 (some .int) [(0, 7, 8, 22), (0, 7, 13, 24)] ∈ lw_all := lw_in 702 (by decide +kernel) (by decide +kernel)
theorem q_i_X8_define : Cond.instanceMethod yX8_define ∈ lw_all := lw_in 704 (by decide +kernel) (by decide +kernel)
theorem q_s_X8_define : Cond.selects yX8_define.cls yX8_define yX8_define ∈ lw_all := lw_in 705 (by decide +kernel) (by decide +kernel)
theorem q_c_X8_define : Cond.code yX8_define cX8_define 4 (some .int) ∈ lw_all := lw_in 706 (by decide +kernel) (by decide +kernel)
theorem q_l_L_45 : Cond.methodLink RL 45 yX8_define ∈ lw_all := lw_in 703 (by decide +kernel) (by decide +kernel)
theorem q_w_L_erase : Cond.codeWith yL_erase cL_erase 4 (some .int) [(0, 6, 7, 22), (0, 6, 11, 53)] ∈ lw_all := lw_in 723 (by decide +kernel) (by decide +kernel)
theorem q_i_X8_erase : Cond.instanceMethod yX8_erase ∈ lw_all := lw_in 725 (by decide +kernel) (by decide +kernel)
theorem q_s_X8_erase : Cond.selects yX8_erase.cls yX8_erase yX8_erase ∈ lw_all := lw_in 726 (by decide +kernel) (by decide +kernel)
theorem q_c_X8_erase : Cond.code yX8_erase cX8_erase 3 (some .int) ∈ lw_all := lw_in 727 (by decide +kernel) (by decide +kernel)
theorem q_l_L_49 : Cond.methodLink RL 49 yX8_erase ∈ lw_all := lw_in 724 (by decide +kernel) (by decide +kernel)
theorem q_k_L_53 : Cond.classLink RL 53 "java/util/NoSuchElementException" ∈ lw_all := lw_in 437 (by decide +kernel) (by decide +kernel)
theorem q_w_L_rank : Cond.codeWith yL_rank cL_rank 3 (some .int) [(0, 5, 6, 20)] ∈ lw_all := lw_in 332 (by decide +kernel) (by decide +kernel)
theorem q_i_X8_rank : Cond.instanceMethod yX8_rank ∈ lw_all := lw_in 414 (by decide +kernel) (by decide +kernel)
theorem q_s_X8_rank : Cond.selects yX8_rank.cls yX8_rank yX8_rank ∈ lw_all := lw_in 415 (by decide +kernel) (by decide +kernel)
theorem q_c_X8_rank : Cond.code yX8_rank cX8_rank 2 (some .int) ∈ lw_all := lw_in 416 (by decide +kernel) (by decide +kernel)
theorem q_l_L_55 : Cond.methodLink RL 55 yX8_rank ∈ lw_all := lw_in 413 (by decide +kernel) (by decide +kernel)
theorem q_w_L_loyalty : Cond.codeWith yL_loyalty cL_loyalty 3 (some .int) [(0, 5, 6, 20)] ∈ lw_all := lw_in 1174 (by decide +kernel) (by decide +kernel)
theorem q_i_X8_loyalty : Cond.instanceMethod yX8_loyalty ∈ lw_all := lw_in 1176 (by decide +kernel) (by decide +kernel)
theorem q_s_X8_loyalty : Cond.selects yX8_loyalty.cls yX8_loyalty yX8_loyalty ∈ lw_all := lw_in 1177 (by decide +kernel) (by decide +kernel)
theorem q_c_X8_loyalty : Cond.code yX8_loyalty cX8_loyalty 2 (some .int) ∈ lw_all := lw_in 1178 (by decide +kernel) (by decide +kernel)
theorem q_l_L_58 : Cond.methodLink RL 58 yX8_loyalty ∈ lw_all := lw_in 1175 (by decide +kernel) (by decide +kernel)
theorem q_w_L_refusals : Cond.codeWith yL_refusals cL_refusals 3 (some .int) [(0, 5, 6, 20)] ∈ lw_all := lw_in 1181 (by decide +kernel) (by decide +kernel)
theorem q_i_X8_refusals : Cond.instanceMethod yX8_refusals ∈ lw_all := lw_in 1183 (by decide +kernel) (by decide +kernel)
theorem q_s_X8_refusals : Cond.selects yX8_refusals.cls yX8_refusals yX8_refusals ∈ lw_all := lw_in 1184 (by decide +kernel) (by decide +kernel)
theorem q_c_X8_refusals : Cond.code yX8_refusals cX8_refusals 2 (some .int) ∈ lw_all := lw_in 1185 (by decide +kernel) (by decide +kernel)
theorem q_l_L_61 : Cond.methodLink RL 61 yX8_refusals ∈ lw_all := lw_in 1182 (by decide +kernel) (by decide +kernel)
theorem q_w_L_superior : Cond.codeWith yL_superior cL_superior 3 (some .int) [(0, 5, 6, 20), (0, 5, 10, 53)] ∈ lw_all := lw_in 436 (by decide +kernel) (by decide +kernel)
theorem q_i_X8_superior : Cond.instanceMethod yX8_superior ∈ lw_all := lw_in 439 (by decide +kernel) (by decide +kernel)
theorem q_s_X8_superior : Cond.selects yX8_superior.cls yX8_superior yX8_superior ∈ lw_all := lw_in 440 (by decide +kernel) (by decide +kernel)
theorem q_c_X8_superior : Cond.code yX8_superior cX8_superior 2 (some .int) ∈ lw_all := lw_in 441 (by decide +kernel) (by decide +kernel)
theorem q_l_L_64 : Cond.methodLink RL 64 yX8_superior ∈ lw_all := lw_in 438 (by decide +kernel) (by decide +kernel)
theorem q_w_L_subordinates : Cond.codeWith yL_subordinates cL_subordinates 3 (some .int) [(0, 5, 6, 20)] ∈ lw_all := lw_in 460 (by decide +kernel) (by decide +kernel)
theorem q_i_X8_subordinates : Cond.instanceMethod yX8_subordinates ∈ lw_all := lw_in 462 (by decide +kernel) (by decide +kernel)
theorem q_s_X8_subordinates : Cond.selects yX8_subordinates.cls yX8_subordinates yX8_subordinates ∈ lw_all := lw_in 463 (by decide +kernel) (by decide +kernel)
theorem q_c_X8_subordinates : Cond.code yX8_subordinates cX8_subordinates 2 (some .int) ∈ lw_all := lw_in 464 (by decide +kernel) (by decide +kernel)
theorem q_l_L_67 : Cond.methodLink RL 67 yX8_subordinates ∈ lw_all := lw_in 461 (by decide +kernel) (by decide +kernel)
theorem q_w_L_depth : Cond.codeWith yL_depth cL_depth 3 (some .int) [(0, 5, 6, 20)] ∈ lw_all := lw_in 1211 (by decide +kernel) (by decide +kernel)
theorem q_i_X8_depth : Cond.instanceMethod yX8_depth ∈ lw_all := lw_in 1213 (by decide +kernel) (by decide +kernel)
theorem q_s_X8_depth : Cond.selects yX8_depth.cls yX8_depth yX8_depth ∈ lw_all := lw_in 1214 (by decide +kernel) (by decide +kernel)
theorem q_c_X8_depth : Cond.code yX8_depth cX8_depth 2 (some .int) ∈ lw_all := lw_in 1215 (by decide +kernel) (by decide +kernel)
theorem q_l_L_70 : Cond.methodLink RL 70 yX8_depth ∈ lw_all := lw_in 1212 (by decide +kernel) (by decide +kernel)
theorem q_w_L_depthFromTop : Cond.codeWith yL_depthFromTop cL_depthFromTop 3 (some .int) [(0, 5, 6, 20)] ∈ lw_all := lw_in 1291 (by decide +kernel) (by decide +kernel)
theorem q_i_X8_depthFromTop : Cond.instanceMethod yX8_depthFromTop ∈ lw_all := lw_in 1293 (by decide +kernel) (by decide +kernel)
theorem q_s_X8_depthFromTop : Cond.selects yX8_depthFromTop.cls yX8_depthFromTop yX8_depthFromTop ∈ lw_all := lw_in 1294 (by decide +kernel) (by decide +kernel)
theorem q_c_X8_depthFromTop : Cond.code yX8_depthFromTop cX8_depthFromTop 2 (some .int) ∈ lw_all := lw_in 1295 (by decide +kernel) (by decide +kernel)
theorem q_l_L_73 : Cond.methodLink RL 73 yX8_depthFromTop ∈ lw_all := lw_in 1292 (by decide +kernel) (by decide +kernel)
theorem q_w_L_commandSize : Cond.codeWith yL_commandSize cL_commandSize 3 (some .int) [(0, 5, 6, 20)] ∈ lw_all := lw_in 471 (by decide +kernel) (by decide +kernel)
theorem q_i_X8_commandSize : Cond.instanceMethod yX8_commandSize ∈ lw_all := lw_in 473 (by decide +kernel) (by decide +kernel)
theorem q_s_X8_commandSize : Cond.selects yX8_commandSize.cls yX8_commandSize yX8_commandSize ∈ lw_all := lw_in 474 (by decide +kernel) (by decide +kernel)
theorem q_c_X8_commandSize : Cond.code yX8_commandSize cX8_commandSize 2 (some .int) ∈ lw_all := lw_in 475 (by decide +kernel) (by decide +kernel)
theorem q_l_L_76 : Cond.methodLink RL 76 yX8_commandSize ∈ lw_all := lw_in 472 (by decide +kernel) (by decide +kernel)
theorem q_w_L_commandSizeByCounting : Cond.codeWith yL_commandSizeByCounting cL_commandSizeByCounting 3 (some .int) [(0, 5, 6, 20)] ∈ lw_all := lw_in 1280 (by decide +kernel) (by decide +kernel)
theorem q_i_X8_commandSizeByCounting : Cond.instanceMethod yX8_commandSizeByCounting ∈ lw_all := lw_in 1282 (by decide +kernel) (by decide +kernel)
theorem q_s_X8_commandSizeByCounting : Cond.selects yX8_commandSizeByCounting.cls yX8_commandSizeByCounting yX8_commandSizeByCounting ∈ lw_all := lw_in 1283 (by decide +kernel) (by decide +kernel)
theorem q_c_X8_commandSizeByCounting : Cond.code yX8_commandSizeByCounting cX8_commandSizeByCounting 2 (some .int) ∈ lw_all := lw_in 1284 (by decide +kernel) (by decide +kernel)
theorem q_l_L_79 : Cond.methodLink RL 79 yX8_commandSizeByCounting ∈ lw_all := lw_in 1281 (by decide +kernel) (by decide +kernel)
theorem q_w_L_isAbove : Cond.codeWith yL_isAbove cL_isAbove 4 (some .int) [(0, 14, 15, 20)] ∈ lw_all := lw_in 1236 (by decide +kernel) (by decide +kernel)
theorem q_i_X8_isAbove : Cond.instanceMethod yX8_isAbove ∈ lw_all := lw_in 1238 (by decide +kernel) (by decide +kernel)
theorem q_s_X8_isAbove : Cond.selects yX8_isAbove.cls yX8_isAbove yX8_isAbove ∈ lw_all := lw_in 1239 (by decide +kernel) (by decide +kernel)
theorem q_c_X8_isAbove : Cond.code yX8_isAbove cX8_isAbove 3 (some .boolean) ∈ lw_all := lw_in 1240 (by decide +kernel) (by decide +kernel)
theorem q_l_L_82 : Cond.methodLink RL 82 yX8_isAbove ∈ lw_all := lw_in 1237 (by decide +kernel) (by decide +kernel)
theorem q_w_L_commonSuperior : Cond.codeWith yL_commonSuperior cL_commonSuperior 4 (some .int) [(0, 6, 7, 20)] ∈ lw_all := lw_in 1224 (by decide +kernel) (by decide +kernel)
theorem q_i_X8_commonSuperior : Cond.instanceMethod yX8_commonSuperior ∈ lw_all := lw_in 1226 (by decide +kernel) (by decide +kernel)
theorem q_s_X8_commonSuperior : Cond.selects yX8_commonSuperior.cls yX8_commonSuperior yX8_commonSuperior ∈ lw_all := lw_in 1227 (by decide +kernel) (by decide +kernel)
theorem q_c_X8_commonSuperior : Cond.code yX8_commonSuperior cX8_commonSuperior 3 (some .int) ∈ lw_all := lw_in 1228 (by decide +kernel) (by decide +kernel)
theorem q_l_L_86 : Cond.methodLink RL 86 yX8_commonSuperior ∈ lw_all := lw_in 1225 (by decide +kernel) (by decide +kernel)
theorem q_w_L_hoursFor : Cond.codeWith yL_hoursFor cL_hoursFor 4 (some .int) [(0, 6, 7, 20), (0, 6, 11, 24)] ∈ lw_all := lw_in 482 (by decide +kernel) (by decide +kernel)
theorem q_i_X8_hoursFor : Cond.instanceMethod yX8_hoursFor ∈ lw_all := lw_in 485 (by decide +kernel) (by decide +kernel)
theorem q_s_X8_hoursFor : Cond.selects yX8_hoursFor.cls yX8_hoursFor yX8_hoursFor ∈ lw_all := lw_in 486 (by decide +kernel) (by decide +kernel)
theorem q_c_X8_hoursFor : Cond.code yX8_hoursFor cX8_hoursFor 3 (some .int) ∈ lw_all := lw_in 487 (by decide +kernel) (by decide +kernel)
theorem q_l_L_89 : Cond.methodLink RL 89 yX8_hoursFor ∈ lw_all := lw_in 484 (by decide +kernel) (by decide +kernel)
theorem q_w_L_greatestSeverity : Cond.codeWith yL_greatestSeverity cL_greatestSeverity 4 (some .int) [(0, 6, 7, 20), (0, 6, 11, 24)] ∈ lw_all := lw_in 522 (by decide +kernel) (by decide +kernel)
theorem q_i_X8_greatestSeverity : Cond.instanceMethod yX8_greatestSeverity ∈ lw_all := lw_in 524 (by decide +kernel) (by decide +kernel)
theorem q_s_X8_greatestSeverity : Cond.selects yX8_greatestSeverity.cls yX8_greatestSeverity yX8_greatestSeverity ∈ lw_all := lw_in 525 (by decide +kernel) (by decide +kernel)
theorem q_c_X8_greatestSeverity : Cond.code yX8_greatestSeverity cX8_greatestSeverity 3 (some .int) ∈ lw_all := lw_in 526 (by decide +kernel) (by decide +kernel)
theorem q_l_L_92 : Cond.methodLink RL 92 yX8_greatestSeverity ∈ lw_all := lw_in 523 (by decide +kernel) (by decide +kernel)
theorem q_w_L_greatestSeverityByTrial : Cond.codeWith yL_greatestSeverityByTrial cL_greatestSeverityByTrial 4 (some .int) [(0, 6, 7, 20), (0, 6, 11, 24)] ∈ lw_all := lw_in 1256 (by decide +kernel) (by decide +kernel)
theorem q_i_X8_greatestSeverityByTrial : Cond.instanceMethod yX8_greatestSeverityByTrial ∈ lw_all := lw_in 1258 (by decide +kernel) (by decide +kernel)
theorem q_s_X8_greatestSeverityByTrial : Cond.selects yX8_greatestSeverityByTrial.cls yX8_greatestSeverityByTrial yX8_greatestSeverityByTrial ∈ lw_all := lw_in 1259 (by decide +kernel) (by decide +kernel)
theorem q_c_X8_greatestSeverityByTrial : Cond.code yX8_greatestSeverityByTrial cX8_greatestSeverityByTrial 4 (some .int) ∈ lw_all := lw_in 1260 (by decide +kernel) (by decide +kernel)
theorem q_l_L_95 : Cond.methodLink RL 95 yX8_greatestSeverityByTrial ∈ lw_all := lw_in 1257 (by decide +kernel) (by decide +kernel)
theorem q_w_L_firstRefusal : Cond.codeWith yL_firstRefusal cL_firstRefusal 5 (some .int) [(0, 7, 8, 20), (0, 7, 13, 22), (0, 7, 18, 24), (0, 7, 23, 53)] ∈ lw_all := lw_in 1243 (by decide +kernel) (by decide +kernel)
theorem q_i_X8_firstRefusal : Cond.instanceMethod yX8_firstRefusal ∈ lw_all := lw_in 1245 (by decide +kernel) (by decide +kernel)
theorem q_s_X8_firstRefusal : Cond.selects yX8_firstRefusal.cls yX8_firstRefusal yX8_firstRefusal ∈ lw_all := lw_in 1246 (by decide +kernel) (by decide +kernel)
theorem q_c_X8_firstRefusal : Cond.code yX8_firstRefusal cX8_firstRefusal 5 (some .int) ∈ lw_all := lw_in 1247 (by decide +kernel) (by decide +kernel)
theorem q_l_L_98 : Cond.methodLink RL 98 yX8_firstRefusal ∈ lw_all := lw_in 1244 (by decide +kernel) (by decide +kernel)
theorem q_w_L_holder : Cond.codeWith yL_holder cL_holder 3 (some .int) [(0, 5, 6, 20)] ∈ lw_all := lw_in 536 (by decide +kernel) (by decide +kernel)
theorem q_i_X8_holder : Cond.instanceMethod yX8_holder ∈ lw_all := lw_in 538 (by decide +kernel) (by decide +kernel)
theorem q_s_X8_holder : Cond.selects yX8_holder.cls yX8_holder yX8_holder ∈ lw_all := lw_in 539 (by decide +kernel) (by decide +kernel)
theorem q_c_X8_holder : Cond.code yX8_holder cX8_holder 2 (some .int) ∈ lw_all := lw_in 540 (by decide +kernel) (by decide +kernel)
theorem q_l_L_101 : Cond.methodLink RL 101 yX8_holder ∈ lw_all := lw_in 537 (by decide +kernel) (by decide +kernel)
theorem q_w_L_target : Cond.codeWith yL_target cL_target 3 (some .int) [(0, 5, 6, 20)] ∈ lw_all := lw_in 548 (by decide +kernel) (by decide +kernel)
theorem q_i_X8_target : Cond.instanceMethod yX8_target ∈ lw_all := lw_in 550 (by decide +kernel) (by decide +kernel)
theorem q_s_X8_target : Cond.selects yX8_target.cls yX8_target yX8_target ∈ lw_all := lw_in 551 (by decide +kernel) (by decide +kernel)
theorem q_c_X8_target : Cond.code yX8_target cX8_target 2 (some .int) ∈ lw_all := lw_in 552 (by decide +kernel) (by decide +kernel)
theorem q_l_L_104 : Cond.methodLink RL 104 yX8_target ∈ lw_all := lw_in 549 (by decide +kernel) (by decide +kernel)
theorem q_w_L_severity : Cond.codeWith yL_severity cL_severity 3 (some .int) [(0, 5, 6, 20)] ∈ lw_all := lw_in 555 (by decide +kernel) (by decide +kernel)
theorem q_i_X8_severity : Cond.instanceMethod yX8_severity ∈ lw_all := lw_in 557 (by decide +kernel) (by decide +kernel)
theorem q_s_X8_severity : Cond.selects yX8_severity.cls yX8_severity yX8_severity ∈ lw_all := lw_in 558 (by decide +kernel) (by decide +kernel)
theorem q_c_X8_severity : Cond.code yX8_severity cX8_severity 2 (some .int) ∈ lw_all := lw_in 559 (by decide +kernel) (by decide +kernel)
theorem q_l_L_107 : Cond.methodLink RL 107 yX8_severity ∈ lw_all := lw_in 556 (by decide +kernel) (by decide +kernel)
theorem q_w_L_meaning : Cond.codeWith yL_meaning cL_meaning 4 (some .int) [(0, 6, 7, 22), (0, 6, 11, 53)] ∈ lw_all := lw_in 1200 (by decide +kernel) (by decide +kernel)
theorem q_i_X8_meaning : Cond.instanceMethod yX8_meaning ∈ lw_all := lw_in 1202 (by decide +kernel) (by decide +kernel)
theorem q_s_X8_meaning : Cond.selects yX8_meaning.cls yX8_meaning yX8_meaning ∈ lw_all := lw_in 1203 (by decide +kernel) (by decide +kernel)
theorem q_c_X8_meaning : Cond.code yX8_meaning cX8_meaning 4 (some .int) ∈ lw_all := lw_in 1204 (by decide +kernel) (by decide +kernel)
theorem q_l_L_110 : Cond.methodLink RL 110 yX8_meaning ∈ lw_all := lw_in 1201 (by decide +kernel) (by decide +kernel)
theorem q_w_L_flagsWith : Cond.codeWith yL_flagsWith cL_flagsWith 3 (some .int) [(0, 5, 6, 22)] ∈ lw_all := lw_in 1188 (by decide +kernel) (by decide +kernel)
theorem q_i_X8_flagsWith : Cond.instanceMethod yX8_flagsWith ∈ lw_all := lw_in 1190 (by decide +kernel) (by decide +kernel)
theorem q_s_X8_flagsWith : Cond.selects yX8_flagsWith.cls yX8_flagsWith yX8_flagsWith ∈ lw_all := lw_in 1191 (by decide +kernel) (by decide +kernel)
theorem q_c_X8_flagsWith : Cond.code yX8_flagsWith cX8_flagsWith 2 (some .int) ∈ lw_all := lw_in 1192 (by decide +kernel) (by decide +kernel)
theorem q_l_L_113 : Cond.methodLink RL 113 yX8_flagsWith ∈ lw_all := lw_in 1189 (by decide +kernel) (by decide +kernel)
theorem q_w_L_officerByRank : Cond.codeWith yL_officerByRank cL_officerByRank 3 (some .int) [(0, 5, 6, 53)] ∈ lw_all := lw_in 1310 (by decide +kernel) (by decide +kernel)
theorem q_i_X8_officerByRank : Cond.instanceMethod yX8_officerByRank ∈ lw_all := lw_in 1312 (by decide +kernel) (by decide +kernel)
theorem q_s_X8_officerByRank : Cond.selects yX8_officerByRank.cls yX8_officerByRank yX8_officerByRank ∈ lw_all := lw_in 1313 (by decide +kernel) (by decide +kernel)
theorem q_c_X8_officerByRank : Cond.code yX8_officerByRank cX8_officerByRank 3 (some .int) ∈ lw_all := lw_in 1314 (by decide +kernel) (by decide +kernel)
theorem q_l_L_116 : Cond.methodLink RL 116 yX8_officerByRank ∈ lw_all := lw_in 1311 (by decide +kernel) (by decide +kernel)
theorem q_w_L_executedShare : Cond.codeWith yL_executedShare cL_executedShare 2 (some .float) [(0, 4, 5, 123)] ∈ lw_all := lw_in 1338 (by decide +kernel) (by decide +kernel)
theorem q_i_X8_executedShare : Cond.instanceMethod yX8_executedShare ∈ lw_all := lw_in 1354 (by decide +kernel) (by decide +kernel)
theorem q_s_X8_executedShare : Cond.selects yX8_executedShare.cls yX8_executedShare yX8_executedShare ∈ lw_all := lw_in 1355 (by decide +kernel) (by decide +kernel)
theorem q_c_X8_executedShare : Cond.code yX8_executedShare cX8_executedShare 2 (some .float) ∈ lw_all := lw_in 1356 (by decide +kernel) (by decide +kernel)
theorem q_l_L_119 : Cond.methodLink RL 119 yX8_executedShare ∈ lw_all := lw_in 1353 (by decide +kernel) (by decide +kernel)
theorem q_k_L_123 : Cond.classLink RL 123 "java/lang/ArithmeticException" ∈ lw_all := lw_in 1339 (by decide +kernel) (by decide +kernel)
theorem q_k125_L : Cond.constantFloat RL 125 3264479232 ∈ lw_all := lw_in 1360 (by decide +kernel) (by decide +kernel)
theorem q_w_L_feed : Cond.codeWith yL_feed cL_feed 3 (some .int) [(0, 5, 6, 24)] ∈ lw_all := lw_in 1036 (by decide +kernel) (by decide +kernel)
theorem q_i_X8_feed : Cond.instanceMethod yX8_feed ∈ lw_all := lw_in 1038 (by decide +kernel) (by decide +kernel)
theorem q_s_X8_feed : Cond.selects yX8_feed.cls yX8_feed yX8_feed ∈ lw_all := lw_in 1039 (by decide +kernel) (by decide +kernel)
theorem q_c_X8_feed : Cond.code yX8_feed cX8_feed 2 (some .int) ∈ lw_all := lw_in 1040 (by decide +kernel) (by decide +kernel)
theorem q_l_L_126 : Cond.methodLink RL 126 yX8_feed ∈ lw_all := lw_in 1037 (by decide +kernel) (by decide +kernel)
theorem q_w_L_runCommands : Cond.codeWith yL_runCommands cL_runCommands 2 (some .int) [(0, 4, 5, 22), (0, 4, 9, 34)] ∈ lw_all := lw_in 1048 (by decide +kernel) (by decide +kernel)
theorem q_i_X8_runCommands : Cond.instanceMethod yX8_runCommands ∈ lw_all := lw_in 1050 (by decide +kernel) (by decide +kernel)
theorem q_s_X8_runCommands : Cond.selects yX8_runCommands.cls yX8_runCommands yX8_runCommands ∈ lw_all := lw_in 1051 (by decide +kernel) (by decide +kernel)
theorem q_c_X8_runCommands : Cond.code yX8_runCommands cX8_runCommands 3 (some .int) ∈ lw_all := lw_in 1052 (by decide +kernel) (by decide +kernel)
theorem q_l_L_130 : Cond.methodLink RL 130 yX8_runCommands ∈ lw_all := lw_in 1049 (by decide +kernel) (by decide +kernel)
theorem q_w_L_writeCommand : Cond.codeWith yL_writeCommand cL_writeCommand 3 (some .int) [(0, 5, 6, 20)] ∈ lw_all := lw_in 1263 (by decide +kernel) (by decide +kernel)
theorem q_i_X8_writeCommand : Cond.instanceMethod yX8_writeCommand ∈ lw_all := lw_in 1265 (by decide +kernel) (by decide +kernel)
theorem q_s_X8_writeCommand : Cond.selects yX8_writeCommand.cls yX8_writeCommand yX8_writeCommand ∈ lw_all := lw_in 1266 (by decide +kernel) (by decide +kernel)
theorem q_c_X8_writeCommand : Cond.code yX8_writeCommand cX8_writeCommand 2 (some .int) ∈ lw_all := lw_in 1267 (by decide +kernel) (by decide +kernel)
theorem q_l_L_140 : Cond.methodLink RL 140 yX8_writeCommand ∈ lw_all := lw_in 1264 (by decide +kernel) (by decide +kernel)
theorem q_w_L_outputChar : Cond.codeWith yL_outputChar cL_outputChar 3 (some .int) [(0, 5, 6, 20)] ∈ lw_all := lw_in 1302 (by decide +kernel) (by decide +kernel)
theorem q_i_X8_outputChar : Cond.instanceMethod yX8_outputChar ∈ lw_all := lw_in 1304 (by decide +kernel) (by decide +kernel)
theorem q_s_X8_outputChar : Cond.selects yX8_outputChar.cls yX8_outputChar yX8_outputChar ∈ lw_all := lw_in 1305 (by decide +kernel) (by decide +kernel)
theorem q_c_X8_outputChar : Cond.code yX8_outputChar cX8_outputChar 2 (some .char) ∈ lw_all := lw_in 1306 (by decide +kernel) (by decide +kernel)
theorem q_l_L_143 : Cond.methodLink RL 143 yX8_outputChar ∈ lw_all := lw_in 1303 (by decide +kernel) (by decide +kernel)
theorem q_w_L_undo : Cond.codeWith yL_undo cL_undo 2 (some .int) [(0, 4, 5, 24)] ∈ lw_all := lw_in 1394 (by decide +kernel) (by decide +kernel)
theorem q_i_X8_undo : Cond.instanceMethod yX8_undo ∈ lw_all := lw_in 1396 (by decide +kernel) (by decide +kernel)
theorem q_s_X8_undo : Cond.selects yX8_undo.cls yX8_undo yX8_undo ∈ lw_all := lw_in 1397 (by decide +kernel) (by decide +kernel)
theorem q_c_X8_undo : Cond.code yX8_undo cX8_undo 2 (some .int) ∈ lw_all := lw_in 1398 (by decide +kernel) (by decide +kernel)
theorem q_l_L_147 : Cond.methodLink RL 147 yX8_undo ∈ lw_all := lw_in 1395 (by decide +kernel) (by decide +kernel)
theorem q_w_L_restore : Cond.codeWith yL_restore cL_restore 2 (some .int) [(0, 4, 5, 24)] ∈ lw_all := lw_in 1406 (by decide +kernel) (by decide +kernel)
theorem q_i_X8_restore : Cond.instanceMethod yX8_restore ∈ lw_all := lw_in 1408 (by decide +kernel) (by decide +kernel)
theorem q_s_X8_restore : Cond.selects yX8_restore.cls yX8_restore yX8_restore ∈ lw_all := lw_in 1409 (by decide +kernel) (by decide +kernel)
theorem q_c_X8_restore : Cond.code yX8_restore cX8_restore 1 (some .int) ∈ lw_all := lw_in 1410 (by decide +kernel) (by decide +kernel)
theorem q_l_L_150 : Cond.methodLink RL 150 yX8_restore ∈ lw_all := lw_in 1407 (by decide +kernel) (by decide +kernel)
theorem q_g_1 : Cond.castable "java/lang/IndexOutOfBoundsException" "java/lang/IndexOutOfBoundsException" ∈ gx_face := List.mem_filter.mpr ⟨List.mem_of_getElem? (i := 423) (by decide +kernel), by decide +kernel⟩
theorem q_g_2 : Cond.castable "java/lang/IllegalArgumentException" "java/lang/IllegalArgumentException" ∈ gx_face := List.mem_filter.mpr ⟨List.mem_of_getElem? (i := 613) (by decide +kernel), by decide +kernel⟩
theorem q_g_3 : Cond.castable "java/lang/IllegalStateException" "java/lang/IllegalStateException" ∈ gx_face := List.mem_filter.mpr ⟨List.mem_of_getElem? (i := 502) (by decide +kernel), by decide +kernel⟩
theorem q_g_4 : Cond.castable "java/lang/UnsupportedOperationException" "java/lang/UnsupportedOperationException" ∈ gx_face := List.mem_filter.mpr ⟨List.mem_of_getElem? (i := 630) (by decide +kernel), by decide +kernel⟩
theorem q_g_5 : Cond.castable "java/util/NoSuchElementException" "java/util/NoSuchElementException" ∈ gx_face := List.mem_filter.mpr ⟨List.mem_of_getElem? (i := 444) (by decide +kernel), by decide +kernel⟩
theorem q_g_6 : Cond.castable "java/lang/ArithmeticException" "java/lang/ArithmeticException" ∈ gx_face := List.mem_filter.mpr ⟨List.mem_of_getElem? (i := 1351) (by decide +kernel), by decide +kernel⟩
def fL_appoint (σ : CS) (p1 : Int32) (p2 : Int32) (p3 : Int32) : Option (Int32 × CS) := gx_or (fX8_appoint σ p1 p2 p3) (fun r => some (r.1, r.2)) (gx_b (xX8_appoint σ p1 p2 p3) (fun q => if q.1 = 1 then some (((-77) : Int32), q.2) else if q.1 = 2 then some (((-78) : Int32), q.2) else if q.1 = 3 then some (((-79) : Int32), q.2) else none))
def fL_promote (σ : CS) (p1 : Int32) : Option (Int32 × CS) := gx_or (fX8_promote σ p1) (fun r => some (r.1, r.2)) (gx_b (xX8_promote σ p1) (fun q => if q.1 = 1 then some (((-77) : Int32), q.2) else if q.1 = 3 then some (((-79) : Int32), q.2) else none))
def fL_transfer (σ : CS) (p1 : Int32) (p2 : Int32) : Option (Int32 × CS) := gx_or (fX8_transfer σ p1 p2) (fun r => some (r.1, r.2)) (gx_b (xX8_transfer σ p1 p2) (fun q => if q.1 = 1 then some (((-77) : Int32), q.2) else if q.1 = 2 then some (((-78) : Int32), q.2) else if q.1 = 4 then some (((-76) : Int32), q.2) else if q.1 = 3 then some (((-79) : Int32), q.2) else none))
def fL_dismiss (σ : CS) (p1 : Int32) : Option (Int32 × CS) := gx_or (fX8_dismiss σ p1) (fun r => some (r.1, r.2)) (gx_b (xX8_dismiss σ p1) (fun q => if q.1 = 1 then some (((-77) : Int32), q.2) else if q.1 = 2 then some (((-78) : Int32), q.2) else none))
def fL_issue (σ : CS) (p1 : Int32) (p2 : Int32) (p3 : Int32) : Option (Int32 × CS) := gx_or (fX8_issue σ p1 p2 p3) (fun r => some (r.1, r.2)) (gx_b (xX8_issue σ p1 p2 p3) (fun q => if q.1 = 1 then some (((-77) : Int32), q.2) else if q.1 = 2 then some (((-78) : Int32), q.2) else if q.1 = 3 then some (((-79) : Int32), q.2) else if q.1 = 4 then some (((-76) : Int32), q.2) else none))
def fL_passHours (σ : CS) (p1 : Int32) : Option (Int32 × CS) := gx_or (fX8_passHours σ p1) (fun r => some (r.1, r.2)) (gx_b (xX8_passHours σ p1) (fun q => if q.1 = 2 then some (((-78) : Int32), q.2) else none))
def fL_define (σ : CS) (p1 : Int32) (p2 : Int32) (p3 : Int32) : Option (Int32 × CS) := gx_or (fX8_define σ p1 p2 p3) (fun r => some (r.1, r.2)) (gx_b (xX8_define σ p1 p2 p3) (fun q => if q.1 = 2 then some (((-78) : Int32), q.2) else if q.1 = 3 then some (((-79) : Int32), q.2) else none))
def fL_erase (σ : CS) (p1 : Int32) (p2 : Int32) : Option (Int32 × CS) := gx_or (fX8_erase σ p1 p2) (fun r => some (r.1, r.2)) (gx_b (xX8_erase σ p1 p2) (fun q => if q.1 = 2 then some (((-78) : Int32), q.2) else if q.1 = 5 then some (((-75) : Int32), q.2) else none))
def fL_rank (σ : CS) (p1 : Int32) : Option (Int32 × CS) := gx_or (fX8_rank σ p1) (fun r => some (r.1, r.2)) (gx_b (xX8_rank σ p1) (fun q => if q.1 = 1 then some (((-77) : Int32), q.2) else none))
def fL_loyalty (σ : CS) (p1 : Int32) : Option (Int32 × CS) := gx_or (fX8_loyalty σ p1) (fun r => some (r.1, r.2)) (gx_b (xX8_loyalty σ p1) (fun q => if q.1 = 1 then some (((-77) : Int32), q.2) else none))
def fL_refusals (σ : CS) (p1 : Int32) : Option (Int32 × CS) := gx_or (fX8_refusals σ p1) (fun r => some (r.1, r.2)) (gx_b (xX8_refusals σ p1) (fun q => if q.1 = 1 then some (((-77) : Int32), q.2) else none))
def fL_superior (σ : CS) (p1 : Int32) : Option (Int32 × CS) := gx_or (fX8_superior σ p1) (fun r => some (r.1, r.2)) (gx_b (xX8_superior σ p1) (fun q => if q.1 = 1 then some (((-77) : Int32), q.2) else if q.1 = 5 then some (((-75) : Int32), q.2) else none))
def fL_subordinates (σ : CS) (p1 : Int32) : Option (Int32 × CS) := gx_or (fX8_subordinates σ p1) (fun r => some (r.1, r.2)) (gx_b (xX8_subordinates σ p1) (fun q => if q.1 = 1 then some (((-77) : Int32), q.2) else none))
def fL_depth (σ : CS) (p1 : Int32) : Option (Int32 × CS) := gx_or (fX8_depth σ p1) (fun r => some (r.1, r.2)) (gx_b (xX8_depth σ p1) (fun q => if q.1 = 1 then some (((-77) : Int32), q.2) else none))
def fL_depthFromTop (σ : CS) (p1 : Int32) : Option (Int32 × CS) := gx_or (fX8_depthFromTop σ p1) (fun r => some (r.1, r.2)) (gx_b (xX8_depthFromTop σ p1) (fun q => if q.1 = 1 then some (((-77) : Int32), q.2) else none))
def fL_commandSize (σ : CS) (p1 : Int32) : Option (Int32 × CS) := gx_or (fX8_commandSize σ p1) (fun r => some (r.1, r.2)) (gx_b (xX8_commandSize σ p1) (fun q => if q.1 = 1 then some (((-77) : Int32), q.2) else none))
def fL_commandSizeByCounting (σ : CS) (p1 : Int32) : Option (Int32 × CS) := gx_or (fX8_commandSizeByCounting σ p1) (fun r => some (r.1, r.2)) (gx_b (xX8_commandSizeByCounting σ p1) (fun q => if q.1 = 1 then some (((-77) : Int32), q.2) else none))
def fL_isAbove (σ : CS) (p1 : Int32) (p2 : Int32) : Option (Int32 × CS) := gx_or (fX8_isAbove σ p1 p2) (fun r => (if r.1 = 0 then some ((0 : Int32), r.2) else some ((1 : Int32), r.2))) (gx_b (xX8_isAbove σ p1 p2) (fun q => if q.1 = 1 then some (((-77) : Int32), q.2) else none))
def fL_commonSuperior (σ : CS) (p1 : Int32) (p2 : Int32) : Option (Int32 × CS) := gx_or (fX8_commonSuperior σ p1 p2) (fun r => some (r.1, r.2)) (gx_b (xX8_commonSuperior σ p1 p2) (fun q => if q.1 = 1 then some (((-77) : Int32), q.2) else none))
def fL_hoursFor (σ : CS) (p1 : Int32) (p2 : Int32) : Option (Int32 × CS) := gx_or (fX8_hoursFor σ p1 p2) (fun r => some (r.1, r.2)) (gx_b (xX8_hoursFor σ p1 p2) (fun q => if q.1 = 1 then some (((-77) : Int32), q.2) else if q.1 = 3 then some (((-79) : Int32), q.2) else none))
def fL_greatestSeverity (σ : CS) (p1 : Int32) (p2 : Int32) : Option (Int32 × CS) := gx_or (fX8_greatestSeverity σ p1 p2) (fun r => some (r.1, r.2)) (gx_b (xX8_greatestSeverity σ p1 p2) (fun q => if q.1 = 1 then some (((-77) : Int32), q.2) else if q.1 = 3 then some (((-79) : Int32), q.2) else none))
def fL_greatestSeverityByTrial (σ : CS) (p1 : Int32) (p2 : Int32) : Option (Int32 × CS) := gx_or (fX8_greatestSeverityByTrial σ p1 p2) (fun r => some (r.1, r.2)) (gx_b (xX8_greatestSeverityByTrial σ p1 p2) (fun q => if q.1 = 1 then some (((-77) : Int32), q.2) else if q.1 = 3 then some (((-79) : Int32), q.2) else none))
def fL_firstRefusal (σ : CS) (p1 : Int32) (p2 : Int32) (p3 : Int32) : Option (Int32 × CS) := gx_or (fX8_firstRefusal σ p1 p2 p3) (fun r => some (r.1, r.2)) (gx_b (xX8_firstRefusal σ p1 p2 p3) (fun q => if q.1 = 1 then some (((-77) : Int32), q.2) else if q.1 = 2 then some (((-78) : Int32), q.2) else if q.1 = 3 then some (((-79) : Int32), q.2) else if q.1 = 5 then some (((-75) : Int32), q.2) else none))
def fL_holder (σ : CS) (p1 : Int32) : Option (Int32 × CS) := gx_or (fX8_holder σ p1) (fun r => some (r.1, r.2)) (gx_b (xX8_holder σ p1) (fun q => if q.1 = 1 then some (((-77) : Int32), q.2) else none))
def fL_target (σ : CS) (p1 : Int32) : Option (Int32 × CS) := gx_or (fX8_target σ p1) (fun r => some (r.1, r.2)) (gx_b (xX8_target σ p1) (fun q => if q.1 = 1 then some (((-77) : Int32), q.2) else none))
def fL_severity (σ : CS) (p1 : Int32) : Option (Int32 × CS) := gx_or (fX8_severity σ p1) (fun r => some (r.1, r.2)) (gx_b (xX8_severity σ p1) (fun q => if q.1 = 1 then some (((-77) : Int32), q.2) else none))
def fL_meaning (σ : CS) (p1 : Int32) (p2 : Int32) : Option (Int32 × CS) := gx_or (fX8_meaning σ p1 p2) (fun r => some (r, σ)) (gx_b (xX8_meaning σ p1 p2) (fun q => if q.1 = 2 then some (((-78) : Int32), q.2) else if q.1 = 5 then some (((-75) : Int32), q.2) else none))
def fL_flagsWith (σ : CS) (p1 : Int32) : Option (Int32 × CS) := gx_or (fX8_flagsWith σ p1) (fun r => some (r, σ)) (gx_b (xX8_flagsWith σ p1) (fun q => if q.1 = 2 then some (((-78) : Int32), q.2) else none))
def fL_officerByRank (σ : CS) (p1 : Int32) : Option (Int32 × CS) := gx_or (fX8_officerByRank σ p1) (fun r => some (r, σ)) (gx_b (xX8_officerByRank σ p1) (fun q => if q.1 = 5 then some (((-75) : Int32), q.2) else none))
def fL_executedShare (σ : CS) : Option (UInt32 × CS) := gx_or (fX8_executedShare σ) (fun r => some (r, σ)) (gx_b (xX8_executedShare σ) (fun q => if q.1 = 6 then some (((3264479232) : UInt32), q.2) else none))
def fL_feed (σ : CS) (p1 : Int32) : Option (Int32 × CS) := gx_or (fX8_feed σ p1) (fun r => some (r.1, r.2)) (gx_b (xX8_feed σ p1) (fun q => if q.1 = 3 then some (((-79) : Int32), q.2) else none))
def fL_runCommands (σ : CS) : Option (Int32 × CS) := gx_or (fX8_runCommands σ) (fun r => some (r.1, r.2)) (gx_b (xX8_runCommands σ) (fun q => if q.1 = 2 then some (((-78) : Int32), q.2) else if q.1 = 4 then some (((-76) : Int32), q.2) else none))
def fL_writeCommand (σ : CS) (p1 : Int32) : Option (Int32 × CS) := gx_or (fX8_writeCommand σ p1) (fun r => some (r.1, r.2)) (gx_b (xX8_writeCommand σ p1) (fun q => if q.1 = 1 then some (((-77) : Int32), q.2) else none))
def fL_outputChar (σ : CS) (p1 : Int32) : Option (Int32 × CS) := gx_or (fX8_outputChar σ p1) (fun r => some (r, σ)) (gx_b (xX8_outputChar σ p1) (fun q => if q.1 = 1 then some (((-77) : Int32), q.2) else none))
def fL_undo (σ : CS) : Option (Int32 × CS) := gx_or (fX8_undo σ) (fun r => some (r.1, r.2)) (gx_b (xX8_undo σ) (fun q => if q.1 = 3 then some (((-79) : Int32), q.2) else none))
def fL_restore (σ : CS) : Option (Int32 × CS) := gx_or (fX8_restore σ) (fun r => some (r.1, r.2)) (gx_b (xX8_restore σ) (fun q => if q.1 = 3 then some (((-79) : Int32), q.2) else none))
set_option maxRecDepth 100000 in
set_option maxHeartbeats 4000000 in
theorem hL_appoint_ {D : va_G} {t : Nat → ClassId} {aa : gx_AA} {l : Launch} {ad : Nat → Nat} {rs : va_W} {σ : CS} {p1 : Int32} {p2 : Int32} {p3 : Int32} {q : (Int32 × CS)} (hst : l.stackTraces = false) (hf : fL_appoint σ p1 p2 p3 = some q) : gx_CH D t (gx_E0 aa) l yL_appoint cL_appoint 5 (some .int) [(0, 7, 8, 20), (0, 7, 13, 22), (0, 7, 18, 24)] 9 154 1 6 [.ref (ad 0), .int p1, .int p2, .int p3] (kW aa ad t σ rs) (kW aa ad t q.2 rs) (some (.int q.1)) := by
  unfold fL_appoint at hf
  rcases gx_ors hf with ⟨r, h1, hf⟩ | ⟨-, hf⟩
  · cases hf
    refine gx_intro_h hst (by decide) (Nat.le_of_ble_eq_true rfl) (fun J gh hE => ?_)
    have g := gh.g
    show J 0 0 (kW aa ad t σ rs) 0 [(0, .ref (ad 0)), (1, .int p1), (2, .int p2), (3, .int p3)] []
    refine j_aload_n (pc := 0) g 0 dL_appoint_0 rfl ?_
    refine j_iload_n (pc := 1) g 1 dL_appoint_1 rfl ?_
    refine j_iload_n (pc := 2) g 2 dL_appoint_2 rfl ?_
    refine j_iload_n (pc := 3) g 3 dL_appoint_3 rfl ?_
    refine j_callVi (pc := 4) (na := 3) (As := [.int p1, .int p2, .int p3]) (rest := []) (q0 := 0) (ci := 9) g (cX8_appoint_ (rs := rs) h1) q_i_X8_appoint q_s_X8_appoint rfl rfl rfl q_c_X8_appoint q_l_L_14 q_n_X8 (by decide +kernel) rfl ⟨(Nat.le_of_ble_eq_true rfl), (Nat.le_of_ble_eq_true rfl)⟩ ⟨Nat.zero_le _, Nat.zero_le _⟩ (Nat.le_of_ble_eq_true rfl) (.refl _) (.refl _) dL_appoint_4 ?_ rfl
    exact j_wid g (Nat.zero_le _) (Nat.zero_le _) (hE _ _ dL_appoint_7)
  · obtain ⟨⟨c9, q2⟩, h1, hf⟩ := gx_bs hf
    by_cases c_0 : c9 = 1
    · replace hf := gx_it c_0 hf
      subst c_0
      cases hf
      refine gx_intro_h hst (by decide) (Nat.le_of_ble_eq_true rfl) (fun J gh hE => ?_)
      have g := gh.g
      show J 0 0 (kW aa ad t σ rs) 0 [(0, .ref (ad 0)), (1, .int p1), (2, .int p2), (3, .int p3)] []
      refine j_aload_n (pc := 0) g 0 dL_appoint_0 rfl ?_
      refine j_iload_n (pc := 1) g 1 dL_appoint_1 rfl ?_
      refine j_iload_n (pc := 2) g 2 dL_appoint_2 rfl ?_
      refine j_iload_n (pc := 3) g 3 dL_appoint_3 rfl ?_
      refine j_callVH (E0 := "java/lang/IndexOutOfBoundsException") (pc := 4) (na := 3) (As := [.int p1, .int p2, .int p3]) (rest := []) (q0 := 0) (ci := 9) (w' := kW aa ad t q2 rs) gh (eX8_appoint_ (rs := rs) h1) q_i_X8_appoint q_s_X8_appoint rfl rfl rfl q_c_X8_appoint q_l_L_14 q_n_X8 (by decide +kernel) rfl ⟨(Nat.le_of_ble_eq_true rfl), (Nat.le_of_ble_eq_true rfl)⟩ ⟨(Nat.le_of_ble_eq_true rfl), (Nat.le_of_ble_eq_true rfl)⟩ (Nat.le_of_ble_eq_true rfl) (.refl _) (.refl _) dL_appoint_4 rfl [] ⟨0, 7, 8, 20⟩ [⟨0, 7, 13, 22⟩, ⟨0, 7, 18, 24⟩] rfl (fun _ h => absurd h List.not_mem_nil) (by decide) (by decide) q_k_L_20 q_g_1 (fun q9 => ?_)
      refine j_astore (L' := [(4, .ref q9), (0, .ref (ad 0)), (1, .int p1), (2, .int p2), (3, .int p3)]) (pc := 8) g dL_appoint_8 (Nat.le_of_ble_eq_true rfl) rfl ?_
      refine j_bipush (v := (-77)) (pc := 10) g dL_appoint_10 (by decide) ?_
      exact hE _ _ dL_appoint_12
    replace hf := gx_if c_0 hf
    by_cases c_1 : c9 = 2
    · replace hf := gx_it c_1 hf
      subst c_1
      cases hf
      refine gx_intro_h hst (by decide) (Nat.le_of_ble_eq_true rfl) (fun J gh hE => ?_)
      have g := gh.g
      show J 0 0 (kW aa ad t σ rs) 0 [(0, .ref (ad 0)), (1, .int p1), (2, .int p2), (3, .int p3)] []
      refine j_aload_n (pc := 0) g 0 dL_appoint_0 rfl ?_
      refine j_iload_n (pc := 1) g 1 dL_appoint_1 rfl ?_
      refine j_iload_n (pc := 2) g 2 dL_appoint_2 rfl ?_
      refine j_iload_n (pc := 3) g 3 dL_appoint_3 rfl ?_
      refine j_callVH (E0 := "java/lang/IllegalArgumentException") (pc := 4) (na := 3) (As := [.int p1, .int p2, .int p3]) (rest := []) (q0 := 0) (ci := 9) (w' := kW aa ad t q2 rs) gh (eX8_appoint_ (rs := rs) h1) q_i_X8_appoint q_s_X8_appoint rfl rfl rfl q_c_X8_appoint q_l_L_14 q_n_X8 (by decide +kernel) rfl ⟨(Nat.le_of_ble_eq_true rfl), (Nat.le_of_ble_eq_true rfl)⟩ ⟨(Nat.le_of_ble_eq_true rfl), (Nat.le_of_ble_eq_true rfl)⟩ (Nat.le_of_ble_eq_true rfl) (.refl _) (.refl _) dL_appoint_4 rfl [⟨0, 7, 8, 20⟩] ⟨0, 7, 13, 22⟩ [⟨0, 7, 18, 24⟩] rfl (List.forall_mem_cons.mpr ⟨⟨by decide, "java/lang/IndexOutOfBoundsException", q_k_L_20, by decide⟩, (fun _ h => absurd h List.not_mem_nil)⟩) (by decide) (by decide) q_k_L_22 q_g_2 (fun q9 => ?_)
      refine j_astore (L' := [(4, .ref q9), (0, .ref (ad 0)), (1, .int p1), (2, .int p2), (3, .int p3)]) (pc := 13) g dL_appoint_13 (Nat.le_of_ble_eq_true rfl) rfl ?_
      refine j_bipush (v := (-78)) (pc := 15) g dL_appoint_15 (by decide) ?_
      exact hE _ _ dL_appoint_17
    replace hf := gx_if c_1 hf
    by_cases c_2 : c9 = 3
    · replace hf := gx_it c_2 hf
      subst c_2
      cases hf
      refine gx_intro_h hst (by decide) (Nat.le_of_ble_eq_true rfl) (fun J gh hE => ?_)
      have g := gh.g
      show J 0 0 (kW aa ad t σ rs) 0 [(0, .ref (ad 0)), (1, .int p1), (2, .int p2), (3, .int p3)] []
      refine j_aload_n (pc := 0) g 0 dL_appoint_0 rfl ?_
      refine j_iload_n (pc := 1) g 1 dL_appoint_1 rfl ?_
      refine j_iload_n (pc := 2) g 2 dL_appoint_2 rfl ?_
      refine j_iload_n (pc := 3) g 3 dL_appoint_3 rfl ?_
      refine j_callVH (E0 := "java/lang/IllegalStateException") (pc := 4) (na := 3) (As := [.int p1, .int p2, .int p3]) (rest := []) (q0 := 0) (ci := 9) (w' := kW aa ad t q2 rs) gh (eX8_appoint_ (rs := rs) h1) q_i_X8_appoint q_s_X8_appoint rfl rfl rfl q_c_X8_appoint q_l_L_14 q_n_X8 (by decide +kernel) rfl ⟨(Nat.le_of_ble_eq_true rfl), (Nat.le_of_ble_eq_true rfl)⟩ ⟨(Nat.le_of_ble_eq_true rfl), (Nat.le_of_ble_eq_true rfl)⟩ (Nat.le_of_ble_eq_true rfl) (.refl _) (.refl _) dL_appoint_4 rfl [⟨0, 7, 8, 20⟩, ⟨0, 7, 13, 22⟩] ⟨0, 7, 18, 24⟩ [] rfl (List.forall_mem_cons.mpr ⟨⟨by decide, "java/lang/IndexOutOfBoundsException", q_k_L_20, by decide⟩, (List.forall_mem_cons.mpr ⟨⟨by decide, "java/lang/IllegalArgumentException", q_k_L_22, by decide⟩, (fun _ h => absurd h List.not_mem_nil)⟩)⟩) (by decide) (by decide) q_k_L_24 q_g_3 (fun q9 => ?_)
      refine j_astore (L' := [(4, .ref q9), (0, .ref (ad 0)), (1, .int p1), (2, .int p2), (3, .int p3)]) (pc := 18) g dL_appoint_18 (Nat.le_of_ble_eq_true rfl) rfl ?_
      refine j_bipush (v := (-79)) (pc := 20) g dL_appoint_20 (by decide) ?_
      exact hE _ _ dL_appoint_22
    replace hf := gx_if c_2 hf
    cases hf
set_option maxRecDepth 100000 in
set_option maxHeartbeats 4000000 in
theorem hL_promote_ {D : va_G} {t : Nat → ClassId} {aa : gx_AA} {l : Launch} {ad : Nat → Nat} {rs : va_W} {σ : CS} {p1 : Int32} {q : (Int32 × CS)} (hst : l.stackTraces = false) (hf : fL_promote σ p1 = some q) : gx_CH D t (gx_E0 aa) l yL_promote cL_promote 3 (some .int) [(0, 5, 6, 20), (0, 5, 10, 24)] 9 152 1 6 [.ref (ad 0), .int p1] (kW aa ad t σ rs) (kW aa ad t q.2 rs) (some (.int q.1)) := by
  unfold fL_promote at hf
  rcases gx_ors hf with ⟨r, h1, hf⟩ | ⟨-, hf⟩
  · cases hf
    refine gx_intro_h hst (by decide) (Nat.le_of_ble_eq_true rfl) (fun J gh hE => ?_)
    have g := gh.g
    show J 0 0 (kW aa ad t σ rs) 0 [(0, .ref (ad 0)), (1, .int p1)] []
    refine j_aload_n (pc := 0) g 0 dL_promote_0 rfl ?_
    refine j_iload_n (pc := 1) g 1 dL_promote_1 rfl ?_
    refine j_callVi (pc := 2) (na := 1) (As := [.int p1]) (rest := []) (q0 := 0) (ci := 9) g (cX8_promote_ (rs := rs) h1) q_i_X8_promote q_s_X8_promote rfl rfl rfl q_c_X8_promote q_l_L_26 q_n_X8 (by decide +kernel) rfl ⟨(Nat.le_of_ble_eq_true rfl), (Nat.le_of_ble_eq_true rfl)⟩ ⟨Nat.zero_le _, Nat.zero_le _⟩ (Nat.le_of_ble_eq_true rfl) (.refl _) (.refl _) dL_promote_2 ?_ rfl
    exact j_wid g (Nat.zero_le _) (Nat.zero_le _) (hE _ _ dL_promote_5)
  · obtain ⟨⟨c9, q2⟩, h1, hf⟩ := gx_bs hf
    by_cases c_0 : c9 = 1
    · replace hf := gx_it c_0 hf
      subst c_0
      cases hf
      refine gx_intro_h hst (by decide) (Nat.le_of_ble_eq_true rfl) (fun J gh hE => ?_)
      have g := gh.g
      show J 0 0 (kW aa ad t σ rs) 0 [(0, .ref (ad 0)), (1, .int p1)] []
      refine j_aload_n (pc := 0) g 0 dL_promote_0 rfl ?_
      refine j_iload_n (pc := 1) g 1 dL_promote_1 rfl ?_
      refine j_callVH (E0 := "java/lang/IndexOutOfBoundsException") (pc := 2) (na := 1) (As := [.int p1]) (rest := []) (q0 := 0) (ci := 9) (w' := kW aa ad t q2 rs) gh (eX8_promote_ (rs := rs) h1) q_i_X8_promote q_s_X8_promote rfl rfl rfl q_c_X8_promote q_l_L_26 q_n_X8 (by decide +kernel) rfl ⟨(Nat.le_of_ble_eq_true rfl), (Nat.le_of_ble_eq_true rfl)⟩ ⟨(Nat.le_of_ble_eq_true rfl), (Nat.le_of_ble_eq_true rfl)⟩ (Nat.le_of_ble_eq_true rfl) (.refl _) (.refl _) dL_promote_2 rfl [] ⟨0, 5, 6, 20⟩ [⟨0, 5, 10, 24⟩] rfl (fun _ h => absurd h List.not_mem_nil) (by decide) (by decide) q_k_L_20 q_g_1 (fun q9 => ?_)
      refine j_astore_n (L' := [(2, .ref q9), (0, .ref (ad 0)), (1, .int p1)]) (pc := 6) g dL_promote_6 rfl (Nat.le_of_ble_eq_true rfl) rfl ?_
      refine j_bipush (v := (-77)) (pc := 7) g dL_promote_7 (by decide) ?_
      exact hE _ _ dL_promote_9
    replace hf := gx_if c_0 hf
    by_cases c_1 : c9 = 3
    · replace hf := gx_it c_1 hf
      subst c_1
      cases hf
      refine gx_intro_h hst (by decide) (Nat.le_of_ble_eq_true rfl) (fun J gh hE => ?_)
      have g := gh.g
      show J 0 0 (kW aa ad t σ rs) 0 [(0, .ref (ad 0)), (1, .int p1)] []
      refine j_aload_n (pc := 0) g 0 dL_promote_0 rfl ?_
      refine j_iload_n (pc := 1) g 1 dL_promote_1 rfl ?_
      refine j_callVH (E0 := "java/lang/IllegalStateException") (pc := 2) (na := 1) (As := [.int p1]) (rest := []) (q0 := 0) (ci := 9) (w' := kW aa ad t q2 rs) gh (eX8_promote_ (rs := rs) h1) q_i_X8_promote q_s_X8_promote rfl rfl rfl q_c_X8_promote q_l_L_26 q_n_X8 (by decide +kernel) rfl ⟨(Nat.le_of_ble_eq_true rfl), (Nat.le_of_ble_eq_true rfl)⟩ ⟨(Nat.le_of_ble_eq_true rfl), (Nat.le_of_ble_eq_true rfl)⟩ (Nat.le_of_ble_eq_true rfl) (.refl _) (.refl _) dL_promote_2 rfl [⟨0, 5, 6, 20⟩] ⟨0, 5, 10, 24⟩ [] rfl (List.forall_mem_cons.mpr ⟨⟨by decide, "java/lang/IndexOutOfBoundsException", q_k_L_20, by decide⟩, (fun _ h => absurd h List.not_mem_nil)⟩) (by decide) (by decide) q_k_L_24 q_g_3 (fun q9 => ?_)
      refine j_astore_n (L' := [(2, .ref q9), (0, .ref (ad 0)), (1, .int p1)]) (pc := 10) g dL_promote_10 rfl (Nat.le_of_ble_eq_true rfl) rfl ?_
      refine j_bipush (v := (-79)) (pc := 11) g dL_promote_11 (by decide) ?_
      exact hE _ _ dL_promote_13
    replace hf := gx_if c_1 hf
    cases hf
set_option maxRecDepth 100000 in
set_option maxHeartbeats 4000000 in
theorem hL_transfer_ {D : va_G} {t : Nat → ClassId} {aa : gx_AA} {l : Launch} {ad : Nat → Nat} {rs : va_W} {σ : CS} {p1 : Int32} {p2 : Int32} {q : (Int32 × CS)} (hst : l.stackTraces = false) (hf : fL_transfer σ p1 p2 = some q) : gx_CH D t (gx_E0 aa) l yL_transfer cL_transfer 4 (some .int) [(0, 6, 7, 20), (0, 6, 11, 22), (0, 6, 15, 34), (0, 6, 19, 24)] 19 452 1 6 [.ref (ad 0), .int p1, .int p2] (kW aa ad t σ rs) (kW aa ad t q.2 rs) (some (.int q.1)) := by
  unfold fL_transfer at hf
  rcases gx_ors hf with ⟨r, h1, hf⟩ | ⟨-, hf⟩
  · cases hf
    refine gx_intro_h hst (by decide) (Nat.le_of_ble_eq_true rfl) (fun J gh hE => ?_)
    have g := gh.g
    show J 0 0 (kW aa ad t σ rs) 0 [(0, .ref (ad 0)), (1, .int p1), (2, .int p2)] []
    refine j_aload_n (pc := 0) g 0 dL_transfer_0 rfl ?_
    refine j_iload_n (pc := 1) g 1 dL_transfer_1 rfl ?_
    refine j_iload_n (pc := 2) g 2 dL_transfer_2 rfl ?_
    refine j_callVi (pc := 3) (na := 2) (As := [.int p1, .int p2]) (rest := []) (q0 := 0) (ci := 9) g (cX8_transfer_ (rs := rs) h1) q_i_X8_transfer q_s_X8_transfer rfl rfl rfl q_c_X8_transfer q_l_L_30 q_n_X8 (by decide +kernel) rfl ⟨(Nat.le_of_ble_eq_true rfl), (Nat.le_of_ble_eq_true rfl)⟩ ⟨Nat.zero_le _, Nat.zero_le _⟩ (Nat.le_of_ble_eq_true rfl) (.refl _) (.refl _) dL_transfer_3 ?_ rfl
    exact j_wid g (Nat.zero_le _) (Nat.zero_le _) (hE _ _ dL_transfer_6)
  · obtain ⟨⟨c9, q2⟩, h1, hf⟩ := gx_bs hf
    by_cases c_0 : c9 = 1
    · replace hf := gx_it c_0 hf
      subst c_0
      cases hf
      refine gx_intro_h hst (by decide) (Nat.le_of_ble_eq_true rfl) (fun J gh hE => ?_)
      have g := gh.g
      show J 0 0 (kW aa ad t σ rs) 0 [(0, .ref (ad 0)), (1, .int p1), (2, .int p2)] []
      refine j_aload_n (pc := 0) g 0 dL_transfer_0 rfl ?_
      refine j_iload_n (pc := 1) g 1 dL_transfer_1 rfl ?_
      refine j_iload_n (pc := 2) g 2 dL_transfer_2 rfl ?_
      refine j_callVH (E0 := "java/lang/IndexOutOfBoundsException") (pc := 3) (na := 2) (As := [.int p1, .int p2]) (rest := []) (q0 := 0) (ci := 9) (w' := kW aa ad t q2 rs) gh (eX8_transfer_ (rs := rs) h1) q_i_X8_transfer q_s_X8_transfer rfl rfl rfl q_c_X8_transfer q_l_L_30 q_n_X8 (by decide +kernel) rfl ⟨(Nat.le_of_ble_eq_true rfl), (Nat.le_of_ble_eq_true rfl)⟩ ⟨(Nat.le_of_ble_eq_true rfl), (Nat.le_of_ble_eq_true rfl)⟩ (Nat.le_of_ble_eq_true rfl) (.refl _) (.refl _) dL_transfer_3 rfl [] ⟨0, 6, 7, 20⟩ [⟨0, 6, 11, 22⟩, ⟨0, 6, 15, 34⟩, ⟨0, 6, 19, 24⟩] rfl (fun _ h => absurd h List.not_mem_nil) (by decide) (by decide) q_k_L_20 q_g_1 (fun q9 => ?_)
      refine j_astore_n (L' := [(3, .ref q9), (0, .ref (ad 0)), (1, .int p1), (2, .int p2)]) (pc := 7) g dL_transfer_7 rfl (Nat.le_of_ble_eq_true rfl) rfl ?_
      refine j_bipush (v := (-77)) (pc := 8) g dL_transfer_8 (by decide) ?_
      exact hE _ _ dL_transfer_10
    replace hf := gx_if c_0 hf
    by_cases c_1 : c9 = 2
    · replace hf := gx_it c_1 hf
      subst c_1
      cases hf
      refine gx_intro_h hst (by decide) (Nat.le_of_ble_eq_true rfl) (fun J gh hE => ?_)
      have g := gh.g
      show J 0 0 (kW aa ad t σ rs) 0 [(0, .ref (ad 0)), (1, .int p1), (2, .int p2)] []
      refine j_aload_n (pc := 0) g 0 dL_transfer_0 rfl ?_
      refine j_iload_n (pc := 1) g 1 dL_transfer_1 rfl ?_
      refine j_iload_n (pc := 2) g 2 dL_transfer_2 rfl ?_
      refine j_callVH (E0 := "java/lang/IllegalArgumentException") (pc := 3) (na := 2) (As := [.int p1, .int p2]) (rest := []) (q0 := 0) (ci := 9) (w' := kW aa ad t q2 rs) gh (eX8_transfer_ (rs := rs) h1) q_i_X8_transfer q_s_X8_transfer rfl rfl rfl q_c_X8_transfer q_l_L_30 q_n_X8 (by decide +kernel) rfl ⟨(Nat.le_of_ble_eq_true rfl), (Nat.le_of_ble_eq_true rfl)⟩ ⟨(Nat.le_of_ble_eq_true rfl), (Nat.le_of_ble_eq_true rfl)⟩ (Nat.le_of_ble_eq_true rfl) (.refl _) (.refl _) dL_transfer_3 rfl [⟨0, 6, 7, 20⟩] ⟨0, 6, 11, 22⟩ [⟨0, 6, 15, 34⟩, ⟨0, 6, 19, 24⟩] rfl (List.forall_mem_cons.mpr ⟨⟨by decide, "java/lang/IndexOutOfBoundsException", q_k_L_20, by decide⟩, (fun _ h => absurd h List.not_mem_nil)⟩) (by decide) (by decide) q_k_L_22 q_g_2 (fun q9 => ?_)
      refine j_astore_n (L' := [(3, .ref q9), (0, .ref (ad 0)), (1, .int p1), (2, .int p2)]) (pc := 11) g dL_transfer_11 rfl (Nat.le_of_ble_eq_true rfl) rfl ?_
      refine j_bipush (v := (-78)) (pc := 12) g dL_transfer_12 (by decide) ?_
      exact hE _ _ dL_transfer_14
    replace hf := gx_if c_1 hf
    by_cases c_2 : c9 = 4
    · replace hf := gx_it c_2 hf
      subst c_2
      cases hf
      refine gx_intro_h hst (by decide) (Nat.le_of_ble_eq_true rfl) (fun J gh hE => ?_)
      have g := gh.g
      show J 0 0 (kW aa ad t σ rs) 0 [(0, .ref (ad 0)), (1, .int p1), (2, .int p2)] []
      refine j_aload_n (pc := 0) g 0 dL_transfer_0 rfl ?_
      refine j_iload_n (pc := 1) g 1 dL_transfer_1 rfl ?_
      refine j_iload_n (pc := 2) g 2 dL_transfer_2 rfl ?_
      refine j_callVH (E0 := "java/lang/UnsupportedOperationException") (pc := 3) (na := 2) (As := [.int p1, .int p2]) (rest := []) (q0 := 0) (ci := 9) (w' := kW aa ad t q2 rs) gh (eX8_transfer_ (rs := rs) h1) q_i_X8_transfer q_s_X8_transfer rfl rfl rfl q_c_X8_transfer q_l_L_30 q_n_X8 (by decide +kernel) rfl ⟨(Nat.le_of_ble_eq_true rfl), (Nat.le_of_ble_eq_true rfl)⟩ ⟨(Nat.le_of_ble_eq_true rfl), (Nat.le_of_ble_eq_true rfl)⟩ (Nat.le_of_ble_eq_true rfl) (.refl _) (.refl _) dL_transfer_3 rfl [⟨0, 6, 7, 20⟩, ⟨0, 6, 11, 22⟩] ⟨0, 6, 15, 34⟩ [⟨0, 6, 19, 24⟩] rfl (List.forall_mem_cons.mpr ⟨⟨by decide, "java/lang/IndexOutOfBoundsException", q_k_L_20, by decide⟩, (List.forall_mem_cons.mpr ⟨⟨by decide, "java/lang/IllegalArgumentException", q_k_L_22, by decide⟩, (fun _ h => absurd h List.not_mem_nil)⟩)⟩) (by decide) (by decide) q_k_L_34 q_g_4 (fun q9 => ?_)
      refine j_astore_n (L' := [(3, .ref q9), (0, .ref (ad 0)), (1, .int p1), (2, .int p2)]) (pc := 15) g dL_transfer_15 rfl (Nat.le_of_ble_eq_true rfl) rfl ?_
      refine j_bipush (v := (-76)) (pc := 16) g dL_transfer_16 (by decide) ?_
      exact hE _ _ dL_transfer_18
    replace hf := gx_if c_2 hf
    by_cases c_3 : c9 = 3
    · replace hf := gx_it c_3 hf
      subst c_3
      cases hf
      refine gx_intro_h hst (by decide) (Nat.le_of_ble_eq_true rfl) (fun J gh hE => ?_)
      have g := gh.g
      show J 0 0 (kW aa ad t σ rs) 0 [(0, .ref (ad 0)), (1, .int p1), (2, .int p2)] []
      refine j_aload_n (pc := 0) g 0 dL_transfer_0 rfl ?_
      refine j_iload_n (pc := 1) g 1 dL_transfer_1 rfl ?_
      refine j_iload_n (pc := 2) g 2 dL_transfer_2 rfl ?_
      refine j_callVH (E0 := "java/lang/IllegalStateException") (pc := 3) (na := 2) (As := [.int p1, .int p2]) (rest := []) (q0 := 0) (ci := 9) (w' := kW aa ad t q2 rs) gh (eX8_transfer_ (rs := rs) h1) q_i_X8_transfer q_s_X8_transfer rfl rfl rfl q_c_X8_transfer q_l_L_30 q_n_X8 (by decide +kernel) rfl ⟨(Nat.le_of_ble_eq_true rfl), (Nat.le_of_ble_eq_true rfl)⟩ ⟨(Nat.le_of_ble_eq_true rfl), (Nat.le_of_ble_eq_true rfl)⟩ (Nat.le_of_ble_eq_true rfl) (.refl _) (.refl _) dL_transfer_3 rfl [⟨0, 6, 7, 20⟩, ⟨0, 6, 11, 22⟩, ⟨0, 6, 15, 34⟩] ⟨0, 6, 19, 24⟩ [] rfl (List.forall_mem_cons.mpr ⟨⟨by decide, "java/lang/IndexOutOfBoundsException", q_k_L_20, by decide⟩, (List.forall_mem_cons.mpr ⟨⟨by decide, "java/lang/IllegalArgumentException", q_k_L_22, by decide⟩, (List.forall_mem_cons.mpr ⟨⟨by decide, "java/lang/UnsupportedOperationException", q_k_L_34, by decide⟩, (fun _ h => absurd h List.not_mem_nil)⟩)⟩)⟩) (by decide) (by decide) q_k_L_24 q_g_3 (fun q9 => ?_)
      refine j_astore_n (L' := [(3, .ref q9), (0, .ref (ad 0)), (1, .int p1), (2, .int p2)]) (pc := 19) g dL_transfer_19 rfl (Nat.le_of_ble_eq_true rfl) rfl ?_
      refine j_bipush (v := (-79)) (pc := 20) g dL_transfer_20 (by decide) ?_
      exact hE _ _ dL_transfer_22
    replace hf := gx_if c_3 hf
    cases hf
set_option maxRecDepth 100000 in
set_option maxHeartbeats 4000000 in
theorem hL_dismiss_ {D : va_G} {t : Nat → ClassId} {aa : gx_AA} {l : Launch} {ad : Nat → Nat} {rs : va_W} {σ : CS} {p1 : Int32} {q : (Int32 × CS)} (hst : l.stackTraces = false) (hf : fL_dismiss σ p1 = some q) : gx_CH D t (gx_E0 aa) l yL_dismiss cL_dismiss 3 (some .int) [(0, 5, 6, 20), (0, 5, 10, 22)] 9 152 1 6 [.ref (ad 0), .int p1] (kW aa ad t σ rs) (kW aa ad t q.2 rs) (some (.int q.1)) := by
  unfold fL_dismiss at hf
  rcases gx_ors hf with ⟨r, h1, hf⟩ | ⟨-, hf⟩
  · cases hf
    refine gx_intro_h hst (by decide) (Nat.le_of_ble_eq_true rfl) (fun J gh hE => ?_)
    have g := gh.g
    show J 0 0 (kW aa ad t σ rs) 0 [(0, .ref (ad 0)), (1, .int p1)] []
    refine j_aload_n (pc := 0) g 0 dL_dismiss_0 rfl ?_
    refine j_iload_n (pc := 1) g 1 dL_dismiss_1 rfl ?_
    refine j_callVi (pc := 2) (na := 1) (As := [.int p1]) (rest := []) (q0 := 0) (ci := 9) g (cX8_dismiss_ (rs := rs) h1) q_i_X8_dismiss q_s_X8_dismiss rfl rfl rfl q_c_X8_dismiss q_l_L_36 q_n_X8 (by decide +kernel) rfl ⟨(Nat.le_of_ble_eq_true rfl), (Nat.le_of_ble_eq_true rfl)⟩ ⟨Nat.zero_le _, Nat.zero_le _⟩ (Nat.le_of_ble_eq_true rfl) (.refl _) (.refl _) dL_dismiss_2 ?_ rfl
    exact j_wid g (Nat.zero_le _) (Nat.zero_le _) (hE _ _ dL_dismiss_5)
  · obtain ⟨⟨c9, q2⟩, h1, hf⟩ := gx_bs hf
    by_cases c_0 : c9 = 1
    · replace hf := gx_it c_0 hf
      subst c_0
      cases hf
      refine gx_intro_h hst (by decide) (Nat.le_of_ble_eq_true rfl) (fun J gh hE => ?_)
      have g := gh.g
      show J 0 0 (kW aa ad t σ rs) 0 [(0, .ref (ad 0)), (1, .int p1)] []
      refine j_aload_n (pc := 0) g 0 dL_dismiss_0 rfl ?_
      refine j_iload_n (pc := 1) g 1 dL_dismiss_1 rfl ?_
      refine j_callVH (E0 := "java/lang/IndexOutOfBoundsException") (pc := 2) (na := 1) (As := [.int p1]) (rest := []) (q0 := 0) (ci := 9) (w' := kW aa ad t q2 rs) gh (eX8_dismiss_ (rs := rs) h1) q_i_X8_dismiss q_s_X8_dismiss rfl rfl rfl q_c_X8_dismiss q_l_L_36 q_n_X8 (by decide +kernel) rfl ⟨(Nat.le_of_ble_eq_true rfl), (Nat.le_of_ble_eq_true rfl)⟩ ⟨(Nat.le_of_ble_eq_true rfl), (Nat.le_of_ble_eq_true rfl)⟩ (Nat.le_of_ble_eq_true rfl) (.refl _) (.refl _) dL_dismiss_2 rfl [] ⟨0, 5, 6, 20⟩ [⟨0, 5, 10, 22⟩] rfl (fun _ h => absurd h List.not_mem_nil) (by decide) (by decide) q_k_L_20 q_g_1 (fun q9 => ?_)
      refine j_astore_n (L' := [(2, .ref q9), (0, .ref (ad 0)), (1, .int p1)]) (pc := 6) g dL_dismiss_6 rfl (Nat.le_of_ble_eq_true rfl) rfl ?_
      refine j_bipush (v := (-77)) (pc := 7) g dL_dismiss_7 (by decide) ?_
      exact hE _ _ dL_dismiss_9
    replace hf := gx_if c_0 hf
    by_cases c_1 : c9 = 2
    · replace hf := gx_it c_1 hf
      subst c_1
      cases hf
      refine gx_intro_h hst (by decide) (Nat.le_of_ble_eq_true rfl) (fun J gh hE => ?_)
      have g := gh.g
      show J 0 0 (kW aa ad t σ rs) 0 [(0, .ref (ad 0)), (1, .int p1)] []
      refine j_aload_n (pc := 0) g 0 dL_dismiss_0 rfl ?_
      refine j_iload_n (pc := 1) g 1 dL_dismiss_1 rfl ?_
      refine j_callVH (E0 := "java/lang/IllegalArgumentException") (pc := 2) (na := 1) (As := [.int p1]) (rest := []) (q0 := 0) (ci := 9) (w' := kW aa ad t q2 rs) gh (eX8_dismiss_ (rs := rs) h1) q_i_X8_dismiss q_s_X8_dismiss rfl rfl rfl q_c_X8_dismiss q_l_L_36 q_n_X8 (by decide +kernel) rfl ⟨(Nat.le_of_ble_eq_true rfl), (Nat.le_of_ble_eq_true rfl)⟩ ⟨(Nat.le_of_ble_eq_true rfl), (Nat.le_of_ble_eq_true rfl)⟩ (Nat.le_of_ble_eq_true rfl) (.refl _) (.refl _) dL_dismiss_2 rfl [⟨0, 5, 6, 20⟩] ⟨0, 5, 10, 22⟩ [] rfl (List.forall_mem_cons.mpr ⟨⟨by decide, "java/lang/IndexOutOfBoundsException", q_k_L_20, by decide⟩, (fun _ h => absurd h List.not_mem_nil)⟩) (by decide) (by decide) q_k_L_22 q_g_2 (fun q9 => ?_)
      refine j_astore_n (L' := [(2, .ref q9), (0, .ref (ad 0)), (1, .int p1)]) (pc := 10) g dL_dismiss_10 rfl (Nat.le_of_ble_eq_true rfl) rfl ?_
      refine j_bipush (v := (-78)) (pc := 11) g dL_dismiss_11 (by decide) ?_
      exact hE _ _ dL_dismiss_13
    replace hf := gx_if c_1 hf
    cases hf
set_option maxRecDepth 100000 in
set_option maxHeartbeats 4000000 in
theorem hL_issue_ {D : va_G} {t : Nat → ClassId} {aa : gx_AA} {l : Launch} {ad : Nat → Nat} {rs : va_W} {σ : CS} {p1 : Int32} {p2 : Int32} {p3 : Int32} {q : (Int32 × CS)} (hst : l.stackTraces = false) (hf : fL_issue σ p1 p2 p3 = some q) : gx_CH D t (gx_E0 aa) l yL_issue cL_issue 5 (some .int) [(0, 7, 8, 20), (0, 7, 13, 22), (0, 7, 18, 24), (0, 7, 23, 34)] 9 154 1 6 [.ref (ad 0), .int p1, .int p2, .int p3] (kW aa ad t σ rs) (kW aa ad t q.2 rs) (some (.int q.1)) := by
  unfold fL_issue at hf
  rcases gx_ors hf with ⟨r, h1, hf⟩ | ⟨-, hf⟩
  · cases hf
    refine gx_intro_h hst (by decide) (Nat.le_of_ble_eq_true rfl) (fun J gh hE => ?_)
    have g := gh.g
    show J 0 0 (kW aa ad t σ rs) 0 [(0, .ref (ad 0)), (1, .int p1), (2, .int p2), (3, .int p3)] []
    refine j_aload_n (pc := 0) g 0 dL_issue_0 rfl ?_
    refine j_iload_n (pc := 1) g 1 dL_issue_1 rfl ?_
    refine j_iload_n (pc := 2) g 2 dL_issue_2 rfl ?_
    refine j_iload_n (pc := 3) g 3 dL_issue_3 rfl ?_
    refine j_callVi (pc := 4) (na := 3) (As := [.int p1, .int p2, .int p3]) (rest := []) (q0 := 0) (ci := 9) g (cX8_issue_ (rs := rs) h1) q_i_X8_issue q_s_X8_issue rfl rfl rfl q_c_X8_issue q_l_L_39 q_n_X8 (by decide +kernel) rfl ⟨(Nat.le_of_ble_eq_true rfl), (Nat.le_of_ble_eq_true rfl)⟩ ⟨Nat.zero_le _, Nat.zero_le _⟩ (Nat.le_of_ble_eq_true rfl) (.refl _) (.refl _) dL_issue_4 ?_ rfl
    exact j_wid g (Nat.zero_le _) (Nat.zero_le _) (hE _ _ dL_issue_7)
  · obtain ⟨⟨c9, q2⟩, h1, hf⟩ := gx_bs hf
    by_cases c_0 : c9 = 1
    · replace hf := gx_it c_0 hf
      subst c_0
      cases hf
      refine gx_intro_h hst (by decide) (Nat.le_of_ble_eq_true rfl) (fun J gh hE => ?_)
      have g := gh.g
      show J 0 0 (kW aa ad t σ rs) 0 [(0, .ref (ad 0)), (1, .int p1), (2, .int p2), (3, .int p3)] []
      refine j_aload_n (pc := 0) g 0 dL_issue_0 rfl ?_
      refine j_iload_n (pc := 1) g 1 dL_issue_1 rfl ?_
      refine j_iload_n (pc := 2) g 2 dL_issue_2 rfl ?_
      refine j_iload_n (pc := 3) g 3 dL_issue_3 rfl ?_
      refine j_callVH (E0 := "java/lang/IndexOutOfBoundsException") (pc := 4) (na := 3) (As := [.int p1, .int p2, .int p3]) (rest := []) (q0 := 0) (ci := 9) (w' := kW aa ad t q2 rs) gh (eX8_issue_ (rs := rs) h1) q_i_X8_issue q_s_X8_issue rfl rfl rfl q_c_X8_issue q_l_L_39 q_n_X8 (by decide +kernel) rfl ⟨(Nat.le_of_ble_eq_true rfl), (Nat.le_of_ble_eq_true rfl)⟩ ⟨(Nat.le_of_ble_eq_true rfl), (Nat.le_of_ble_eq_true rfl)⟩ (Nat.le_of_ble_eq_true rfl) (.refl _) (.refl _) dL_issue_4 rfl [] ⟨0, 7, 8, 20⟩ [⟨0, 7, 13, 22⟩, ⟨0, 7, 18, 24⟩, ⟨0, 7, 23, 34⟩] rfl (fun _ h => absurd h List.not_mem_nil) (by decide) (by decide) q_k_L_20 q_g_1 (fun q9 => ?_)
      refine j_astore (L' := [(4, .ref q9), (0, .ref (ad 0)), (1, .int p1), (2, .int p2), (3, .int p3)]) (pc := 8) g dL_issue_8 (Nat.le_of_ble_eq_true rfl) rfl ?_
      refine j_bipush (v := (-77)) (pc := 10) g dL_issue_10 (by decide) ?_
      exact hE _ _ dL_issue_12
    replace hf := gx_if c_0 hf
    by_cases c_1 : c9 = 2
    · replace hf := gx_it c_1 hf
      subst c_1
      cases hf
      refine gx_intro_h hst (by decide) (Nat.le_of_ble_eq_true rfl) (fun J gh hE => ?_)
      have g := gh.g
      show J 0 0 (kW aa ad t σ rs) 0 [(0, .ref (ad 0)), (1, .int p1), (2, .int p2), (3, .int p3)] []
      refine j_aload_n (pc := 0) g 0 dL_issue_0 rfl ?_
      refine j_iload_n (pc := 1) g 1 dL_issue_1 rfl ?_
      refine j_iload_n (pc := 2) g 2 dL_issue_2 rfl ?_
      refine j_iload_n (pc := 3) g 3 dL_issue_3 rfl ?_
      refine j_callVH (E0 := "java/lang/IllegalArgumentException") (pc := 4) (na := 3) (As := [.int p1, .int p2, .int p3]) (rest := []) (q0 := 0) (ci := 9) (w' := kW aa ad t q2 rs) gh (eX8_issue_ (rs := rs) h1) q_i_X8_issue q_s_X8_issue rfl rfl rfl q_c_X8_issue q_l_L_39 q_n_X8 (by decide +kernel) rfl ⟨(Nat.le_of_ble_eq_true rfl), (Nat.le_of_ble_eq_true rfl)⟩ ⟨(Nat.le_of_ble_eq_true rfl), (Nat.le_of_ble_eq_true rfl)⟩ (Nat.le_of_ble_eq_true rfl) (.refl _) (.refl _) dL_issue_4 rfl [⟨0, 7, 8, 20⟩] ⟨0, 7, 13, 22⟩ [⟨0, 7, 18, 24⟩, ⟨0, 7, 23, 34⟩] rfl (List.forall_mem_cons.mpr ⟨⟨by decide, "java/lang/IndexOutOfBoundsException", q_k_L_20, by decide⟩, (fun _ h => absurd h List.not_mem_nil)⟩) (by decide) (by decide) q_k_L_22 q_g_2 (fun q9 => ?_)
      refine j_astore (L' := [(4, .ref q9), (0, .ref (ad 0)), (1, .int p1), (2, .int p2), (3, .int p3)]) (pc := 13) g dL_issue_13 (Nat.le_of_ble_eq_true rfl) rfl ?_
      refine j_bipush (v := (-78)) (pc := 15) g dL_issue_15 (by decide) ?_
      exact hE _ _ dL_issue_17
    replace hf := gx_if c_1 hf
    by_cases c_2 : c9 = 3
    · replace hf := gx_it c_2 hf
      subst c_2
      cases hf
      refine gx_intro_h hst (by decide) (Nat.le_of_ble_eq_true rfl) (fun J gh hE => ?_)
      have g := gh.g
      show J 0 0 (kW aa ad t σ rs) 0 [(0, .ref (ad 0)), (1, .int p1), (2, .int p2), (3, .int p3)] []
      refine j_aload_n (pc := 0) g 0 dL_issue_0 rfl ?_
      refine j_iload_n (pc := 1) g 1 dL_issue_1 rfl ?_
      refine j_iload_n (pc := 2) g 2 dL_issue_2 rfl ?_
      refine j_iload_n (pc := 3) g 3 dL_issue_3 rfl ?_
      refine j_callVH (E0 := "java/lang/IllegalStateException") (pc := 4) (na := 3) (As := [.int p1, .int p2, .int p3]) (rest := []) (q0 := 0) (ci := 9) (w' := kW aa ad t q2 rs) gh (eX8_issue_ (rs := rs) h1) q_i_X8_issue q_s_X8_issue rfl rfl rfl q_c_X8_issue q_l_L_39 q_n_X8 (by decide +kernel) rfl ⟨(Nat.le_of_ble_eq_true rfl), (Nat.le_of_ble_eq_true rfl)⟩ ⟨(Nat.le_of_ble_eq_true rfl), (Nat.le_of_ble_eq_true rfl)⟩ (Nat.le_of_ble_eq_true rfl) (.refl _) (.refl _) dL_issue_4 rfl [⟨0, 7, 8, 20⟩, ⟨0, 7, 13, 22⟩] ⟨0, 7, 18, 24⟩ [⟨0, 7, 23, 34⟩] rfl (List.forall_mem_cons.mpr ⟨⟨by decide, "java/lang/IndexOutOfBoundsException", q_k_L_20, by decide⟩, (List.forall_mem_cons.mpr ⟨⟨by decide, "java/lang/IllegalArgumentException", q_k_L_22, by decide⟩, (fun _ h => absurd h List.not_mem_nil)⟩)⟩) (by decide) (by decide) q_k_L_24 q_g_3 (fun q9 => ?_)
      refine j_astore (L' := [(4, .ref q9), (0, .ref (ad 0)), (1, .int p1), (2, .int p2), (3, .int p3)]) (pc := 18) g dL_issue_18 (Nat.le_of_ble_eq_true rfl) rfl ?_
      refine j_bipush (v := (-79)) (pc := 20) g dL_issue_20 (by decide) ?_
      exact hE _ _ dL_issue_22
    replace hf := gx_if c_2 hf
    by_cases c_3 : c9 = 4
    · replace hf := gx_it c_3 hf
      subst c_3
      cases hf
      refine gx_intro_h hst (by decide) (Nat.le_of_ble_eq_true rfl) (fun J gh hE => ?_)
      have g := gh.g
      show J 0 0 (kW aa ad t σ rs) 0 [(0, .ref (ad 0)), (1, .int p1), (2, .int p2), (3, .int p3)] []
      refine j_aload_n (pc := 0) g 0 dL_issue_0 rfl ?_
      refine j_iload_n (pc := 1) g 1 dL_issue_1 rfl ?_
      refine j_iload_n (pc := 2) g 2 dL_issue_2 rfl ?_
      refine j_iload_n (pc := 3) g 3 dL_issue_3 rfl ?_
      refine j_callVH (E0 := "java/lang/UnsupportedOperationException") (pc := 4) (na := 3) (As := [.int p1, .int p2, .int p3]) (rest := []) (q0 := 0) (ci := 9) (w' := kW aa ad t q2 rs) gh (eX8_issue_ (rs := rs) h1) q_i_X8_issue q_s_X8_issue rfl rfl rfl q_c_X8_issue q_l_L_39 q_n_X8 (by decide +kernel) rfl ⟨(Nat.le_of_ble_eq_true rfl), (Nat.le_of_ble_eq_true rfl)⟩ ⟨(Nat.le_of_ble_eq_true rfl), (Nat.le_of_ble_eq_true rfl)⟩ (Nat.le_of_ble_eq_true rfl) (.refl _) (.refl _) dL_issue_4 rfl [⟨0, 7, 8, 20⟩, ⟨0, 7, 13, 22⟩, ⟨0, 7, 18, 24⟩] ⟨0, 7, 23, 34⟩ [] rfl (List.forall_mem_cons.mpr ⟨⟨by decide, "java/lang/IndexOutOfBoundsException", q_k_L_20, by decide⟩, (List.forall_mem_cons.mpr ⟨⟨by decide, "java/lang/IllegalArgumentException", q_k_L_22, by decide⟩, (List.forall_mem_cons.mpr ⟨⟨by decide, "java/lang/IllegalStateException", q_k_L_24, by decide⟩, (fun _ h => absurd h List.not_mem_nil)⟩)⟩)⟩) (by decide) (by decide) q_k_L_34 q_g_4 (fun q9 => ?_)
      refine j_astore (L' := [(4, .ref q9), (0, .ref (ad 0)), (1, .int p1), (2, .int p2), (3, .int p3)]) (pc := 23) g dL_issue_23 (Nat.le_of_ble_eq_true rfl) rfl ?_
      refine j_bipush (v := (-76)) (pc := 25) g dL_issue_25 (by decide) ?_
      exact hE _ _ dL_issue_27
    replace hf := gx_if c_3 hf
    cases hf
set_option maxRecDepth 100000 in
set_option maxHeartbeats 4000000 in
theorem hL_passHours_ {D : va_G} {t : Nat → ClassId} {aa : gx_AA} {l : Launch} {ad : Nat → Nat} {rs : va_W} {σ : CS} {p1 : Int32} {q : (Int32 × CS)} (hst : l.stackTraces = false) (hf : fL_passHours σ p1 = some q) : gx_CH D t (gx_E0 aa) l yL_passHours cL_passHours 3 (some .int) [(0, 5, 6, 22)] 9 152 1 6 [.ref (ad 0), .int p1] (kW aa ad t σ rs) (kW aa ad t q.2 rs) (some (.int q.1)) := by
  unfold fL_passHours at hf
  rcases gx_ors hf with ⟨r, h1, hf⟩ | ⟨-, hf⟩
  · cases hf
    refine gx_intro_h hst (by decide) (Nat.le_of_ble_eq_true rfl) (fun J gh hE => ?_)
    have g := gh.g
    show J 0 0 (kW aa ad t σ rs) 0 [(0, .ref (ad 0)), (1, .int p1)] []
    refine j_aload_n (pc := 0) g 0 dL_passHours_0 rfl ?_
    refine j_iload_n (pc := 1) g 1 dL_passHours_1 rfl ?_
    refine j_callVi (pc := 2) (na := 1) (As := [.int p1]) (rest := []) (q0 := 0) (ci := 9) g (cX8_passHours_ (rs := rs) h1) q_i_X8_passHours q_s_X8_passHours rfl rfl rfl q_c_X8_passHours q_l_L_42 q_n_X8 (by decide +kernel) rfl ⟨(Nat.le_of_ble_eq_true rfl), (Nat.le_of_ble_eq_true rfl)⟩ ⟨Nat.zero_le _, Nat.zero_le _⟩ (Nat.le_of_ble_eq_true rfl) (.refl _) (.refl _) dL_passHours_2 ?_ rfl
    exact j_wid g (Nat.zero_le _) (Nat.zero_le _) (hE _ _ dL_passHours_5)
  · obtain ⟨⟨c9, q2⟩, h1, hf⟩ := gx_bs hf
    by_cases c_0 : c9 = 2
    · replace hf := gx_it c_0 hf
      subst c_0
      cases hf
      refine gx_intro_h hst (by decide) (Nat.le_of_ble_eq_true rfl) (fun J gh hE => ?_)
      have g := gh.g
      show J 0 0 (kW aa ad t σ rs) 0 [(0, .ref (ad 0)), (1, .int p1)] []
      refine j_aload_n (pc := 0) g 0 dL_passHours_0 rfl ?_
      refine j_iload_n (pc := 1) g 1 dL_passHours_1 rfl ?_
      refine j_callVH (E0 := "java/lang/IllegalArgumentException") (pc := 2) (na := 1) (As := [.int p1]) (rest := []) (q0 := 0) (ci := 9) (w' := kW aa ad t q2 rs) gh (eX8_passHours_ (rs := rs) h1) q_i_X8_passHours q_s_X8_passHours rfl rfl rfl q_c_X8_passHours q_l_L_42 q_n_X8 (by decide +kernel) rfl ⟨(Nat.le_of_ble_eq_true rfl), (Nat.le_of_ble_eq_true rfl)⟩ ⟨(Nat.le_of_ble_eq_true rfl), (Nat.le_of_ble_eq_true rfl)⟩ (Nat.le_of_ble_eq_true rfl) (.refl _) (.refl _) dL_passHours_2 rfl [] ⟨0, 5, 6, 22⟩ [] rfl (fun _ h => absurd h List.not_mem_nil) (by decide) (by decide) q_k_L_22 q_g_2 (fun q9 => ?_)
      refine j_astore_n (L' := [(2, .ref q9), (0, .ref (ad 0)), (1, .int p1)]) (pc := 6) g dL_passHours_6 rfl (Nat.le_of_ble_eq_true rfl) rfl ?_
      refine j_bipush (v := (-78)) (pc := 7) g dL_passHours_7 (by decide) ?_
      exact hE _ _ dL_passHours_9
    replace hf := gx_if c_0 hf
    cases hf
set_option maxRecDepth 100000 in
set_option maxHeartbeats 4000000 in
theorem hL_define_ {D : va_G} {t : Nat → ClassId} {aa : gx_AA} {l : Launch} {ad : Nat → Nat} {rs : va_W} {σ : CS} {p1 : Int32} {p2 : Int32} {p3 : Int32} {q : (Int32 × CS)} (hst : l.stackTraces = false) (hf : fL_define σ p1 p2 p3 = some q) : gx_CH D t (gx_E0 aa) l yL_define cL_define 5 (some .int) [(0, 7, 8, 22), (0, 7, 13, 24)] 9 154 1 6 [.ref (ad 0), .int p1, .int p2, .int p3] (kW aa ad t σ rs) (kW aa ad t q.2 rs) (some (.int q.1)) := by
  unfold fL_define at hf
  rcases gx_ors hf with ⟨r, h1, hf⟩ | ⟨-, hf⟩
  · cases hf
    refine gx_intro_h hst (by decide) (Nat.le_of_ble_eq_true rfl) (fun J gh hE => ?_)
    have g := gh.g
    show J 0 0 (kW aa ad t σ rs) 0 [(0, .ref (ad 0)), (1, .int p1), (2, .int p2), (3, .int p3)] []
    refine j_aload_n (pc := 0) g 0 dL_define_0 rfl ?_
    refine j_iload_n (pc := 1) g 1 dL_define_1 rfl ?_
    refine j_iload_n (pc := 2) g 2 dL_define_2 rfl ?_
    refine j_iload_n (pc := 3) g 3 dL_define_3 rfl ?_
    refine j_callVi (pc := 4) (na := 3) (As := [.int p1, .int p2, .int p3]) (rest := []) (q0 := 0) (ci := 9) g (cX8_define_ (rs := rs) h1) q_i_X8_define q_s_X8_define rfl rfl rfl q_c_X8_define q_l_L_45 q_n_X8 (by decide +kernel) rfl ⟨(Nat.le_of_ble_eq_true rfl), (Nat.le_of_ble_eq_true rfl)⟩ ⟨Nat.zero_le _, Nat.zero_le _⟩ (Nat.le_of_ble_eq_true rfl) (.refl _) (.refl _) dL_define_4 ?_ rfl
    exact j_wid g (Nat.zero_le _) (Nat.zero_le _) (hE _ _ dL_define_7)
  · obtain ⟨⟨c9, q2⟩, h1, hf⟩ := gx_bs hf
    by_cases c_0 : c9 = 2
    · replace hf := gx_it c_0 hf
      subst c_0
      cases hf
      refine gx_intro_h hst (by decide) (Nat.le_of_ble_eq_true rfl) (fun J gh hE => ?_)
      have g := gh.g
      show J 0 0 (kW aa ad t σ rs) 0 [(0, .ref (ad 0)), (1, .int p1), (2, .int p2), (3, .int p3)] []
      refine j_aload_n (pc := 0) g 0 dL_define_0 rfl ?_
      refine j_iload_n (pc := 1) g 1 dL_define_1 rfl ?_
      refine j_iload_n (pc := 2) g 2 dL_define_2 rfl ?_
      refine j_iload_n (pc := 3) g 3 dL_define_3 rfl ?_
      refine j_callVH (E0 := "java/lang/IllegalArgumentException") (pc := 4) (na := 3) (As := [.int p1, .int p2, .int p3]) (rest := []) (q0 := 0) (ci := 9) (w' := kW aa ad t q2 rs) gh (eX8_define_ (rs := rs) h1) q_i_X8_define q_s_X8_define rfl rfl rfl q_c_X8_define q_l_L_45 q_n_X8 (by decide +kernel) rfl ⟨(Nat.le_of_ble_eq_true rfl), (Nat.le_of_ble_eq_true rfl)⟩ ⟨(Nat.le_of_ble_eq_true rfl), (Nat.le_of_ble_eq_true rfl)⟩ (Nat.le_of_ble_eq_true rfl) (.refl _) (.refl _) dL_define_4 rfl [] ⟨0, 7, 8, 22⟩ [⟨0, 7, 13, 24⟩] rfl (fun _ h => absurd h List.not_mem_nil) (by decide) (by decide) q_k_L_22 q_g_2 (fun q9 => ?_)
      refine j_astore (L' := [(4, .ref q9), (0, .ref (ad 0)), (1, .int p1), (2, .int p2), (3, .int p3)]) (pc := 8) g dL_define_8 (Nat.le_of_ble_eq_true rfl) rfl ?_
      refine j_bipush (v := (-78)) (pc := 10) g dL_define_10 (by decide) ?_
      exact hE _ _ dL_define_12
    replace hf := gx_if c_0 hf
    by_cases c_1 : c9 = 3
    · replace hf := gx_it c_1 hf
      subst c_1
      cases hf
      refine gx_intro_h hst (by decide) (Nat.le_of_ble_eq_true rfl) (fun J gh hE => ?_)
      have g := gh.g
      show J 0 0 (kW aa ad t σ rs) 0 [(0, .ref (ad 0)), (1, .int p1), (2, .int p2), (3, .int p3)] []
      refine j_aload_n (pc := 0) g 0 dL_define_0 rfl ?_
      refine j_iload_n (pc := 1) g 1 dL_define_1 rfl ?_
      refine j_iload_n (pc := 2) g 2 dL_define_2 rfl ?_
      refine j_iload_n (pc := 3) g 3 dL_define_3 rfl ?_
      refine j_callVH (E0 := "java/lang/IllegalStateException") (pc := 4) (na := 3) (As := [.int p1, .int p2, .int p3]) (rest := []) (q0 := 0) (ci := 9) (w' := kW aa ad t q2 rs) gh (eX8_define_ (rs := rs) h1) q_i_X8_define q_s_X8_define rfl rfl rfl q_c_X8_define q_l_L_45 q_n_X8 (by decide +kernel) rfl ⟨(Nat.le_of_ble_eq_true rfl), (Nat.le_of_ble_eq_true rfl)⟩ ⟨(Nat.le_of_ble_eq_true rfl), (Nat.le_of_ble_eq_true rfl)⟩ (Nat.le_of_ble_eq_true rfl) (.refl _) (.refl _) dL_define_4 rfl [⟨0, 7, 8, 22⟩] ⟨0, 7, 13, 24⟩ [] rfl (List.forall_mem_cons.mpr ⟨⟨by decide, "java/lang/IllegalArgumentException", q_k_L_22, by decide⟩, (fun _ h => absurd h List.not_mem_nil)⟩) (by decide) (by decide) q_k_L_24 q_g_3 (fun q9 => ?_)
      refine j_astore (L' := [(4, .ref q9), (0, .ref (ad 0)), (1, .int p1), (2, .int p2), (3, .int p3)]) (pc := 13) g dL_define_13 (Nat.le_of_ble_eq_true rfl) rfl ?_
      refine j_bipush (v := (-79)) (pc := 15) g dL_define_15 (by decide) ?_
      exact hE _ _ dL_define_17
    replace hf := gx_if c_1 hf
    cases hf
set_option maxRecDepth 100000 in
set_option maxHeartbeats 4000000 in
theorem hL_erase_ {D : va_G} {t : Nat → ClassId} {aa : gx_AA} {l : Launch} {ad : Nat → Nat} {rs : va_W} {σ : CS} {p1 : Int32} {p2 : Int32} {q : (Int32 × CS)} (hst : l.stackTraces = false) (hf : fL_erase σ p1 p2 = some q) : gx_CH D t (gx_E0 aa) l yL_erase cL_erase 4 (some .int) [(0, 6, 7, 22), (0, 6, 11, 53)] 9 153 1 6 [.ref (ad 0), .int p1, .int p2] (kW aa ad t σ rs) (kW aa ad t q.2 rs) (some (.int q.1)) := by
  unfold fL_erase at hf
  rcases gx_ors hf with ⟨r, h1, hf⟩ | ⟨-, hf⟩
  · cases hf
    refine gx_intro_h hst (by decide) (Nat.le_of_ble_eq_true rfl) (fun J gh hE => ?_)
    have g := gh.g
    show J 0 0 (kW aa ad t σ rs) 0 [(0, .ref (ad 0)), (1, .int p1), (2, .int p2)] []
    refine j_aload_n (pc := 0) g 0 dL_erase_0 rfl ?_
    refine j_iload_n (pc := 1) g 1 dL_erase_1 rfl ?_
    refine j_iload_n (pc := 2) g 2 dL_erase_2 rfl ?_
    refine j_callVi (pc := 3) (na := 2) (As := [.int p1, .int p2]) (rest := []) (q0 := 0) (ci := 9) g (cX8_erase_ (rs := rs) h1) q_i_X8_erase q_s_X8_erase rfl rfl rfl q_c_X8_erase q_l_L_49 q_n_X8 (by decide +kernel) rfl ⟨(Nat.le_of_ble_eq_true rfl), (Nat.le_of_ble_eq_true rfl)⟩ ⟨Nat.zero_le _, Nat.zero_le _⟩ (Nat.le_of_ble_eq_true rfl) (.refl _) (.refl _) dL_erase_3 ?_ rfl
    exact j_wid g (Nat.zero_le _) (Nat.zero_le _) (hE _ _ dL_erase_6)
  · obtain ⟨⟨c9, q2⟩, h1, hf⟩ := gx_bs hf
    by_cases c_0 : c9 = 2
    · replace hf := gx_it c_0 hf
      subst c_0
      cases hf
      refine gx_intro_h hst (by decide) (Nat.le_of_ble_eq_true rfl) (fun J gh hE => ?_)
      have g := gh.g
      show J 0 0 (kW aa ad t σ rs) 0 [(0, .ref (ad 0)), (1, .int p1), (2, .int p2)] []
      refine j_aload_n (pc := 0) g 0 dL_erase_0 rfl ?_
      refine j_iload_n (pc := 1) g 1 dL_erase_1 rfl ?_
      refine j_iload_n (pc := 2) g 2 dL_erase_2 rfl ?_
      refine j_callVH (E0 := "java/lang/IllegalArgumentException") (pc := 3) (na := 2) (As := [.int p1, .int p2]) (rest := []) (q0 := 0) (ci := 9) (w' := kW aa ad t q2 rs) gh (eX8_erase_ (rs := rs) h1) q_i_X8_erase q_s_X8_erase rfl rfl rfl q_c_X8_erase q_l_L_49 q_n_X8 (by decide +kernel) rfl ⟨(Nat.le_of_ble_eq_true rfl), (Nat.le_of_ble_eq_true rfl)⟩ ⟨(Nat.le_of_ble_eq_true rfl), (Nat.le_of_ble_eq_true rfl)⟩ (Nat.le_of_ble_eq_true rfl) (.refl _) (.refl _) dL_erase_3 rfl [] ⟨0, 6, 7, 22⟩ [⟨0, 6, 11, 53⟩] rfl (fun _ h => absurd h List.not_mem_nil) (by decide) (by decide) q_k_L_22 q_g_2 (fun q9 => ?_)
      refine j_astore_n (L' := [(3, .ref q9), (0, .ref (ad 0)), (1, .int p1), (2, .int p2)]) (pc := 7) g dL_erase_7 rfl (Nat.le_of_ble_eq_true rfl) rfl ?_
      refine j_bipush (v := (-78)) (pc := 8) g dL_erase_8 (by decide) ?_
      exact hE _ _ dL_erase_10
    replace hf := gx_if c_0 hf
    by_cases c_1 : c9 = 5
    · replace hf := gx_it c_1 hf
      subst c_1
      cases hf
      refine gx_intro_h hst (by decide) (Nat.le_of_ble_eq_true rfl) (fun J gh hE => ?_)
      have g := gh.g
      show J 0 0 (kW aa ad t σ rs) 0 [(0, .ref (ad 0)), (1, .int p1), (2, .int p2)] []
      refine j_aload_n (pc := 0) g 0 dL_erase_0 rfl ?_
      refine j_iload_n (pc := 1) g 1 dL_erase_1 rfl ?_
      refine j_iload_n (pc := 2) g 2 dL_erase_2 rfl ?_
      refine j_callVH (E0 := "java/util/NoSuchElementException") (pc := 3) (na := 2) (As := [.int p1, .int p2]) (rest := []) (q0 := 0) (ci := 9) (w' := kW aa ad t q2 rs) gh (eX8_erase_ (rs := rs) h1) q_i_X8_erase q_s_X8_erase rfl rfl rfl q_c_X8_erase q_l_L_49 q_n_X8 (by decide +kernel) rfl ⟨(Nat.le_of_ble_eq_true rfl), (Nat.le_of_ble_eq_true rfl)⟩ ⟨(Nat.le_of_ble_eq_true rfl), (Nat.le_of_ble_eq_true rfl)⟩ (Nat.le_of_ble_eq_true rfl) (.refl _) (.refl _) dL_erase_3 rfl [⟨0, 6, 7, 22⟩] ⟨0, 6, 11, 53⟩ [] rfl (List.forall_mem_cons.mpr ⟨⟨by decide, "java/lang/IllegalArgumentException", q_k_L_22, by decide⟩, (fun _ h => absurd h List.not_mem_nil)⟩) (by decide) (by decide) q_k_L_53 q_g_5 (fun q9 => ?_)
      refine j_astore_n (L' := [(3, .ref q9), (0, .ref (ad 0)), (1, .int p1), (2, .int p2)]) (pc := 11) g dL_erase_11 rfl (Nat.le_of_ble_eq_true rfl) rfl ?_
      refine j_bipush (v := (-75)) (pc := 12) g dL_erase_12 (by decide) ?_
      exact hE _ _ dL_erase_14
    replace hf := gx_if c_1 hf
    cases hf
set_option maxRecDepth 100000 in
set_option maxHeartbeats 4000000 in
theorem hL_rank_ {D : va_G} {t : Nat → ClassId} {aa : gx_AA} {l : Launch} {ad : Nat → Nat} {rs : va_W} {σ : CS} {p1 : Int32} {q : (Int32 × CS)} (hst : l.stackTraces = false) (hf : fL_rank σ p1 = some q) : gx_CH D t (gx_E0 aa) l yL_rank cL_rank 3 (some .int) [(0, 5, 6, 20)] 8 132 1 6 [.ref (ad 0), .int p1] (kW aa ad t σ rs) (kW aa ad t q.2 rs) (some (.int q.1)) := by
  unfold fL_rank at hf
  rcases gx_ors hf with ⟨r, h1, hf⟩ | ⟨-, hf⟩
  · cases hf
    refine gx_intro_h hst (by decide) (Nat.le_of_ble_eq_true rfl) (fun J gh hE => ?_)
    have g := gh.g
    show J 0 0 (kW aa ad t σ rs) 0 [(0, .ref (ad 0)), (1, .int p1)] []
    refine j_aload_n (pc := 0) g 0 dL_rank_0 rfl ?_
    refine j_iload_n (pc := 1) g 1 dL_rank_1 rfl ?_
    refine j_callVi (pc := 2) (na := 1) (As := [.int p1]) (rest := []) (q0 := 0) (ci := 9) g (cX8_rank_ (rs := rs) h1) q_i_X8_rank q_s_X8_rank rfl rfl rfl q_c_X8_rank q_l_L_55 q_n_X8 (by decide +kernel) rfl ⟨(Nat.le_of_ble_eq_true rfl), (Nat.le_of_ble_eq_true rfl)⟩ ⟨Nat.zero_le _, Nat.zero_le _⟩ (Nat.le_of_ble_eq_true rfl) (.refl _) (.refl _) dL_rank_2 ?_ rfl
    exact j_wid g (Nat.zero_le _) (Nat.zero_le _) (hE _ _ dL_rank_5)
  · obtain ⟨⟨c9, q2⟩, h1, hf⟩ := gx_bs hf
    by_cases c_0 : c9 = 1
    · replace hf := gx_it c_0 hf
      subst c_0
      cases hf
      refine gx_intro_h hst (by decide) (Nat.le_of_ble_eq_true rfl) (fun J gh hE => ?_)
      have g := gh.g
      show J 0 0 (kW aa ad t σ rs) 0 [(0, .ref (ad 0)), (1, .int p1)] []
      refine j_aload_n (pc := 0) g 0 dL_rank_0 rfl ?_
      refine j_iload_n (pc := 1) g 1 dL_rank_1 rfl ?_
      refine j_callVH (E0 := "java/lang/IndexOutOfBoundsException") (pc := 2) (na := 1) (As := [.int p1]) (rest := []) (q0 := 0) (ci := 9) (w' := kW aa ad t q2 rs) gh (eX8_rank_ (rs := rs) h1) q_i_X8_rank q_s_X8_rank rfl rfl rfl q_c_X8_rank q_l_L_55 q_n_X8 (by decide +kernel) rfl ⟨(Nat.le_of_ble_eq_true rfl), (Nat.le_of_ble_eq_true rfl)⟩ ⟨(Nat.le_of_ble_eq_true rfl), (Nat.le_of_ble_eq_true rfl)⟩ (Nat.le_of_ble_eq_true rfl) (.refl _) (.refl _) dL_rank_2 rfl [] ⟨0, 5, 6, 20⟩ [] rfl (fun _ h => absurd h List.not_mem_nil) (by decide) (by decide) q_k_L_20 q_g_1 (fun q9 => ?_)
      refine j_astore_n (L' := [(2, .ref q9), (0, .ref (ad 0)), (1, .int p1)]) (pc := 6) g dL_rank_6 rfl (Nat.le_of_ble_eq_true rfl) rfl ?_
      refine j_bipush (v := (-77)) (pc := 7) g dL_rank_7 (by decide) ?_
      exact hE _ _ dL_rank_9
    replace hf := gx_if c_0 hf
    cases hf
set_option maxRecDepth 100000 in
set_option maxHeartbeats 4000000 in
theorem hL_loyalty_ {D : va_G} {t : Nat → ClassId} {aa : gx_AA} {l : Launch} {ad : Nat → Nat} {rs : va_W} {σ : CS} {p1 : Int32} {q : (Int32 × CS)} (hst : l.stackTraces = false) (hf : fL_loyalty σ p1 = some q) : gx_CH D t (gx_E0 aa) l yL_loyalty cL_loyalty 3 (some .int) [(0, 5, 6, 20)] 8 132 1 6 [.ref (ad 0), .int p1] (kW aa ad t σ rs) (kW aa ad t q.2 rs) (some (.int q.1)) := by
  unfold fL_loyalty at hf
  rcases gx_ors hf with ⟨r, h1, hf⟩ | ⟨-, hf⟩
  · cases hf
    refine gx_intro_h hst (by decide) (Nat.le_of_ble_eq_true rfl) (fun J gh hE => ?_)
    have g := gh.g
    show J 0 0 (kW aa ad t σ rs) 0 [(0, .ref (ad 0)), (1, .int p1)] []
    refine j_aload_n (pc := 0) g 0 dL_loyalty_0 rfl ?_
    refine j_iload_n (pc := 1) g 1 dL_loyalty_1 rfl ?_
    refine j_callVi (pc := 2) (na := 1) (As := [.int p1]) (rest := []) (q0 := 0) (ci := 9) g (cX8_loyalty_ (rs := rs) h1) q_i_X8_loyalty q_s_X8_loyalty rfl rfl rfl q_c_X8_loyalty q_l_L_58 q_n_X8 (by decide +kernel) rfl ⟨(Nat.le_of_ble_eq_true rfl), (Nat.le_of_ble_eq_true rfl)⟩ ⟨Nat.zero_le _, Nat.zero_le _⟩ (Nat.le_of_ble_eq_true rfl) (.refl _) (.refl _) dL_loyalty_2 ?_ rfl
    exact j_wid g (Nat.zero_le _) (Nat.zero_le _) (hE _ _ dL_loyalty_5)
  · obtain ⟨⟨c9, q2⟩, h1, hf⟩ := gx_bs hf
    by_cases c_0 : c9 = 1
    · replace hf := gx_it c_0 hf
      subst c_0
      cases hf
      refine gx_intro_h hst (by decide) (Nat.le_of_ble_eq_true rfl) (fun J gh hE => ?_)
      have g := gh.g
      show J 0 0 (kW aa ad t σ rs) 0 [(0, .ref (ad 0)), (1, .int p1)] []
      refine j_aload_n (pc := 0) g 0 dL_loyalty_0 rfl ?_
      refine j_iload_n (pc := 1) g 1 dL_loyalty_1 rfl ?_
      refine j_callVH (E0 := "java/lang/IndexOutOfBoundsException") (pc := 2) (na := 1) (As := [.int p1]) (rest := []) (q0 := 0) (ci := 9) (w' := kW aa ad t q2 rs) gh (eX8_loyalty_ (rs := rs) h1) q_i_X8_loyalty q_s_X8_loyalty rfl rfl rfl q_c_X8_loyalty q_l_L_58 q_n_X8 (by decide +kernel) rfl ⟨(Nat.le_of_ble_eq_true rfl), (Nat.le_of_ble_eq_true rfl)⟩ ⟨(Nat.le_of_ble_eq_true rfl), (Nat.le_of_ble_eq_true rfl)⟩ (Nat.le_of_ble_eq_true rfl) (.refl _) (.refl _) dL_loyalty_2 rfl [] ⟨0, 5, 6, 20⟩ [] rfl (fun _ h => absurd h List.not_mem_nil) (by decide) (by decide) q_k_L_20 q_g_1 (fun q9 => ?_)
      refine j_astore_n (L' := [(2, .ref q9), (0, .ref (ad 0)), (1, .int p1)]) (pc := 6) g dL_loyalty_6 rfl (Nat.le_of_ble_eq_true rfl) rfl ?_
      refine j_bipush (v := (-77)) (pc := 7) g dL_loyalty_7 (by decide) ?_
      exact hE _ _ dL_loyalty_9
    replace hf := gx_if c_0 hf
    cases hf
set_option maxRecDepth 100000 in
set_option maxHeartbeats 4000000 in
theorem hL_refusals_ {D : va_G} {t : Nat → ClassId} {aa : gx_AA} {l : Launch} {ad : Nat → Nat} {rs : va_W} {σ : CS} {p1 : Int32} {q : (Int32 × CS)} (hst : l.stackTraces = false) (hf : fL_refusals σ p1 = some q) : gx_CH D t (gx_E0 aa) l yL_refusals cL_refusals 3 (some .int) [(0, 5, 6, 20)] 8 132 1 6 [.ref (ad 0), .int p1] (kW aa ad t σ rs) (kW aa ad t q.2 rs) (some (.int q.1)) := by
  unfold fL_refusals at hf
  rcases gx_ors hf with ⟨r, h1, hf⟩ | ⟨-, hf⟩
  · cases hf
    refine gx_intro_h hst (by decide) (Nat.le_of_ble_eq_true rfl) (fun J gh hE => ?_)
    have g := gh.g
    show J 0 0 (kW aa ad t σ rs) 0 [(0, .ref (ad 0)), (1, .int p1)] []
    refine j_aload_n (pc := 0) g 0 dL_refusals_0 rfl ?_
    refine j_iload_n (pc := 1) g 1 dL_refusals_1 rfl ?_
    refine j_callVi (pc := 2) (na := 1) (As := [.int p1]) (rest := []) (q0 := 0) (ci := 9) g (cX8_refusals_ (rs := rs) h1) q_i_X8_refusals q_s_X8_refusals rfl rfl rfl q_c_X8_refusals q_l_L_61 q_n_X8 (by decide +kernel) rfl ⟨(Nat.le_of_ble_eq_true rfl), (Nat.le_of_ble_eq_true rfl)⟩ ⟨Nat.zero_le _, Nat.zero_le _⟩ (Nat.le_of_ble_eq_true rfl) (.refl _) (.refl _) dL_refusals_2 ?_ rfl
    exact j_wid g (Nat.zero_le _) (Nat.zero_le _) (hE _ _ dL_refusals_5)
  · obtain ⟨⟨c9, q2⟩, h1, hf⟩ := gx_bs hf
    by_cases c_0 : c9 = 1
    · replace hf := gx_it c_0 hf
      subst c_0
      cases hf
      refine gx_intro_h hst (by decide) (Nat.le_of_ble_eq_true rfl) (fun J gh hE => ?_)
      have g := gh.g
      show J 0 0 (kW aa ad t σ rs) 0 [(0, .ref (ad 0)), (1, .int p1)] []
      refine j_aload_n (pc := 0) g 0 dL_refusals_0 rfl ?_
      refine j_iload_n (pc := 1) g 1 dL_refusals_1 rfl ?_
      refine j_callVH (E0 := "java/lang/IndexOutOfBoundsException") (pc := 2) (na := 1) (As := [.int p1]) (rest := []) (q0 := 0) (ci := 9) (w' := kW aa ad t q2 rs) gh (eX8_refusals_ (rs := rs) h1) q_i_X8_refusals q_s_X8_refusals rfl rfl rfl q_c_X8_refusals q_l_L_61 q_n_X8 (by decide +kernel) rfl ⟨(Nat.le_of_ble_eq_true rfl), (Nat.le_of_ble_eq_true rfl)⟩ ⟨(Nat.le_of_ble_eq_true rfl), (Nat.le_of_ble_eq_true rfl)⟩ (Nat.le_of_ble_eq_true rfl) (.refl _) (.refl _) dL_refusals_2 rfl [] ⟨0, 5, 6, 20⟩ [] rfl (fun _ h => absurd h List.not_mem_nil) (by decide) (by decide) q_k_L_20 q_g_1 (fun q9 => ?_)
      refine j_astore_n (L' := [(2, .ref q9), (0, .ref (ad 0)), (1, .int p1)]) (pc := 6) g dL_refusals_6 rfl (Nat.le_of_ble_eq_true rfl) rfl ?_
      refine j_bipush (v := (-77)) (pc := 7) g dL_refusals_7 (by decide) ?_
      exact hE _ _ dL_refusals_9
    replace hf := gx_if c_0 hf
    cases hf
set_option maxRecDepth 100000 in
set_option maxHeartbeats 4000000 in
theorem hL_superior_ {D : va_G} {t : Nat → ClassId} {aa : gx_AA} {l : Launch} {ad : Nat → Nat} {rs : va_W} {σ : CS} {p1 : Int32} {q : (Int32 × CS)} (hst : l.stackTraces = false) (hf : fL_superior σ p1 = some q) : gx_CH D t (gx_E0 aa) l yL_superior cL_superior 3 (some .int) [(0, 5, 6, 20), (0, 5, 10, 53)] 8 132 1 6 [.ref (ad 0), .int p1] (kW aa ad t σ rs) (kW aa ad t q.2 rs) (some (.int q.1)) := by
  unfold fL_superior at hf
  rcases gx_ors hf with ⟨r, h1, hf⟩ | ⟨-, hf⟩
  · cases hf
    refine gx_intro_h hst (by decide) (Nat.le_of_ble_eq_true rfl) (fun J gh hE => ?_)
    have g := gh.g
    show J 0 0 (kW aa ad t σ rs) 0 [(0, .ref (ad 0)), (1, .int p1)] []
    refine j_aload_n (pc := 0) g 0 dL_superior_0 rfl ?_
    refine j_iload_n (pc := 1) g 1 dL_superior_1 rfl ?_
    refine j_callVi (pc := 2) (na := 1) (As := [.int p1]) (rest := []) (q0 := 0) (ci := 9) g (cX8_superior_ (rs := rs) h1) q_i_X8_superior q_s_X8_superior rfl rfl rfl q_c_X8_superior q_l_L_64 q_n_X8 (by decide +kernel) rfl ⟨(Nat.le_of_ble_eq_true rfl), (Nat.le_of_ble_eq_true rfl)⟩ ⟨Nat.zero_le _, Nat.zero_le _⟩ (Nat.le_of_ble_eq_true rfl) (.refl _) (.refl _) dL_superior_2 ?_ rfl
    exact j_wid g (Nat.zero_le _) (Nat.zero_le _) (hE _ _ dL_superior_5)
  · obtain ⟨⟨c9, q2⟩, h1, hf⟩ := gx_bs hf
    by_cases c_0 : c9 = 1
    · replace hf := gx_it c_0 hf
      subst c_0
      cases hf
      refine gx_intro_h hst (by decide) (Nat.le_of_ble_eq_true rfl) (fun J gh hE => ?_)
      have g := gh.g
      show J 0 0 (kW aa ad t σ rs) 0 [(0, .ref (ad 0)), (1, .int p1)] []
      refine j_aload_n (pc := 0) g 0 dL_superior_0 rfl ?_
      refine j_iload_n (pc := 1) g 1 dL_superior_1 rfl ?_
      refine j_callVH (E0 := "java/lang/IndexOutOfBoundsException") (pc := 2) (na := 1) (As := [.int p1]) (rest := []) (q0 := 0) (ci := 9) (w' := kW aa ad t q2 rs) gh (eX8_superior_ (rs := rs) h1) q_i_X8_superior q_s_X8_superior rfl rfl rfl q_c_X8_superior q_l_L_64 q_n_X8 (by decide +kernel) rfl ⟨(Nat.le_of_ble_eq_true rfl), (Nat.le_of_ble_eq_true rfl)⟩ ⟨(Nat.le_of_ble_eq_true rfl), (Nat.le_of_ble_eq_true rfl)⟩ (Nat.le_of_ble_eq_true rfl) (.refl _) (.refl _) dL_superior_2 rfl [] ⟨0, 5, 6, 20⟩ [⟨0, 5, 10, 53⟩] rfl (fun _ h => absurd h List.not_mem_nil) (by decide) (by decide) q_k_L_20 q_g_1 (fun q9 => ?_)
      refine j_astore_n (L' := [(2, .ref q9), (0, .ref (ad 0)), (1, .int p1)]) (pc := 6) g dL_superior_6 rfl (Nat.le_of_ble_eq_true rfl) rfl ?_
      refine j_bipush (v := (-77)) (pc := 7) g dL_superior_7 (by decide) ?_
      exact hE _ _ dL_superior_9
    replace hf := gx_if c_0 hf
    by_cases c_1 : c9 = 5
    · replace hf := gx_it c_1 hf
      subst c_1
      cases hf
      refine gx_intro_h hst (by decide) (Nat.le_of_ble_eq_true rfl) (fun J gh hE => ?_)
      have g := gh.g
      show J 0 0 (kW aa ad t σ rs) 0 [(0, .ref (ad 0)), (1, .int p1)] []
      refine j_aload_n (pc := 0) g 0 dL_superior_0 rfl ?_
      refine j_iload_n (pc := 1) g 1 dL_superior_1 rfl ?_
      refine j_callVH (E0 := "java/util/NoSuchElementException") (pc := 2) (na := 1) (As := [.int p1]) (rest := []) (q0 := 0) (ci := 9) (w' := kW aa ad t q2 rs) gh (eX8_superior_ (rs := rs) h1) q_i_X8_superior q_s_X8_superior rfl rfl rfl q_c_X8_superior q_l_L_64 q_n_X8 (by decide +kernel) rfl ⟨(Nat.le_of_ble_eq_true rfl), (Nat.le_of_ble_eq_true rfl)⟩ ⟨(Nat.le_of_ble_eq_true rfl), (Nat.le_of_ble_eq_true rfl)⟩ (Nat.le_of_ble_eq_true rfl) (.refl _) (.refl _) dL_superior_2 rfl [⟨0, 5, 6, 20⟩] ⟨0, 5, 10, 53⟩ [] rfl (List.forall_mem_cons.mpr ⟨⟨by decide, "java/lang/IndexOutOfBoundsException", q_k_L_20, by decide⟩, (fun _ h => absurd h List.not_mem_nil)⟩) (by decide) (by decide) q_k_L_53 q_g_5 (fun q9 => ?_)
      refine j_astore_n (L' := [(2, .ref q9), (0, .ref (ad 0)), (1, .int p1)]) (pc := 10) g dL_superior_10 rfl (Nat.le_of_ble_eq_true rfl) rfl ?_
      refine j_bipush (v := (-75)) (pc := 11) g dL_superior_11 (by decide) ?_
      exact hE _ _ dL_superior_13
    replace hf := gx_if c_1 hf
    cases hf
set_option maxRecDepth 100000 in
set_option maxHeartbeats 4000000 in
theorem hL_subordinates_ {D : va_G} {t : Nat → ClassId} {aa : gx_AA} {l : Launch} {ad : Nat → Nat} {rs : va_W} {σ : CS} {p1 : Int32} {q : (Int32 × CS)} (hst : l.stackTraces = false) (hf : fL_subordinates σ p1 = some q) : gx_CH D t (gx_E0 aa) l yL_subordinates cL_subordinates 3 (some .int) [(0, 5, 6, 20)] 8 132 1 6 [.ref (ad 0), .int p1] (kW aa ad t σ rs) (kW aa ad t q.2 rs) (some (.int q.1)) := by
  unfold fL_subordinates at hf
  rcases gx_ors hf with ⟨r, h1, hf⟩ | ⟨-, hf⟩
  · cases hf
    refine gx_intro_h hst (by decide) (Nat.le_of_ble_eq_true rfl) (fun J gh hE => ?_)
    have g := gh.g
    show J 0 0 (kW aa ad t σ rs) 0 [(0, .ref (ad 0)), (1, .int p1)] []
    refine j_aload_n (pc := 0) g 0 dL_subordinates_0 rfl ?_
    refine j_iload_n (pc := 1) g 1 dL_subordinates_1 rfl ?_
    refine j_callVi (pc := 2) (na := 1) (As := [.int p1]) (rest := []) (q0 := 0) (ci := 9) g (cX8_subordinates_ (rs := rs) h1) q_i_X8_subordinates q_s_X8_subordinates rfl rfl rfl q_c_X8_subordinates q_l_L_67 q_n_X8 (by decide +kernel) rfl ⟨(Nat.le_of_ble_eq_true rfl), (Nat.le_of_ble_eq_true rfl)⟩ ⟨Nat.zero_le _, Nat.zero_le _⟩ (Nat.le_of_ble_eq_true rfl) (.refl _) (.refl _) dL_subordinates_2 ?_ rfl
    exact j_wid g (Nat.zero_le _) (Nat.zero_le _) (hE _ _ dL_subordinates_5)
  · obtain ⟨⟨c9, q2⟩, h1, hf⟩ := gx_bs hf
    by_cases c_0 : c9 = 1
    · replace hf := gx_it c_0 hf
      subst c_0
      cases hf
      refine gx_intro_h hst (by decide) (Nat.le_of_ble_eq_true rfl) (fun J gh hE => ?_)
      have g := gh.g
      show J 0 0 (kW aa ad t σ rs) 0 [(0, .ref (ad 0)), (1, .int p1)] []
      refine j_aload_n (pc := 0) g 0 dL_subordinates_0 rfl ?_
      refine j_iload_n (pc := 1) g 1 dL_subordinates_1 rfl ?_
      refine j_callVH (E0 := "java/lang/IndexOutOfBoundsException") (pc := 2) (na := 1) (As := [.int p1]) (rest := []) (q0 := 0) (ci := 9) (w' := kW aa ad t q2 rs) gh (eX8_subordinates_ (rs := rs) h1) q_i_X8_subordinates q_s_X8_subordinates rfl rfl rfl q_c_X8_subordinates q_l_L_67 q_n_X8 (by decide +kernel) rfl ⟨(Nat.le_of_ble_eq_true rfl), (Nat.le_of_ble_eq_true rfl)⟩ ⟨(Nat.le_of_ble_eq_true rfl), (Nat.le_of_ble_eq_true rfl)⟩ (Nat.le_of_ble_eq_true rfl) (.refl _) (.refl _) dL_subordinates_2 rfl [] ⟨0, 5, 6, 20⟩ [] rfl (fun _ h => absurd h List.not_mem_nil) (by decide) (by decide) q_k_L_20 q_g_1 (fun q9 => ?_)
      refine j_astore_n (L' := [(2, .ref q9), (0, .ref (ad 0)), (1, .int p1)]) (pc := 6) g dL_subordinates_6 rfl (Nat.le_of_ble_eq_true rfl) rfl ?_
      refine j_bipush (v := (-77)) (pc := 7) g dL_subordinates_7 (by decide) ?_
      exact hE _ _ dL_subordinates_9
    replace hf := gx_if c_0 hf
    cases hf
set_option maxRecDepth 100000 in
set_option maxHeartbeats 4000000 in
theorem hL_depth_ {D : va_G} {t : Nat → ClassId} {aa : gx_AA} {l : Launch} {ad : Nat → Nat} {rs : va_W} {σ : CS} {p1 : Int32} {q : (Int32 × CS)} (hst : l.stackTraces = false) (hf : fL_depth σ p1 = some q) : gx_CH D t (gx_E0 aa) l yL_depth cL_depth 3 (some .int) [(0, 5, 6, 20)] 8 132 1 6 [.ref (ad 0), .int p1] (kW aa ad t σ rs) (kW aa ad t q.2 rs) (some (.int q.1)) := by
  unfold fL_depth at hf
  rcases gx_ors hf with ⟨r, h1, hf⟩ | ⟨-, hf⟩
  · cases hf
    refine gx_intro_h hst (by decide) (Nat.le_of_ble_eq_true rfl) (fun J gh hE => ?_)
    have g := gh.g
    show J 0 0 (kW aa ad t σ rs) 0 [(0, .ref (ad 0)), (1, .int p1)] []
    refine j_aload_n (pc := 0) g 0 dL_depth_0 rfl ?_
    refine j_iload_n (pc := 1) g 1 dL_depth_1 rfl ?_
    refine j_callVi (pc := 2) (na := 1) (As := [.int p1]) (rest := []) (q0 := 0) (ci := 9) g (cX8_depth_ (rs := rs) h1) q_i_X8_depth q_s_X8_depth rfl rfl rfl q_c_X8_depth q_l_L_70 q_n_X8 (by decide +kernel) rfl ⟨(Nat.le_of_ble_eq_true rfl), (Nat.le_of_ble_eq_true rfl)⟩ ⟨Nat.zero_le _, Nat.zero_le _⟩ (Nat.le_of_ble_eq_true rfl) (.refl _) (.refl _) dL_depth_2 ?_ rfl
    exact j_wid g (Nat.zero_le _) (Nat.zero_le _) (hE _ _ dL_depth_5)
  · obtain ⟨⟨c9, q2⟩, h1, hf⟩ := gx_bs hf
    by_cases c_0 : c9 = 1
    · replace hf := gx_it c_0 hf
      subst c_0
      cases hf
      refine gx_intro_h hst (by decide) (Nat.le_of_ble_eq_true rfl) (fun J gh hE => ?_)
      have g := gh.g
      show J 0 0 (kW aa ad t σ rs) 0 [(0, .ref (ad 0)), (1, .int p1)] []
      refine j_aload_n (pc := 0) g 0 dL_depth_0 rfl ?_
      refine j_iload_n (pc := 1) g 1 dL_depth_1 rfl ?_
      refine j_callVH (E0 := "java/lang/IndexOutOfBoundsException") (pc := 2) (na := 1) (As := [.int p1]) (rest := []) (q0 := 0) (ci := 9) (w' := kW aa ad t q2 rs) gh (eX8_depth_ (rs := rs) h1) q_i_X8_depth q_s_X8_depth rfl rfl rfl q_c_X8_depth q_l_L_70 q_n_X8 (by decide +kernel) rfl ⟨(Nat.le_of_ble_eq_true rfl), (Nat.le_of_ble_eq_true rfl)⟩ ⟨(Nat.le_of_ble_eq_true rfl), (Nat.le_of_ble_eq_true rfl)⟩ (Nat.le_of_ble_eq_true rfl) (.refl _) (.refl _) dL_depth_2 rfl [] ⟨0, 5, 6, 20⟩ [] rfl (fun _ h => absurd h List.not_mem_nil) (by decide) (by decide) q_k_L_20 q_g_1 (fun q9 => ?_)
      refine j_astore_n (L' := [(2, .ref q9), (0, .ref (ad 0)), (1, .int p1)]) (pc := 6) g dL_depth_6 rfl (Nat.le_of_ble_eq_true rfl) rfl ?_
      refine j_bipush (v := (-77)) (pc := 7) g dL_depth_7 (by decide) ?_
      exact hE _ _ dL_depth_9
    replace hf := gx_if c_0 hf
    cases hf
set_option maxRecDepth 100000 in
set_option maxHeartbeats 4000000 in
theorem hL_depthFromTop_ {D : va_G} {t : Nat → ClassId} {aa : gx_AA} {l : Launch} {ad : Nat → Nat} {rs : va_W} {σ : CS} {p1 : Int32} {q : (Int32 × CS)} (hst : l.stackTraces = false) (hf : fL_depthFromTop σ p1 = some q) : gx_CH D t (gx_E0 aa) l yL_depthFromTop cL_depthFromTop 3 (some .int) [(0, 5, 6, 20)] 18 446 1 6 [.ref (ad 0), .int p1] (kW aa ad t σ rs) (kW aa ad t q.2 rs) (some (.int q.1)) := by
  unfold fL_depthFromTop at hf
  rcases gx_ors hf with ⟨r, h1, hf⟩ | ⟨-, hf⟩
  · cases hf
    refine gx_intro_h hst (by decide) (Nat.le_of_ble_eq_true rfl) (fun J gh hE => ?_)
    have g := gh.g
    show J 0 0 (kW aa ad t σ rs) 0 [(0, .ref (ad 0)), (1, .int p1)] []
    refine j_aload_n (pc := 0) g 0 dL_depthFromTop_0 rfl ?_
    refine j_iload_n (pc := 1) g 1 dL_depthFromTop_1 rfl ?_
    refine j_callVi (pc := 2) (na := 1) (As := [.int p1]) (rest := []) (q0 := 0) (ci := 9) g (cX8_depthFromTop_ (rs := rs) h1) q_i_X8_depthFromTop q_s_X8_depthFromTop rfl rfl rfl q_c_X8_depthFromTop q_l_L_73 q_n_X8 (by decide +kernel) rfl ⟨(Nat.le_of_ble_eq_true rfl), (Nat.le_of_ble_eq_true rfl)⟩ ⟨Nat.zero_le _, Nat.zero_le _⟩ (Nat.le_of_ble_eq_true rfl) (.refl _) (.refl _) dL_depthFromTop_2 ?_ rfl
    exact j_wid g (Nat.zero_le _) (Nat.zero_le _) (hE _ _ dL_depthFromTop_5)
  · obtain ⟨⟨c9, q2⟩, h1, hf⟩ := gx_bs hf
    by_cases c_0 : c9 = 1
    · replace hf := gx_it c_0 hf
      subst c_0
      cases hf
      refine gx_intro_h hst (by decide) (Nat.le_of_ble_eq_true rfl) (fun J gh hE => ?_)
      have g := gh.g
      show J 0 0 (kW aa ad t σ rs) 0 [(0, .ref (ad 0)), (1, .int p1)] []
      refine j_aload_n (pc := 0) g 0 dL_depthFromTop_0 rfl ?_
      refine j_iload_n (pc := 1) g 1 dL_depthFromTop_1 rfl ?_
      refine j_callVH (E0 := "java/lang/IndexOutOfBoundsException") (pc := 2) (na := 1) (As := [.int p1]) (rest := []) (q0 := 0) (ci := 9) (w' := kW aa ad t q2 rs) gh (eX8_depthFromTop_ (rs := rs) h1) q_i_X8_depthFromTop q_s_X8_depthFromTop rfl rfl rfl q_c_X8_depthFromTop q_l_L_73 q_n_X8 (by decide +kernel) rfl ⟨(Nat.le_of_ble_eq_true rfl), (Nat.le_of_ble_eq_true rfl)⟩ ⟨(Nat.le_of_ble_eq_true rfl), (Nat.le_of_ble_eq_true rfl)⟩ (Nat.le_of_ble_eq_true rfl) (.refl _) (.refl _) dL_depthFromTop_2 rfl [] ⟨0, 5, 6, 20⟩ [] rfl (fun _ h => absurd h List.not_mem_nil) (by decide) (by decide) q_k_L_20 q_g_1 (fun q9 => ?_)
      refine j_astore_n (L' := [(2, .ref q9), (0, .ref (ad 0)), (1, .int p1)]) (pc := 6) g dL_depthFromTop_6 rfl (Nat.le_of_ble_eq_true rfl) rfl ?_
      refine j_bipush (v := (-77)) (pc := 7) g dL_depthFromTop_7 (by decide) ?_
      exact hE _ _ dL_depthFromTop_9
    replace hf := gx_if c_0 hf
    cases hf
set_option maxRecDepth 100000 in
set_option maxHeartbeats 4000000 in
theorem hL_commandSize_ {D : va_G} {t : Nat → ClassId} {aa : gx_AA} {l : Launch} {ad : Nat → Nat} {rs : va_W} {σ : CS} {p1 : Int32} {q : (Int32 × CS)} (hst : l.stackTraces = false) (hf : fL_commandSize σ p1 = some q) : gx_CH D t (gx_E0 aa) l yL_commandSize cL_commandSize 3 (some .int) [(0, 5, 6, 20)] 18 429 1 6 [.ref (ad 0), .int p1] (kW aa ad t σ rs) (kW aa ad t q.2 rs) (some (.int q.1)) := by
  unfold fL_commandSize at hf
  rcases gx_ors hf with ⟨r, h1, hf⟩ | ⟨-, hf⟩
  · cases hf
    refine gx_intro_h hst (by decide) (Nat.le_of_ble_eq_true rfl) (fun J gh hE => ?_)
    have g := gh.g
    show J 0 0 (kW aa ad t σ rs) 0 [(0, .ref (ad 0)), (1, .int p1)] []
    refine j_aload_n (pc := 0) g 0 dL_commandSize_0 rfl ?_
    refine j_iload_n (pc := 1) g 1 dL_commandSize_1 rfl ?_
    refine j_callVi (pc := 2) (na := 1) (As := [.int p1]) (rest := []) (q0 := 0) (ci := 9) g (cX8_commandSize_ (rs := rs) h1) q_i_X8_commandSize q_s_X8_commandSize rfl rfl rfl q_c_X8_commandSize q_l_L_76 q_n_X8 (by decide +kernel) rfl ⟨(Nat.le_of_ble_eq_true rfl), (Nat.le_of_ble_eq_true rfl)⟩ ⟨Nat.zero_le _, Nat.zero_le _⟩ (Nat.le_of_ble_eq_true rfl) (.refl _) (.refl _) dL_commandSize_2 ?_ rfl
    exact j_wid g (Nat.zero_le _) (Nat.zero_le _) (hE _ _ dL_commandSize_5)
  · obtain ⟨⟨c9, q2⟩, h1, hf⟩ := gx_bs hf
    by_cases c_0 : c9 = 1
    · replace hf := gx_it c_0 hf
      subst c_0
      cases hf
      refine gx_intro_h hst (by decide) (Nat.le_of_ble_eq_true rfl) (fun J gh hE => ?_)
      have g := gh.g
      show J 0 0 (kW aa ad t σ rs) 0 [(0, .ref (ad 0)), (1, .int p1)] []
      refine j_aload_n (pc := 0) g 0 dL_commandSize_0 rfl ?_
      refine j_iload_n (pc := 1) g 1 dL_commandSize_1 rfl ?_
      refine j_callVH (E0 := "java/lang/IndexOutOfBoundsException") (pc := 2) (na := 1) (As := [.int p1]) (rest := []) (q0 := 0) (ci := 9) (w' := kW aa ad t q2 rs) gh (eX8_commandSize_ (rs := rs) h1) q_i_X8_commandSize q_s_X8_commandSize rfl rfl rfl q_c_X8_commandSize q_l_L_76 q_n_X8 (by decide +kernel) rfl ⟨(Nat.le_of_ble_eq_true rfl), (Nat.le_of_ble_eq_true rfl)⟩ ⟨(Nat.le_of_ble_eq_true rfl), (Nat.le_of_ble_eq_true rfl)⟩ (Nat.le_of_ble_eq_true rfl) (.refl _) (.refl _) dL_commandSize_2 rfl [] ⟨0, 5, 6, 20⟩ [] rfl (fun _ h => absurd h List.not_mem_nil) (by decide) (by decide) q_k_L_20 q_g_1 (fun q9 => ?_)
      refine j_astore_n (L' := [(2, .ref q9), (0, .ref (ad 0)), (1, .int p1)]) (pc := 6) g dL_commandSize_6 rfl (Nat.le_of_ble_eq_true rfl) rfl ?_
      refine j_bipush (v := (-77)) (pc := 7) g dL_commandSize_7 (by decide) ?_
      exact hE _ _ dL_commandSize_9
    replace hf := gx_if c_0 hf
    cases hf
set_option maxRecDepth 100000 in
set_option maxHeartbeats 4000000 in
theorem hL_commandSizeByCounting_ {D : va_G} {t : Nat → ClassId} {aa : gx_AA} {l : Launch} {ad : Nat → Nat} {rs : va_W} {σ : CS} {p1 : Int32} {q : (Int32 × CS)} (hst : l.stackTraces = false) (hf : fL_commandSizeByCounting σ p1 = some q) : gx_CH D t (gx_E0 aa) l yL_commandSizeByCounting cL_commandSizeByCounting 3 (some .int) [(0, 5, 6, 20)] 8 132 1 6 [.ref (ad 0), .int p1] (kW aa ad t σ rs) (kW aa ad t q.2 rs) (some (.int q.1)) := by
  unfold fL_commandSizeByCounting at hf
  rcases gx_ors hf with ⟨r, h1, hf⟩ | ⟨-, hf⟩
  · cases hf
    refine gx_intro_h hst (by decide) (Nat.le_of_ble_eq_true rfl) (fun J gh hE => ?_)
    have g := gh.g
    show J 0 0 (kW aa ad t σ rs) 0 [(0, .ref (ad 0)), (1, .int p1)] []
    refine j_aload_n (pc := 0) g 0 dL_commandSizeByCounting_0 rfl ?_
    refine j_iload_n (pc := 1) g 1 dL_commandSizeByCounting_1 rfl ?_
    refine j_callVi (pc := 2) (na := 1) (As := [.int p1]) (rest := []) (q0 := 0) (ci := 9) g (cX8_commandSizeByCounting_ (rs := rs) h1) q_i_X8_commandSizeByCounting q_s_X8_commandSizeByCounting rfl rfl rfl q_c_X8_commandSizeByCounting q_l_L_79 q_n_X8 (by decide +kernel) rfl ⟨(Nat.le_of_ble_eq_true rfl), (Nat.le_of_ble_eq_true rfl)⟩ ⟨Nat.zero_le _, Nat.zero_le _⟩ (Nat.le_of_ble_eq_true rfl) (.refl _) (.refl _) dL_commandSizeByCounting_2 ?_ rfl
    exact j_wid g (Nat.zero_le _) (Nat.zero_le _) (hE _ _ dL_commandSizeByCounting_5)
  · obtain ⟨⟨c9, q2⟩, h1, hf⟩ := gx_bs hf
    by_cases c_0 : c9 = 1
    · replace hf := gx_it c_0 hf
      subst c_0
      cases hf
      refine gx_intro_h hst (by decide) (Nat.le_of_ble_eq_true rfl) (fun J gh hE => ?_)
      have g := gh.g
      show J 0 0 (kW aa ad t σ rs) 0 [(0, .ref (ad 0)), (1, .int p1)] []
      refine j_aload_n (pc := 0) g 0 dL_commandSizeByCounting_0 rfl ?_
      refine j_iload_n (pc := 1) g 1 dL_commandSizeByCounting_1 rfl ?_
      refine j_callVH (E0 := "java/lang/IndexOutOfBoundsException") (pc := 2) (na := 1) (As := [.int p1]) (rest := []) (q0 := 0) (ci := 9) (w' := kW aa ad t q2 rs) gh (eX8_commandSizeByCounting_ (rs := rs) h1) q_i_X8_commandSizeByCounting q_s_X8_commandSizeByCounting rfl rfl rfl q_c_X8_commandSizeByCounting q_l_L_79 q_n_X8 (by decide +kernel) rfl ⟨(Nat.le_of_ble_eq_true rfl), (Nat.le_of_ble_eq_true rfl)⟩ ⟨(Nat.le_of_ble_eq_true rfl), (Nat.le_of_ble_eq_true rfl)⟩ (Nat.le_of_ble_eq_true rfl) (.refl _) (.refl _) dL_commandSizeByCounting_2 rfl [] ⟨0, 5, 6, 20⟩ [] rfl (fun _ h => absurd h List.not_mem_nil) (by decide) (by decide) q_k_L_20 q_g_1 (fun q9 => ?_)
      refine j_astore_n (L' := [(2, .ref q9), (0, .ref (ad 0)), (1, .int p1)]) (pc := 6) g dL_commandSizeByCounting_6 rfl (Nat.le_of_ble_eq_true rfl) rfl ?_
      refine j_bipush (v := (-77)) (pc := 7) g dL_commandSizeByCounting_7 (by decide) ?_
      exact hE _ _ dL_commandSizeByCounting_9
    replace hf := gx_if c_0 hf
    cases hf
set_option maxRecDepth 100000 in
set_option maxHeartbeats 4000000 in
theorem hL_isAbove_ {D : va_G} {t : Nat → ClassId} {aa : gx_AA} {l : Launch} {ad : Nat → Nat} {rs : va_W} {σ : CS} {p1 : Int32} {p2 : Int32} {q : (Int32 × CS)} (hst : l.stackTraces = false) (hf : fL_isAbove σ p1 p2 = some q) : gx_CH D t (gx_E0 aa) l yL_isAbove cL_isAbove 4 (some .int) [(0, 14, 15, 20)] 8 133 1 6 [.ref (ad 0), .int p1, .int p2] (kW aa ad t σ rs) (kW aa ad t q.2 rs) (some (.int q.1)) := by
  unfold fL_isAbove at hf
  rcases gx_ors hf with ⟨r, h1, hf⟩ | ⟨-, hf⟩
  · by_cases c9 : r.1 = 0
    · replace hf := gx_it c9 hf
      cases hf
      refine gx_intro_h hst (by decide) (Nat.le_of_ble_eq_true rfl) (fun J gh hE => ?_)
      have g := gh.g
      show J 0 0 (kW aa ad t σ rs) 0 [(0, .ref (ad 0)), (1, .int p1), (2, .int p2)] []
      refine j_aload_n (pc := 0) g 0 dL_isAbove_0 rfl ?_
      refine j_iload_n (pc := 1) g 1 dL_isAbove_1 rfl ?_
      refine j_iload_n (pc := 2) g 2 dL_isAbove_2 rfl ?_
      refine j_callVi (pc := 3) (na := 2) (As := [.int p1, .int p2]) (rest := []) (q0 := 0) (ci := 9) g (cX8_isAbove_ (rs := rs) h1) q_i_X8_isAbove q_s_X8_isAbove rfl rfl rfl q_c_X8_isAbove q_l_L_82 q_n_X8 (by decide +kernel) rfl ⟨(Nat.le_of_ble_eq_true rfl), (Nat.le_of_ble_eq_true rfl)⟩ ⟨Nat.zero_le _, Nat.zero_le _⟩ (Nat.le_of_ble_eq_true rfl) (.refl _) (.refl _) dL_isAbove_3 ?_ rfl
      refine j_if_eq (tgt := 13) (pc := 6) g dL_isAbove_6 (by decide) (fun _ => ?_) (fun h => absurd c9 h)
      refine j_iconst (v := 0) (pc := 13) g dL_isAbove_13 (by decide) ?_
      exact j_wid g (Nat.zero_le _) (Nat.zero_le _) (hE _ _ dL_isAbove_14)
    · replace hf := gx_if c9 hf
      cases hf
      refine gx_intro_h hst (by decide) (Nat.le_of_ble_eq_true rfl) (fun J gh hE => ?_)
      have g := gh.g
      show J 0 0 (kW aa ad t σ rs) 0 [(0, .ref (ad 0)), (1, .int p1), (2, .int p2)] []
      refine j_aload_n (pc := 0) g 0 dL_isAbove_0 rfl ?_
      refine j_iload_n (pc := 1) g 1 dL_isAbove_1 rfl ?_
      refine j_iload_n (pc := 2) g 2 dL_isAbove_2 rfl ?_
      refine j_callVi (pc := 3) (na := 2) (As := [.int p1, .int p2]) (rest := []) (q0 := 0) (ci := 9) g (cX8_isAbove_ (rs := rs) h1) q_i_X8_isAbove q_s_X8_isAbove rfl rfl rfl q_c_X8_isAbove q_l_L_82 q_n_X8 (by decide +kernel) rfl ⟨(Nat.le_of_ble_eq_true rfl), (Nat.le_of_ble_eq_true rfl)⟩ ⟨Nat.zero_le _, Nat.zero_le _⟩ (Nat.le_of_ble_eq_true rfl) (.refl _) (.refl _) dL_isAbove_3 ?_ rfl
      refine j_if_eq (tgt := 13) (pc := 6) g dL_isAbove_6 (by decide) (fun h => absurd h c9) (fun _ => ?_)
      refine j_iconst (v := 1) (pc := 9) g dL_isAbove_9 (by decide) ?_
      refine j_goto (tgt := 14) (pc := 10) g dL_isAbove_10 (by decide) ?_
      exact j_wid g (Nat.zero_le _) (Nat.zero_le _) (hE _ _ dL_isAbove_14)
  · obtain ⟨⟨c9, q2⟩, h1, hf⟩ := gx_bs hf
    by_cases c_0 : c9 = 1
    · replace hf := gx_it c_0 hf
      subst c_0
      cases hf
      refine gx_intro_h hst (by decide) (Nat.le_of_ble_eq_true rfl) (fun J gh hE => ?_)
      have g := gh.g
      show J 0 0 (kW aa ad t σ rs) 0 [(0, .ref (ad 0)), (1, .int p1), (2, .int p2)] []
      refine j_aload_n (pc := 0) g 0 dL_isAbove_0 rfl ?_
      refine j_iload_n (pc := 1) g 1 dL_isAbove_1 rfl ?_
      refine j_iload_n (pc := 2) g 2 dL_isAbove_2 rfl ?_
      refine j_callVH (E0 := "java/lang/IndexOutOfBoundsException") (pc := 3) (na := 2) (As := [.int p1, .int p2]) (rest := []) (q0 := 0) (ci := 9) (w' := kW aa ad t q2 rs) gh (eX8_isAbove_ (rs := rs) h1) q_i_X8_isAbove q_s_X8_isAbove rfl rfl rfl q_c_X8_isAbove q_l_L_82 q_n_X8 (by decide +kernel) rfl ⟨(Nat.le_of_ble_eq_true rfl), (Nat.le_of_ble_eq_true rfl)⟩ ⟨(Nat.le_of_ble_eq_true rfl), (Nat.le_of_ble_eq_true rfl)⟩ (Nat.le_of_ble_eq_true rfl) (.refl _) (.refl _) dL_isAbove_3 rfl [] ⟨0, 14, 15, 20⟩ [] rfl (fun _ h => absurd h List.not_mem_nil) (by decide) (by decide) q_k_L_20 q_g_1 (fun q9 => ?_)
      refine j_astore_n (L' := [(3, .ref q9), (0, .ref (ad 0)), (1, .int p1), (2, .int p2)]) (pc := 15) g dL_isAbove_15 rfl (Nat.le_of_ble_eq_true rfl) rfl ?_
      refine j_bipush (v := (-77)) (pc := 16) g dL_isAbove_16 (by decide) ?_
      exact hE _ _ dL_isAbove_18
    replace hf := gx_if c_0 hf
    cases hf
set_option maxRecDepth 100000 in
set_option maxHeartbeats 4000000 in
theorem hL_commonSuperior_ {D : va_G} {t : Nat → ClassId} {aa : gx_AA} {l : Launch} {ad : Nat → Nat} {rs : va_W} {σ : CS} {p1 : Int32} {p2 : Int32} {q : (Int32 × CS)} (hst : l.stackTraces = false) (hf : fL_commonSuperior σ p1 p2 = some q) : gx_CH D t (gx_E0 aa) l yL_commonSuperior cL_commonSuperior 4 (some .int) [(0, 6, 7, 20)] 8 133 1 6 [.ref (ad 0), .int p1, .int p2] (kW aa ad t σ rs) (kW aa ad t q.2 rs) (some (.int q.1)) := by
  unfold fL_commonSuperior at hf
  rcases gx_ors hf with ⟨r, h1, hf⟩ | ⟨-, hf⟩
  · cases hf
    refine gx_intro_h hst (by decide) (Nat.le_of_ble_eq_true rfl) (fun J gh hE => ?_)
    have g := gh.g
    show J 0 0 (kW aa ad t σ rs) 0 [(0, .ref (ad 0)), (1, .int p1), (2, .int p2)] []
    refine j_aload_n (pc := 0) g 0 dL_commonSuperior_0 rfl ?_
    refine j_iload_n (pc := 1) g 1 dL_commonSuperior_1 rfl ?_
    refine j_iload_n (pc := 2) g 2 dL_commonSuperior_2 rfl ?_
    refine j_callVi (pc := 3) (na := 2) (As := [.int p1, .int p2]) (rest := []) (q0 := 0) (ci := 9) g (cX8_commonSuperior_ (rs := rs) h1) q_i_X8_commonSuperior q_s_X8_commonSuperior rfl rfl rfl q_c_X8_commonSuperior q_l_L_86 q_n_X8 (by decide +kernel) rfl ⟨(Nat.le_of_ble_eq_true rfl), (Nat.le_of_ble_eq_true rfl)⟩ ⟨Nat.zero_le _, Nat.zero_le _⟩ (Nat.le_of_ble_eq_true rfl) (.refl _) (.refl _) dL_commonSuperior_3 ?_ rfl
    exact j_wid g (Nat.zero_le _) (Nat.zero_le _) (hE _ _ dL_commonSuperior_6)
  · obtain ⟨⟨c9, q2⟩, h1, hf⟩ := gx_bs hf
    by_cases c_0 : c9 = 1
    · replace hf := gx_it c_0 hf
      subst c_0
      cases hf
      refine gx_intro_h hst (by decide) (Nat.le_of_ble_eq_true rfl) (fun J gh hE => ?_)
      have g := gh.g
      show J 0 0 (kW aa ad t σ rs) 0 [(0, .ref (ad 0)), (1, .int p1), (2, .int p2)] []
      refine j_aload_n (pc := 0) g 0 dL_commonSuperior_0 rfl ?_
      refine j_iload_n (pc := 1) g 1 dL_commonSuperior_1 rfl ?_
      refine j_iload_n (pc := 2) g 2 dL_commonSuperior_2 rfl ?_
      refine j_callVH (E0 := "java/lang/IndexOutOfBoundsException") (pc := 3) (na := 2) (As := [.int p1, .int p2]) (rest := []) (q0 := 0) (ci := 9) (w' := kW aa ad t q2 rs) gh (eX8_commonSuperior_ (rs := rs) h1) q_i_X8_commonSuperior q_s_X8_commonSuperior rfl rfl rfl q_c_X8_commonSuperior q_l_L_86 q_n_X8 (by decide +kernel) rfl ⟨(Nat.le_of_ble_eq_true rfl), (Nat.le_of_ble_eq_true rfl)⟩ ⟨(Nat.le_of_ble_eq_true rfl), (Nat.le_of_ble_eq_true rfl)⟩ (Nat.le_of_ble_eq_true rfl) (.refl _) (.refl _) dL_commonSuperior_3 rfl [] ⟨0, 6, 7, 20⟩ [] rfl (fun _ h => absurd h List.not_mem_nil) (by decide) (by decide) q_k_L_20 q_g_1 (fun q9 => ?_)
      refine j_astore_n (L' := [(3, .ref q9), (0, .ref (ad 0)), (1, .int p1), (2, .int p2)]) (pc := 7) g dL_commonSuperior_7 rfl (Nat.le_of_ble_eq_true rfl) rfl ?_
      refine j_bipush (v := (-77)) (pc := 8) g dL_commonSuperior_8 (by decide) ?_
      exact hE _ _ dL_commonSuperior_10
    replace hf := gx_if c_0 hf
    cases hf
set_option maxRecDepth 100000 in
set_option maxHeartbeats 4000000 in
theorem hL_hoursFor_ {D : va_G} {t : Nat → ClassId} {aa : gx_AA} {l : Launch} {ad : Nat → Nat} {rs : va_W} {σ : CS} {p1 : Int32} {p2 : Int32} {q : (Int32 × CS)} (hst : l.stackTraces = false) (hf : fL_hoursFor σ p1 p2 = some q) : gx_CH D t (gx_E0 aa) l yL_hoursFor cL_hoursFor 4 (some .int) [(0, 6, 7, 20), (0, 6, 11, 24)] 8 134 1 6 [.ref (ad 0), .int p1, .int p2] (kW aa ad t σ rs) (kW aa ad t q.2 rs) (some (.int q.1)) := by
  unfold fL_hoursFor at hf
  rcases gx_ors hf with ⟨r, h1, hf⟩ | ⟨-, hf⟩
  · cases hf
    refine gx_intro_h hst (by decide) (Nat.le_of_ble_eq_true rfl) (fun J gh hE => ?_)
    have g := gh.g
    show J 0 0 (kW aa ad t σ rs) 0 [(0, .ref (ad 0)), (1, .int p1), (2, .int p2)] []
    refine j_aload_n (pc := 0) g 0 dL_hoursFor_0 rfl ?_
    refine j_iload_n (pc := 1) g 1 dL_hoursFor_1 rfl ?_
    refine j_iload_n (pc := 2) g 2 dL_hoursFor_2 rfl ?_
    refine j_callVi (pc := 3) (na := 2) (As := [.int p1, .int p2]) (rest := []) (q0 := 0) (ci := 9) g (cX8_hoursFor_ (rs := rs) h1) q_i_X8_hoursFor q_s_X8_hoursFor rfl rfl rfl q_c_X8_hoursFor q_l_L_89 q_n_X8 (by decide +kernel) rfl ⟨(Nat.le_of_ble_eq_true rfl), (Nat.le_of_ble_eq_true rfl)⟩ ⟨Nat.zero_le _, Nat.zero_le _⟩ (Nat.le_of_ble_eq_true rfl) (.refl _) (.refl _) dL_hoursFor_3 ?_ rfl
    exact j_wid g (Nat.zero_le _) (Nat.zero_le _) (hE _ _ dL_hoursFor_6)
  · obtain ⟨⟨c9, q2⟩, h1, hf⟩ := gx_bs hf
    by_cases c_0 : c9 = 1
    · replace hf := gx_it c_0 hf
      subst c_0
      cases hf
      refine gx_intro_h hst (by decide) (Nat.le_of_ble_eq_true rfl) (fun J gh hE => ?_)
      have g := gh.g
      show J 0 0 (kW aa ad t σ rs) 0 [(0, .ref (ad 0)), (1, .int p1), (2, .int p2)] []
      refine j_aload_n (pc := 0) g 0 dL_hoursFor_0 rfl ?_
      refine j_iload_n (pc := 1) g 1 dL_hoursFor_1 rfl ?_
      refine j_iload_n (pc := 2) g 2 dL_hoursFor_2 rfl ?_
      refine j_callVH (E0 := "java/lang/IndexOutOfBoundsException") (pc := 3) (na := 2) (As := [.int p1, .int p2]) (rest := []) (q0 := 0) (ci := 9) (w' := kW aa ad t q2 rs) gh (eX8_hoursFor_ (rs := rs) h1) q_i_X8_hoursFor q_s_X8_hoursFor rfl rfl rfl q_c_X8_hoursFor q_l_L_89 q_n_X8 (by decide +kernel) rfl ⟨(Nat.le_of_ble_eq_true rfl), (Nat.le_of_ble_eq_true rfl)⟩ ⟨(Nat.le_of_ble_eq_true rfl), (Nat.le_of_ble_eq_true rfl)⟩ (Nat.le_of_ble_eq_true rfl) (.refl _) (.refl _) dL_hoursFor_3 rfl [] ⟨0, 6, 7, 20⟩ [⟨0, 6, 11, 24⟩] rfl (fun _ h => absurd h List.not_mem_nil) (by decide) (by decide) q_k_L_20 q_g_1 (fun q9 => ?_)
      refine j_astore_n (L' := [(3, .ref q9), (0, .ref (ad 0)), (1, .int p1), (2, .int p2)]) (pc := 7) g dL_hoursFor_7 rfl (Nat.le_of_ble_eq_true rfl) rfl ?_
      refine j_bipush (v := (-77)) (pc := 8) g dL_hoursFor_8 (by decide) ?_
      exact hE _ _ dL_hoursFor_10
    replace hf := gx_if c_0 hf
    by_cases c_1 : c9 = 3
    · replace hf := gx_it c_1 hf
      subst c_1
      cases hf
      refine gx_intro_h hst (by decide) (Nat.le_of_ble_eq_true rfl) (fun J gh hE => ?_)
      have g := gh.g
      show J 0 0 (kW aa ad t σ rs) 0 [(0, .ref (ad 0)), (1, .int p1), (2, .int p2)] []
      refine j_aload_n (pc := 0) g 0 dL_hoursFor_0 rfl ?_
      refine j_iload_n (pc := 1) g 1 dL_hoursFor_1 rfl ?_
      refine j_iload_n (pc := 2) g 2 dL_hoursFor_2 rfl ?_
      refine j_callVH (E0 := "java/lang/IllegalStateException") (pc := 3) (na := 2) (As := [.int p1, .int p2]) (rest := []) (q0 := 0) (ci := 9) (w' := kW aa ad t q2 rs) gh (eX8_hoursFor_ (rs := rs) h1) q_i_X8_hoursFor q_s_X8_hoursFor rfl rfl rfl q_c_X8_hoursFor q_l_L_89 q_n_X8 (by decide +kernel) rfl ⟨(Nat.le_of_ble_eq_true rfl), (Nat.le_of_ble_eq_true rfl)⟩ ⟨(Nat.le_of_ble_eq_true rfl), (Nat.le_of_ble_eq_true rfl)⟩ (Nat.le_of_ble_eq_true rfl) (.refl _) (.refl _) dL_hoursFor_3 rfl [⟨0, 6, 7, 20⟩] ⟨0, 6, 11, 24⟩ [] rfl (List.forall_mem_cons.mpr ⟨⟨by decide, "java/lang/IndexOutOfBoundsException", q_k_L_20, by decide⟩, (fun _ h => absurd h List.not_mem_nil)⟩) (by decide) (by decide) q_k_L_24 q_g_3 (fun q9 => ?_)
      refine j_astore_n (L' := [(3, .ref q9), (0, .ref (ad 0)), (1, .int p1), (2, .int p2)]) (pc := 11) g dL_hoursFor_11 rfl (Nat.le_of_ble_eq_true rfl) rfl ?_
      refine j_bipush (v := (-79)) (pc := 12) g dL_hoursFor_12 (by decide) ?_
      exact hE _ _ dL_hoursFor_14
    replace hf := gx_if c_1 hf
    cases hf
set_option maxRecDepth 100000 in
set_option maxHeartbeats 4000000 in
theorem hL_greatestSeverity_ {D : va_G} {t : Nat → ClassId} {aa : gx_AA} {l : Launch} {ad : Nat → Nat} {rs : va_W} {σ : CS} {p1 : Int32} {p2 : Int32} {q : (Int32 × CS)} (hst : l.stackTraces = false) (hf : fL_greatestSeverity σ p1 p2 = some q) : gx_CH D t (gx_E0 aa) l yL_greatestSeverity cL_greatestSeverity 4 (some .int) [(0, 6, 7, 20), (0, 6, 11, 24)] 8 134 1 6 [.ref (ad 0), .int p1, .int p2] (kW aa ad t σ rs) (kW aa ad t q.2 rs) (some (.int q.1)) := by
  unfold fL_greatestSeverity at hf
  rcases gx_ors hf with ⟨r, h1, hf⟩ | ⟨-, hf⟩
  · cases hf
    refine gx_intro_h hst (by decide) (Nat.le_of_ble_eq_true rfl) (fun J gh hE => ?_)
    have g := gh.g
    show J 0 0 (kW aa ad t σ rs) 0 [(0, .ref (ad 0)), (1, .int p1), (2, .int p2)] []
    refine j_aload_n (pc := 0) g 0 dL_greatestSeverity_0 rfl ?_
    refine j_iload_n (pc := 1) g 1 dL_greatestSeverity_1 rfl ?_
    refine j_iload_n (pc := 2) g 2 dL_greatestSeverity_2 rfl ?_
    refine j_callVi (pc := 3) (na := 2) (As := [.int p1, .int p2]) (rest := []) (q0 := 0) (ci := 9) g (cX8_greatestSeverity_ (rs := rs) h1) q_i_X8_greatestSeverity q_s_X8_greatestSeverity rfl rfl rfl q_c_X8_greatestSeverity q_l_L_92 q_n_X8 (by decide +kernel) rfl ⟨(Nat.le_of_ble_eq_true rfl), (Nat.le_of_ble_eq_true rfl)⟩ ⟨Nat.zero_le _, Nat.zero_le _⟩ (Nat.le_of_ble_eq_true rfl) (.refl _) (.refl _) dL_greatestSeverity_3 ?_ rfl
    exact j_wid g (Nat.zero_le _) (Nat.zero_le _) (hE _ _ dL_greatestSeverity_6)
  · obtain ⟨⟨c9, q2⟩, h1, hf⟩ := gx_bs hf
    by_cases c_0 : c9 = 1
    · replace hf := gx_it c_0 hf
      subst c_0
      cases hf
      refine gx_intro_h hst (by decide) (Nat.le_of_ble_eq_true rfl) (fun J gh hE => ?_)
      have g := gh.g
      show J 0 0 (kW aa ad t σ rs) 0 [(0, .ref (ad 0)), (1, .int p1), (2, .int p2)] []
      refine j_aload_n (pc := 0) g 0 dL_greatestSeverity_0 rfl ?_
      refine j_iload_n (pc := 1) g 1 dL_greatestSeverity_1 rfl ?_
      refine j_iload_n (pc := 2) g 2 dL_greatestSeverity_2 rfl ?_
      refine j_callVH (E0 := "java/lang/IndexOutOfBoundsException") (pc := 3) (na := 2) (As := [.int p1, .int p2]) (rest := []) (q0 := 0) (ci := 9) (w' := kW aa ad t q2 rs) gh (eX8_greatestSeverity_ (rs := rs) h1) q_i_X8_greatestSeverity q_s_X8_greatestSeverity rfl rfl rfl q_c_X8_greatestSeverity q_l_L_92 q_n_X8 (by decide +kernel) rfl ⟨(Nat.le_of_ble_eq_true rfl), (Nat.le_of_ble_eq_true rfl)⟩ ⟨(Nat.le_of_ble_eq_true rfl), (Nat.le_of_ble_eq_true rfl)⟩ (Nat.le_of_ble_eq_true rfl) (.refl _) (.refl _) dL_greatestSeverity_3 rfl [] ⟨0, 6, 7, 20⟩ [⟨0, 6, 11, 24⟩] rfl (fun _ h => absurd h List.not_mem_nil) (by decide) (by decide) q_k_L_20 q_g_1 (fun q9 => ?_)
      refine j_astore_n (L' := [(3, .ref q9), (0, .ref (ad 0)), (1, .int p1), (2, .int p2)]) (pc := 7) g dL_greatestSeverity_7 rfl (Nat.le_of_ble_eq_true rfl) rfl ?_
      refine j_bipush (v := (-77)) (pc := 8) g dL_greatestSeverity_8 (by decide) ?_
      exact hE _ _ dL_greatestSeverity_10
    replace hf := gx_if c_0 hf
    by_cases c_1 : c9 = 3
    · replace hf := gx_it c_1 hf
      subst c_1
      cases hf
      refine gx_intro_h hst (by decide) (Nat.le_of_ble_eq_true rfl) (fun J gh hE => ?_)
      have g := gh.g
      show J 0 0 (kW aa ad t σ rs) 0 [(0, .ref (ad 0)), (1, .int p1), (2, .int p2)] []
      refine j_aload_n (pc := 0) g 0 dL_greatestSeverity_0 rfl ?_
      refine j_iload_n (pc := 1) g 1 dL_greatestSeverity_1 rfl ?_
      refine j_iload_n (pc := 2) g 2 dL_greatestSeverity_2 rfl ?_
      refine j_callVH (E0 := "java/lang/IllegalStateException") (pc := 3) (na := 2) (As := [.int p1, .int p2]) (rest := []) (q0 := 0) (ci := 9) (w' := kW aa ad t q2 rs) gh (eX8_greatestSeverity_ (rs := rs) h1) q_i_X8_greatestSeverity q_s_X8_greatestSeverity rfl rfl rfl q_c_X8_greatestSeverity q_l_L_92 q_n_X8 (by decide +kernel) rfl ⟨(Nat.le_of_ble_eq_true rfl), (Nat.le_of_ble_eq_true rfl)⟩ ⟨(Nat.le_of_ble_eq_true rfl), (Nat.le_of_ble_eq_true rfl)⟩ (Nat.le_of_ble_eq_true rfl) (.refl _) (.refl _) dL_greatestSeverity_3 rfl [⟨0, 6, 7, 20⟩] ⟨0, 6, 11, 24⟩ [] rfl (List.forall_mem_cons.mpr ⟨⟨by decide, "java/lang/IndexOutOfBoundsException", q_k_L_20, by decide⟩, (fun _ h => absurd h List.not_mem_nil)⟩) (by decide) (by decide) q_k_L_24 q_g_3 (fun q9 => ?_)
      refine j_astore_n (L' := [(3, .ref q9), (0, .ref (ad 0)), (1, .int p1), (2, .int p2)]) (pc := 11) g dL_greatestSeverity_11 rfl (Nat.le_of_ble_eq_true rfl) rfl ?_
      refine j_bipush (v := (-79)) (pc := 12) g dL_greatestSeverity_12 (by decide) ?_
      exact hE _ _ dL_greatestSeverity_14
    replace hf := gx_if c_1 hf
    cases hf
set_option maxRecDepth 100000 in
set_option maxHeartbeats 4000000 in
theorem hL_greatestSeverityByTrial_ {D : va_G} {t : Nat → ClassId} {aa : gx_AA} {l : Launch} {ad : Nat → Nat} {rs : va_W} {σ : CS} {p1 : Int32} {p2 : Int32} {q : (Int32 × CS)} (hst : l.stackTraces = false) (hf : fL_greatestSeverityByTrial σ p1 p2 = some q) : gx_CH D t (gx_E0 aa) l yL_greatestSeverityByTrial cL_greatestSeverityByTrial 4 (some .int) [(0, 6, 7, 20), (0, 6, 11, 24)] 8 135 1 6 [.ref (ad 0), .int p1, .int p2] (kW aa ad t σ rs) (kW aa ad t q.2 rs) (some (.int q.1)) := by
  unfold fL_greatestSeverityByTrial at hf
  rcases gx_ors hf with ⟨r, h1, hf⟩ | ⟨-, hf⟩
  · cases hf
    refine gx_intro_h hst (by decide) (Nat.le_of_ble_eq_true rfl) (fun J gh hE => ?_)
    have g := gh.g
    show J 0 0 (kW aa ad t σ rs) 0 [(0, .ref (ad 0)), (1, .int p1), (2, .int p2)] []
    refine j_aload_n (pc := 0) g 0 dL_greatestSeverityByTrial_0 rfl ?_
    refine j_iload_n (pc := 1) g 1 dL_greatestSeverityByTrial_1 rfl ?_
    refine j_iload_n (pc := 2) g 2 dL_greatestSeverityByTrial_2 rfl ?_
    refine j_callVi (pc := 3) (na := 2) (As := [.int p1, .int p2]) (rest := []) (q0 := 0) (ci := 9) g (cX8_greatestSeverityByTrial_ (rs := rs) h1) q_i_X8_greatestSeverityByTrial q_s_X8_greatestSeverityByTrial rfl rfl rfl q_c_X8_greatestSeverityByTrial q_l_L_95 q_n_X8 (by decide +kernel) rfl ⟨(Nat.le_of_ble_eq_true rfl), (Nat.le_of_ble_eq_true rfl)⟩ ⟨Nat.zero_le _, Nat.zero_le _⟩ (Nat.le_of_ble_eq_true rfl) (.refl _) (.refl _) dL_greatestSeverityByTrial_3 ?_ rfl
    exact j_wid g (Nat.zero_le _) (Nat.zero_le _) (hE _ _ dL_greatestSeverityByTrial_6)
  · obtain ⟨⟨c9, q2⟩, h1, hf⟩ := gx_bs hf
    by_cases c_0 : c9 = 1
    · replace hf := gx_it c_0 hf
      subst c_0
      cases hf
      refine gx_intro_h hst (by decide) (Nat.le_of_ble_eq_true rfl) (fun J gh hE => ?_)
      have g := gh.g
      show J 0 0 (kW aa ad t σ rs) 0 [(0, .ref (ad 0)), (1, .int p1), (2, .int p2)] []
      refine j_aload_n (pc := 0) g 0 dL_greatestSeverityByTrial_0 rfl ?_
      refine j_iload_n (pc := 1) g 1 dL_greatestSeverityByTrial_1 rfl ?_
      refine j_iload_n (pc := 2) g 2 dL_greatestSeverityByTrial_2 rfl ?_
      refine j_callVH (E0 := "java/lang/IndexOutOfBoundsException") (pc := 3) (na := 2) (As := [.int p1, .int p2]) (rest := []) (q0 := 0) (ci := 9) (w' := kW aa ad t q2 rs) gh (eX8_greatestSeverityByTrial_ (rs := rs) h1) q_i_X8_greatestSeverityByTrial q_s_X8_greatestSeverityByTrial rfl rfl rfl q_c_X8_greatestSeverityByTrial q_l_L_95 q_n_X8 (by decide +kernel) rfl ⟨(Nat.le_of_ble_eq_true rfl), (Nat.le_of_ble_eq_true rfl)⟩ ⟨(Nat.le_of_ble_eq_true rfl), (Nat.le_of_ble_eq_true rfl)⟩ (Nat.le_of_ble_eq_true rfl) (.refl _) (.refl _) dL_greatestSeverityByTrial_3 rfl [] ⟨0, 6, 7, 20⟩ [⟨0, 6, 11, 24⟩] rfl (fun _ h => absurd h List.not_mem_nil) (by decide) (by decide) q_k_L_20 q_g_1 (fun q9 => ?_)
      refine j_astore_n (L' := [(3, .ref q9), (0, .ref (ad 0)), (1, .int p1), (2, .int p2)]) (pc := 7) g dL_greatestSeverityByTrial_7 rfl (Nat.le_of_ble_eq_true rfl) rfl ?_
      refine j_bipush (v := (-77)) (pc := 8) g dL_greatestSeverityByTrial_8 (by decide) ?_
      exact hE _ _ dL_greatestSeverityByTrial_10
    replace hf := gx_if c_0 hf
    by_cases c_1 : c9 = 3
    · replace hf := gx_it c_1 hf
      subst c_1
      cases hf
      refine gx_intro_h hst (by decide) (Nat.le_of_ble_eq_true rfl) (fun J gh hE => ?_)
      have g := gh.g
      show J 0 0 (kW aa ad t σ rs) 0 [(0, .ref (ad 0)), (1, .int p1), (2, .int p2)] []
      refine j_aload_n (pc := 0) g 0 dL_greatestSeverityByTrial_0 rfl ?_
      refine j_iload_n (pc := 1) g 1 dL_greatestSeverityByTrial_1 rfl ?_
      refine j_iload_n (pc := 2) g 2 dL_greatestSeverityByTrial_2 rfl ?_
      refine j_callVH (E0 := "java/lang/IllegalStateException") (pc := 3) (na := 2) (As := [.int p1, .int p2]) (rest := []) (q0 := 0) (ci := 9) (w' := kW aa ad t q2 rs) gh (eX8_greatestSeverityByTrial_ (rs := rs) h1) q_i_X8_greatestSeverityByTrial q_s_X8_greatestSeverityByTrial rfl rfl rfl q_c_X8_greatestSeverityByTrial q_l_L_95 q_n_X8 (by decide +kernel) rfl ⟨(Nat.le_of_ble_eq_true rfl), (Nat.le_of_ble_eq_true rfl)⟩ ⟨(Nat.le_of_ble_eq_true rfl), (Nat.le_of_ble_eq_true rfl)⟩ (Nat.le_of_ble_eq_true rfl) (.refl _) (.refl _) dL_greatestSeverityByTrial_3 rfl [⟨0, 6, 7, 20⟩] ⟨0, 6, 11, 24⟩ [] rfl (List.forall_mem_cons.mpr ⟨⟨by decide, "java/lang/IndexOutOfBoundsException", q_k_L_20, by decide⟩, (fun _ h => absurd h List.not_mem_nil)⟩) (by decide) (by decide) q_k_L_24 q_g_3 (fun q9 => ?_)
      refine j_astore_n (L' := [(3, .ref q9), (0, .ref (ad 0)), (1, .int p1), (2, .int p2)]) (pc := 11) g dL_greatestSeverityByTrial_11 rfl (Nat.le_of_ble_eq_true rfl) rfl ?_
      refine j_bipush (v := (-79)) (pc := 12) g dL_greatestSeverityByTrial_12 (by decide) ?_
      exact hE _ _ dL_greatestSeverityByTrial_14
    replace hf := gx_if c_1 hf
    cases hf
set_option maxRecDepth 100000 in
set_option maxHeartbeats 4000000 in
theorem hL_firstRefusal_ {D : va_G} {t : Nat → ClassId} {aa : gx_AA} {l : Launch} {ad : Nat → Nat} {rs : va_W} {σ : CS} {p1 : Int32} {p2 : Int32} {p3 : Int32} {q : (Int32 × CS)} (hst : l.stackTraces = false) (hf : fL_firstRefusal σ p1 p2 p3 = some q) : gx_CH D t (gx_E0 aa) l yL_firstRefusal cL_firstRefusal 5 (some .int) [(0, 7, 8, 20), (0, 7, 13, 22), (0, 7, 18, 24), (0, 7, 23, 53)] 8 136 1 6 [.ref (ad 0), .int p1, .int p2, .int p3] (kW aa ad t σ rs) (kW aa ad t q.2 rs) (some (.int q.1)) := by
  unfold fL_firstRefusal at hf
  rcases gx_ors hf with ⟨r, h1, hf⟩ | ⟨-, hf⟩
  · cases hf
    refine gx_intro_h hst (by decide) (Nat.le_of_ble_eq_true rfl) (fun J gh hE => ?_)
    have g := gh.g
    show J 0 0 (kW aa ad t σ rs) 0 [(0, .ref (ad 0)), (1, .int p1), (2, .int p2), (3, .int p3)] []
    refine j_aload_n (pc := 0) g 0 dL_firstRefusal_0 rfl ?_
    refine j_iload_n (pc := 1) g 1 dL_firstRefusal_1 rfl ?_
    refine j_iload_n (pc := 2) g 2 dL_firstRefusal_2 rfl ?_
    refine j_iload_n (pc := 3) g 3 dL_firstRefusal_3 rfl ?_
    refine j_callVi (pc := 4) (na := 3) (As := [.int p1, .int p2, .int p3]) (rest := []) (q0 := 0) (ci := 9) g (cX8_firstRefusal_ (rs := rs) h1) q_i_X8_firstRefusal q_s_X8_firstRefusal rfl rfl rfl q_c_X8_firstRefusal q_l_L_98 q_n_X8 (by decide +kernel) rfl ⟨(Nat.le_of_ble_eq_true rfl), (Nat.le_of_ble_eq_true rfl)⟩ ⟨Nat.zero_le _, Nat.zero_le _⟩ (Nat.le_of_ble_eq_true rfl) (.refl _) (.refl _) dL_firstRefusal_4 ?_ rfl
    exact j_wid g (Nat.zero_le _) (Nat.zero_le _) (hE _ _ dL_firstRefusal_7)
  · obtain ⟨⟨c9, q2⟩, h1, hf⟩ := gx_bs hf
    by_cases c_0 : c9 = 1
    · replace hf := gx_it c_0 hf
      subst c_0
      cases hf
      refine gx_intro_h hst (by decide) (Nat.le_of_ble_eq_true rfl) (fun J gh hE => ?_)
      have g := gh.g
      show J 0 0 (kW aa ad t σ rs) 0 [(0, .ref (ad 0)), (1, .int p1), (2, .int p2), (3, .int p3)] []
      refine j_aload_n (pc := 0) g 0 dL_firstRefusal_0 rfl ?_
      refine j_iload_n (pc := 1) g 1 dL_firstRefusal_1 rfl ?_
      refine j_iload_n (pc := 2) g 2 dL_firstRefusal_2 rfl ?_
      refine j_iload_n (pc := 3) g 3 dL_firstRefusal_3 rfl ?_
      refine j_callVH (E0 := "java/lang/IndexOutOfBoundsException") (pc := 4) (na := 3) (As := [.int p1, .int p2, .int p3]) (rest := []) (q0 := 0) (ci := 9) (w' := kW aa ad t q2 rs) gh (eX8_firstRefusal_ (rs := rs) h1) q_i_X8_firstRefusal q_s_X8_firstRefusal rfl rfl rfl q_c_X8_firstRefusal q_l_L_98 q_n_X8 (by decide +kernel) rfl ⟨(Nat.le_of_ble_eq_true rfl), (Nat.le_of_ble_eq_true rfl)⟩ ⟨(Nat.le_of_ble_eq_true rfl), (Nat.le_of_ble_eq_true rfl)⟩ (Nat.le_of_ble_eq_true rfl) (.refl _) (.refl _) dL_firstRefusal_4 rfl [] ⟨0, 7, 8, 20⟩ [⟨0, 7, 13, 22⟩, ⟨0, 7, 18, 24⟩, ⟨0, 7, 23, 53⟩] rfl (fun _ h => absurd h List.not_mem_nil) (by decide) (by decide) q_k_L_20 q_g_1 (fun q9 => ?_)
      refine j_astore (L' := [(4, .ref q9), (0, .ref (ad 0)), (1, .int p1), (2, .int p2), (3, .int p3)]) (pc := 8) g dL_firstRefusal_8 (Nat.le_of_ble_eq_true rfl) rfl ?_
      refine j_bipush (v := (-77)) (pc := 10) g dL_firstRefusal_10 (by decide) ?_
      exact hE _ _ dL_firstRefusal_12
    replace hf := gx_if c_0 hf
    by_cases c_1 : c9 = 2
    · replace hf := gx_it c_1 hf
      subst c_1
      cases hf
      refine gx_intro_h hst (by decide) (Nat.le_of_ble_eq_true rfl) (fun J gh hE => ?_)
      have g := gh.g
      show J 0 0 (kW aa ad t σ rs) 0 [(0, .ref (ad 0)), (1, .int p1), (2, .int p2), (3, .int p3)] []
      refine j_aload_n (pc := 0) g 0 dL_firstRefusal_0 rfl ?_
      refine j_iload_n (pc := 1) g 1 dL_firstRefusal_1 rfl ?_
      refine j_iload_n (pc := 2) g 2 dL_firstRefusal_2 rfl ?_
      refine j_iload_n (pc := 3) g 3 dL_firstRefusal_3 rfl ?_
      refine j_callVH (E0 := "java/lang/IllegalArgumentException") (pc := 4) (na := 3) (As := [.int p1, .int p2, .int p3]) (rest := []) (q0 := 0) (ci := 9) (w' := kW aa ad t q2 rs) gh (eX8_firstRefusal_ (rs := rs) h1) q_i_X8_firstRefusal q_s_X8_firstRefusal rfl rfl rfl q_c_X8_firstRefusal q_l_L_98 q_n_X8 (by decide +kernel) rfl ⟨(Nat.le_of_ble_eq_true rfl), (Nat.le_of_ble_eq_true rfl)⟩ ⟨(Nat.le_of_ble_eq_true rfl), (Nat.le_of_ble_eq_true rfl)⟩ (Nat.le_of_ble_eq_true rfl) (.refl _) (.refl _) dL_firstRefusal_4 rfl [⟨0, 7, 8, 20⟩] ⟨0, 7, 13, 22⟩ [⟨0, 7, 18, 24⟩, ⟨0, 7, 23, 53⟩] rfl (List.forall_mem_cons.mpr ⟨⟨by decide, "java/lang/IndexOutOfBoundsException", q_k_L_20, by decide⟩, (fun _ h => absurd h List.not_mem_nil)⟩) (by decide) (by decide) q_k_L_22 q_g_2 (fun q9 => ?_)
      refine j_astore (L' := [(4, .ref q9), (0, .ref (ad 0)), (1, .int p1), (2, .int p2), (3, .int p3)]) (pc := 13) g dL_firstRefusal_13 (Nat.le_of_ble_eq_true rfl) rfl ?_
      refine j_bipush (v := (-78)) (pc := 15) g dL_firstRefusal_15 (by decide) ?_
      exact hE _ _ dL_firstRefusal_17
    replace hf := gx_if c_1 hf
    by_cases c_2 : c9 = 3
    · replace hf := gx_it c_2 hf
      subst c_2
      cases hf
      refine gx_intro_h hst (by decide) (Nat.le_of_ble_eq_true rfl) (fun J gh hE => ?_)
      have g := gh.g
      show J 0 0 (kW aa ad t σ rs) 0 [(0, .ref (ad 0)), (1, .int p1), (2, .int p2), (3, .int p3)] []
      refine j_aload_n (pc := 0) g 0 dL_firstRefusal_0 rfl ?_
      refine j_iload_n (pc := 1) g 1 dL_firstRefusal_1 rfl ?_
      refine j_iload_n (pc := 2) g 2 dL_firstRefusal_2 rfl ?_
      refine j_iload_n (pc := 3) g 3 dL_firstRefusal_3 rfl ?_
      refine j_callVH (E0 := "java/lang/IllegalStateException") (pc := 4) (na := 3) (As := [.int p1, .int p2, .int p3]) (rest := []) (q0 := 0) (ci := 9) (w' := kW aa ad t q2 rs) gh (eX8_firstRefusal_ (rs := rs) h1) q_i_X8_firstRefusal q_s_X8_firstRefusal rfl rfl rfl q_c_X8_firstRefusal q_l_L_98 q_n_X8 (by decide +kernel) rfl ⟨(Nat.le_of_ble_eq_true rfl), (Nat.le_of_ble_eq_true rfl)⟩ ⟨(Nat.le_of_ble_eq_true rfl), (Nat.le_of_ble_eq_true rfl)⟩ (Nat.le_of_ble_eq_true rfl) (.refl _) (.refl _) dL_firstRefusal_4 rfl [⟨0, 7, 8, 20⟩, ⟨0, 7, 13, 22⟩] ⟨0, 7, 18, 24⟩ [⟨0, 7, 23, 53⟩] rfl (List.forall_mem_cons.mpr ⟨⟨by decide, "java/lang/IndexOutOfBoundsException", q_k_L_20, by decide⟩, (List.forall_mem_cons.mpr ⟨⟨by decide, "java/lang/IllegalArgumentException", q_k_L_22, by decide⟩, (fun _ h => absurd h List.not_mem_nil)⟩)⟩) (by decide) (by decide) q_k_L_24 q_g_3 (fun q9 => ?_)
      refine j_astore (L' := [(4, .ref q9), (0, .ref (ad 0)), (1, .int p1), (2, .int p2), (3, .int p3)]) (pc := 18) g dL_firstRefusal_18 (Nat.le_of_ble_eq_true rfl) rfl ?_
      refine j_bipush (v := (-79)) (pc := 20) g dL_firstRefusal_20 (by decide) ?_
      exact hE _ _ dL_firstRefusal_22
    replace hf := gx_if c_2 hf
    by_cases c_3 : c9 = 5
    · replace hf := gx_it c_3 hf
      subst c_3
      cases hf
      refine gx_intro_h hst (by decide) (Nat.le_of_ble_eq_true rfl) (fun J gh hE => ?_)
      have g := gh.g
      show J 0 0 (kW aa ad t σ rs) 0 [(0, .ref (ad 0)), (1, .int p1), (2, .int p2), (3, .int p3)] []
      refine j_aload_n (pc := 0) g 0 dL_firstRefusal_0 rfl ?_
      refine j_iload_n (pc := 1) g 1 dL_firstRefusal_1 rfl ?_
      refine j_iload_n (pc := 2) g 2 dL_firstRefusal_2 rfl ?_
      refine j_iload_n (pc := 3) g 3 dL_firstRefusal_3 rfl ?_
      refine j_callVH (E0 := "java/util/NoSuchElementException") (pc := 4) (na := 3) (As := [.int p1, .int p2, .int p3]) (rest := []) (q0 := 0) (ci := 9) (w' := kW aa ad t q2 rs) gh (eX8_firstRefusal_ (rs := rs) h1) q_i_X8_firstRefusal q_s_X8_firstRefusal rfl rfl rfl q_c_X8_firstRefusal q_l_L_98 q_n_X8 (by decide +kernel) rfl ⟨(Nat.le_of_ble_eq_true rfl), (Nat.le_of_ble_eq_true rfl)⟩ ⟨(Nat.le_of_ble_eq_true rfl), (Nat.le_of_ble_eq_true rfl)⟩ (Nat.le_of_ble_eq_true rfl) (.refl _) (.refl _) dL_firstRefusal_4 rfl [⟨0, 7, 8, 20⟩, ⟨0, 7, 13, 22⟩, ⟨0, 7, 18, 24⟩] ⟨0, 7, 23, 53⟩ [] rfl (List.forall_mem_cons.mpr ⟨⟨by decide, "java/lang/IndexOutOfBoundsException", q_k_L_20, by decide⟩, (List.forall_mem_cons.mpr ⟨⟨by decide, "java/lang/IllegalArgumentException", q_k_L_22, by decide⟩, (List.forall_mem_cons.mpr ⟨⟨by decide, "java/lang/IllegalStateException", q_k_L_24, by decide⟩, (fun _ h => absurd h List.not_mem_nil)⟩)⟩)⟩) (by decide) (by decide) q_k_L_53 q_g_5 (fun q9 => ?_)
      refine j_astore (L' := [(4, .ref q9), (0, .ref (ad 0)), (1, .int p1), (2, .int p2), (3, .int p3)]) (pc := 23) g dL_firstRefusal_23 (Nat.le_of_ble_eq_true rfl) rfl ?_
      refine j_bipush (v := (-75)) (pc := 25) g dL_firstRefusal_25 (by decide) ?_
      exact hE _ _ dL_firstRefusal_27
    replace hf := gx_if c_3 hf
    cases hf
set_option maxRecDepth 100000 in
set_option maxHeartbeats 4000000 in
theorem hL_holder_ {D : va_G} {t : Nat → ClassId} {aa : gx_AA} {l : Launch} {ad : Nat → Nat} {rs : va_W} {σ : CS} {p1 : Int32} {q : (Int32 × CS)} (hst : l.stackTraces = false) (hf : fL_holder σ p1 = some q) : gx_CH D t (gx_E0 aa) l yL_holder cL_holder 3 (some .int) [(0, 5, 6, 20)] 8 132 1 6 [.ref (ad 0), .int p1] (kW aa ad t σ rs) (kW aa ad t q.2 rs) (some (.int q.1)) := by
  unfold fL_holder at hf
  rcases gx_ors hf with ⟨r, h1, hf⟩ | ⟨-, hf⟩
  · cases hf
    refine gx_intro_h hst (by decide) (Nat.le_of_ble_eq_true rfl) (fun J gh hE => ?_)
    have g := gh.g
    show J 0 0 (kW aa ad t σ rs) 0 [(0, .ref (ad 0)), (1, .int p1)] []
    refine j_aload_n (pc := 0) g 0 dL_holder_0 rfl ?_
    refine j_iload_n (pc := 1) g 1 dL_holder_1 rfl ?_
    refine j_callVi (pc := 2) (na := 1) (As := [.int p1]) (rest := []) (q0 := 0) (ci := 9) g (cX8_holder_ (rs := rs) h1) q_i_X8_holder q_s_X8_holder rfl rfl rfl q_c_X8_holder q_l_L_101 q_n_X8 (by decide +kernel) rfl ⟨(Nat.le_of_ble_eq_true rfl), (Nat.le_of_ble_eq_true rfl)⟩ ⟨Nat.zero_le _, Nat.zero_le _⟩ (Nat.le_of_ble_eq_true rfl) (.refl _) (.refl _) dL_holder_2 ?_ rfl
    exact j_wid g (Nat.zero_le _) (Nat.zero_le _) (hE _ _ dL_holder_5)
  · obtain ⟨⟨c9, q2⟩, h1, hf⟩ := gx_bs hf
    by_cases c_0 : c9 = 1
    · replace hf := gx_it c_0 hf
      subst c_0
      cases hf
      refine gx_intro_h hst (by decide) (Nat.le_of_ble_eq_true rfl) (fun J gh hE => ?_)
      have g := gh.g
      show J 0 0 (kW aa ad t σ rs) 0 [(0, .ref (ad 0)), (1, .int p1)] []
      refine j_aload_n (pc := 0) g 0 dL_holder_0 rfl ?_
      refine j_iload_n (pc := 1) g 1 dL_holder_1 rfl ?_
      refine j_callVH (E0 := "java/lang/IndexOutOfBoundsException") (pc := 2) (na := 1) (As := [.int p1]) (rest := []) (q0 := 0) (ci := 9) (w' := kW aa ad t q2 rs) gh (eX8_holder_ (rs := rs) h1) q_i_X8_holder q_s_X8_holder rfl rfl rfl q_c_X8_holder q_l_L_101 q_n_X8 (by decide +kernel) rfl ⟨(Nat.le_of_ble_eq_true rfl), (Nat.le_of_ble_eq_true rfl)⟩ ⟨(Nat.le_of_ble_eq_true rfl), (Nat.le_of_ble_eq_true rfl)⟩ (Nat.le_of_ble_eq_true rfl) (.refl _) (.refl _) dL_holder_2 rfl [] ⟨0, 5, 6, 20⟩ [] rfl (fun _ h => absurd h List.not_mem_nil) (by decide) (by decide) q_k_L_20 q_g_1 (fun q9 => ?_)
      refine j_astore_n (L' := [(2, .ref q9), (0, .ref (ad 0)), (1, .int p1)]) (pc := 6) g dL_holder_6 rfl (Nat.le_of_ble_eq_true rfl) rfl ?_
      refine j_bipush (v := (-77)) (pc := 7) g dL_holder_7 (by decide) ?_
      exact hE _ _ dL_holder_9
    replace hf := gx_if c_0 hf
    cases hf
set_option maxRecDepth 100000 in
set_option maxHeartbeats 4000000 in
theorem hL_target_ {D : va_G} {t : Nat → ClassId} {aa : gx_AA} {l : Launch} {ad : Nat → Nat} {rs : va_W} {σ : CS} {p1 : Int32} {q : (Int32 × CS)} (hst : l.stackTraces = false) (hf : fL_target σ p1 = some q) : gx_CH D t (gx_E0 aa) l yL_target cL_target 3 (some .int) [(0, 5, 6, 20)] 8 132 1 6 [.ref (ad 0), .int p1] (kW aa ad t σ rs) (kW aa ad t q.2 rs) (some (.int q.1)) := by
  unfold fL_target at hf
  rcases gx_ors hf with ⟨r, h1, hf⟩ | ⟨-, hf⟩
  · cases hf
    refine gx_intro_h hst (by decide) (Nat.le_of_ble_eq_true rfl) (fun J gh hE => ?_)
    have g := gh.g
    show J 0 0 (kW aa ad t σ rs) 0 [(0, .ref (ad 0)), (1, .int p1)] []
    refine j_aload_n (pc := 0) g 0 dL_target_0 rfl ?_
    refine j_iload_n (pc := 1) g 1 dL_target_1 rfl ?_
    refine j_callVi (pc := 2) (na := 1) (As := [.int p1]) (rest := []) (q0 := 0) (ci := 9) g (cX8_target_ (rs := rs) h1) q_i_X8_target q_s_X8_target rfl rfl rfl q_c_X8_target q_l_L_104 q_n_X8 (by decide +kernel) rfl ⟨(Nat.le_of_ble_eq_true rfl), (Nat.le_of_ble_eq_true rfl)⟩ ⟨Nat.zero_le _, Nat.zero_le _⟩ (Nat.le_of_ble_eq_true rfl) (.refl _) (.refl _) dL_target_2 ?_ rfl
    exact j_wid g (Nat.zero_le _) (Nat.zero_le _) (hE _ _ dL_target_5)
  · obtain ⟨⟨c9, q2⟩, h1, hf⟩ := gx_bs hf
    by_cases c_0 : c9 = 1
    · replace hf := gx_it c_0 hf
      subst c_0
      cases hf
      refine gx_intro_h hst (by decide) (Nat.le_of_ble_eq_true rfl) (fun J gh hE => ?_)
      have g := gh.g
      show J 0 0 (kW aa ad t σ rs) 0 [(0, .ref (ad 0)), (1, .int p1)] []
      refine j_aload_n (pc := 0) g 0 dL_target_0 rfl ?_
      refine j_iload_n (pc := 1) g 1 dL_target_1 rfl ?_
      refine j_callVH (E0 := "java/lang/IndexOutOfBoundsException") (pc := 2) (na := 1) (As := [.int p1]) (rest := []) (q0 := 0) (ci := 9) (w' := kW aa ad t q2 rs) gh (eX8_target_ (rs := rs) h1) q_i_X8_target q_s_X8_target rfl rfl rfl q_c_X8_target q_l_L_104 q_n_X8 (by decide +kernel) rfl ⟨(Nat.le_of_ble_eq_true rfl), (Nat.le_of_ble_eq_true rfl)⟩ ⟨(Nat.le_of_ble_eq_true rfl), (Nat.le_of_ble_eq_true rfl)⟩ (Nat.le_of_ble_eq_true rfl) (.refl _) (.refl _) dL_target_2 rfl [] ⟨0, 5, 6, 20⟩ [] rfl (fun _ h => absurd h List.not_mem_nil) (by decide) (by decide) q_k_L_20 q_g_1 (fun q9 => ?_)
      refine j_astore_n (L' := [(2, .ref q9), (0, .ref (ad 0)), (1, .int p1)]) (pc := 6) g dL_target_6 rfl (Nat.le_of_ble_eq_true rfl) rfl ?_
      refine j_bipush (v := (-77)) (pc := 7) g dL_target_7 (by decide) ?_
      exact hE _ _ dL_target_9
    replace hf := gx_if c_0 hf
    cases hf
set_option maxRecDepth 100000 in
set_option maxHeartbeats 4000000 in
theorem hL_severity_ {D : va_G} {t : Nat → ClassId} {aa : gx_AA} {l : Launch} {ad : Nat → Nat} {rs : va_W} {σ : CS} {p1 : Int32} {q : (Int32 × CS)} (hst : l.stackTraces = false) (hf : fL_severity σ p1 = some q) : gx_CH D t (gx_E0 aa) l yL_severity cL_severity 3 (some .int) [(0, 5, 6, 20)] 8 132 1 6 [.ref (ad 0), .int p1] (kW aa ad t σ rs) (kW aa ad t q.2 rs) (some (.int q.1)) := by
  unfold fL_severity at hf
  rcases gx_ors hf with ⟨r, h1, hf⟩ | ⟨-, hf⟩
  · cases hf
    refine gx_intro_h hst (by decide) (Nat.le_of_ble_eq_true rfl) (fun J gh hE => ?_)
    have g := gh.g
    show J 0 0 (kW aa ad t σ rs) 0 [(0, .ref (ad 0)), (1, .int p1)] []
    refine j_aload_n (pc := 0) g 0 dL_severity_0 rfl ?_
    refine j_iload_n (pc := 1) g 1 dL_severity_1 rfl ?_
    refine j_callVi (pc := 2) (na := 1) (As := [.int p1]) (rest := []) (q0 := 0) (ci := 9) g (cX8_severity_ (rs := rs) h1) q_i_X8_severity q_s_X8_severity rfl rfl rfl q_c_X8_severity q_l_L_107 q_n_X8 (by decide +kernel) rfl ⟨(Nat.le_of_ble_eq_true rfl), (Nat.le_of_ble_eq_true rfl)⟩ ⟨Nat.zero_le _, Nat.zero_le _⟩ (Nat.le_of_ble_eq_true rfl) (.refl _) (.refl _) dL_severity_2 ?_ rfl
    exact j_wid g (Nat.zero_le _) (Nat.zero_le _) (hE _ _ dL_severity_5)
  · obtain ⟨⟨c9, q2⟩, h1, hf⟩ := gx_bs hf
    by_cases c_0 : c9 = 1
    · replace hf := gx_it c_0 hf
      subst c_0
      cases hf
      refine gx_intro_h hst (by decide) (Nat.le_of_ble_eq_true rfl) (fun J gh hE => ?_)
      have g := gh.g
      show J 0 0 (kW aa ad t σ rs) 0 [(0, .ref (ad 0)), (1, .int p1)] []
      refine j_aload_n (pc := 0) g 0 dL_severity_0 rfl ?_
      refine j_iload_n (pc := 1) g 1 dL_severity_1 rfl ?_
      refine j_callVH (E0 := "java/lang/IndexOutOfBoundsException") (pc := 2) (na := 1) (As := [.int p1]) (rest := []) (q0 := 0) (ci := 9) (w' := kW aa ad t q2 rs) gh (eX8_severity_ (rs := rs) h1) q_i_X8_severity q_s_X8_severity rfl rfl rfl q_c_X8_severity q_l_L_107 q_n_X8 (by decide +kernel) rfl ⟨(Nat.le_of_ble_eq_true rfl), (Nat.le_of_ble_eq_true rfl)⟩ ⟨(Nat.le_of_ble_eq_true rfl), (Nat.le_of_ble_eq_true rfl)⟩ (Nat.le_of_ble_eq_true rfl) (.refl _) (.refl _) dL_severity_2 rfl [] ⟨0, 5, 6, 20⟩ [] rfl (fun _ h => absurd h List.not_mem_nil) (by decide) (by decide) q_k_L_20 q_g_1 (fun q9 => ?_)
      refine j_astore_n (L' := [(2, .ref q9), (0, .ref (ad 0)), (1, .int p1)]) (pc := 6) g dL_severity_6 rfl (Nat.le_of_ble_eq_true rfl) rfl ?_
      refine j_bipush (v := (-77)) (pc := 7) g dL_severity_7 (by decide) ?_
      exact hE _ _ dL_severity_9
    replace hf := gx_if c_0 hf
    cases hf
set_option maxRecDepth 100000 in
set_option maxHeartbeats 4000000 in
theorem hL_meaning_ {D : va_G} {t : Nat → ClassId} {aa : gx_AA} {l : Launch} {ad : Nat → Nat} {rs : va_W} {σ : CS} {p1 : Int32} {p2 : Int32} {q : (Int32 × CS)} (hst : l.stackTraces = false) (hf : fL_meaning σ p1 p2 = some q) : gx_CH D t (gx_E0 aa) l yL_meaning cL_meaning 4 (some .int) [(0, 6, 7, 22), (0, 6, 11, 53)] 8 133 1 6 [.ref (ad 0), .int p1, .int p2] (kW aa ad t σ rs) (kW aa ad t q.2 rs) (some (.int q.1)) := by
  unfold fL_meaning at hf
  rcases gx_ors hf with ⟨r, h1, hf⟩ | ⟨-, hf⟩
  · cases hf
    refine gx_intro_h hst (by decide) (Nat.le_of_ble_eq_true rfl) (fun J gh hE => ?_)
    have g := gh.g
    show J 0 0 (kW aa ad t σ rs) 0 [(0, .ref (ad 0)), (1, .int p1), (2, .int p2)] []
    refine j_aload_n (pc := 0) g 0 dL_meaning_0 rfl ?_
    refine j_iload_n (pc := 1) g 1 dL_meaning_1 rfl ?_
    refine j_iload_n (pc := 2) g 2 dL_meaning_2 rfl ?_
    refine j_callVi (pc := 3) (na := 2) (As := [.int p1, .int p2]) (rest := []) (q0 := 0) (ci := 9) g (cX8_meaning_ (rs := rs) h1) q_i_X8_meaning q_s_X8_meaning rfl rfl rfl q_c_X8_meaning q_l_L_110 q_n_X8 (by decide +kernel) rfl ⟨(Nat.le_of_ble_eq_true rfl), (Nat.le_of_ble_eq_true rfl)⟩ ⟨Nat.zero_le _, Nat.zero_le _⟩ (Nat.le_of_ble_eq_true rfl) (.refl _) (.refl _) dL_meaning_3 ?_ rfl
    exact j_wid g (Nat.zero_le _) (Nat.zero_le _) (hE _ _ dL_meaning_6)
  · obtain ⟨⟨c9, q2⟩, h1, hf⟩ := gx_bs hf
    by_cases c_0 : c9 = 2
    · replace hf := gx_it c_0 hf
      subst c_0
      cases hf
      refine gx_intro_h hst (by decide) (Nat.le_of_ble_eq_true rfl) (fun J gh hE => ?_)
      have g := gh.g
      show J 0 0 (kW aa ad t σ rs) 0 [(0, .ref (ad 0)), (1, .int p1), (2, .int p2)] []
      refine j_aload_n (pc := 0) g 0 dL_meaning_0 rfl ?_
      refine j_iload_n (pc := 1) g 1 dL_meaning_1 rfl ?_
      refine j_iload_n (pc := 2) g 2 dL_meaning_2 rfl ?_
      refine j_callVH (E0 := "java/lang/IllegalArgumentException") (pc := 3) (na := 2) (As := [.int p1, .int p2]) (rest := []) (q0 := 0) (ci := 9) (w' := kW aa ad t q2 rs) gh (eX8_meaning_ (rs := rs) h1) q_i_X8_meaning q_s_X8_meaning rfl rfl rfl q_c_X8_meaning q_l_L_110 q_n_X8 (by decide +kernel) rfl ⟨(Nat.le_of_ble_eq_true rfl), (Nat.le_of_ble_eq_true rfl)⟩ ⟨(Nat.le_of_ble_eq_true rfl), (Nat.le_of_ble_eq_true rfl)⟩ (Nat.le_of_ble_eq_true rfl) (.refl _) (.refl _) dL_meaning_3 rfl [] ⟨0, 6, 7, 22⟩ [⟨0, 6, 11, 53⟩] rfl (fun _ h => absurd h List.not_mem_nil) (by decide) (by decide) q_k_L_22 q_g_2 (fun q9 => ?_)
      refine j_astore_n (L' := [(3, .ref q9), (0, .ref (ad 0)), (1, .int p1), (2, .int p2)]) (pc := 7) g dL_meaning_7 rfl (Nat.le_of_ble_eq_true rfl) rfl ?_
      refine j_bipush (v := (-78)) (pc := 8) g dL_meaning_8 (by decide) ?_
      exact hE _ _ dL_meaning_10
    replace hf := gx_if c_0 hf
    by_cases c_1 : c9 = 5
    · replace hf := gx_it c_1 hf
      subst c_1
      cases hf
      refine gx_intro_h hst (by decide) (Nat.le_of_ble_eq_true rfl) (fun J gh hE => ?_)
      have g := gh.g
      show J 0 0 (kW aa ad t σ rs) 0 [(0, .ref (ad 0)), (1, .int p1), (2, .int p2)] []
      refine j_aload_n (pc := 0) g 0 dL_meaning_0 rfl ?_
      refine j_iload_n (pc := 1) g 1 dL_meaning_1 rfl ?_
      refine j_iload_n (pc := 2) g 2 dL_meaning_2 rfl ?_
      refine j_callVH (E0 := "java/util/NoSuchElementException") (pc := 3) (na := 2) (As := [.int p1, .int p2]) (rest := []) (q0 := 0) (ci := 9) (w' := kW aa ad t q2 rs) gh (eX8_meaning_ (rs := rs) h1) q_i_X8_meaning q_s_X8_meaning rfl rfl rfl q_c_X8_meaning q_l_L_110 q_n_X8 (by decide +kernel) rfl ⟨(Nat.le_of_ble_eq_true rfl), (Nat.le_of_ble_eq_true rfl)⟩ ⟨(Nat.le_of_ble_eq_true rfl), (Nat.le_of_ble_eq_true rfl)⟩ (Nat.le_of_ble_eq_true rfl) (.refl _) (.refl _) dL_meaning_3 rfl [⟨0, 6, 7, 22⟩] ⟨0, 6, 11, 53⟩ [] rfl (List.forall_mem_cons.mpr ⟨⟨by decide, "java/lang/IllegalArgumentException", q_k_L_22, by decide⟩, (fun _ h => absurd h List.not_mem_nil)⟩) (by decide) (by decide) q_k_L_53 q_g_5 (fun q9 => ?_)
      refine j_astore_n (L' := [(3, .ref q9), (0, .ref (ad 0)), (1, .int p1), (2, .int p2)]) (pc := 11) g dL_meaning_11 rfl (Nat.le_of_ble_eq_true rfl) rfl ?_
      refine j_bipush (v := (-75)) (pc := 12) g dL_meaning_12 (by decide) ?_
      exact hE _ _ dL_meaning_14
    replace hf := gx_if c_1 hf
    cases hf
set_option maxRecDepth 100000 in
set_option maxHeartbeats 4000000 in
theorem hL_flagsWith_ {D : va_G} {t : Nat → ClassId} {aa : gx_AA} {l : Launch} {ad : Nat → Nat} {rs : va_W} {σ : CS} {p1 : Int32} {q : (Int32 × CS)} (hst : l.stackTraces = false) (hf : fL_flagsWith σ p1 = some q) : gx_CH D t (gx_E0 aa) l yL_flagsWith cL_flagsWith 3 (some .int) [(0, 5, 6, 22)] 7 111 1 6 [.ref (ad 0), .int p1] (kW aa ad t σ rs) (kW aa ad t q.2 rs) (some (.int q.1)) := by
  unfold fL_flagsWith at hf
  rcases gx_ors hf with ⟨r, h1, hf⟩ | ⟨-, hf⟩
  · cases hf
    refine gx_intro_h hst (by decide) (Nat.le_of_ble_eq_true rfl) (fun J gh hE => ?_)
    have g := gh.g
    show J 0 0 (kW aa ad t σ rs) 0 [(0, .ref (ad 0)), (1, .int p1)] []
    refine j_aload_n (pc := 0) g 0 dL_flagsWith_0 rfl ?_
    refine j_iload_n (pc := 1) g 1 dL_flagsWith_1 rfl ?_
    refine j_callVi (pc := 2) (na := 1) (As := [.int p1]) (rest := []) (q0 := 0) (ci := 9) g (cX8_flagsWith_ (rs := rs) h1) q_i_X8_flagsWith q_s_X8_flagsWith rfl rfl rfl q_c_X8_flagsWith q_l_L_113 q_n_X8 (by decide +kernel) rfl ⟨(Nat.le_of_ble_eq_true rfl), (Nat.le_of_ble_eq_true rfl)⟩ ⟨Nat.zero_le _, Nat.zero_le _⟩ (Nat.le_of_ble_eq_true rfl) (.refl _) (.refl _) dL_flagsWith_2 ?_ rfl
    exact j_wid g (Nat.zero_le _) (Nat.zero_le _) (hE _ _ dL_flagsWith_5)
  · obtain ⟨⟨c9, q2⟩, h1, hf⟩ := gx_bs hf
    by_cases c_0 : c9 = 2
    · replace hf := gx_it c_0 hf
      subst c_0
      cases hf
      refine gx_intro_h hst (by decide) (Nat.le_of_ble_eq_true rfl) (fun J gh hE => ?_)
      have g := gh.g
      show J 0 0 (kW aa ad t σ rs) 0 [(0, .ref (ad 0)), (1, .int p1)] []
      refine j_aload_n (pc := 0) g 0 dL_flagsWith_0 rfl ?_
      refine j_iload_n (pc := 1) g 1 dL_flagsWith_1 rfl ?_
      refine j_callVH (E0 := "java/lang/IllegalArgumentException") (pc := 2) (na := 1) (As := [.int p1]) (rest := []) (q0 := 0) (ci := 9) (w' := kW aa ad t q2 rs) gh (eX8_flagsWith_ (rs := rs) h1) q_i_X8_flagsWith q_s_X8_flagsWith rfl rfl rfl q_c_X8_flagsWith q_l_L_113 q_n_X8 (by decide +kernel) rfl ⟨(Nat.le_of_ble_eq_true rfl), (Nat.le_of_ble_eq_true rfl)⟩ ⟨(Nat.le_of_ble_eq_true rfl), (Nat.le_of_ble_eq_true rfl)⟩ (Nat.le_of_ble_eq_true rfl) (.refl _) (.refl _) dL_flagsWith_2 rfl [] ⟨0, 5, 6, 22⟩ [] rfl (fun _ h => absurd h List.not_mem_nil) (by decide) (by decide) q_k_L_22 q_g_2 (fun q9 => ?_)
      refine j_astore_n (L' := [(2, .ref q9), (0, .ref (ad 0)), (1, .int p1)]) (pc := 6) g dL_flagsWith_6 rfl (Nat.le_of_ble_eq_true rfl) rfl ?_
      refine j_bipush (v := (-78)) (pc := 7) g dL_flagsWith_7 (by decide) ?_
      exact hE _ _ dL_flagsWith_9
    replace hf := gx_if c_0 hf
    cases hf
set_option maxRecDepth 100000 in
set_option maxHeartbeats 4000000 in
theorem hL_officerByRank_ {D : va_G} {t : Nat → ClassId} {aa : gx_AA} {l : Launch} {ad : Nat → Nat} {rs : va_W} {σ : CS} {p1 : Int32} {q : (Int32 × CS)} (hst : l.stackTraces = false) (hf : fL_officerByRank σ p1 = some q) : gx_CH D t (gx_E0 aa) l yL_officerByRank cL_officerByRank 3 (some .int) [(0, 5, 6, 53)] 7 112 1 6 [.ref (ad 0), .int p1] (kW aa ad t σ rs) (kW aa ad t q.2 rs) (some (.int q.1)) := by
  unfold fL_officerByRank at hf
  rcases gx_ors hf with ⟨r, h1, hf⟩ | ⟨-, hf⟩
  · cases hf
    refine gx_intro_h hst (by decide) (Nat.le_of_ble_eq_true rfl) (fun J gh hE => ?_)
    have g := gh.g
    show J 0 0 (kW aa ad t σ rs) 0 [(0, .ref (ad 0)), (1, .int p1)] []
    refine j_aload_n (pc := 0) g 0 dL_officerByRank_0 rfl ?_
    refine j_iload_n (pc := 1) g 1 dL_officerByRank_1 rfl ?_
    refine j_callVi (pc := 2) (na := 1) (As := [.int p1]) (rest := []) (q0 := 0) (ci := 9) g (cX8_officerByRank_ (rs := rs) h1) q_i_X8_officerByRank q_s_X8_officerByRank rfl rfl rfl q_c_X8_officerByRank q_l_L_116 q_n_X8 (by decide +kernel) rfl ⟨(Nat.le_of_ble_eq_true rfl), (Nat.le_of_ble_eq_true rfl)⟩ ⟨Nat.zero_le _, Nat.zero_le _⟩ (Nat.le_of_ble_eq_true rfl) (.refl _) (.refl _) dL_officerByRank_2 ?_ rfl
    exact j_wid g (Nat.zero_le _) (Nat.zero_le _) (hE _ _ dL_officerByRank_5)
  · obtain ⟨⟨c9, q2⟩, h1, hf⟩ := gx_bs hf
    by_cases c_0 : c9 = 5
    · replace hf := gx_it c_0 hf
      subst c_0
      cases hf
      refine gx_intro_h hst (by decide) (Nat.le_of_ble_eq_true rfl) (fun J gh hE => ?_)
      have g := gh.g
      show J 0 0 (kW aa ad t σ rs) 0 [(0, .ref (ad 0)), (1, .int p1)] []
      refine j_aload_n (pc := 0) g 0 dL_officerByRank_0 rfl ?_
      refine j_iload_n (pc := 1) g 1 dL_officerByRank_1 rfl ?_
      refine j_callVH (E0 := "java/util/NoSuchElementException") (pc := 2) (na := 1) (As := [.int p1]) (rest := []) (q0 := 0) (ci := 9) (w' := kW aa ad t q2 rs) gh (eX8_officerByRank_ (rs := rs) h1) q_i_X8_officerByRank q_s_X8_officerByRank rfl rfl rfl q_c_X8_officerByRank q_l_L_116 q_n_X8 (by decide +kernel) rfl ⟨(Nat.le_of_ble_eq_true rfl), (Nat.le_of_ble_eq_true rfl)⟩ ⟨(Nat.le_of_ble_eq_true rfl), (Nat.le_of_ble_eq_true rfl)⟩ (Nat.le_of_ble_eq_true rfl) (.refl _) (.refl _) dL_officerByRank_2 rfl [] ⟨0, 5, 6, 53⟩ [] rfl (fun _ h => absurd h List.not_mem_nil) (by decide) (by decide) q_k_L_53 q_g_5 (fun q9 => ?_)
      refine j_astore_n (L' := [(2, .ref q9), (0, .ref (ad 0)), (1, .int p1)]) (pc := 6) g dL_officerByRank_6 rfl (Nat.le_of_ble_eq_true rfl) rfl ?_
      refine j_bipush (v := (-75)) (pc := 7) g dL_officerByRank_7 (by decide) ?_
      exact hE _ _ dL_officerByRank_9
    replace hf := gx_if c_0 hf
    cases hf
set_option maxRecDepth 100000 in
set_option maxHeartbeats 4000000 in
theorem hL_executedShare_ {D : va_G} {t : Nat → ClassId} {aa : gx_AA} {l : Launch} {ad : Nat → Nat} {rs : va_W} {σ : CS} {q : (UInt32 × CS)} (hst : l.stackTraces = false) (hf : fL_executedShare σ = some q) : gx_CH D t (gx_E0 aa) l yL_executedShare cL_executedShare 2 (some .float) [(0, 4, 5, 123)] 7 111 1 6 [.ref (ad 0)] (kW aa ad t σ rs) (kW aa ad t q.2 rs) (some (.float q.1)) := by
  unfold fL_executedShare at hf
  rcases gx_ors hf with ⟨r, h1, hf⟩ | ⟨-, hf⟩
  · cases hf
    refine gx_intro_hf hst (by decide) (Nat.le_of_ble_eq_true rfl) (fun J gh hE => ?_)
    have g := gh.g
    show J 0 0 (kW aa ad t σ rs) 0 [(0, .ref (ad 0))] []
    refine j_aload_n (pc := 0) g 0 dL_executedShare_0 rfl ?_
    refine j_callVa (pc := 1) (na := 0) (As := []) (rest := []) (q0 := 0) (ci := 9) g (cX8_executedShare_ (rs := rs) h1) q_i_X8_executedShare q_s_X8_executedShare rfl rfl rfl q_c_X8_executedShare q_l_L_119 q_n_X8 (by decide +kernel) rfl ⟨(Nat.le_of_ble_eq_true rfl), (Nat.le_of_ble_eq_true rfl)⟩ ⟨Nat.zero_le _, Nat.zero_le _⟩ (Nat.le_of_ble_eq_true rfl) (.refl _) (.refl _) dL_executedShare_1 ?_ rfl
    exact j_wid g (Nat.zero_le _) (Nat.zero_le _) (hE _ _ dL_executedShare_4)
  · obtain ⟨⟨c9, q2⟩, h1, hf⟩ := gx_bs hf
    by_cases c_0 : c9 = 6
    · replace hf := gx_it c_0 hf
      subst c_0
      cases hf
      refine gx_intro_hf hst (by decide) (Nat.le_of_ble_eq_true rfl) (fun J gh hE => ?_)
      have g := gh.g
      show J 0 0 (kW aa ad t σ rs) 0 [(0, .ref (ad 0))] []
      refine j_aload_n (pc := 0) g 0 dL_executedShare_0 rfl ?_
      refine j_callVH (E0 := "java/lang/ArithmeticException") (pc := 1) (na := 0) (As := []) (rest := []) (q0 := 0) (ci := 9) (w' := kW aa ad t q2 rs) gh (eX8_executedShare_ (rs := rs) h1) q_i_X8_executedShare q_s_X8_executedShare rfl rfl rfl q_c_X8_executedShare q_l_L_119 q_n_X8 (by decide +kernel) rfl ⟨(Nat.le_of_ble_eq_true rfl), (Nat.le_of_ble_eq_true rfl)⟩ ⟨(Nat.le_of_ble_eq_true rfl), (Nat.le_of_ble_eq_true rfl)⟩ (Nat.le_of_ble_eq_true rfl) (.refl _) (.refl _) dL_executedShare_1 rfl [] ⟨0, 4, 5, 123⟩ [] rfl (fun _ h => absurd h List.not_mem_nil) (by decide) (by decide) q_k_L_123 q_g_6 (fun q9 => ?_)
      refine j_astore_n (L' := [(1, .ref q9), (0, .ref (ad 0))]) (pc := 5) g dL_executedShare_5 rfl (Nat.le_of_ble_eq_true rfl) rfl ?_
      refine j_ldcf (pc := 6) g q_k125_L dL_executedShare_6 ?_
      exact hE _ _ dL_executedShare_8
    replace hf := gx_if c_0 hf
    cases hf
set_option maxRecDepth 100000 in
set_option maxHeartbeats 4000000 in
theorem hL_feed_ {D : va_G} {t : Nat → ClassId} {aa : gx_AA} {l : Launch} {ad : Nat → Nat} {rs : va_W} {σ : CS} {p1 : Int32} {q : (Int32 × CS)} (hst : l.stackTraces = false) (hf : fL_feed σ p1 = some q) : gx_CH D t (gx_E0 aa) l yL_feed cL_feed 3 (some .int) [(0, 5, 6, 24)] 7 111 1 6 [.ref (ad 0), .int p1] (kW aa ad t σ rs) (kW aa ad t q.2 rs) (some (.int q.1)) := by
  unfold fL_feed at hf
  rcases gx_ors hf with ⟨r, h1, hf⟩ | ⟨-, hf⟩
  · cases hf
    refine gx_intro_h hst (by decide) (Nat.le_of_ble_eq_true rfl) (fun J gh hE => ?_)
    have g := gh.g
    show J 0 0 (kW aa ad t σ rs) 0 [(0, .ref (ad 0)), (1, .int p1)] []
    refine j_aload_n (pc := 0) g 0 dL_feed_0 rfl ?_
    refine j_iload_n (pc := 1) g 1 dL_feed_1 rfl ?_
    refine j_callVi (pc := 2) (na := 1) (As := [.int p1]) (rest := []) (q0 := 0) (ci := 9) g (cX8_feed_ (rs := rs) h1) q_i_X8_feed q_s_X8_feed rfl rfl rfl q_c_X8_feed q_l_L_126 q_n_X8 (by decide +kernel) rfl ⟨(Nat.le_of_ble_eq_true rfl), (Nat.le_of_ble_eq_true rfl)⟩ ⟨Nat.zero_le _, Nat.zero_le _⟩ (Nat.le_of_ble_eq_true rfl) (.refl _) (.refl _) dL_feed_2 ?_ rfl
    exact j_wid g (Nat.zero_le _) (Nat.zero_le _) (hE _ _ dL_feed_5)
  · obtain ⟨⟨c9, q2⟩, h1, hf⟩ := gx_bs hf
    by_cases c_0 : c9 = 3
    · replace hf := gx_it c_0 hf
      subst c_0
      cases hf
      refine gx_intro_h hst (by decide) (Nat.le_of_ble_eq_true rfl) (fun J gh hE => ?_)
      have g := gh.g
      show J 0 0 (kW aa ad t σ rs) 0 [(0, .ref (ad 0)), (1, .int p1)] []
      refine j_aload_n (pc := 0) g 0 dL_feed_0 rfl ?_
      refine j_iload_n (pc := 1) g 1 dL_feed_1 rfl ?_
      refine j_callVH (E0 := "java/lang/IllegalStateException") (pc := 2) (na := 1) (As := [.int p1]) (rest := []) (q0 := 0) (ci := 9) (w' := kW aa ad t q2 rs) gh (eX8_feed_ (rs := rs) h1) q_i_X8_feed q_s_X8_feed rfl rfl rfl q_c_X8_feed q_l_L_126 q_n_X8 (by decide +kernel) rfl ⟨(Nat.le_of_ble_eq_true rfl), (Nat.le_of_ble_eq_true rfl)⟩ ⟨(Nat.le_of_ble_eq_true rfl), (Nat.le_of_ble_eq_true rfl)⟩ (Nat.le_of_ble_eq_true rfl) (.refl _) (.refl _) dL_feed_2 rfl [] ⟨0, 5, 6, 24⟩ [] rfl (fun _ h => absurd h List.not_mem_nil) (by decide) (by decide) q_k_L_24 q_g_3 (fun q9 => ?_)
      refine j_astore_n (L' := [(2, .ref q9), (0, .ref (ad 0)), (1, .int p1)]) (pc := 6) g dL_feed_6 rfl (Nat.le_of_ble_eq_true rfl) rfl ?_
      refine j_bipush (v := (-79)) (pc := 7) g dL_feed_7 (by decide) ?_
      exact hE _ _ dL_feed_9
    replace hf := gx_if c_0 hf
    cases hf
set_option maxRecDepth 100000 in
set_option maxHeartbeats 4000000 in
theorem hL_runCommands_ {D : va_G} {t : Nat → ClassId} {aa : gx_AA} {l : Launch} {ad : Nat → Nat} {rs : va_W} {σ : CS} {q : (Int32 × CS)} (hst : l.stackTraces = false) (hf : fL_runCommands σ = some q) : gx_CH D t (gx_E0 aa) l yL_runCommands cL_runCommands 2 (some .int) [(0, 4, 5, 22), (0, 4, 9, 34)] 21 494 1 6 [.ref (ad 0)] (kW aa ad t σ rs) (kW aa ad t q.2 rs) (some (.int q.1)) := by
  unfold fL_runCommands at hf
  rcases gx_ors hf with ⟨r, h1, hf⟩ | ⟨-, hf⟩
  · cases hf
    refine gx_intro_h hst (by decide) (Nat.le_of_ble_eq_true rfl) (fun J gh hE => ?_)
    have g := gh.g
    show J 0 0 (kW aa ad t σ rs) 0 [(0, .ref (ad 0))] []
    refine j_aload_n (pc := 0) g 0 dL_runCommands_0 rfl ?_
    refine j_callVi (pc := 1) (na := 0) (As := []) (rest := []) (q0 := 0) (ci := 9) g (cX8_runCommands_ (rs := rs) h1) q_i_X8_runCommands q_s_X8_runCommands rfl rfl rfl q_c_X8_runCommands q_l_L_130 q_n_X8 (by decide +kernel) rfl ⟨(Nat.le_of_ble_eq_true rfl), (Nat.le_of_ble_eq_true rfl)⟩ ⟨Nat.zero_le _, Nat.zero_le _⟩ (Nat.le_of_ble_eq_true rfl) (.refl _) (.refl _) dL_runCommands_1 ?_ rfl
    exact j_wid g (Nat.zero_le _) (Nat.zero_le _) (hE _ _ dL_runCommands_4)
  · obtain ⟨⟨c9, q2⟩, h1, hf⟩ := gx_bs hf
    by_cases c_0 : c9 = 2
    · replace hf := gx_it c_0 hf
      subst c_0
      cases hf
      refine gx_intro_h hst (by decide) (Nat.le_of_ble_eq_true rfl) (fun J gh hE => ?_)
      have g := gh.g
      show J 0 0 (kW aa ad t σ rs) 0 [(0, .ref (ad 0))] []
      refine j_aload_n (pc := 0) g 0 dL_runCommands_0 rfl ?_
      refine j_callVH (E0 := "java/lang/IllegalArgumentException") (pc := 1) (na := 0) (As := []) (rest := []) (q0 := 0) (ci := 9) (w' := kW aa ad t q2 rs) gh (eX8_runCommands_ (rs := rs) h1) q_i_X8_runCommands q_s_X8_runCommands rfl rfl rfl q_c_X8_runCommands q_l_L_130 q_n_X8 (by decide +kernel) rfl ⟨(Nat.le_of_ble_eq_true rfl), (Nat.le_of_ble_eq_true rfl)⟩ ⟨(Nat.le_of_ble_eq_true rfl), (Nat.le_of_ble_eq_true rfl)⟩ (Nat.le_of_ble_eq_true rfl) (.refl _) (.refl _) dL_runCommands_1 rfl [] ⟨0, 4, 5, 22⟩ [⟨0, 4, 9, 34⟩] rfl (fun _ h => absurd h List.not_mem_nil) (by decide) (by decide) q_k_L_22 q_g_2 (fun q9 => ?_)
      refine j_astore_n (L' := [(1, .ref q9), (0, .ref (ad 0))]) (pc := 5) g dL_runCommands_5 rfl (Nat.le_of_ble_eq_true rfl) rfl ?_
      refine j_bipush (v := (-78)) (pc := 6) g dL_runCommands_6 (by decide) ?_
      exact hE _ _ dL_runCommands_8
    replace hf := gx_if c_0 hf
    by_cases c_1 : c9 = 4
    · replace hf := gx_it c_1 hf
      subst c_1
      cases hf
      refine gx_intro_h hst (by decide) (Nat.le_of_ble_eq_true rfl) (fun J gh hE => ?_)
      have g := gh.g
      show J 0 0 (kW aa ad t σ rs) 0 [(0, .ref (ad 0))] []
      refine j_aload_n (pc := 0) g 0 dL_runCommands_0 rfl ?_
      refine j_callVH (E0 := "java/lang/UnsupportedOperationException") (pc := 1) (na := 0) (As := []) (rest := []) (q0 := 0) (ci := 9) (w' := kW aa ad t q2 rs) gh (eX8_runCommands_ (rs := rs) h1) q_i_X8_runCommands q_s_X8_runCommands rfl rfl rfl q_c_X8_runCommands q_l_L_130 q_n_X8 (by decide +kernel) rfl ⟨(Nat.le_of_ble_eq_true rfl), (Nat.le_of_ble_eq_true rfl)⟩ ⟨(Nat.le_of_ble_eq_true rfl), (Nat.le_of_ble_eq_true rfl)⟩ (Nat.le_of_ble_eq_true rfl) (.refl _) (.refl _) dL_runCommands_1 rfl [⟨0, 4, 5, 22⟩] ⟨0, 4, 9, 34⟩ [] rfl (List.forall_mem_cons.mpr ⟨⟨by decide, "java/lang/IllegalArgumentException", q_k_L_22, by decide⟩, (fun _ h => absurd h List.not_mem_nil)⟩) (by decide) (by decide) q_k_L_34 q_g_4 (fun q9 => ?_)
      refine j_astore_n (L' := [(1, .ref q9), (0, .ref (ad 0))]) (pc := 9) g dL_runCommands_9 rfl (Nat.le_of_ble_eq_true rfl) rfl ?_
      refine j_bipush (v := (-76)) (pc := 10) g dL_runCommands_10 (by decide) ?_
      exact hE _ _ dL_runCommands_12
    replace hf := gx_if c_1 hf
    cases hf
set_option maxRecDepth 100000 in
set_option maxHeartbeats 4000000 in
theorem hL_writeCommand_ {D : va_G} {t : Nat → ClassId} {aa : gx_AA} {l : Launch} {ad : Nat → Nat} {rs : va_W} {σ : CS} {p1 : Int32} {q : (Int32 × CS)} (hst : l.stackTraces = false) (hf : fL_writeCommand σ p1 = some q) : gx_CH D t (gx_E0 aa) l yL_writeCommand cL_writeCommand 3 (some .int) [(0, 5, 6, 20)] 20 488 1 6 [.ref (ad 0), .int p1] (kW aa ad t σ rs) (kW aa ad t q.2 rs) (some (.int q.1)) := by
  unfold fL_writeCommand at hf
  rcases gx_ors hf with ⟨r, h1, hf⟩ | ⟨-, hf⟩
  · cases hf
    refine gx_intro_h hst (by decide) (Nat.le_of_ble_eq_true rfl) (fun J gh hE => ?_)
    have g := gh.g
    show J 0 0 (kW aa ad t σ rs) 0 [(0, .ref (ad 0)), (1, .int p1)] []
    refine j_aload_n (pc := 0) g 0 dL_writeCommand_0 rfl ?_
    refine j_iload_n (pc := 1) g 1 dL_writeCommand_1 rfl ?_
    refine j_callVi (pc := 2) (na := 1) (As := [.int p1]) (rest := []) (q0 := 0) (ci := 9) g (cX8_writeCommand_ (rs := rs) h1) q_i_X8_writeCommand q_s_X8_writeCommand rfl rfl rfl q_c_X8_writeCommand q_l_L_140 q_n_X8 (by decide +kernel) rfl ⟨(Nat.le_of_ble_eq_true rfl), (Nat.le_of_ble_eq_true rfl)⟩ ⟨Nat.zero_le _, Nat.zero_le _⟩ (Nat.le_of_ble_eq_true rfl) (.refl _) (.refl _) dL_writeCommand_2 ?_ rfl
    exact j_wid g (Nat.zero_le _) (Nat.zero_le _) (hE _ _ dL_writeCommand_5)
  · obtain ⟨⟨c9, q2⟩, h1, hf⟩ := gx_bs hf
    by_cases c_0 : c9 = 1
    · replace hf := gx_it c_0 hf
      subst c_0
      cases hf
      refine gx_intro_h hst (by decide) (Nat.le_of_ble_eq_true rfl) (fun J gh hE => ?_)
      have g := gh.g
      show J 0 0 (kW aa ad t σ rs) 0 [(0, .ref (ad 0)), (1, .int p1)] []
      refine j_aload_n (pc := 0) g 0 dL_writeCommand_0 rfl ?_
      refine j_iload_n (pc := 1) g 1 dL_writeCommand_1 rfl ?_
      refine j_callVH (E0 := "java/lang/IndexOutOfBoundsException") (pc := 2) (na := 1) (As := [.int p1]) (rest := []) (q0 := 0) (ci := 9) (w' := kW aa ad t q2 rs) gh (eX8_writeCommand_ (rs := rs) h1) q_i_X8_writeCommand q_s_X8_writeCommand rfl rfl rfl q_c_X8_writeCommand q_l_L_140 q_n_X8 (by decide +kernel) rfl ⟨(Nat.le_of_ble_eq_true rfl), (Nat.le_of_ble_eq_true rfl)⟩ ⟨(Nat.le_of_ble_eq_true rfl), (Nat.le_of_ble_eq_true rfl)⟩ (Nat.le_of_ble_eq_true rfl) (.refl _) (.refl _) dL_writeCommand_2 rfl [] ⟨0, 5, 6, 20⟩ [] rfl (fun _ h => absurd h List.not_mem_nil) (by decide) (by decide) q_k_L_20 q_g_1 (fun q9 => ?_)
      refine j_astore_n (L' := [(2, .ref q9), (0, .ref (ad 0)), (1, .int p1)]) (pc := 6) g dL_writeCommand_6 rfl (Nat.le_of_ble_eq_true rfl) rfl ?_
      refine j_bipush (v := (-77)) (pc := 7) g dL_writeCommand_7 (by decide) ?_
      exact hE _ _ dL_writeCommand_9
    replace hf := gx_if c_0 hf
    cases hf
set_option maxRecDepth 100000 in
set_option maxHeartbeats 4000000 in
theorem hL_outputChar_ {D : va_G} {t : Nat → ClassId} {aa : gx_AA} {l : Launch} {ad : Nat → Nat} {rs : va_W} {σ : CS} {p1 : Int32} {q : (Int32 × CS)} (hst : l.stackTraces = false) (hf : fL_outputChar σ p1 = some q) : gx_CH D t (gx_E0 aa) l yL_outputChar cL_outputChar 3 (some .int) [(0, 5, 6, 20)] 7 111 1 6 [.ref (ad 0), .int p1] (kW aa ad t σ rs) (kW aa ad t q.2 rs) (some (.int q.1)) := by
  unfold fL_outputChar at hf
  rcases gx_ors hf with ⟨r, h1, hf⟩ | ⟨-, hf⟩
  · cases hf
    refine gx_intro_h hst (by decide) (Nat.le_of_ble_eq_true rfl) (fun J gh hE => ?_)
    have g := gh.g
    show J 0 0 (kW aa ad t σ rs) 0 [(0, .ref (ad 0)), (1, .int p1)] []
    refine j_aload_n (pc := 0) g 0 dL_outputChar_0 rfl ?_
    refine j_iload_n (pc := 1) g 1 dL_outputChar_1 rfl ?_
    refine j_callVi (pc := 2) (na := 1) (As := [.int p1]) (rest := []) (q0 := 0) (ci := 9) g (cX8_outputChar_ (rs := rs) h1) q_i_X8_outputChar q_s_X8_outputChar rfl rfl rfl q_c_X8_outputChar q_l_L_143 q_n_X8 (by decide +kernel) rfl ⟨(Nat.le_of_ble_eq_true rfl), (Nat.le_of_ble_eq_true rfl)⟩ ⟨Nat.zero_le _, Nat.zero_le _⟩ (Nat.le_of_ble_eq_true rfl) (.refl _) (.refl _) dL_outputChar_2 ?_ rfl
    exact j_wid g (Nat.zero_le _) (Nat.zero_le _) (hE _ _ dL_outputChar_5)
  · obtain ⟨⟨c9, q2⟩, h1, hf⟩ := gx_bs hf
    by_cases c_0 : c9 = 1
    · replace hf := gx_it c_0 hf
      subst c_0
      cases hf
      refine gx_intro_h hst (by decide) (Nat.le_of_ble_eq_true rfl) (fun J gh hE => ?_)
      have g := gh.g
      show J 0 0 (kW aa ad t σ rs) 0 [(0, .ref (ad 0)), (1, .int p1)] []
      refine j_aload_n (pc := 0) g 0 dL_outputChar_0 rfl ?_
      refine j_iload_n (pc := 1) g 1 dL_outputChar_1 rfl ?_
      refine j_callVH (E0 := "java/lang/IndexOutOfBoundsException") (pc := 2) (na := 1) (As := [.int p1]) (rest := []) (q0 := 0) (ci := 9) (w' := kW aa ad t q2 rs) gh (eX8_outputChar_ (rs := rs) h1) q_i_X8_outputChar q_s_X8_outputChar rfl rfl rfl q_c_X8_outputChar q_l_L_143 q_n_X8 (by decide +kernel) rfl ⟨(Nat.le_of_ble_eq_true rfl), (Nat.le_of_ble_eq_true rfl)⟩ ⟨(Nat.le_of_ble_eq_true rfl), (Nat.le_of_ble_eq_true rfl)⟩ (Nat.le_of_ble_eq_true rfl) (.refl _) (.refl _) dL_outputChar_2 rfl [] ⟨0, 5, 6, 20⟩ [] rfl (fun _ h => absurd h List.not_mem_nil) (by decide) (by decide) q_k_L_20 q_g_1 (fun q9 => ?_)
      refine j_astore_n (L' := [(2, .ref q9), (0, .ref (ad 0)), (1, .int p1)]) (pc := 6) g dL_outputChar_6 rfl (Nat.le_of_ble_eq_true rfl) rfl ?_
      refine j_bipush (v := (-77)) (pc := 7) g dL_outputChar_7 (by decide) ?_
      exact hE _ _ dL_outputChar_9
    replace hf := gx_if c_0 hf
    cases hf
set_option maxRecDepth 100000 in
set_option maxHeartbeats 4000000 in
theorem hL_undo_ {D : va_G} {t : Nat → ClassId} {aa : gx_AA} {l : Launch} {ad : Nat → Nat} {rs : va_W} {σ : CS} {q : (Int32 × CS)} (hst : l.stackTraces = false) (hf : fL_undo σ = some q) : gx_CH D t (gx_E0 aa) l yL_undo cL_undo 2 (some .int) [(0, 4, 5, 24)] 7 111 1 6 [.ref (ad 0)] (kW aa ad t σ rs) (kW aa ad t q.2 rs) (some (.int q.1)) := by
  unfold fL_undo at hf
  rcases gx_ors hf with ⟨r, h1, hf⟩ | ⟨-, hf⟩
  · cases hf
    refine gx_intro_h hst (by decide) (Nat.le_of_ble_eq_true rfl) (fun J gh hE => ?_)
    have g := gh.g
    show J 0 0 (kW aa ad t σ rs) 0 [(0, .ref (ad 0))] []
    refine j_aload_n (pc := 0) g 0 dL_undo_0 rfl ?_
    refine j_callVi (pc := 1) (na := 0) (As := []) (rest := []) (q0 := 0) (ci := 9) g (cX8_undo_ (rs := rs) h1) q_i_X8_undo q_s_X8_undo rfl rfl rfl q_c_X8_undo q_l_L_147 q_n_X8 (by decide +kernel) rfl ⟨(Nat.le_of_ble_eq_true rfl), (Nat.le_of_ble_eq_true rfl)⟩ ⟨Nat.zero_le _, Nat.zero_le _⟩ (Nat.le_of_ble_eq_true rfl) (.refl _) (.refl _) dL_undo_1 ?_ rfl
    exact j_wid g (Nat.zero_le _) (Nat.zero_le _) (hE _ _ dL_undo_4)
  · obtain ⟨⟨c9, q2⟩, h1, hf⟩ := gx_bs hf
    by_cases c_0 : c9 = 3
    · replace hf := gx_it c_0 hf
      subst c_0
      cases hf
      refine gx_intro_h hst (by decide) (Nat.le_of_ble_eq_true rfl) (fun J gh hE => ?_)
      have g := gh.g
      show J 0 0 (kW aa ad t σ rs) 0 [(0, .ref (ad 0))] []
      refine j_aload_n (pc := 0) g 0 dL_undo_0 rfl ?_
      refine j_callVH (E0 := "java/lang/IllegalStateException") (pc := 1) (na := 0) (As := []) (rest := []) (q0 := 0) (ci := 9) (w' := kW aa ad t q2 rs) gh (eX8_undo_ (rs := rs) h1) q_i_X8_undo q_s_X8_undo rfl rfl rfl q_c_X8_undo q_l_L_147 q_n_X8 (by decide +kernel) rfl ⟨(Nat.le_of_ble_eq_true rfl), (Nat.le_of_ble_eq_true rfl)⟩ ⟨(Nat.le_of_ble_eq_true rfl), (Nat.le_of_ble_eq_true rfl)⟩ (Nat.le_of_ble_eq_true rfl) (.refl _) (.refl _) dL_undo_1 rfl [] ⟨0, 4, 5, 24⟩ [] rfl (fun _ h => absurd h List.not_mem_nil) (by decide) (by decide) q_k_L_24 q_g_3 (fun q9 => ?_)
      refine j_astore_n (L' := [(1, .ref q9), (0, .ref (ad 0))]) (pc := 5) g dL_undo_5 rfl (Nat.le_of_ble_eq_true rfl) rfl ?_
      refine j_bipush (v := (-79)) (pc := 6) g dL_undo_6 (by decide) ?_
      exact hE _ _ dL_undo_8
    replace hf := gx_if c_0 hf
    cases hf
set_option maxRecDepth 100000 in
set_option maxHeartbeats 4000000 in
theorem hL_restore_ {D : va_G} {t : Nat → ClassId} {aa : gx_AA} {l : Launch} {ad : Nat → Nat} {rs : va_W} {σ : CS} {q : (Int32 × CS)} (hst : l.stackTraces = false) (hf : fL_restore σ = some q) : gx_CH D t (gx_E0 aa) l yL_restore cL_restore 2 (some .int) [(0, 4, 5, 24)] 7 110 1 6 [.ref (ad 0)] (kW aa ad t σ rs) (kW aa ad t q.2 rs) (some (.int q.1)) := by
  unfold fL_restore at hf
  rcases gx_ors hf with ⟨r, h1, hf⟩ | ⟨-, hf⟩
  · cases hf
    refine gx_intro_h hst (by decide) (Nat.le_of_ble_eq_true rfl) (fun J gh hE => ?_)
    have g := gh.g
    show J 0 0 (kW aa ad t σ rs) 0 [(0, .ref (ad 0))] []
    refine j_aload_n (pc := 0) g 0 dL_restore_0 rfl ?_
    refine j_callVi (pc := 1) (na := 0) (As := []) (rest := []) (q0 := 0) (ci := 9) g (cX8_restore_ (rs := rs) h1) q_i_X8_restore q_s_X8_restore rfl rfl rfl q_c_X8_restore q_l_L_150 q_n_X8 (by decide +kernel) rfl ⟨(Nat.le_of_ble_eq_true rfl), (Nat.le_of_ble_eq_true rfl)⟩ ⟨Nat.zero_le _, Nat.zero_le _⟩ (Nat.le_of_ble_eq_true rfl) (.refl _) (.refl _) dL_restore_1 ?_ rfl
    exact j_wid g (Nat.zero_le _) (Nat.zero_le _) (hE _ _ dL_restore_4)
  · obtain ⟨⟨c9, q2⟩, h1, hf⟩ := gx_bs hf
    by_cases c_0 : c9 = 3
    · replace hf := gx_it c_0 hf
      subst c_0
      cases hf
      refine gx_intro_h hst (by decide) (Nat.le_of_ble_eq_true rfl) (fun J gh hE => ?_)
      have g := gh.g
      show J 0 0 (kW aa ad t σ rs) 0 [(0, .ref (ad 0))] []
      refine j_aload_n (pc := 0) g 0 dL_restore_0 rfl ?_
      refine j_callVH (E0 := "java/lang/IllegalStateException") (pc := 1) (na := 0) (As := []) (rest := []) (q0 := 0) (ci := 9) (w' := kW aa ad t q2 rs) gh (eX8_restore_ (rs := rs) h1) q_i_X8_restore q_s_X8_restore rfl rfl rfl q_c_X8_restore q_l_L_150 q_n_X8 (by decide +kernel) rfl ⟨(Nat.le_of_ble_eq_true rfl), (Nat.le_of_ble_eq_true rfl)⟩ ⟨(Nat.le_of_ble_eq_true rfl), (Nat.le_of_ble_eq_true rfl)⟩ (Nat.le_of_ble_eq_true rfl) (.refl _) (.refl _) dL_restore_1 rfl [] ⟨0, 4, 5, 24⟩ [] rfl (fun _ h => absurd h List.not_mem_nil) (by decide) (by decide) q_k_L_24 q_g_3 (fun q9 => ?_)
      refine j_astore_n (L' := [(1, .ref q9), (0, .ref (ad 0))]) (pc := 5) g dL_restore_5 rfl (Nat.le_of_ble_eq_true rfl) rfl ?_
      refine j_bipush (v := (-79)) (pc := 6) g dL_restore_6 (by decide) ?_
      exact hE _ _ dL_restore_8
    replace hf := gx_if c_0 hf
    cases hf
