theorem q_w_L_appoint : Cond.codeWith yL_appoint cL_appoint 6 (some .int) [(0, 12, 15, 13), (0, 12, 19, 15), (0, 12, 23, 17)] ∈ lw_all := lw_in 445 (by decide +kernel) (by decide +kernel)
theorem q_i_X8_appoint : Cond.instanceMethod yX8_appoint ∈ lw_all := lw_in 529 (by decide +kernel) (by decide +kernel)
theorem q_s_X8_appoint : Cond.selects yX8_appoint.cls yX8_appoint yX8_appoint ∈ lw_all := lw_in 530 (by decide +kernel) (by decide +kernel)
theorem q_c_X8_appoint : Cond.code yX8_appoint cX8_appoint 4 (some .int) ∈ lw_all := lw_in 531 (by decide +kernel) (by decide +kernel)
theorem q_l_L_7 : Cond.methodLink RL 7 yX8_appoint ∈ lw_all := lw_in 528 (by decide +kernel) (by decide +kernel)
theorem q_k_L_13 : Cond.classLink RL 13 "java/lang/IndexOutOfBoundsException" ∈ lw_all := lw_in 446 (by decide +kernel) (by decide +kernel)
theorem q_k_L_15 : Cond.classLink RL 15 "java/lang/IllegalArgumentException" ∈ lw_all := lw_in 526 (by decide +kernel) (by decide +kernel)
theorem q_k_L_17 : Cond.classLink RL 17 "java/lang/IllegalStateException" ∈ lw_all := lw_in 527 (by decide +kernel) (by decide +kernel)
theorem q_w_L_promote : Cond.codeWith yL_promote cL_promote 4 (some .int) [(0, 9, 12, 13), (0, 9, 15, 17)] ∈ lw_all := lw_in 635 (by decide +kernel) (by decide +kernel)
theorem q_i_X8_promote : Cond.instanceMethod yX8_promote ∈ lw_all := lw_in 637 (by decide +kernel) (by decide +kernel)
theorem q_s_X8_promote : Cond.selects yX8_promote.cls yX8_promote yX8_promote ∈ lw_all := lw_in 638 (by decide +kernel) (by decide +kernel)
theorem q_c_X8_promote : Cond.code yX8_promote cX8_promote 2 (some .int) ∈ lw_all := lw_in 639 (by decide +kernel) (by decide +kernel)
theorem q_l_L_19 : Cond.methodLink RL 19 yX8_promote ∈ lw_all := lw_in 636 (by decide +kernel) (by decide +kernel)
theorem q_w_L_transfer : Cond.codeWith yL_transfer cL_transfer 5 (some .int) [(0, 10, 13, 13), (0, 10, 17, 15), (0, 10, 21, 27), (0, 10, 25, 17)] ∈ lw_all := lw_in 646 (by decide +kernel) (by decide +kernel)
theorem q_i_X8_transfer : Cond.instanceMethod yX8_transfer ∈ lw_all := lw_in 649 (by decide +kernel) (by decide +kernel)
theorem q_s_X8_transfer : Cond.selects yX8_transfer.cls yX8_transfer yX8_transfer ∈ lw_all := lw_in 650 (by decide +kernel) (by decide +kernel)
theorem q_c_X8_transfer : Cond.code yX8_transfer cX8_transfer 3 (some .int) ∈ lw_all := lw_in 651 (by decide +kernel) (by decide +kernel)
theorem q_l_L_23 : Cond.methodLink RL 23 yX8_transfer ∈ lw_all := lw_in 648 (by decide +kernel) (by decide +kernel)
theorem q_k_L_27 : Cond.classLink RL 27 "java/lang/UnsupportedOperationException" ∈ lw_all := lw_in 647 (by decide +kernel) (by decide +kernel)
theorem q_w_L_dismiss : Cond.codeWith yL_dismiss cL_dismiss 4 (some .int) [(0, 9, 12, 13), (0, 9, 15, 15)] ∈ lw_all := lw_in 660 (by decide +kernel) (by decide +kernel)
theorem q_i_X8_dismiss : Cond.instanceMethod yX8_dismiss ∈ lw_all := lw_in 662 (by decide +kernel) (by decide +kernel)
theorem q_s_X8_dismiss : Cond.selects yX8_dismiss.cls yX8_dismiss yX8_dismiss ∈ lw_all := lw_in 663 (by decide +kernel) (by decide +kernel)
theorem q_c_X8_dismiss : Cond.code yX8_dismiss cX8_dismiss 2 (some .int) ∈ lw_all := lw_in 664 (by decide +kernel) (by decide +kernel)
theorem q_l_L_29 : Cond.methodLink RL 29 yX8_dismiss ∈ lw_all := lw_in 661 (by decide +kernel) (by decide +kernel)
theorem q_w_L_issue : Cond.codeWith yL_issue cL_issue 6 (some .int) [(0, 12, 15, 13), (0, 12, 19, 15), (0, 12, 23, 17), (0, 12, 27, 27)] ∈ lw_all := lw_in 687 (by decide +kernel) (by decide +kernel)
theorem q_i_X8_issue : Cond.instanceMethod yX8_issue ∈ lw_all := lw_in 689 (by decide +kernel) (by decide +kernel)
theorem q_s_X8_issue : Cond.selects yX8_issue.cls yX8_issue yX8_issue ∈ lw_all := lw_in 690 (by decide +kernel) (by decide +kernel)
theorem q_c_X8_issue : Cond.code yX8_issue cX8_issue 4 (some .int) ∈ lw_all := lw_in 691 (by decide +kernel) (by decide +kernel)
theorem q_l_L_32 : Cond.methodLink RL 32 yX8_issue ∈ lw_all := lw_in 688 (by decide +kernel) (by decide +kernel)
theorem q_w_L_passHours : Cond.codeWith yL_passHours cL_passHours 4 (some .int) [(0, 9, 12, 15)] ∈ lw_all := lw_in 702 (by decide +kernel) (by decide +kernel)
theorem q_i_X8_passHours : Cond.instanceMethod yX8_passHours ∈ lw_all := lw_in 704 (by decide +kernel) (by decide +kernel)
theorem q_s_X8_passHours : Cond.selects yX8_passHours.cls yX8_passHours yX8_passHours ∈ lw_all := lw_in 705 (by decide +kernel) (by decide +kernel)
theorem q_c_X8_passHours : Cond.code yX8_passHours cX8_passHours 2 (some .int) ∈ lw_all := lw_in 706 (by decide +kernel) (by decide +kernel)
theorem q_l_L_35 : Cond.methodLink RL 35 yX8_passHours ∈ lw_all := lw_in 703 (by decide +kernel) (by decide +kernel)
theorem q_w_L_define : Cond.codeWith yL_define cL_define 6 (some .int) [(0, 12, 15, 15), (0, 12, 19, 17)] ∈ lw_all := lw_in 719 (by decide +kernel) (by decide +kernel)
theorem q_i_X8_define : Cond.instanceMethod yX8_define ∈ lw_all := lw_in 721 (by decide +kernel) (by decide +kernel)
theorem q_s_X8_define : Cond.selects yX8_define.cls yX8_define yX8_define ∈ lw_all := lw_in 722 (by decide +kernel) (by decide +kernel)
theorem q_c_X8_define : Cond.code yX8_define cX8_define 4 (some .int) ∈ lw_all := lw_in 723 (by decide +kernel) (by decide +kernel)
theorem q_l_L_38 : Cond.methodLink RL 38 yX8_define ∈ lw_all := lw_in 720 (by decide +kernel) (by decide +kernel)
theorem q_w_L_erase : Cond.codeWith yL_erase cL_erase 5 (some .int) [(0, 10, 13, 15), (0, 10, 17, 46)] ∈ lw_all := lw_in 740 (by decide +kernel) (by decide +kernel)
theorem q_i_X8_erase : Cond.instanceMethod yX8_erase ∈ lw_all := lw_in 743 (by decide +kernel) (by decide +kernel)
theorem q_s_X8_erase : Cond.selects yX8_erase.cls yX8_erase yX8_erase ∈ lw_all := lw_in 744 (by decide +kernel) (by decide +kernel)
theorem q_c_X8_erase : Cond.code yX8_erase cX8_erase 3 (some .int) ∈ lw_all := lw_in 745 (by decide +kernel) (by decide +kernel)
theorem q_l_L_42 : Cond.methodLink RL 42 yX8_erase ∈ lw_all := lw_in 742 (by decide +kernel) (by decide +kernel)
theorem q_k_L_46 : Cond.classLink RL 46 "java/util/NoSuchElementException" ∈ lw_all := lw_in 741 (by decide +kernel) (by decide +kernel)
theorem q_w_L_rank : Cond.codeWith yL_rank cL_rank 4 (some .int) [(0, 9, 12, 13)] ∈ lw_all := lw_in 756 (by decide +kernel) (by decide +kernel)
theorem q_i_X8_rank : Cond.instanceMethod yX8_rank ∈ lw_all := lw_in 758 (by decide +kernel) (by decide +kernel)
theorem q_s_X8_rank : Cond.selects yX8_rank.cls yX8_rank yX8_rank ∈ lw_all := lw_in 759 (by decide +kernel) (by decide +kernel)
theorem q_c_X8_rank : Cond.code yX8_rank cX8_rank 2 (some .int) ∈ lw_all := lw_in 760 (by decide +kernel) (by decide +kernel)
theorem q_l_L_48 : Cond.methodLink RL 48 yX8_rank ∈ lw_all := lw_in 757 (by decide +kernel) (by decide +kernel)
theorem q_w_L_loyalty : Cond.codeWith yL_loyalty cL_loyalty 4 (some .int) [(0, 9, 12, 13)] ∈ lw_all := lw_in 767 (by decide +kernel) (by decide +kernel)
theorem q_i_X8_loyalty : Cond.instanceMethod yX8_loyalty ∈ lw_all := lw_in 769 (by decide +kernel) (by decide +kernel)
theorem q_s_X8_loyalty : Cond.selects yX8_loyalty.cls yX8_loyalty yX8_loyalty ∈ lw_all := lw_in 770 (by decide +kernel) (by decide +kernel)
theorem q_c_X8_loyalty : Cond.code yX8_loyalty cX8_loyalty 2 (some .int) ∈ lw_all := lw_in 771 (by decide +kernel) (by decide +kernel)
theorem q_l_L_51 : Cond.methodLink RL 51 yX8_loyalty ∈ lw_all := lw_in 768 (by decide +kernel) (by decide +kernel)
theorem q_w_L_refusals : Cond.codeWith yL_refusals cL_refusals 4 (some .int) [(0, 9, 12, 13)] ∈ lw_all := lw_in 774 (by decide +kernel) (by decide +kernel)
theorem q_i_X8_refusals : Cond.instanceMethod yX8_refusals ∈ lw_all := lw_in 776 (by decide +kernel) (by decide +kernel)
theorem q_s_X8_refusals : Cond.selects yX8_refusals.cls yX8_refusals yX8_refusals ∈ lw_all := lw_in 777 (by decide +kernel) (by decide +kernel)
theorem q_c_X8_refusals : Cond.code yX8_refusals cX8_refusals 2 (some .int) ∈ lw_all := lw_in 778 (by decide +kernel) (by decide +kernel)
theorem q_l_L_54 : Cond.methodLink RL 54 yX8_refusals ∈ lw_all := lw_in 775 (by decide +kernel) (by decide +kernel)
theorem q_w_L_superior : Cond.codeWith yL_superior cL_superior 4 (some .int) [(0, 9, 12, 13), (0, 9, 15, 46)] ∈ lw_all := lw_in 781 (by decide +kernel) (by decide +kernel)
theorem q_i_X8_superior : Cond.instanceMethod yX8_superior ∈ lw_all := lw_in 783 (by decide +kernel) (by decide +kernel)
theorem q_s_X8_superior : Cond.selects yX8_superior.cls yX8_superior yX8_superior ∈ lw_all := lw_in 784 (by decide +kernel) (by decide +kernel)
theorem q_c_X8_superior : Cond.code yX8_superior cX8_superior 2 (some .int) ∈ lw_all := lw_in 785 (by decide +kernel) (by decide +kernel)
theorem q_l_L_57 : Cond.methodLink RL 57 yX8_superior ∈ lw_all := lw_in 782 (by decide +kernel) (by decide +kernel)
theorem q_w_L_subordinates : Cond.codeWith yL_subordinates cL_subordinates 4 (some .int) [(0, 9, 12, 13)] ∈ lw_all := lw_in 789 (by decide +kernel) (by decide +kernel)
theorem q_i_X8_subordinates : Cond.instanceMethod yX8_subordinates ∈ lw_all := lw_in 791 (by decide +kernel) (by decide +kernel)
theorem q_s_X8_subordinates : Cond.selects yX8_subordinates.cls yX8_subordinates yX8_subordinates ∈ lw_all := lw_in 792 (by decide +kernel) (by decide +kernel)
theorem q_c_X8_subordinates : Cond.code yX8_subordinates cX8_subordinates 2 (some .int) ∈ lw_all := lw_in 793 (by decide +kernel) (by decide +kernel)
theorem q_l_L_60 : Cond.methodLink RL 60 yX8_subordinates ∈ lw_all := lw_in 790 (by decide +kernel) (by decide +kernel)
theorem q_w_L_depth : Cond.codeWith yL_depth cL_depth 4 (some .int) [(0, 9, 12, 13)] ∈ lw_all := lw_in 797 (by decide +kernel) (by decide +kernel)
theorem q_i_X8_depth : Cond.instanceMethod yX8_depth ∈ lw_all := lw_in 799 (by decide +kernel) (by decide +kernel)
theorem q_s_X8_depth : Cond.selects yX8_depth.cls yX8_depth yX8_depth ∈ lw_all := lw_in 800 (by decide +kernel) (by decide +kernel)
theorem q_c_X8_depth : Cond.code yX8_depth cX8_depth 2 (some .int) ∈ lw_all := lw_in 801 (by decide +kernel) (by decide +kernel)
theorem q_l_L_63 : Cond.methodLink RL 63 yX8_depth ∈ lw_all := lw_in 798 (by decide +kernel) (by decide +kernel)
theorem q_w_L_depthFromTop : Cond.codeWith yL_depthFromTop cL_depthFromTop 4 (some .int) [(0, 9, 12, 13)] ∈ lw_all := lw_in 805 (by decide +kernel) (by decide +kernel)
theorem q_i_X8_depthFromTop : Cond.instanceMethod yX8_depthFromTop ∈ lw_all := lw_in 807 (by decide +kernel) (by decide +kernel)
theorem q_s_X8_depthFromTop : Cond.selects yX8_depthFromTop.cls yX8_depthFromTop yX8_depthFromTop ∈ lw_all := lw_in 808 (by decide +kernel) (by decide +kernel)
theorem q_c_X8_depthFromTop : Cond.code yX8_depthFromTop cX8_depthFromTop 2 (some .int) ∈ lw_all := lw_in 809 (by decide +kernel) (by decide +kernel)
theorem q_l_L_66 : Cond.methodLink RL 66 yX8_depthFromTop ∈ lw_all := lw_in 806 (by decide +kernel) (by decide +kernel)
theorem q_w_L_commandSize : Cond.codeWith yL_commandSize cL_commandSize 4 (some .int) [(0, 9, 12, 13)] ∈ lw_all := lw_in 813 (by decide +kernel) (by decide +kernel)
theorem q_i_X8_commandSize : Cond.instanceMethod yX8_commandSize ∈ lw_all := lw_in 815 (by decide +kernel) (by decide +kernel)
theorem q_s_X8_commandSize : Cond.selects yX8_commandSize.cls yX8_commandSize yX8_commandSize ∈ lw_all := lw_in 816 (by decide +kernel) (by decide +kernel)
theorem q_c_X8_commandSize : Cond.code yX8_commandSize cX8_commandSize 2 (some .int) ∈ lw_all := lw_in 817 (by decide +kernel) (by decide +kernel)
theorem q_l_L_69 : Cond.methodLink RL 69 yX8_commandSize ∈ lw_all := lw_in 814 (by decide +kernel) (by decide +kernel)
theorem q_w_L_commandSizeByCounting : Cond.codeWith yL_commandSizeByCounting cL_commandSizeByCounting 4 (some .int) [(0, 9, 12, 13)] ∈ lw_all := lw_in 821 (by decide +kernel) (by decide +kernel)
theorem q_i_X8_commandSizeByCounting : Cond.instanceMethod yX8_commandSizeByCounting ∈ lw_all := lw_in 823 (by decide +kernel) (by decide +kernel)
theorem q_s_X8_commandSizeByCounting : Cond.selects yX8_commandSizeByCounting.cls yX8_commandSizeByCounting yX8_commandSizeByCounting ∈ lw_all := lw_in 824 (by decide +kernel) (by decide +kernel)
theorem q_c_X8_commandSizeByCounting : Cond.code yX8_commandSizeByCounting cX8_commandSizeByCounting 2 (some .int) ∈ lw_all := lw_in 825 (by decide +kernel) (by decide +kernel)
theorem q_l_L_72 : Cond.methodLink RL 72 yX8_commandSizeByCounting ∈ lw_all := lw_in 822 (by decide +kernel) (by decide +kernel)
theorem q_w_L_isAbove : Cond.codeWith yL_isAbove cL_isAbove 5 (some .int) [(0, 17, 20, 13)] ∈ lw_all := lw_in 829 (by decide +kernel) (by decide +kernel)
theorem q_i_X8_isAbove : Cond.instanceMethod yX8_isAbove ∈ lw_all := lw_in 831 (by decide +kernel) (by decide +kernel)
theorem q_s_X8_isAbove : Cond.selects yX8_isAbove.cls yX8_isAbove yX8_isAbove ∈ lw_all := lw_in 832 (by decide +kernel) (by decide +kernel)
theorem q_c_X8_isAbove : Cond.code yX8_isAbove cX8_isAbove 3 (some .boolean) ∈ lw_all := lw_in 833 (by decide +kernel) (by decide +kernel)
theorem q_l_L_75 : Cond.methodLink RL 75 yX8_isAbove ∈ lw_all := lw_in 830 (by decide +kernel) (by decide +kernel)
theorem q_w_L_commonSuperior : Cond.codeWith yL_commonSuperior cL_commonSuperior 5 (some .int) [(0, 10, 13, 13)] ∈ lw_all := lw_in 837 (by decide +kernel) (by decide +kernel)
theorem q_i_X8_commonSuperior : Cond.instanceMethod yX8_commonSuperior ∈ lw_all := lw_in 839 (by decide +kernel) (by decide +kernel)
theorem q_s_X8_commonSuperior : Cond.selects yX8_commonSuperior.cls yX8_commonSuperior yX8_commonSuperior ∈ lw_all := lw_in 840 (by decide +kernel) (by decide +kernel)
theorem q_c_X8_commonSuperior : Cond.code yX8_commonSuperior cX8_commonSuperior 3 (some .int) ∈ lw_all := lw_in 841 (by decide +kernel) (by decide +kernel)
theorem q_l_L_79 : Cond.methodLink RL 79 yX8_commonSuperior ∈ lw_all := lw_in 838 (by decide +kernel) (by decide +kernel)
theorem q_w_L_hoursFor : Cond.codeWith yL_hoursFor cL_hoursFor 5 (some .int) [(0, 10, 13, 13), (0, 10, 17, 17)] ∈ lw_all := lw_in 848 (by decide +kernel) (by decide +kernel)
theorem q_i_X8_hoursFor : Cond.instanceMethod yX8_hoursFor ∈ lw_all := lw_in 850 (by decide +kernel) (by decide +kernel)
theorem q_s_X8_hoursFor : Cond.selects yX8_hoursFor.cls yX8_hoursFor yX8_hoursFor ∈ lw_all := lw_in 851 (by decide +kernel) (by decide +kernel)
theorem q_c_X8_hoursFor : Cond.code yX8_hoursFor cX8_hoursFor 3 (some .int) ∈ lw_all := lw_in 852 (by decide +kernel) (by decide +kernel)
theorem q_l_L_82 : Cond.methodLink RL 82 yX8_hoursFor ∈ lw_all := lw_in 849 (by decide +kernel) (by decide +kernel)
theorem q_w_L_greatestSeverity : Cond.codeWith yL_greatestSeverity cL_greatestSeverity 5 (some .int) [(0, 10, 13, 13), (0, 10, 17, 17)] ∈ lw_all := lw_in 860 (by decide +kernel) (by decide +kernel)
theorem q_i_X8_greatestSeverity : Cond.instanceMethod yX8_greatestSeverity ∈ lw_all := lw_in 862 (by decide +kernel) (by decide +kernel)
theorem q_s_X8_greatestSeverity : Cond.selects yX8_greatestSeverity.cls yX8_greatestSeverity yX8_greatestSeverity ∈ lw_all := lw_in 863 (by decide +kernel) (by decide +kernel)
theorem q_c_X8_greatestSeverity : Cond.code yX8_greatestSeverity cX8_greatestSeverity 3 (some .int) ∈ lw_all := lw_in 864 (by decide +kernel) (by decide +kernel)
theorem q_l_L_85 : Cond.methodLink RL 85 yX8_greatestSeverity ∈ lw_all := lw_in 861 (by decide +kernel) (by decide +kernel)
theorem q_w_L_greatestSeverityByTrial : Cond.codeWith yL_greatestSeverityByTrial cL_greatestSeverityByTrial 5 (some .int) [(0, 10, 13, 13), (0, 10, 17, 17)] ∈ lw_all := lw_in 872 (by decide +kernel) (by decide +kernel)
theorem q_i_X8_greatestSeverityByTrial : Cond.instanceMethod yX8_greatestSeverityByTrial ∈ lw_all := lw_in 874 (by decide +kernel) (by decide +kernel)
theorem q_s_X8_greatestSeverityByTrial : Cond.selects yX8_greatestSeverityByTrial.cls yX8_greatestSeverityByTrial yX8_greatestSeverityByTrial ∈ lw_all := lw_in 875 (by decide +kernel) (by decide +kernel)
theorem q_c_X8_greatestSeverityByTrial : Cond.code yX8_greatestSeverityByTrial cX8_greatestSeverityByTrial 4 (some .int) ∈ lw_all := lw_in 876 (by decide +kernel) (by decide +kernel)
theorem q_l_L_88 : Cond.methodLink RL 88 yX8_greatestSeverityByTrial ∈ lw_all := lw_in 873 (by decide +kernel) (by decide +kernel)
theorem q_w_L_firstRefusal : Cond.codeWith yL_firstRefusal cL_firstRefusal 6 (some .int) [(0, 12, 15, 13), (0, 12, 19, 15), (0, 12, 23, 17), (0, 12, 27, 46)] ∈ lw_all := lw_in 883 (by decide +kernel) (by decide +kernel)
theorem q_i_X8_firstRefusal : Cond.instanceMethod yX8_firstRefusal ∈ lw_all := lw_in 885 (by decide +kernel) (by decide +kernel)
theorem q_s_X8_firstRefusal : Cond.selects yX8_firstRefusal.cls yX8_firstRefusal yX8_firstRefusal ∈ lw_all := lw_in 886 (by decide +kernel) (by decide +kernel)
theorem q_c_X8_firstRefusal : Cond.code yX8_firstRefusal cX8_firstRefusal 5 (some .int) ∈ lw_all := lw_in 887 (by decide +kernel) (by decide +kernel)
theorem q_l_L_91 : Cond.methodLink RL 91 yX8_firstRefusal ∈ lw_all := lw_in 884 (by decide +kernel) (by decide +kernel)
theorem q_w_L_holder : Cond.codeWith yL_holder cL_holder 4 (some .int) [(0, 9, 12, 13)] ∈ lw_all := lw_in 892 (by decide +kernel) (by decide +kernel)
theorem q_i_X8_holder : Cond.instanceMethod yX8_holder ∈ lw_all := lw_in 894 (by decide +kernel) (by decide +kernel)
theorem q_s_X8_holder : Cond.selects yX8_holder.cls yX8_holder yX8_holder ∈ lw_all := lw_in 895 (by decide +kernel) (by decide +kernel)
theorem q_c_X8_holder : Cond.code yX8_holder cX8_holder 2 (some .int) ∈ lw_all := lw_in 896 (by decide +kernel) (by decide +kernel)
theorem q_l_L_94 : Cond.methodLink RL 94 yX8_holder ∈ lw_all := lw_in 893 (by decide +kernel) (by decide +kernel)
theorem q_w_L_target : Cond.codeWith yL_target cL_target 4 (some .int) [(0, 9, 12, 13)] ∈ lw_all := lw_in 904 (by decide +kernel) (by decide +kernel)
theorem q_i_X8_target : Cond.instanceMethod yX8_target ∈ lw_all := lw_in 906 (by decide +kernel) (by decide +kernel)
theorem q_s_X8_target : Cond.selects yX8_target.cls yX8_target yX8_target ∈ lw_all := lw_in 907 (by decide +kernel) (by decide +kernel)
theorem q_c_X8_target : Cond.code yX8_target cX8_target 2 (some .int) ∈ lw_all := lw_in 908 (by decide +kernel) (by decide +kernel)
theorem q_l_L_97 : Cond.methodLink RL 97 yX8_target ∈ lw_all := lw_in 905 (by decide +kernel) (by decide +kernel)
theorem q_w_L_severity : Cond.codeWith yL_severity cL_severity 4 (some .int) [(0, 9, 12, 13)] ∈ lw_all := lw_in 911 (by decide +kernel) (by decide +kernel)
theorem q_i_X8_severity : Cond.instanceMethod yX8_severity ∈ lw_all := lw_in 913 (by decide +kernel) (by decide +kernel)
theorem q_s_X8_severity : Cond.selects yX8_severity.cls yX8_severity yX8_severity ∈ lw_all := lw_in 914 (by decide +kernel) (by decide +kernel)
theorem q_c_X8_severity : Cond.code yX8_severity cX8_severity 2 (some .int) ∈ lw_all := lw_in 915 (by decide +kernel) (by decide +kernel)
theorem q_l_L_100 : Cond.methodLink RL 100 yX8_severity ∈ lw_all := lw_in 912 (by decide +kernel) (by decide +kernel)
theorem q_w_L_meaning : Cond.codeWith yL_meaning cL_meaning 5 (some .int) [(0, 10, 13, 15), (0, 10, 17, 46)] ∈ lw_all := lw_in 918 (by decide +kernel) (by decide +kernel)
theorem q_i_X8_meaning : Cond.instanceMethod yX8_meaning ∈ lw_all := lw_in 920 (by decide +kernel) (by decide +kernel)
theorem q_s_X8_meaning : Cond.selects yX8_meaning.cls yX8_meaning yX8_meaning ∈ lw_all := lw_in 921 (by decide +kernel) (by decide +kernel)
theorem q_c_X8_meaning : Cond.code yX8_meaning cX8_meaning 4 (some .int) ∈ lw_all := lw_in 922 (by decide +kernel) (by decide +kernel)
theorem q_l_L_103 : Cond.methodLink RL 103 yX8_meaning ∈ lw_all := lw_in 919 (by decide +kernel) (by decide +kernel)
theorem q_w_L_flagsWith : Cond.codeWith yL_flagsWith cL_flagsWith 4 (some .int) [(0, 9, 12, 15)] ∈ lw_all := lw_in 926 (by decide +kernel) (by decide +kernel)
theorem q_i_X8_flagsWith : Cond.instanceMethod yX8_flagsWith ∈ lw_all := lw_in 928 (by decide +kernel) (by decide +kernel)
theorem q_s_X8_flagsWith : Cond.selects yX8_flagsWith.cls yX8_flagsWith yX8_flagsWith ∈ lw_all := lw_in 929 (by decide +kernel) (by decide +kernel)
theorem q_c_X8_flagsWith : Cond.code yX8_flagsWith cX8_flagsWith 2 (some .int) ∈ lw_all := lw_in 930 (by decide +kernel) (by decide +kernel)
theorem q_l_L_106 : Cond.methodLink RL 106 yX8_flagsWith ∈ lw_all := lw_in 927 (by decide +kernel) (by decide +kernel)
theorem q_w_L_officerByRank : Cond.codeWith yL_officerByRank cL_officerByRank 4 (some .int) [(0, 9, 12, 46)] ∈ lw_all := lw_in 938 (by decide +kernel) (by decide +kernel)
theorem q_i_X8_officerByRank : Cond.instanceMethod yX8_officerByRank ∈ lw_all := lw_in 940 (by decide +kernel) (by decide +kernel)
theorem q_s_X8_officerByRank : Cond.selects yX8_officerByRank.cls yX8_officerByRank yX8_officerByRank ∈ lw_all := lw_in 941 (by decide +kernel) (by decide +kernel)
theorem q_c_X8_officerByRank : Cond.code yX8_officerByRank cX8_officerByRank 3 (some .int) ∈ lw_all := lw_in 942 (by decide +kernel) (by decide +kernel)
theorem q_l_L_109 : Cond.methodLink RL 109 yX8_officerByRank ∈ lw_all := lw_in 939 (by decide +kernel) (by decide +kernel)
theorem q_w_L_executedShare : Cond.codeWith yL_executedShare cL_executedShare 3 (some .int) [(0, 8, 11, 116)] ∈ lw_all := lw_in 958 (by decide +kernel) (by decide +kernel)
theorem q_i_X8_executedShare : Cond.instanceMethod yX8_executedShare ∈ lw_all := lw_in 974 (by decide +kernel) (by decide +kernel)
theorem q_s_X8_executedShare : Cond.selects yX8_executedShare.cls yX8_executedShare yX8_executedShare ∈ lw_all := lw_in 975 (by decide +kernel) (by decide +kernel)
theorem q_c_X8_executedShare : Cond.code yX8_executedShare cX8_executedShare 2 (some .float) ∈ lw_all := lw_in 976 (by decide +kernel) (by decide +kernel)
theorem q_l_L_112 : Cond.methodLink RL 112 yX8_executedShare ∈ lw_all := lw_in 973 (by decide +kernel) (by decide +kernel)
theorem q_k_L_116 : Cond.classLink RL 116 "java/lang/ArithmeticException" ∈ lw_all := lw_in 959 (by decide +kernel) (by decide +kernel)
theorem q_w_L_feed : Cond.codeWith yL_feed cL_feed 4 (some .int) [(0, 9, 12, 17)] ∈ lw_all := lw_in 982 (by decide +kernel) (by decide +kernel)
theorem q_i_X8_feed : Cond.instanceMethod yX8_feed ∈ lw_all := lw_in 984 (by decide +kernel) (by decide +kernel)
theorem q_s_X8_feed : Cond.selects yX8_feed.cls yX8_feed yX8_feed ∈ lw_all := lw_in 985 (by decide +kernel) (by decide +kernel)
theorem q_c_X8_feed : Cond.code yX8_feed cX8_feed 2 (some .int) ∈ lw_all := lw_in 986 (by decide +kernel) (by decide +kernel)
theorem q_l_L_118 : Cond.methodLink RL 118 yX8_feed ∈ lw_all := lw_in 983 (by decide +kernel) (by decide +kernel)
theorem q_w_L_runCommands : Cond.codeWith yL_runCommands cL_runCommands 3 (some .int) [(0, 8, 11, 15), (0, 8, 14, 27)] ∈ lw_all := lw_in 994 (by decide +kernel) (by decide +kernel)
theorem q_i_X8_runCommands : Cond.instanceMethod yX8_runCommands ∈ lw_all := lw_in 996 (by decide +kernel) (by decide +kernel)
theorem q_s_X8_runCommands : Cond.selects yX8_runCommands.cls yX8_runCommands yX8_runCommands ∈ lw_all := lw_in 997 (by decide +kernel) (by decide +kernel)
theorem q_c_X8_runCommands : Cond.code yX8_runCommands cX8_runCommands 3 (some .int) ∈ lw_all := lw_in 998 (by decide +kernel) (by decide +kernel)
theorem q_l_L_122 : Cond.methodLink RL 122 yX8_runCommands ∈ lw_all := lw_in 995 (by decide +kernel) (by decide +kernel)
theorem q_w_L_errorPosition : Cond.codeWith yL_errorPosition cL_errorPosition 3 (some .int) [(0, 8, 11, 46)] ∈ lw_all := lw_in 1141 (by decide +kernel) (by decide +kernel)
theorem q_i_X8_errorPosition : Cond.instanceMethod yX8_errorPosition ∈ lw_all := lw_in 1143 (by decide +kernel) (by decide +kernel)
theorem q_s_X8_errorPosition : Cond.selects yX8_errorPosition.cls yX8_errorPosition yX8_errorPosition ∈ lw_all := lw_in 1144 (by decide +kernel) (by decide +kernel)
theorem q_c_X8_errorPosition : Cond.code yX8_errorPosition cX8_errorPosition 1 (some .int) ∈ lw_all := lw_in 1145 (by decide +kernel) (by decide +kernel)
theorem q_l_L_126 : Cond.methodLink RL 126 yX8_errorPosition ∈ lw_all := lw_in 1142 (by decide +kernel) (by decide +kernel)
theorem q_w_L_failedCommand : Cond.codeWith yL_failedCommand cL_failedCommand 3 (some .int) [(0, 8, 11, 46)] ∈ lw_all := lw_in 1149 (by decide +kernel) (by decide +kernel)
theorem q_i_X8_failedCommand : Cond.instanceMethod yX8_failedCommand ∈ lw_all := lw_in 1151 (by decide +kernel) (by decide +kernel)
theorem q_s_X8_failedCommand : Cond.selects yX8_failedCommand.cls yX8_failedCommand yX8_failedCommand ∈ lw_all := lw_in 1152 (by decide +kernel) (by decide +kernel)
theorem q_c_X8_failedCommand : Cond.code yX8_failedCommand cX8_failedCommand 1 (some .int) ∈ lw_all := lw_in 1153 (by decide +kernel) (by decide +kernel)
theorem q_l_L_129 : Cond.methodLink RL 129 yX8_failedCommand ∈ lw_all := lw_in 1150 (by decide +kernel) (by decide +kernel)
theorem q_w_L_writeCommand : Cond.codeWith yL_writeCommand cL_writeCommand 4 (some .int) [(0, 9, 12, 13)] ∈ lw_all := lw_in 1157 (by decide +kernel) (by decide +kernel)
theorem q_i_X8_writeCommand : Cond.instanceMethod yX8_writeCommand ∈ lw_all := lw_in 1159 (by decide +kernel) (by decide +kernel)
theorem q_s_X8_writeCommand : Cond.selects yX8_writeCommand.cls yX8_writeCommand yX8_writeCommand ∈ lw_all := lw_in 1160 (by decide +kernel) (by decide +kernel)
theorem q_c_X8_writeCommand : Cond.code yX8_writeCommand cX8_writeCommand 2 (some .int) ∈ lw_all := lw_in 1161 (by decide +kernel) (by decide +kernel)
theorem q_l_L_132 : Cond.methodLink RL 132 yX8_writeCommand ∈ lw_all := lw_in 1158 (by decide +kernel) (by decide +kernel)
theorem q_w_L_outputChar : Cond.codeWith yL_outputChar cL_outputChar 4 (some .int) [(0, 9, 12, 13)] ∈ lw_all := lw_in 1174 (by decide +kernel) (by decide +kernel)
theorem q_i_X8_outputChar : Cond.instanceMethod yX8_outputChar ∈ lw_all := lw_in 1176 (by decide +kernel) (by decide +kernel)
theorem q_s_X8_outputChar : Cond.selects yX8_outputChar.cls yX8_outputChar yX8_outputChar ∈ lw_all := lw_in 1177 (by decide +kernel) (by decide +kernel)
theorem q_c_X8_outputChar : Cond.code yX8_outputChar cX8_outputChar 2 (some .char) ∈ lw_all := lw_in 1178 (by decide +kernel) (by decide +kernel)
theorem q_l_L_135 : Cond.methodLink RL 135 yX8_outputChar ∈ lw_all := lw_in 1175 (by decide +kernel) (by decide +kernel)
theorem q_w_L_undo : Cond.codeWith yL_undo cL_undo 3 (some .int) [(0, 8, 11, 17)] ∈ lw_all := lw_in 1182 (by decide +kernel) (by decide +kernel)
theorem q_i_X8_undo : Cond.instanceMethod yX8_undo ∈ lw_all := lw_in 1184 (by decide +kernel) (by decide +kernel)
theorem q_s_X8_undo : Cond.selects yX8_undo.cls yX8_undo yX8_undo ∈ lw_all := lw_in 1185 (by decide +kernel) (by decide +kernel)
theorem q_c_X8_undo : Cond.code yX8_undo cX8_undo 2 (some .int) ∈ lw_all := lw_in 1186 (by decide +kernel) (by decide +kernel)
theorem q_l_L_139 : Cond.methodLink RL 139 yX8_undo ∈ lw_all := lw_in 1183 (by decide +kernel) (by decide +kernel)
theorem q_w_L_restore : Cond.codeWith yL_restore cL_restore 3 (some .int) [(0, 8, 11, 17)] ∈ lw_all := lw_in 1194 (by decide +kernel) (by decide +kernel)
theorem q_i_X8_restore : Cond.instanceMethod yX8_restore ∈ lw_all := lw_in 1196 (by decide +kernel) (by decide +kernel)
theorem q_s_X8_restore : Cond.selects yX8_restore.cls yX8_restore yX8_restore ∈ lw_all := lw_in 1197 (by decide +kernel) (by decide +kernel)
theorem q_c_X8_restore : Cond.code yX8_restore cX8_restore 1 (some .int) ∈ lw_all := lw_in 1198 (by decide +kernel) (by decide +kernel)
theorem q_l_L_142 : Cond.methodLink RL 142 yX8_restore ∈ lw_all := lw_in 1195 (by decide +kernel) (by decide +kernel)
theorem q_g_1 : Cond.castable "java/lang/IndexOutOfBoundsException" "java/lang/IndexOutOfBoundsException" ∈ gx_face := List.mem_filter.mpr ⟨List.mem_of_getElem? (i := 550) (by decide +kernel), by decide +kernel⟩
theorem q_g_2 : Cond.castable "java/lang/IllegalArgumentException" "java/lang/IllegalArgumentException" ∈ gx_face := List.mem_filter.mpr ⟨List.mem_of_getElem? (i := 563) (by decide +kernel), by decide +kernel⟩
theorem q_g_3 : Cond.castable "java/lang/IllegalStateException" "java/lang/IllegalStateException" ∈ gx_face := List.mem_filter.mpr ⟨List.mem_of_getElem? (i := 579) (by decide +kernel), by decide +kernel⟩
theorem q_g_4 : Cond.castable "java/lang/UnsupportedOperationException" "java/lang/UnsupportedOperationException" ∈ gx_face := List.mem_filter.mpr ⟨List.mem_of_getElem? (i := 595) (by decide +kernel), by decide +kernel⟩
theorem q_g_5 : Cond.castable "java/util/NoSuchElementException" "java/util/NoSuchElementException" ∈ gx_face := List.mem_filter.mpr ⟨List.mem_of_getElem? (i := 611) (by decide +kernel), by decide +kernel⟩
theorem q_g_6 : Cond.castable "java/lang/ArithmeticException" "java/lang/ArithmeticException" ∈ gx_face := List.mem_filter.mpr ⟨List.mem_of_getElem? (i := 971) (by decide +kernel), by decide +kernel⟩
set_option maxRecDepth 100000 in
set_option maxHeartbeats 4000000 in
theorem hL_appoint_ok {D : va_G} {t : Nat → ClassId} {aa : gx_AA} {l : Launch} {ad : Nat → Nat} {rs : va_W} {o : Nat} {fo : (Nat → Int64)} {σ : CS} {p1 : Int32} {p2 : Int32} {p3 : Int32} {q : (Int32 × CS)} (hst : l.stackTraces = false) (hf : fX8_appoint σ p1 p2 p3 = some q) : gx_CH D t (gx_E0 aa) l yL_appoint cL_appoint 6 (some .int) [(0, 12, 15, 13), (0, 12, 19, 15), (0, 12, 23, 17)] 9 154 0 0 [.ref (ad 0), .int p1, .int p2, .int p3, .ref o] ((o, .inl (t 4, 1, .inr (.inl fo))) :: kW aa ad t σ rs) ((o, .inl (t 4, 1, .inr (.inl (vp_updL fo (0 : Int32).toNatClampNeg q.1.toInt64)))) :: kW aa ad t q.2 rs) (some (.int 0)) := by
  refine gx_intro_h hst (by decide) (Nat.le_of_ble_eq_true rfl) (fun J gh hE => ?_)
  have g := gh.g
  show J 0 0 ((o, .inl (t 4, 1, .inr (.inl fo))) :: kW aa ad t σ rs) 0 [(0, .ref (ad 0)), (1, .int p1), (2, .int p2), (3, .int p3), (4, .ref o)] []
  refine j_aload (pc := 0) g 4 dL_appoint_0 rfl ?_
  refine j_iconst (v := 0) (pc := 2) g dL_appoint_2 (by decide) ?_
  refine j_aload_n (pc := 3) g 0 dL_appoint_3 rfl ?_
  refine j_iload_n (pc := 4) g 1 dL_appoint_4 rfl ?_
  refine j_iload_n (pc := 5) g 2 dL_appoint_5 rfl ?_
  refine j_iload_n (pc := 6) g 3 dL_appoint_6 rfl ?_
  refine j_callVi (pc := 7) (na := 3) (As := [.int p1, .int p2, .int p3]) (rest := [.int 0, .ref o]) (q0 := 1) (ci := 9) g (cX8_appoint_ (rs := (o, .inl (t 4, 1, .inr (.inl fo))) :: rs) hf) q_i_X8_appoint q_s_X8_appoint rfl rfl rfl q_c_X8_appoint q_l_L_7 q_n_X8 (by decide +kernel) rfl ⟨Nat.le_of_ble_eq_true rfl, Nat.le_of_ble_eq_true rfl⟩ ⟨Nat.le_of_ble_eq_true rfl, Nat.le_of_ble_eq_true rfl⟩ (Nat.le_of_ble_eq_true rfl) (kW_pm aa ad t σ _ rs) (kW_pm aa ad t q.2 _ rs).symm dL_appoint_7 ?_ rfl
  refine j_i2l (pc := 10) g dL_appoint_10 ?_
  refine j_last (pc := 11) (w' := ((o, .inl (t 4, 1, .inr (.inl (vp_updL fo (0 : Int32).toNatClampNeg q.1.toInt64)))) :: kW aa ad t q.2 rs)) g 0 rfl (show gx_in (0 : Int32) 1 by decide) rfl dL_appoint_11 ?_
  refine j_goto (tgt := 27) (pc := 12) g dL_appoint_12 (by decide) ?_
  refine j_iconst (v := 0) (pc := 27) g dL_appoint_27 (by decide) ?_
  exact hE _ _ dL_appoint_28
set_option maxRecDepth 100000 in
set_option maxHeartbeats 4000000 in
theorem hL_appoint_x1 {D : va_G} {t : Nat → ClassId} {aa : gx_AA} {l : Launch} {ad : Nat → Nat} {rs : va_W} {o : Nat} {fo : (Nat → Int64)} {σ : CS} {p1 : Int32} {p2 : Int32} {p3 : Int32} {q2 : CS} (hst : l.stackTraces = false) (hf : xX8_appoint σ p1 p2 p3 = some (1, q2)) : gx_CH D t (gx_E0 aa) l yL_appoint cL_appoint 6 (some .int) [(0, 12, 15, 13), (0, 12, 19, 15), (0, 12, 23, 17)] 9 154 1 6 [.ref (ad 0), .int p1, .int p2, .int p3, .ref o] ((o, .inl (t 4, 1, .inr (.inl fo))) :: kW aa ad t σ rs) ((o, .inl (t 4, 1, .inr (.inl fo))) :: kW aa ad t q2 rs) (some (.int 1)) := by
  refine gx_intro_h hst (by decide) (Nat.le_of_ble_eq_true rfl) (fun J gh hE => ?_)
  have g := gh.g
  show J 0 0 ((o, .inl (t 4, 1, .inr (.inl fo))) :: kW aa ad t σ rs) 0 [(0, .ref (ad 0)), (1, .int p1), (2, .int p2), (3, .int p3), (4, .ref o)] []
  refine j_aload (pc := 0) g 4 dL_appoint_0 rfl ?_
  refine j_iconst (v := 0) (pc := 2) g dL_appoint_2 (by decide) ?_
  refine j_aload_n (pc := 3) g 0 dL_appoint_3 rfl ?_
  refine j_iload_n (pc := 4) g 1 dL_appoint_4 rfl ?_
  refine j_iload_n (pc := 5) g 2 dL_appoint_5 rfl ?_
  refine j_iload_n (pc := 6) g 3 dL_appoint_6 rfl ?_
  refine j_callVH (E0 := "java/lang/IndexOutOfBoundsException") (pc := 7) (na := 3) (As := [.int p1, .int p2, .int p3]) (rest := [.int 0, .ref o]) (q0 := 1) (ci := 9) (w' := ((o, .inl (t 4, 1, .inr (.inl fo))) :: kW aa ad t q2 rs)) gh (eX8_appoint_ (rs := (o, .inl (t 4, 1, .inr (.inl fo))) :: rs) hf) q_i_X8_appoint q_s_X8_appoint rfl rfl rfl q_c_X8_appoint q_l_L_7 q_n_X8 (by decide +kernel) rfl ⟨Nat.le_of_ble_eq_true rfl, Nat.le_of_ble_eq_true rfl⟩ ⟨Nat.le_of_ble_eq_true rfl, Nat.le_of_ble_eq_true rfl⟩ (Nat.le_of_ble_eq_true rfl) (kW_pm aa ad t σ _ rs) (kW_pm aa ad t q2 _ rs).symm dL_appoint_7 rfl [] ⟨0, 12, 15, 13⟩ [⟨0, 12, 19, 15⟩, ⟨0, 12, 23, 17⟩] rfl (fun _ h => absurd h List.not_mem_nil) (by decide) (by decide) q_k_L_13 q_g_1 (fun q9 => ?_)
  refine j_astore (L' := [(5, .ref q9), (0, .ref (ad 0)), (1, .int p1), (2, .int p2), (3, .int p3), (4, .ref o)]) (pc := 15) g dL_appoint_15 (Nat.le_of_ble_eq_true rfl) rfl ?_
  refine j_iconst (v := 1) (pc := 17) g dL_appoint_17 (by decide) ?_
  exact hE _ _ dL_appoint_18
set_option maxRecDepth 100000 in
set_option maxHeartbeats 4000000 in
theorem hL_appoint_x2 {D : va_G} {t : Nat → ClassId} {aa : gx_AA} {l : Launch} {ad : Nat → Nat} {rs : va_W} {o : Nat} {fo : (Nat → Int64)} {σ : CS} {p1 : Int32} {p2 : Int32} {p3 : Int32} {q2 : CS} (hst : l.stackTraces = false) (hf : xX8_appoint σ p1 p2 p3 = some (2, q2)) : gx_CH D t (gx_E0 aa) l yL_appoint cL_appoint 6 (some .int) [(0, 12, 15, 13), (0, 12, 19, 15), (0, 12, 23, 17)] 9 154 1 6 [.ref (ad 0), .int p1, .int p2, .int p3, .ref o] ((o, .inl (t 4, 1, .inr (.inl fo))) :: kW aa ad t σ rs) ((o, .inl (t 4, 1, .inr (.inl fo))) :: kW aa ad t q2 rs) (some (.int 2)) := by
  refine gx_intro_h hst (by decide) (Nat.le_of_ble_eq_true rfl) (fun J gh hE => ?_)
  have g := gh.g
  show J 0 0 ((o, .inl (t 4, 1, .inr (.inl fo))) :: kW aa ad t σ rs) 0 [(0, .ref (ad 0)), (1, .int p1), (2, .int p2), (3, .int p3), (4, .ref o)] []
  refine j_aload (pc := 0) g 4 dL_appoint_0 rfl ?_
  refine j_iconst (v := 0) (pc := 2) g dL_appoint_2 (by decide) ?_
  refine j_aload_n (pc := 3) g 0 dL_appoint_3 rfl ?_
  refine j_iload_n (pc := 4) g 1 dL_appoint_4 rfl ?_
  refine j_iload_n (pc := 5) g 2 dL_appoint_5 rfl ?_
  refine j_iload_n (pc := 6) g 3 dL_appoint_6 rfl ?_
  refine j_callVH (E0 := "java/lang/IllegalArgumentException") (pc := 7) (na := 3) (As := [.int p1, .int p2, .int p3]) (rest := [.int 0, .ref o]) (q0 := 1) (ci := 9) (w' := ((o, .inl (t 4, 1, .inr (.inl fo))) :: kW aa ad t q2 rs)) gh (eX8_appoint_ (rs := (o, .inl (t 4, 1, .inr (.inl fo))) :: rs) hf) q_i_X8_appoint q_s_X8_appoint rfl rfl rfl q_c_X8_appoint q_l_L_7 q_n_X8 (by decide +kernel) rfl ⟨Nat.le_of_ble_eq_true rfl, Nat.le_of_ble_eq_true rfl⟩ ⟨Nat.le_of_ble_eq_true rfl, Nat.le_of_ble_eq_true rfl⟩ (Nat.le_of_ble_eq_true rfl) (kW_pm aa ad t σ _ rs) (kW_pm aa ad t q2 _ rs).symm dL_appoint_7 rfl [⟨0, 12, 15, 13⟩] ⟨0, 12, 19, 15⟩ [⟨0, 12, 23, 17⟩] rfl (List.forall_mem_cons.mpr ⟨⟨by decide, "java/lang/IndexOutOfBoundsException", q_k_L_13, by decide⟩, (fun _ h => absurd h List.not_mem_nil)⟩) (by decide) (by decide) q_k_L_15 q_g_2 (fun q9 => ?_)
  refine j_astore (L' := [(5, .ref q9), (0, .ref (ad 0)), (1, .int p1), (2, .int p2), (3, .int p3), (4, .ref o)]) (pc := 19) g dL_appoint_19 (Nat.le_of_ble_eq_true rfl) rfl ?_
  refine j_iconst (v := 2) (pc := 21) g dL_appoint_21 (by decide) ?_
  exact hE _ _ dL_appoint_22
set_option maxRecDepth 100000 in
set_option maxHeartbeats 4000000 in
theorem hL_appoint_x3 {D : va_G} {t : Nat → ClassId} {aa : gx_AA} {l : Launch} {ad : Nat → Nat} {rs : va_W} {o : Nat} {fo : (Nat → Int64)} {σ : CS} {p1 : Int32} {p2 : Int32} {p3 : Int32} {q2 : CS} (hst : l.stackTraces = false) (hf : xX8_appoint σ p1 p2 p3 = some (3, q2)) : gx_CH D t (gx_E0 aa) l yL_appoint cL_appoint 6 (some .int) [(0, 12, 15, 13), (0, 12, 19, 15), (0, 12, 23, 17)] 9 154 1 6 [.ref (ad 0), .int p1, .int p2, .int p3, .ref o] ((o, .inl (t 4, 1, .inr (.inl fo))) :: kW aa ad t σ rs) ((o, .inl (t 4, 1, .inr (.inl fo))) :: kW aa ad t q2 rs) (some (.int 3)) := by
  refine gx_intro_h hst (by decide) (Nat.le_of_ble_eq_true rfl) (fun J gh hE => ?_)
  have g := gh.g
  show J 0 0 ((o, .inl (t 4, 1, .inr (.inl fo))) :: kW aa ad t σ rs) 0 [(0, .ref (ad 0)), (1, .int p1), (2, .int p2), (3, .int p3), (4, .ref o)] []
  refine j_aload (pc := 0) g 4 dL_appoint_0 rfl ?_
  refine j_iconst (v := 0) (pc := 2) g dL_appoint_2 (by decide) ?_
  refine j_aload_n (pc := 3) g 0 dL_appoint_3 rfl ?_
  refine j_iload_n (pc := 4) g 1 dL_appoint_4 rfl ?_
  refine j_iload_n (pc := 5) g 2 dL_appoint_5 rfl ?_
  refine j_iload_n (pc := 6) g 3 dL_appoint_6 rfl ?_
  refine j_callVH (E0 := "java/lang/IllegalStateException") (pc := 7) (na := 3) (As := [.int p1, .int p2, .int p3]) (rest := [.int 0, .ref o]) (q0 := 1) (ci := 9) (w' := ((o, .inl (t 4, 1, .inr (.inl fo))) :: kW aa ad t q2 rs)) gh (eX8_appoint_ (rs := (o, .inl (t 4, 1, .inr (.inl fo))) :: rs) hf) q_i_X8_appoint q_s_X8_appoint rfl rfl rfl q_c_X8_appoint q_l_L_7 q_n_X8 (by decide +kernel) rfl ⟨Nat.le_of_ble_eq_true rfl, Nat.le_of_ble_eq_true rfl⟩ ⟨Nat.le_of_ble_eq_true rfl, Nat.le_of_ble_eq_true rfl⟩ (Nat.le_of_ble_eq_true rfl) (kW_pm aa ad t σ _ rs) (kW_pm aa ad t q2 _ rs).symm dL_appoint_7 rfl [⟨0, 12, 15, 13⟩, ⟨0, 12, 19, 15⟩] ⟨0, 12, 23, 17⟩ [] rfl (List.forall_mem_cons.mpr ⟨⟨by decide, "java/lang/IndexOutOfBoundsException", q_k_L_13, by decide⟩, (List.forall_mem_cons.mpr ⟨⟨by decide, "java/lang/IllegalArgumentException", q_k_L_15, by decide⟩, (fun _ h => absurd h List.not_mem_nil)⟩)⟩) (by decide) (by decide) q_k_L_17 q_g_3 (fun q9 => ?_)
  refine j_astore (L' := [(5, .ref q9), (0, .ref (ad 0)), (1, .int p1), (2, .int p2), (3, .int p3), (4, .ref o)]) (pc := 23) g dL_appoint_23 (Nat.le_of_ble_eq_true rfl) rfl ?_
  refine j_iconst (v := 3) (pc := 25) g dL_appoint_25 (by decide) ?_
  exact hE _ _ dL_appoint_26
set_option maxRecDepth 100000 in
set_option maxHeartbeats 4000000 in
theorem hL_promote_ok {D : va_G} {t : Nat → ClassId} {aa : gx_AA} {l : Launch} {ad : Nat → Nat} {rs : va_W} {o : Nat} {fo : (Nat → Int64)} {σ : CS} {p1 : Int32} {q : (Int32 × CS)} (hst : l.stackTraces = false) (hf : fX8_promote σ p1 = some q) : gx_CH D t (gx_E0 aa) l yL_promote cL_promote 4 (some .int) [(0, 9, 12, 13), (0, 9, 15, 17)] 9 152 0 0 [.ref (ad 0), .int p1, .ref o] ((o, .inl (t 4, 1, .inr (.inl fo))) :: kW aa ad t σ rs) ((o, .inl (t 4, 1, .inr (.inl (vp_updL fo (0 : Int32).toNatClampNeg q.1.toInt64)))) :: kW aa ad t q.2 rs) (some (.int 0)) := by
  refine gx_intro_h hst (by decide) (Nat.le_of_ble_eq_true rfl) (fun J gh hE => ?_)
  have g := gh.g
  show J 0 0 ((o, .inl (t 4, 1, .inr (.inl fo))) :: kW aa ad t σ rs) 0 [(0, .ref (ad 0)), (1, .int p1), (2, .ref o)] []
  refine j_aload_n (pc := 0) g 2 dL_promote_0 rfl ?_
  refine j_iconst (v := 0) (pc := 1) g dL_promote_1 (by decide) ?_
  refine j_aload_n (pc := 2) g 0 dL_promote_2 rfl ?_
  refine j_iload_n (pc := 3) g 1 dL_promote_3 rfl ?_
  refine j_callVi (pc := 4) (na := 1) (As := [.int p1]) (rest := [.int 0, .ref o]) (q0 := 1) (ci := 9) g (cX8_promote_ (rs := (o, .inl (t 4, 1, .inr (.inl fo))) :: rs) hf) q_i_X8_promote q_s_X8_promote rfl rfl rfl q_c_X8_promote q_l_L_19 q_n_X8 (by decide +kernel) rfl ⟨Nat.le_of_ble_eq_true rfl, Nat.le_of_ble_eq_true rfl⟩ ⟨Nat.le_of_ble_eq_true rfl, Nat.le_of_ble_eq_true rfl⟩ (Nat.le_of_ble_eq_true rfl) (kW_pm aa ad t σ _ rs) (kW_pm aa ad t q.2 _ rs).symm dL_promote_4 ?_ rfl
  refine j_i2l (pc := 7) g dL_promote_7 ?_
  refine j_last (pc := 8) (w' := ((o, .inl (t 4, 1, .inr (.inl (vp_updL fo (0 : Int32).toNatClampNeg q.1.toInt64)))) :: kW aa ad t q.2 rs)) g 0 rfl (show gx_in (0 : Int32) 1 by decide) rfl dL_promote_8 ?_
  refine j_goto (tgt := 18) (pc := 9) g dL_promote_9 (by decide) ?_
  refine j_iconst (v := 0) (pc := 18) g dL_promote_18 (by decide) ?_
  exact hE _ _ dL_promote_19
set_option maxRecDepth 100000 in
set_option maxHeartbeats 4000000 in
theorem hL_promote_x1 {D : va_G} {t : Nat → ClassId} {aa : gx_AA} {l : Launch} {ad : Nat → Nat} {rs : va_W} {o : Nat} {fo : (Nat → Int64)} {σ : CS} {p1 : Int32} {q2 : CS} (hst : l.stackTraces = false) (hf : xX8_promote σ p1 = some (1, q2)) : gx_CH D t (gx_E0 aa) l yL_promote cL_promote 4 (some .int) [(0, 9, 12, 13), (0, 9, 15, 17)] 9 152 1 6 [.ref (ad 0), .int p1, .ref o] ((o, .inl (t 4, 1, .inr (.inl fo))) :: kW aa ad t σ rs) ((o, .inl (t 4, 1, .inr (.inl fo))) :: kW aa ad t q2 rs) (some (.int 1)) := by
  refine gx_intro_h hst (by decide) (Nat.le_of_ble_eq_true rfl) (fun J gh hE => ?_)
  have g := gh.g
  show J 0 0 ((o, .inl (t 4, 1, .inr (.inl fo))) :: kW aa ad t σ rs) 0 [(0, .ref (ad 0)), (1, .int p1), (2, .ref o)] []
  refine j_aload_n (pc := 0) g 2 dL_promote_0 rfl ?_
  refine j_iconst (v := 0) (pc := 1) g dL_promote_1 (by decide) ?_
  refine j_aload_n (pc := 2) g 0 dL_promote_2 rfl ?_
  refine j_iload_n (pc := 3) g 1 dL_promote_3 rfl ?_
  refine j_callVH (E0 := "java/lang/IndexOutOfBoundsException") (pc := 4) (na := 1) (As := [.int p1]) (rest := [.int 0, .ref o]) (q0 := 1) (ci := 9) (w' := ((o, .inl (t 4, 1, .inr (.inl fo))) :: kW aa ad t q2 rs)) gh (eX8_promote_ (rs := (o, .inl (t 4, 1, .inr (.inl fo))) :: rs) hf) q_i_X8_promote q_s_X8_promote rfl rfl rfl q_c_X8_promote q_l_L_19 q_n_X8 (by decide +kernel) rfl ⟨Nat.le_of_ble_eq_true rfl, Nat.le_of_ble_eq_true rfl⟩ ⟨Nat.le_of_ble_eq_true rfl, Nat.le_of_ble_eq_true rfl⟩ (Nat.le_of_ble_eq_true rfl) (kW_pm aa ad t σ _ rs) (kW_pm aa ad t q2 _ rs).symm dL_promote_4 rfl [] ⟨0, 9, 12, 13⟩ [⟨0, 9, 15, 17⟩] rfl (fun _ h => absurd h List.not_mem_nil) (by decide) (by decide) q_k_L_13 q_g_1 (fun q9 => ?_)
  refine j_astore_n (L' := [(3, .ref q9), (0, .ref (ad 0)), (1, .int p1), (2, .ref o)]) (pc := 12) g dL_promote_12 rfl (Nat.le_of_ble_eq_true rfl) rfl ?_
  refine j_iconst (v := 1) (pc := 13) g dL_promote_13 (by decide) ?_
  exact hE _ _ dL_promote_14
set_option maxRecDepth 100000 in
set_option maxHeartbeats 4000000 in
theorem hL_promote_x2 {D : va_G} {t : Nat → ClassId} {aa : gx_AA} {l : Launch} {ad : Nat → Nat} {rs : va_W} {o : Nat} {fo : (Nat → Int64)} {σ : CS} {p1 : Int32} {q2 : CS} (hst : l.stackTraces = false) (hf : xX8_promote σ p1 = some (3, q2)) : gx_CH D t (gx_E0 aa) l yL_promote cL_promote 4 (some .int) [(0, 9, 12, 13), (0, 9, 15, 17)] 9 152 1 6 [.ref (ad 0), .int p1, .ref o] ((o, .inl (t 4, 1, .inr (.inl fo))) :: kW aa ad t σ rs) ((o, .inl (t 4, 1, .inr (.inl fo))) :: kW aa ad t q2 rs) (some (.int 2)) := by
  refine gx_intro_h hst (by decide) (Nat.le_of_ble_eq_true rfl) (fun J gh hE => ?_)
  have g := gh.g
  show J 0 0 ((o, .inl (t 4, 1, .inr (.inl fo))) :: kW aa ad t σ rs) 0 [(0, .ref (ad 0)), (1, .int p1), (2, .ref o)] []
  refine j_aload_n (pc := 0) g 2 dL_promote_0 rfl ?_
  refine j_iconst (v := 0) (pc := 1) g dL_promote_1 (by decide) ?_
  refine j_aload_n (pc := 2) g 0 dL_promote_2 rfl ?_
  refine j_iload_n (pc := 3) g 1 dL_promote_3 rfl ?_
  refine j_callVH (E0 := "java/lang/IllegalStateException") (pc := 4) (na := 1) (As := [.int p1]) (rest := [.int 0, .ref o]) (q0 := 1) (ci := 9) (w' := ((o, .inl (t 4, 1, .inr (.inl fo))) :: kW aa ad t q2 rs)) gh (eX8_promote_ (rs := (o, .inl (t 4, 1, .inr (.inl fo))) :: rs) hf) q_i_X8_promote q_s_X8_promote rfl rfl rfl q_c_X8_promote q_l_L_19 q_n_X8 (by decide +kernel) rfl ⟨Nat.le_of_ble_eq_true rfl, Nat.le_of_ble_eq_true rfl⟩ ⟨Nat.le_of_ble_eq_true rfl, Nat.le_of_ble_eq_true rfl⟩ (Nat.le_of_ble_eq_true rfl) (kW_pm aa ad t σ _ rs) (kW_pm aa ad t q2 _ rs).symm dL_promote_4 rfl [⟨0, 9, 12, 13⟩] ⟨0, 9, 15, 17⟩ [] rfl (List.forall_mem_cons.mpr ⟨⟨by decide, "java/lang/IndexOutOfBoundsException", q_k_L_13, by decide⟩, (fun _ h => absurd h List.not_mem_nil)⟩) (by decide) (by decide) q_k_L_17 q_g_3 (fun q9 => ?_)
  refine j_astore_n (L' := [(3, .ref q9), (0, .ref (ad 0)), (1, .int p1), (2, .ref o)]) (pc := 15) g dL_promote_15 rfl (Nat.le_of_ble_eq_true rfl) rfl ?_
  refine j_iconst (v := 2) (pc := 16) g dL_promote_16 (by decide) ?_
  exact hE _ _ dL_promote_17
set_option maxRecDepth 100000 in
set_option maxHeartbeats 4000000 in
theorem hL_transfer_ok {D : va_G} {t : Nat → ClassId} {aa : gx_AA} {l : Launch} {ad : Nat → Nat} {rs : va_W} {o : Nat} {fo : (Nat → Int64)} {σ : CS} {p1 : Int32} {p2 : Int32} {q : (Int32 × CS)} (hst : l.stackTraces = false) (hf : fX8_transfer σ p1 p2 = some q) : gx_CH D t (gx_E0 aa) l yL_transfer cL_transfer 5 (some .int) [(0, 10, 13, 13), (0, 10, 17, 15), (0, 10, 21, 27), (0, 10, 25, 17)] 19 452 0 0 [.ref (ad 0), .int p1, .int p2, .ref o] ((o, .inl (t 4, 1, .inr (.inl fo))) :: kW aa ad t σ rs) ((o, .inl (t 4, 1, .inr (.inl (vp_updL fo (0 : Int32).toNatClampNeg q.1.toInt64)))) :: kW aa ad t q.2 rs) (some (.int 0)) := by
  refine gx_intro_h hst (by decide) (Nat.le_of_ble_eq_true rfl) (fun J gh hE => ?_)
  have g := gh.g
  show J 0 0 ((o, .inl (t 4, 1, .inr (.inl fo))) :: kW aa ad t σ rs) 0 [(0, .ref (ad 0)), (1, .int p1), (2, .int p2), (3, .ref o)] []
  refine j_aload_n (pc := 0) g 3 dL_transfer_0 rfl ?_
  refine j_iconst (v := 0) (pc := 1) g dL_transfer_1 (by decide) ?_
  refine j_aload_n (pc := 2) g 0 dL_transfer_2 rfl ?_
  refine j_iload_n (pc := 3) g 1 dL_transfer_3 rfl ?_
  refine j_iload_n (pc := 4) g 2 dL_transfer_4 rfl ?_
  refine j_callVi (pc := 5) (na := 2) (As := [.int p1, .int p2]) (rest := [.int 0, .ref o]) (q0 := 1) (ci := 9) g (cX8_transfer_ (rs := (o, .inl (t 4, 1, .inr (.inl fo))) :: rs) hf) q_i_X8_transfer q_s_X8_transfer rfl rfl rfl q_c_X8_transfer q_l_L_23 q_n_X8 (by decide +kernel) rfl ⟨Nat.le_of_ble_eq_true rfl, Nat.le_of_ble_eq_true rfl⟩ ⟨Nat.le_of_ble_eq_true rfl, Nat.le_of_ble_eq_true rfl⟩ (Nat.le_of_ble_eq_true rfl) (kW_pm aa ad t σ _ rs) (kW_pm aa ad t q.2 _ rs).symm dL_transfer_5 ?_ rfl
  refine j_i2l (pc := 8) g dL_transfer_8 ?_
  refine j_last (pc := 9) (w' := ((o, .inl (t 4, 1, .inr (.inl (vp_updL fo (0 : Int32).toNatClampNeg q.1.toInt64)))) :: kW aa ad t q.2 rs)) g 0 rfl (show gx_in (0 : Int32) 1 by decide) rfl dL_transfer_9 ?_
  refine j_goto (tgt := 29) (pc := 10) g dL_transfer_10 (by decide) ?_
  refine j_iconst (v := 0) (pc := 29) g dL_transfer_29 (by decide) ?_
  exact hE _ _ dL_transfer_30
set_option maxRecDepth 100000 in
set_option maxHeartbeats 4000000 in
theorem hL_transfer_x1 {D : va_G} {t : Nat → ClassId} {aa : gx_AA} {l : Launch} {ad : Nat → Nat} {rs : va_W} {o : Nat} {fo : (Nat → Int64)} {σ : CS} {p1 : Int32} {p2 : Int32} {q2 : CS} (hst : l.stackTraces = false) (hf : xX8_transfer σ p1 p2 = some (1, q2)) : gx_CH D t (gx_E0 aa) l yL_transfer cL_transfer 5 (some .int) [(0, 10, 13, 13), (0, 10, 17, 15), (0, 10, 21, 27), (0, 10, 25, 17)] 19 452 1 6 [.ref (ad 0), .int p1, .int p2, .ref o] ((o, .inl (t 4, 1, .inr (.inl fo))) :: kW aa ad t σ rs) ((o, .inl (t 4, 1, .inr (.inl fo))) :: kW aa ad t q2 rs) (some (.int 1)) := by
  refine gx_intro_h hst (by decide) (Nat.le_of_ble_eq_true rfl) (fun J gh hE => ?_)
  have g := gh.g
  show J 0 0 ((o, .inl (t 4, 1, .inr (.inl fo))) :: kW aa ad t σ rs) 0 [(0, .ref (ad 0)), (1, .int p1), (2, .int p2), (3, .ref o)] []
  refine j_aload_n (pc := 0) g 3 dL_transfer_0 rfl ?_
  refine j_iconst (v := 0) (pc := 1) g dL_transfer_1 (by decide) ?_
  refine j_aload_n (pc := 2) g 0 dL_transfer_2 rfl ?_
  refine j_iload_n (pc := 3) g 1 dL_transfer_3 rfl ?_
  refine j_iload_n (pc := 4) g 2 dL_transfer_4 rfl ?_
  refine j_callVH (E0 := "java/lang/IndexOutOfBoundsException") (pc := 5) (na := 2) (As := [.int p1, .int p2]) (rest := [.int 0, .ref o]) (q0 := 1) (ci := 9) (w' := ((o, .inl (t 4, 1, .inr (.inl fo))) :: kW aa ad t q2 rs)) gh (eX8_transfer_ (rs := (o, .inl (t 4, 1, .inr (.inl fo))) :: rs) hf) q_i_X8_transfer q_s_X8_transfer rfl rfl rfl q_c_X8_transfer q_l_L_23 q_n_X8 (by decide +kernel) rfl ⟨Nat.le_of_ble_eq_true rfl, Nat.le_of_ble_eq_true rfl⟩ ⟨Nat.le_of_ble_eq_true rfl, Nat.le_of_ble_eq_true rfl⟩ (Nat.le_of_ble_eq_true rfl) (kW_pm aa ad t σ _ rs) (kW_pm aa ad t q2 _ rs).symm dL_transfer_5 rfl [] ⟨0, 10, 13, 13⟩ [⟨0, 10, 17, 15⟩, ⟨0, 10, 21, 27⟩, ⟨0, 10, 25, 17⟩] rfl (fun _ h => absurd h List.not_mem_nil) (by decide) (by decide) q_k_L_13 q_g_1 (fun q9 => ?_)
  refine j_astore (L' := [(4, .ref q9), (0, .ref (ad 0)), (1, .int p1), (2, .int p2), (3, .ref o)]) (pc := 13) g dL_transfer_13 (Nat.le_of_ble_eq_true rfl) rfl ?_
  refine j_iconst (v := 1) (pc := 15) g dL_transfer_15 (by decide) ?_
  exact hE _ _ dL_transfer_16
set_option maxRecDepth 100000 in
set_option maxHeartbeats 4000000 in
theorem hL_transfer_x2 {D : va_G} {t : Nat → ClassId} {aa : gx_AA} {l : Launch} {ad : Nat → Nat} {rs : va_W} {o : Nat} {fo : (Nat → Int64)} {σ : CS} {p1 : Int32} {p2 : Int32} {q2 : CS} (hst : l.stackTraces = false) (hf : xX8_transfer σ p1 p2 = some (2, q2)) : gx_CH D t (gx_E0 aa) l yL_transfer cL_transfer 5 (some .int) [(0, 10, 13, 13), (0, 10, 17, 15), (0, 10, 21, 27), (0, 10, 25, 17)] 19 452 1 6 [.ref (ad 0), .int p1, .int p2, .ref o] ((o, .inl (t 4, 1, .inr (.inl fo))) :: kW aa ad t σ rs) ((o, .inl (t 4, 1, .inr (.inl fo))) :: kW aa ad t q2 rs) (some (.int 2)) := by
  refine gx_intro_h hst (by decide) (Nat.le_of_ble_eq_true rfl) (fun J gh hE => ?_)
  have g := gh.g
  show J 0 0 ((o, .inl (t 4, 1, .inr (.inl fo))) :: kW aa ad t σ rs) 0 [(0, .ref (ad 0)), (1, .int p1), (2, .int p2), (3, .ref o)] []
  refine j_aload_n (pc := 0) g 3 dL_transfer_0 rfl ?_
  refine j_iconst (v := 0) (pc := 1) g dL_transfer_1 (by decide) ?_
  refine j_aload_n (pc := 2) g 0 dL_transfer_2 rfl ?_
  refine j_iload_n (pc := 3) g 1 dL_transfer_3 rfl ?_
  refine j_iload_n (pc := 4) g 2 dL_transfer_4 rfl ?_
  refine j_callVH (E0 := "java/lang/IllegalArgumentException") (pc := 5) (na := 2) (As := [.int p1, .int p2]) (rest := [.int 0, .ref o]) (q0 := 1) (ci := 9) (w' := ((o, .inl (t 4, 1, .inr (.inl fo))) :: kW aa ad t q2 rs)) gh (eX8_transfer_ (rs := (o, .inl (t 4, 1, .inr (.inl fo))) :: rs) hf) q_i_X8_transfer q_s_X8_transfer rfl rfl rfl q_c_X8_transfer q_l_L_23 q_n_X8 (by decide +kernel) rfl ⟨Nat.le_of_ble_eq_true rfl, Nat.le_of_ble_eq_true rfl⟩ ⟨Nat.le_of_ble_eq_true rfl, Nat.le_of_ble_eq_true rfl⟩ (Nat.le_of_ble_eq_true rfl) (kW_pm aa ad t σ _ rs) (kW_pm aa ad t q2 _ rs).symm dL_transfer_5 rfl [⟨0, 10, 13, 13⟩] ⟨0, 10, 17, 15⟩ [⟨0, 10, 21, 27⟩, ⟨0, 10, 25, 17⟩] rfl (List.forall_mem_cons.mpr ⟨⟨by decide, "java/lang/IndexOutOfBoundsException", q_k_L_13, by decide⟩, (fun _ h => absurd h List.not_mem_nil)⟩) (by decide) (by decide) q_k_L_15 q_g_2 (fun q9 => ?_)
  refine j_astore (L' := [(4, .ref q9), (0, .ref (ad 0)), (1, .int p1), (2, .int p2), (3, .ref o)]) (pc := 17) g dL_transfer_17 (Nat.le_of_ble_eq_true rfl) rfl ?_
  refine j_iconst (v := 2) (pc := 19) g dL_transfer_19 (by decide) ?_
  exact hE _ _ dL_transfer_20
set_option maxRecDepth 100000 in
set_option maxHeartbeats 4000000 in
theorem hL_transfer_x3 {D : va_G} {t : Nat → ClassId} {aa : gx_AA} {l : Launch} {ad : Nat → Nat} {rs : va_W} {o : Nat} {fo : (Nat → Int64)} {σ : CS} {p1 : Int32} {p2 : Int32} {q2 : CS} (hst : l.stackTraces = false) (hf : xX8_transfer σ p1 p2 = some (4, q2)) : gx_CH D t (gx_E0 aa) l yL_transfer cL_transfer 5 (some .int) [(0, 10, 13, 13), (0, 10, 17, 15), (0, 10, 21, 27), (0, 10, 25, 17)] 19 452 1 6 [.ref (ad 0), .int p1, .int p2, .ref o] ((o, .inl (t 4, 1, .inr (.inl fo))) :: kW aa ad t σ rs) ((o, .inl (t 4, 1, .inr (.inl fo))) :: kW aa ad t q2 rs) (some (.int 3)) := by
  refine gx_intro_h hst (by decide) (Nat.le_of_ble_eq_true rfl) (fun J gh hE => ?_)
  have g := gh.g
  show J 0 0 ((o, .inl (t 4, 1, .inr (.inl fo))) :: kW aa ad t σ rs) 0 [(0, .ref (ad 0)), (1, .int p1), (2, .int p2), (3, .ref o)] []
  refine j_aload_n (pc := 0) g 3 dL_transfer_0 rfl ?_
  refine j_iconst (v := 0) (pc := 1) g dL_transfer_1 (by decide) ?_
  refine j_aload_n (pc := 2) g 0 dL_transfer_2 rfl ?_
  refine j_iload_n (pc := 3) g 1 dL_transfer_3 rfl ?_
  refine j_iload_n (pc := 4) g 2 dL_transfer_4 rfl ?_
  refine j_callVH (E0 := "java/lang/UnsupportedOperationException") (pc := 5) (na := 2) (As := [.int p1, .int p2]) (rest := [.int 0, .ref o]) (q0 := 1) (ci := 9) (w' := ((o, .inl (t 4, 1, .inr (.inl fo))) :: kW aa ad t q2 rs)) gh (eX8_transfer_ (rs := (o, .inl (t 4, 1, .inr (.inl fo))) :: rs) hf) q_i_X8_transfer q_s_X8_transfer rfl rfl rfl q_c_X8_transfer q_l_L_23 q_n_X8 (by decide +kernel) rfl ⟨Nat.le_of_ble_eq_true rfl, Nat.le_of_ble_eq_true rfl⟩ ⟨Nat.le_of_ble_eq_true rfl, Nat.le_of_ble_eq_true rfl⟩ (Nat.le_of_ble_eq_true rfl) (kW_pm aa ad t σ _ rs) (kW_pm aa ad t q2 _ rs).symm dL_transfer_5 rfl [⟨0, 10, 13, 13⟩, ⟨0, 10, 17, 15⟩] ⟨0, 10, 21, 27⟩ [⟨0, 10, 25, 17⟩] rfl (List.forall_mem_cons.mpr ⟨⟨by decide, "java/lang/IndexOutOfBoundsException", q_k_L_13, by decide⟩, (List.forall_mem_cons.mpr ⟨⟨by decide, "java/lang/IllegalArgumentException", q_k_L_15, by decide⟩, (fun _ h => absurd h List.not_mem_nil)⟩)⟩) (by decide) (by decide) q_k_L_27 q_g_4 (fun q9 => ?_)
  refine j_astore (L' := [(4, .ref q9), (0, .ref (ad 0)), (1, .int p1), (2, .int p2), (3, .ref o)]) (pc := 21) g dL_transfer_21 (Nat.le_of_ble_eq_true rfl) rfl ?_
  refine j_iconst (v := 3) (pc := 23) g dL_transfer_23 (by decide) ?_
  exact hE _ _ dL_transfer_24
set_option maxRecDepth 100000 in
set_option maxHeartbeats 4000000 in
theorem hL_transfer_x4 {D : va_G} {t : Nat → ClassId} {aa : gx_AA} {l : Launch} {ad : Nat → Nat} {rs : va_W} {o : Nat} {fo : (Nat → Int64)} {σ : CS} {p1 : Int32} {p2 : Int32} {q2 : CS} (hst : l.stackTraces = false) (hf : xX8_transfer σ p1 p2 = some (3, q2)) : gx_CH D t (gx_E0 aa) l yL_transfer cL_transfer 5 (some .int) [(0, 10, 13, 13), (0, 10, 17, 15), (0, 10, 21, 27), (0, 10, 25, 17)] 19 452 1 6 [.ref (ad 0), .int p1, .int p2, .ref o] ((o, .inl (t 4, 1, .inr (.inl fo))) :: kW aa ad t σ rs) ((o, .inl (t 4, 1, .inr (.inl fo))) :: kW aa ad t q2 rs) (some (.int 4)) := by
  refine gx_intro_h hst (by decide) (Nat.le_of_ble_eq_true rfl) (fun J gh hE => ?_)
  have g := gh.g
  show J 0 0 ((o, .inl (t 4, 1, .inr (.inl fo))) :: kW aa ad t σ rs) 0 [(0, .ref (ad 0)), (1, .int p1), (2, .int p2), (3, .ref o)] []
  refine j_aload_n (pc := 0) g 3 dL_transfer_0 rfl ?_
  refine j_iconst (v := 0) (pc := 1) g dL_transfer_1 (by decide) ?_
  refine j_aload_n (pc := 2) g 0 dL_transfer_2 rfl ?_
  refine j_iload_n (pc := 3) g 1 dL_transfer_3 rfl ?_
  refine j_iload_n (pc := 4) g 2 dL_transfer_4 rfl ?_
  refine j_callVH (E0 := "java/lang/IllegalStateException") (pc := 5) (na := 2) (As := [.int p1, .int p2]) (rest := [.int 0, .ref o]) (q0 := 1) (ci := 9) (w' := ((o, .inl (t 4, 1, .inr (.inl fo))) :: kW aa ad t q2 rs)) gh (eX8_transfer_ (rs := (o, .inl (t 4, 1, .inr (.inl fo))) :: rs) hf) q_i_X8_transfer q_s_X8_transfer rfl rfl rfl q_c_X8_transfer q_l_L_23 q_n_X8 (by decide +kernel) rfl ⟨Nat.le_of_ble_eq_true rfl, Nat.le_of_ble_eq_true rfl⟩ ⟨Nat.le_of_ble_eq_true rfl, Nat.le_of_ble_eq_true rfl⟩ (Nat.le_of_ble_eq_true rfl) (kW_pm aa ad t σ _ rs) (kW_pm aa ad t q2 _ rs).symm dL_transfer_5 rfl [⟨0, 10, 13, 13⟩, ⟨0, 10, 17, 15⟩, ⟨0, 10, 21, 27⟩] ⟨0, 10, 25, 17⟩ [] rfl (List.forall_mem_cons.mpr ⟨⟨by decide, "java/lang/IndexOutOfBoundsException", q_k_L_13, by decide⟩, (List.forall_mem_cons.mpr ⟨⟨by decide, "java/lang/IllegalArgumentException", q_k_L_15, by decide⟩, (List.forall_mem_cons.mpr ⟨⟨by decide, "java/lang/UnsupportedOperationException", q_k_L_27, by decide⟩, (fun _ h => absurd h List.not_mem_nil)⟩)⟩)⟩) (by decide) (by decide) q_k_L_17 q_g_3 (fun q9 => ?_)
  refine j_astore (L' := [(4, .ref q9), (0, .ref (ad 0)), (1, .int p1), (2, .int p2), (3, .ref o)]) (pc := 25) g dL_transfer_25 (Nat.le_of_ble_eq_true rfl) rfl ?_
  refine j_iconst (v := 4) (pc := 27) g dL_transfer_27 (by decide) ?_
  exact hE _ _ dL_transfer_28
set_option maxRecDepth 100000 in
set_option maxHeartbeats 4000000 in
theorem hL_dismiss_ok {D : va_G} {t : Nat → ClassId} {aa : gx_AA} {l : Launch} {ad : Nat → Nat} {rs : va_W} {o : Nat} {fo : (Nat → Int64)} {σ : CS} {p1 : Int32} {q : (Int32 × CS)} (hst : l.stackTraces = false) (hf : fX8_dismiss σ p1 = some q) : gx_CH D t (gx_E0 aa) l yL_dismiss cL_dismiss 4 (some .int) [(0, 9, 12, 13), (0, 9, 15, 15)] 9 152 0 0 [.ref (ad 0), .int p1, .ref o] ((o, .inl (t 4, 1, .inr (.inl fo))) :: kW aa ad t σ rs) ((o, .inl (t 4, 1, .inr (.inl (vp_updL fo (0 : Int32).toNatClampNeg q.1.toInt64)))) :: kW aa ad t q.2 rs) (some (.int 0)) := by
  refine gx_intro_h hst (by decide) (Nat.le_of_ble_eq_true rfl) (fun J gh hE => ?_)
  have g := gh.g
  show J 0 0 ((o, .inl (t 4, 1, .inr (.inl fo))) :: kW aa ad t σ rs) 0 [(0, .ref (ad 0)), (1, .int p1), (2, .ref o)] []
  refine j_aload_n (pc := 0) g 2 dL_dismiss_0 rfl ?_
  refine j_iconst (v := 0) (pc := 1) g dL_dismiss_1 (by decide) ?_
  refine j_aload_n (pc := 2) g 0 dL_dismiss_2 rfl ?_
  refine j_iload_n (pc := 3) g 1 dL_dismiss_3 rfl ?_
  refine j_callVi (pc := 4) (na := 1) (As := [.int p1]) (rest := [.int 0, .ref o]) (q0 := 1) (ci := 9) g (cX8_dismiss_ (rs := (o, .inl (t 4, 1, .inr (.inl fo))) :: rs) hf) q_i_X8_dismiss q_s_X8_dismiss rfl rfl rfl q_c_X8_dismiss q_l_L_29 q_n_X8 (by decide +kernel) rfl ⟨Nat.le_of_ble_eq_true rfl, Nat.le_of_ble_eq_true rfl⟩ ⟨Nat.le_of_ble_eq_true rfl, Nat.le_of_ble_eq_true rfl⟩ (Nat.le_of_ble_eq_true rfl) (kW_pm aa ad t σ _ rs) (kW_pm aa ad t q.2 _ rs).symm dL_dismiss_4 ?_ rfl
  refine j_i2l (pc := 7) g dL_dismiss_7 ?_
  refine j_last (pc := 8) (w' := ((o, .inl (t 4, 1, .inr (.inl (vp_updL fo (0 : Int32).toNatClampNeg q.1.toInt64)))) :: kW aa ad t q.2 rs)) g 0 rfl (show gx_in (0 : Int32) 1 by decide) rfl dL_dismiss_8 ?_
  refine j_goto (tgt := 18) (pc := 9) g dL_dismiss_9 (by decide) ?_
  refine j_iconst (v := 0) (pc := 18) g dL_dismiss_18 (by decide) ?_
  exact hE _ _ dL_dismiss_19
set_option maxRecDepth 100000 in
set_option maxHeartbeats 4000000 in
theorem hL_dismiss_x1 {D : va_G} {t : Nat → ClassId} {aa : gx_AA} {l : Launch} {ad : Nat → Nat} {rs : va_W} {o : Nat} {fo : (Nat → Int64)} {σ : CS} {p1 : Int32} {q2 : CS} (hst : l.stackTraces = false) (hf : xX8_dismiss σ p1 = some (1, q2)) : gx_CH D t (gx_E0 aa) l yL_dismiss cL_dismiss 4 (some .int) [(0, 9, 12, 13), (0, 9, 15, 15)] 9 152 1 6 [.ref (ad 0), .int p1, .ref o] ((o, .inl (t 4, 1, .inr (.inl fo))) :: kW aa ad t σ rs) ((o, .inl (t 4, 1, .inr (.inl fo))) :: kW aa ad t q2 rs) (some (.int 1)) := by
  refine gx_intro_h hst (by decide) (Nat.le_of_ble_eq_true rfl) (fun J gh hE => ?_)
  have g := gh.g
  show J 0 0 ((o, .inl (t 4, 1, .inr (.inl fo))) :: kW aa ad t σ rs) 0 [(0, .ref (ad 0)), (1, .int p1), (2, .ref o)] []
  refine j_aload_n (pc := 0) g 2 dL_dismiss_0 rfl ?_
  refine j_iconst (v := 0) (pc := 1) g dL_dismiss_1 (by decide) ?_
  refine j_aload_n (pc := 2) g 0 dL_dismiss_2 rfl ?_
  refine j_iload_n (pc := 3) g 1 dL_dismiss_3 rfl ?_
  refine j_callVH (E0 := "java/lang/IndexOutOfBoundsException") (pc := 4) (na := 1) (As := [.int p1]) (rest := [.int 0, .ref o]) (q0 := 1) (ci := 9) (w' := ((o, .inl (t 4, 1, .inr (.inl fo))) :: kW aa ad t q2 rs)) gh (eX8_dismiss_ (rs := (o, .inl (t 4, 1, .inr (.inl fo))) :: rs) hf) q_i_X8_dismiss q_s_X8_dismiss rfl rfl rfl q_c_X8_dismiss q_l_L_29 q_n_X8 (by decide +kernel) rfl ⟨Nat.le_of_ble_eq_true rfl, Nat.le_of_ble_eq_true rfl⟩ ⟨Nat.le_of_ble_eq_true rfl, Nat.le_of_ble_eq_true rfl⟩ (Nat.le_of_ble_eq_true rfl) (kW_pm aa ad t σ _ rs) (kW_pm aa ad t q2 _ rs).symm dL_dismiss_4 rfl [] ⟨0, 9, 12, 13⟩ [⟨0, 9, 15, 15⟩] rfl (fun _ h => absurd h List.not_mem_nil) (by decide) (by decide) q_k_L_13 q_g_1 (fun q9 => ?_)
  refine j_astore_n (L' := [(3, .ref q9), (0, .ref (ad 0)), (1, .int p1), (2, .ref o)]) (pc := 12) g dL_dismiss_12 rfl (Nat.le_of_ble_eq_true rfl) rfl ?_
  refine j_iconst (v := 1) (pc := 13) g dL_dismiss_13 (by decide) ?_
  exact hE _ _ dL_dismiss_14
set_option maxRecDepth 100000 in
set_option maxHeartbeats 4000000 in
theorem hL_dismiss_x2 {D : va_G} {t : Nat → ClassId} {aa : gx_AA} {l : Launch} {ad : Nat → Nat} {rs : va_W} {o : Nat} {fo : (Nat → Int64)} {σ : CS} {p1 : Int32} {q2 : CS} (hst : l.stackTraces = false) (hf : xX8_dismiss σ p1 = some (2, q2)) : gx_CH D t (gx_E0 aa) l yL_dismiss cL_dismiss 4 (some .int) [(0, 9, 12, 13), (0, 9, 15, 15)] 9 152 1 6 [.ref (ad 0), .int p1, .ref o] ((o, .inl (t 4, 1, .inr (.inl fo))) :: kW aa ad t σ rs) ((o, .inl (t 4, 1, .inr (.inl fo))) :: kW aa ad t q2 rs) (some (.int 2)) := by
  refine gx_intro_h hst (by decide) (Nat.le_of_ble_eq_true rfl) (fun J gh hE => ?_)
  have g := gh.g
  show J 0 0 ((o, .inl (t 4, 1, .inr (.inl fo))) :: kW aa ad t σ rs) 0 [(0, .ref (ad 0)), (1, .int p1), (2, .ref o)] []
  refine j_aload_n (pc := 0) g 2 dL_dismiss_0 rfl ?_
  refine j_iconst (v := 0) (pc := 1) g dL_dismiss_1 (by decide) ?_
  refine j_aload_n (pc := 2) g 0 dL_dismiss_2 rfl ?_
  refine j_iload_n (pc := 3) g 1 dL_dismiss_3 rfl ?_
  refine j_callVH (E0 := "java/lang/IllegalArgumentException") (pc := 4) (na := 1) (As := [.int p1]) (rest := [.int 0, .ref o]) (q0 := 1) (ci := 9) (w' := ((o, .inl (t 4, 1, .inr (.inl fo))) :: kW aa ad t q2 rs)) gh (eX8_dismiss_ (rs := (o, .inl (t 4, 1, .inr (.inl fo))) :: rs) hf) q_i_X8_dismiss q_s_X8_dismiss rfl rfl rfl q_c_X8_dismiss q_l_L_29 q_n_X8 (by decide +kernel) rfl ⟨Nat.le_of_ble_eq_true rfl, Nat.le_of_ble_eq_true rfl⟩ ⟨Nat.le_of_ble_eq_true rfl, Nat.le_of_ble_eq_true rfl⟩ (Nat.le_of_ble_eq_true rfl) (kW_pm aa ad t σ _ rs) (kW_pm aa ad t q2 _ rs).symm dL_dismiss_4 rfl [⟨0, 9, 12, 13⟩] ⟨0, 9, 15, 15⟩ [] rfl (List.forall_mem_cons.mpr ⟨⟨by decide, "java/lang/IndexOutOfBoundsException", q_k_L_13, by decide⟩, (fun _ h => absurd h List.not_mem_nil)⟩) (by decide) (by decide) q_k_L_15 q_g_2 (fun q9 => ?_)
  refine j_astore_n (L' := [(3, .ref q9), (0, .ref (ad 0)), (1, .int p1), (2, .ref o)]) (pc := 15) g dL_dismiss_15 rfl (Nat.le_of_ble_eq_true rfl) rfl ?_
  refine j_iconst (v := 2) (pc := 16) g dL_dismiss_16 (by decide) ?_
  exact hE _ _ dL_dismiss_17
set_option maxRecDepth 100000 in
set_option maxHeartbeats 4000000 in
theorem hL_issue_ok {D : va_G} {t : Nat → ClassId} {aa : gx_AA} {l : Launch} {ad : Nat → Nat} {rs : va_W} {o : Nat} {fo : (Nat → Int64)} {σ : CS} {p1 : Int32} {p2 : Int32} {p3 : Int32} {q : (Int32 × CS)} (hst : l.stackTraces = false) (hf : fX8_issue σ p1 p2 p3 = some q) : gx_CH D t (gx_E0 aa) l yL_issue cL_issue 6 (some .int) [(0, 12, 15, 13), (0, 12, 19, 15), (0, 12, 23, 17), (0, 12, 27, 27)] 9 154 0 0 [.ref (ad 0), .int p1, .int p2, .int p3, .ref o] ((o, .inl (t 4, 1, .inr (.inl fo))) :: kW aa ad t σ rs) ((o, .inl (t 4, 1, .inr (.inl (vp_updL fo (0 : Int32).toNatClampNeg q.1.toInt64)))) :: kW aa ad t q.2 rs) (some (.int 0)) := by
  refine gx_intro_h hst (by decide) (Nat.le_of_ble_eq_true rfl) (fun J gh hE => ?_)
  have g := gh.g
  show J 0 0 ((o, .inl (t 4, 1, .inr (.inl fo))) :: kW aa ad t σ rs) 0 [(0, .ref (ad 0)), (1, .int p1), (2, .int p2), (3, .int p3), (4, .ref o)] []
  refine j_aload (pc := 0) g 4 dL_issue_0 rfl ?_
  refine j_iconst (v := 0) (pc := 2) g dL_issue_2 (by decide) ?_
  refine j_aload_n (pc := 3) g 0 dL_issue_3 rfl ?_
  refine j_iload_n (pc := 4) g 1 dL_issue_4 rfl ?_
  refine j_iload_n (pc := 5) g 2 dL_issue_5 rfl ?_
  refine j_iload_n (pc := 6) g 3 dL_issue_6 rfl ?_
  refine j_callVi (pc := 7) (na := 3) (As := [.int p1, .int p2, .int p3]) (rest := [.int 0, .ref o]) (q0 := 1) (ci := 9) g (cX8_issue_ (rs := (o, .inl (t 4, 1, .inr (.inl fo))) :: rs) hf) q_i_X8_issue q_s_X8_issue rfl rfl rfl q_c_X8_issue q_l_L_32 q_n_X8 (by decide +kernel) rfl ⟨Nat.le_of_ble_eq_true rfl, Nat.le_of_ble_eq_true rfl⟩ ⟨Nat.le_of_ble_eq_true rfl, Nat.le_of_ble_eq_true rfl⟩ (Nat.le_of_ble_eq_true rfl) (kW_pm aa ad t σ _ rs) (kW_pm aa ad t q.2 _ rs).symm dL_issue_7 ?_ rfl
  refine j_i2l (pc := 10) g dL_issue_10 ?_
  refine j_last (pc := 11) (w' := ((o, .inl (t 4, 1, .inr (.inl (vp_updL fo (0 : Int32).toNatClampNeg q.1.toInt64)))) :: kW aa ad t q.2 rs)) g 0 rfl (show gx_in (0 : Int32) 1 by decide) rfl dL_issue_11 ?_
  refine j_goto (tgt := 31) (pc := 12) g dL_issue_12 (by decide) ?_
  refine j_iconst (v := 0) (pc := 31) g dL_issue_31 (by decide) ?_
  exact hE _ _ dL_issue_32
set_option maxRecDepth 100000 in
set_option maxHeartbeats 4000000 in
theorem hL_issue_x1 {D : va_G} {t : Nat → ClassId} {aa : gx_AA} {l : Launch} {ad : Nat → Nat} {rs : va_W} {o : Nat} {fo : (Nat → Int64)} {σ : CS} {p1 : Int32} {p2 : Int32} {p3 : Int32} {q2 : CS} (hst : l.stackTraces = false) (hf : xX8_issue σ p1 p2 p3 = some (1, q2)) : gx_CH D t (gx_E0 aa) l yL_issue cL_issue 6 (some .int) [(0, 12, 15, 13), (0, 12, 19, 15), (0, 12, 23, 17), (0, 12, 27, 27)] 9 154 1 6 [.ref (ad 0), .int p1, .int p2, .int p3, .ref o] ((o, .inl (t 4, 1, .inr (.inl fo))) :: kW aa ad t σ rs) ((o, .inl (t 4, 1, .inr (.inl fo))) :: kW aa ad t q2 rs) (some (.int 1)) := by
  refine gx_intro_h hst (by decide) (Nat.le_of_ble_eq_true rfl) (fun J gh hE => ?_)
  have g := gh.g
  show J 0 0 ((o, .inl (t 4, 1, .inr (.inl fo))) :: kW aa ad t σ rs) 0 [(0, .ref (ad 0)), (1, .int p1), (2, .int p2), (3, .int p3), (4, .ref o)] []
  refine j_aload (pc := 0) g 4 dL_issue_0 rfl ?_
  refine j_iconst (v := 0) (pc := 2) g dL_issue_2 (by decide) ?_
  refine j_aload_n (pc := 3) g 0 dL_issue_3 rfl ?_
  refine j_iload_n (pc := 4) g 1 dL_issue_4 rfl ?_
  refine j_iload_n (pc := 5) g 2 dL_issue_5 rfl ?_
  refine j_iload_n (pc := 6) g 3 dL_issue_6 rfl ?_
  refine j_callVH (E0 := "java/lang/IndexOutOfBoundsException") (pc := 7) (na := 3) (As := [.int p1, .int p2, .int p3]) (rest := [.int 0, .ref o]) (q0 := 1) (ci := 9) (w' := ((o, .inl (t 4, 1, .inr (.inl fo))) :: kW aa ad t q2 rs)) gh (eX8_issue_ (rs := (o, .inl (t 4, 1, .inr (.inl fo))) :: rs) hf) q_i_X8_issue q_s_X8_issue rfl rfl rfl q_c_X8_issue q_l_L_32 q_n_X8 (by decide +kernel) rfl ⟨Nat.le_of_ble_eq_true rfl, Nat.le_of_ble_eq_true rfl⟩ ⟨Nat.le_of_ble_eq_true rfl, Nat.le_of_ble_eq_true rfl⟩ (Nat.le_of_ble_eq_true rfl) (kW_pm aa ad t σ _ rs) (kW_pm aa ad t q2 _ rs).symm dL_issue_7 rfl [] ⟨0, 12, 15, 13⟩ [⟨0, 12, 19, 15⟩, ⟨0, 12, 23, 17⟩, ⟨0, 12, 27, 27⟩] rfl (fun _ h => absurd h List.not_mem_nil) (by decide) (by decide) q_k_L_13 q_g_1 (fun q9 => ?_)
  refine j_astore (L' := [(5, .ref q9), (0, .ref (ad 0)), (1, .int p1), (2, .int p2), (3, .int p3), (4, .ref o)]) (pc := 15) g dL_issue_15 (Nat.le_of_ble_eq_true rfl) rfl ?_
  refine j_iconst (v := 1) (pc := 17) g dL_issue_17 (by decide) ?_
  exact hE _ _ dL_issue_18
set_option maxRecDepth 100000 in
set_option maxHeartbeats 4000000 in
theorem hL_issue_x2 {D : va_G} {t : Nat → ClassId} {aa : gx_AA} {l : Launch} {ad : Nat → Nat} {rs : va_W} {o : Nat} {fo : (Nat → Int64)} {σ : CS} {p1 : Int32} {p2 : Int32} {p3 : Int32} {q2 : CS} (hst : l.stackTraces = false) (hf : xX8_issue σ p1 p2 p3 = some (2, q2)) : gx_CH D t (gx_E0 aa) l yL_issue cL_issue 6 (some .int) [(0, 12, 15, 13), (0, 12, 19, 15), (0, 12, 23, 17), (0, 12, 27, 27)] 9 154 1 6 [.ref (ad 0), .int p1, .int p2, .int p3, .ref o] ((o, .inl (t 4, 1, .inr (.inl fo))) :: kW aa ad t σ rs) ((o, .inl (t 4, 1, .inr (.inl fo))) :: kW aa ad t q2 rs) (some (.int 2)) := by
  refine gx_intro_h hst (by decide) (Nat.le_of_ble_eq_true rfl) (fun J gh hE => ?_)
  have g := gh.g
  show J 0 0 ((o, .inl (t 4, 1, .inr (.inl fo))) :: kW aa ad t σ rs) 0 [(0, .ref (ad 0)), (1, .int p1), (2, .int p2), (3, .int p3), (4, .ref o)] []
  refine j_aload (pc := 0) g 4 dL_issue_0 rfl ?_
  refine j_iconst (v := 0) (pc := 2) g dL_issue_2 (by decide) ?_
  refine j_aload_n (pc := 3) g 0 dL_issue_3 rfl ?_
  refine j_iload_n (pc := 4) g 1 dL_issue_4 rfl ?_
  refine j_iload_n (pc := 5) g 2 dL_issue_5 rfl ?_
  refine j_iload_n (pc := 6) g 3 dL_issue_6 rfl ?_
  refine j_callVH (E0 := "java/lang/IllegalArgumentException") (pc := 7) (na := 3) (As := [.int p1, .int p2, .int p3]) (rest := [.int 0, .ref o]) (q0 := 1) (ci := 9) (w' := ((o, .inl (t 4, 1, .inr (.inl fo))) :: kW aa ad t q2 rs)) gh (eX8_issue_ (rs := (o, .inl (t 4, 1, .inr (.inl fo))) :: rs) hf) q_i_X8_issue q_s_X8_issue rfl rfl rfl q_c_X8_issue q_l_L_32 q_n_X8 (by decide +kernel) rfl ⟨Nat.le_of_ble_eq_true rfl, Nat.le_of_ble_eq_true rfl⟩ ⟨Nat.le_of_ble_eq_true rfl, Nat.le_of_ble_eq_true rfl⟩ (Nat.le_of_ble_eq_true rfl) (kW_pm aa ad t σ _ rs) (kW_pm aa ad t q2 _ rs).symm dL_issue_7 rfl [⟨0, 12, 15, 13⟩] ⟨0, 12, 19, 15⟩ [⟨0, 12, 23, 17⟩, ⟨0, 12, 27, 27⟩] rfl (List.forall_mem_cons.mpr ⟨⟨by decide, "java/lang/IndexOutOfBoundsException", q_k_L_13, by decide⟩, (fun _ h => absurd h List.not_mem_nil)⟩) (by decide) (by decide) q_k_L_15 q_g_2 (fun q9 => ?_)
  refine j_astore (L' := [(5, .ref q9), (0, .ref (ad 0)), (1, .int p1), (2, .int p2), (3, .int p3), (4, .ref o)]) (pc := 19) g dL_issue_19 (Nat.le_of_ble_eq_true rfl) rfl ?_
  refine j_iconst (v := 2) (pc := 21) g dL_issue_21 (by decide) ?_
  exact hE _ _ dL_issue_22
set_option maxRecDepth 100000 in
set_option maxHeartbeats 4000000 in
theorem hL_issue_x3 {D : va_G} {t : Nat → ClassId} {aa : gx_AA} {l : Launch} {ad : Nat → Nat} {rs : va_W} {o : Nat} {fo : (Nat → Int64)} {σ : CS} {p1 : Int32} {p2 : Int32} {p3 : Int32} {q2 : CS} (hst : l.stackTraces = false) (hf : xX8_issue σ p1 p2 p3 = some (3, q2)) : gx_CH D t (gx_E0 aa) l yL_issue cL_issue 6 (some .int) [(0, 12, 15, 13), (0, 12, 19, 15), (0, 12, 23, 17), (0, 12, 27, 27)] 9 154 1 6 [.ref (ad 0), .int p1, .int p2, .int p3, .ref o] ((o, .inl (t 4, 1, .inr (.inl fo))) :: kW aa ad t σ rs) ((o, .inl (t 4, 1, .inr (.inl fo))) :: kW aa ad t q2 rs) (some (.int 3)) := by
  refine gx_intro_h hst (by decide) (Nat.le_of_ble_eq_true rfl) (fun J gh hE => ?_)
  have g := gh.g
  show J 0 0 ((o, .inl (t 4, 1, .inr (.inl fo))) :: kW aa ad t σ rs) 0 [(0, .ref (ad 0)), (1, .int p1), (2, .int p2), (3, .int p3), (4, .ref o)] []
  refine j_aload (pc := 0) g 4 dL_issue_0 rfl ?_
  refine j_iconst (v := 0) (pc := 2) g dL_issue_2 (by decide) ?_
  refine j_aload_n (pc := 3) g 0 dL_issue_3 rfl ?_
  refine j_iload_n (pc := 4) g 1 dL_issue_4 rfl ?_
  refine j_iload_n (pc := 5) g 2 dL_issue_5 rfl ?_
  refine j_iload_n (pc := 6) g 3 dL_issue_6 rfl ?_
  refine j_callVH (E0 := "java/lang/IllegalStateException") (pc := 7) (na := 3) (As := [.int p1, .int p2, .int p3]) (rest := [.int 0, .ref o]) (q0 := 1) (ci := 9) (w' := ((o, .inl (t 4, 1, .inr (.inl fo))) :: kW aa ad t q2 rs)) gh (eX8_issue_ (rs := (o, .inl (t 4, 1, .inr (.inl fo))) :: rs) hf) q_i_X8_issue q_s_X8_issue rfl rfl rfl q_c_X8_issue q_l_L_32 q_n_X8 (by decide +kernel) rfl ⟨Nat.le_of_ble_eq_true rfl, Nat.le_of_ble_eq_true rfl⟩ ⟨Nat.le_of_ble_eq_true rfl, Nat.le_of_ble_eq_true rfl⟩ (Nat.le_of_ble_eq_true rfl) (kW_pm aa ad t σ _ rs) (kW_pm aa ad t q2 _ rs).symm dL_issue_7 rfl [⟨0, 12, 15, 13⟩, ⟨0, 12, 19, 15⟩] ⟨0, 12, 23, 17⟩ [⟨0, 12, 27, 27⟩] rfl (List.forall_mem_cons.mpr ⟨⟨by decide, "java/lang/IndexOutOfBoundsException", q_k_L_13, by decide⟩, (List.forall_mem_cons.mpr ⟨⟨by decide, "java/lang/IllegalArgumentException", q_k_L_15, by decide⟩, (fun _ h => absurd h List.not_mem_nil)⟩)⟩) (by decide) (by decide) q_k_L_17 q_g_3 (fun q9 => ?_)
  refine j_astore (L' := [(5, .ref q9), (0, .ref (ad 0)), (1, .int p1), (2, .int p2), (3, .int p3), (4, .ref o)]) (pc := 23) g dL_issue_23 (Nat.le_of_ble_eq_true rfl) rfl ?_
  refine j_iconst (v := 3) (pc := 25) g dL_issue_25 (by decide) ?_
  exact hE _ _ dL_issue_26
set_option maxRecDepth 100000 in
set_option maxHeartbeats 4000000 in
theorem hL_issue_x4 {D : va_G} {t : Nat → ClassId} {aa : gx_AA} {l : Launch} {ad : Nat → Nat} {rs : va_W} {o : Nat} {fo : (Nat → Int64)} {σ : CS} {p1 : Int32} {p2 : Int32} {p3 : Int32} {q2 : CS} (hst : l.stackTraces = false) (hf : xX8_issue σ p1 p2 p3 = some (4, q2)) : gx_CH D t (gx_E0 aa) l yL_issue cL_issue 6 (some .int) [(0, 12, 15, 13), (0, 12, 19, 15), (0, 12, 23, 17), (0, 12, 27, 27)] 9 154 1 6 [.ref (ad 0), .int p1, .int p2, .int p3, .ref o] ((o, .inl (t 4, 1, .inr (.inl fo))) :: kW aa ad t σ rs) ((o, .inl (t 4, 1, .inr (.inl fo))) :: kW aa ad t q2 rs) (some (.int 4)) := by
  refine gx_intro_h hst (by decide) (Nat.le_of_ble_eq_true rfl) (fun J gh hE => ?_)
  have g := gh.g
  show J 0 0 ((o, .inl (t 4, 1, .inr (.inl fo))) :: kW aa ad t σ rs) 0 [(0, .ref (ad 0)), (1, .int p1), (2, .int p2), (3, .int p3), (4, .ref o)] []
  refine j_aload (pc := 0) g 4 dL_issue_0 rfl ?_
  refine j_iconst (v := 0) (pc := 2) g dL_issue_2 (by decide) ?_
  refine j_aload_n (pc := 3) g 0 dL_issue_3 rfl ?_
  refine j_iload_n (pc := 4) g 1 dL_issue_4 rfl ?_
  refine j_iload_n (pc := 5) g 2 dL_issue_5 rfl ?_
  refine j_iload_n (pc := 6) g 3 dL_issue_6 rfl ?_
  refine j_callVH (E0 := "java/lang/UnsupportedOperationException") (pc := 7) (na := 3) (As := [.int p1, .int p2, .int p3]) (rest := [.int 0, .ref o]) (q0 := 1) (ci := 9) (w' := ((o, .inl (t 4, 1, .inr (.inl fo))) :: kW aa ad t q2 rs)) gh (eX8_issue_ (rs := (o, .inl (t 4, 1, .inr (.inl fo))) :: rs) hf) q_i_X8_issue q_s_X8_issue rfl rfl rfl q_c_X8_issue q_l_L_32 q_n_X8 (by decide +kernel) rfl ⟨Nat.le_of_ble_eq_true rfl, Nat.le_of_ble_eq_true rfl⟩ ⟨Nat.le_of_ble_eq_true rfl, Nat.le_of_ble_eq_true rfl⟩ (Nat.le_of_ble_eq_true rfl) (kW_pm aa ad t σ _ rs) (kW_pm aa ad t q2 _ rs).symm dL_issue_7 rfl [⟨0, 12, 15, 13⟩, ⟨0, 12, 19, 15⟩, ⟨0, 12, 23, 17⟩] ⟨0, 12, 27, 27⟩ [] rfl (List.forall_mem_cons.mpr ⟨⟨by decide, "java/lang/IndexOutOfBoundsException", q_k_L_13, by decide⟩, (List.forall_mem_cons.mpr ⟨⟨by decide, "java/lang/IllegalArgumentException", q_k_L_15, by decide⟩, (List.forall_mem_cons.mpr ⟨⟨by decide, "java/lang/IllegalStateException", q_k_L_17, by decide⟩, (fun _ h => absurd h List.not_mem_nil)⟩)⟩)⟩) (by decide) (by decide) q_k_L_27 q_g_4 (fun q9 => ?_)
  refine j_astore (L' := [(5, .ref q9), (0, .ref (ad 0)), (1, .int p1), (2, .int p2), (3, .int p3), (4, .ref o)]) (pc := 27) g dL_issue_27 (Nat.le_of_ble_eq_true rfl) rfl ?_
  refine j_iconst (v := 4) (pc := 29) g dL_issue_29 (by decide) ?_
  exact hE _ _ dL_issue_30
set_option maxRecDepth 100000 in
set_option maxHeartbeats 4000000 in
theorem hL_passHours_ok {D : va_G} {t : Nat → ClassId} {aa : gx_AA} {l : Launch} {ad : Nat → Nat} {rs : va_W} {o : Nat} {fo : (Nat → Int64)} {σ : CS} {p1 : Int32} {q : (Int32 × CS)} (hst : l.stackTraces = false) (hf : fX8_passHours σ p1 = some q) : gx_CH D t (gx_E0 aa) l yL_passHours cL_passHours 4 (some .int) [(0, 9, 12, 15)] 9 152 0 0 [.ref (ad 0), .int p1, .ref o] ((o, .inl (t 4, 1, .inr (.inl fo))) :: kW aa ad t σ rs) ((o, .inl (t 4, 1, .inr (.inl (vp_updL fo (0 : Int32).toNatClampNeg q.1.toInt64)))) :: kW aa ad t q.2 rs) (some (.int 0)) := by
  refine gx_intro_h hst (by decide) (Nat.le_of_ble_eq_true rfl) (fun J gh hE => ?_)
  have g := gh.g
  show J 0 0 ((o, .inl (t 4, 1, .inr (.inl fo))) :: kW aa ad t σ rs) 0 [(0, .ref (ad 0)), (1, .int p1), (2, .ref o)] []
  refine j_aload_n (pc := 0) g 2 dL_passHours_0 rfl ?_
  refine j_iconst (v := 0) (pc := 1) g dL_passHours_1 (by decide) ?_
  refine j_aload_n (pc := 2) g 0 dL_passHours_2 rfl ?_
  refine j_iload_n (pc := 3) g 1 dL_passHours_3 rfl ?_
  refine j_callVi (pc := 4) (na := 1) (As := [.int p1]) (rest := [.int 0, .ref o]) (q0 := 1) (ci := 9) g (cX8_passHours_ (rs := (o, .inl (t 4, 1, .inr (.inl fo))) :: rs) hf) q_i_X8_passHours q_s_X8_passHours rfl rfl rfl q_c_X8_passHours q_l_L_35 q_n_X8 (by decide +kernel) rfl ⟨Nat.le_of_ble_eq_true rfl, Nat.le_of_ble_eq_true rfl⟩ ⟨Nat.le_of_ble_eq_true rfl, Nat.le_of_ble_eq_true rfl⟩ (Nat.le_of_ble_eq_true rfl) (kW_pm aa ad t σ _ rs) (kW_pm aa ad t q.2 _ rs).symm dL_passHours_4 ?_ rfl
  refine j_i2l (pc := 7) g dL_passHours_7 ?_
  refine j_last (pc := 8) (w' := ((o, .inl (t 4, 1, .inr (.inl (vp_updL fo (0 : Int32).toNatClampNeg q.1.toInt64)))) :: kW aa ad t q.2 rs)) g 0 rfl (show gx_in (0 : Int32) 1 by decide) rfl dL_passHours_8 ?_
  refine j_goto (tgt := 15) (pc := 9) g dL_passHours_9 (by decide) ?_
  refine j_iconst (v := 0) (pc := 15) g dL_passHours_15 (by decide) ?_
  exact hE _ _ dL_passHours_16
set_option maxRecDepth 100000 in
set_option maxHeartbeats 4000000 in
theorem hL_passHours_x1 {D : va_G} {t : Nat → ClassId} {aa : gx_AA} {l : Launch} {ad : Nat → Nat} {rs : va_W} {o : Nat} {fo : (Nat → Int64)} {σ : CS} {p1 : Int32} {q2 : CS} (hst : l.stackTraces = false) (hf : xX8_passHours σ p1 = some (2, q2)) : gx_CH D t (gx_E0 aa) l yL_passHours cL_passHours 4 (some .int) [(0, 9, 12, 15)] 9 152 1 6 [.ref (ad 0), .int p1, .ref o] ((o, .inl (t 4, 1, .inr (.inl fo))) :: kW aa ad t σ rs) ((o, .inl (t 4, 1, .inr (.inl fo))) :: kW aa ad t q2 rs) (some (.int 1)) := by
  refine gx_intro_h hst (by decide) (Nat.le_of_ble_eq_true rfl) (fun J gh hE => ?_)
  have g := gh.g
  show J 0 0 ((o, .inl (t 4, 1, .inr (.inl fo))) :: kW aa ad t σ rs) 0 [(0, .ref (ad 0)), (1, .int p1), (2, .ref o)] []
  refine j_aload_n (pc := 0) g 2 dL_passHours_0 rfl ?_
  refine j_iconst (v := 0) (pc := 1) g dL_passHours_1 (by decide) ?_
  refine j_aload_n (pc := 2) g 0 dL_passHours_2 rfl ?_
  refine j_iload_n (pc := 3) g 1 dL_passHours_3 rfl ?_
  refine j_callVH (E0 := "java/lang/IllegalArgumentException") (pc := 4) (na := 1) (As := [.int p1]) (rest := [.int 0, .ref o]) (q0 := 1) (ci := 9) (w' := ((o, .inl (t 4, 1, .inr (.inl fo))) :: kW aa ad t q2 rs)) gh (eX8_passHours_ (rs := (o, .inl (t 4, 1, .inr (.inl fo))) :: rs) hf) q_i_X8_passHours q_s_X8_passHours rfl rfl rfl q_c_X8_passHours q_l_L_35 q_n_X8 (by decide +kernel) rfl ⟨Nat.le_of_ble_eq_true rfl, Nat.le_of_ble_eq_true rfl⟩ ⟨Nat.le_of_ble_eq_true rfl, Nat.le_of_ble_eq_true rfl⟩ (Nat.le_of_ble_eq_true rfl) (kW_pm aa ad t σ _ rs) (kW_pm aa ad t q2 _ rs).symm dL_passHours_4 rfl [] ⟨0, 9, 12, 15⟩ [] rfl (fun _ h => absurd h List.not_mem_nil) (by decide) (by decide) q_k_L_15 q_g_2 (fun q9 => ?_)
  refine j_astore_n (L' := [(3, .ref q9), (0, .ref (ad 0)), (1, .int p1), (2, .ref o)]) (pc := 12) g dL_passHours_12 rfl (Nat.le_of_ble_eq_true rfl) rfl ?_
  refine j_iconst (v := 1) (pc := 13) g dL_passHours_13 (by decide) ?_
  exact hE _ _ dL_passHours_14
set_option maxRecDepth 100000 in
set_option maxHeartbeats 4000000 in
theorem hL_define_ok {D : va_G} {t : Nat → ClassId} {aa : gx_AA} {l : Launch} {ad : Nat → Nat} {rs : va_W} {o : Nat} {fo : (Nat → Int64)} {σ : CS} {p1 : Int32} {p2 : Int32} {p3 : Int32} {q : (Int32 × CS)} (hst : l.stackTraces = false) (hf : fX8_define σ p1 p2 p3 = some q) : gx_CH D t (gx_E0 aa) l yL_define cL_define 6 (some .int) [(0, 12, 15, 15), (0, 12, 19, 17)] 9 154 0 0 [.ref (ad 0), .int p1, .int p2, .int p3, .ref o] ((o, .inl (t 4, 1, .inr (.inl fo))) :: kW aa ad t σ rs) ((o, .inl (t 4, 1, .inr (.inl (vp_updL fo (0 : Int32).toNatClampNeg q.1.toInt64)))) :: kW aa ad t q.2 rs) (some (.int 0)) := by
  refine gx_intro_h hst (by decide) (Nat.le_of_ble_eq_true rfl) (fun J gh hE => ?_)
  have g := gh.g
  show J 0 0 ((o, .inl (t 4, 1, .inr (.inl fo))) :: kW aa ad t σ rs) 0 [(0, .ref (ad 0)), (1, .int p1), (2, .int p2), (3, .int p3), (4, .ref o)] []
  refine j_aload (pc := 0) g 4 dL_define_0 rfl ?_
  refine j_iconst (v := 0) (pc := 2) g dL_define_2 (by decide) ?_
  refine j_aload_n (pc := 3) g 0 dL_define_3 rfl ?_
  refine j_iload_n (pc := 4) g 1 dL_define_4 rfl ?_
  refine j_iload_n (pc := 5) g 2 dL_define_5 rfl ?_
  refine j_iload_n (pc := 6) g 3 dL_define_6 rfl ?_
  refine j_callVi (pc := 7) (na := 3) (As := [.int p1, .int p2, .int p3]) (rest := [.int 0, .ref o]) (q0 := 1) (ci := 9) g (cX8_define_ (rs := (o, .inl (t 4, 1, .inr (.inl fo))) :: rs) hf) q_i_X8_define q_s_X8_define rfl rfl rfl q_c_X8_define q_l_L_38 q_n_X8 (by decide +kernel) rfl ⟨Nat.le_of_ble_eq_true rfl, Nat.le_of_ble_eq_true rfl⟩ ⟨Nat.le_of_ble_eq_true rfl, Nat.le_of_ble_eq_true rfl⟩ (Nat.le_of_ble_eq_true rfl) (kW_pm aa ad t σ _ rs) (kW_pm aa ad t q.2 _ rs).symm dL_define_7 ?_ rfl
  refine j_i2l (pc := 10) g dL_define_10 ?_
  refine j_last (pc := 11) (w' := ((o, .inl (t 4, 1, .inr (.inl (vp_updL fo (0 : Int32).toNatClampNeg q.1.toInt64)))) :: kW aa ad t q.2 rs)) g 0 rfl (show gx_in (0 : Int32) 1 by decide) rfl dL_define_11 ?_
  refine j_goto (tgt := 23) (pc := 12) g dL_define_12 (by decide) ?_
  refine j_iconst (v := 0) (pc := 23) g dL_define_23 (by decide) ?_
  exact hE _ _ dL_define_24
set_option maxRecDepth 100000 in
set_option maxHeartbeats 4000000 in
theorem hL_define_x1 {D : va_G} {t : Nat → ClassId} {aa : gx_AA} {l : Launch} {ad : Nat → Nat} {rs : va_W} {o : Nat} {fo : (Nat → Int64)} {σ : CS} {p1 : Int32} {p2 : Int32} {p3 : Int32} {q2 : CS} (hst : l.stackTraces = false) (hf : xX8_define σ p1 p2 p3 = some (2, q2)) : gx_CH D t (gx_E0 aa) l yL_define cL_define 6 (some .int) [(0, 12, 15, 15), (0, 12, 19, 17)] 9 154 1 6 [.ref (ad 0), .int p1, .int p2, .int p3, .ref o] ((o, .inl (t 4, 1, .inr (.inl fo))) :: kW aa ad t σ rs) ((o, .inl (t 4, 1, .inr (.inl fo))) :: kW aa ad t q2 rs) (some (.int 1)) := by
  refine gx_intro_h hst (by decide) (Nat.le_of_ble_eq_true rfl) (fun J gh hE => ?_)
  have g := gh.g
  show J 0 0 ((o, .inl (t 4, 1, .inr (.inl fo))) :: kW aa ad t σ rs) 0 [(0, .ref (ad 0)), (1, .int p1), (2, .int p2), (3, .int p3), (4, .ref o)] []
  refine j_aload (pc := 0) g 4 dL_define_0 rfl ?_
  refine j_iconst (v := 0) (pc := 2) g dL_define_2 (by decide) ?_
  refine j_aload_n (pc := 3) g 0 dL_define_3 rfl ?_
  refine j_iload_n (pc := 4) g 1 dL_define_4 rfl ?_
  refine j_iload_n (pc := 5) g 2 dL_define_5 rfl ?_
  refine j_iload_n (pc := 6) g 3 dL_define_6 rfl ?_
  refine j_callVH (E0 := "java/lang/IllegalArgumentException") (pc := 7) (na := 3) (As := [.int p1, .int p2, .int p3]) (rest := [.int 0, .ref o]) (q0 := 1) (ci := 9) (w' := ((o, .inl (t 4, 1, .inr (.inl fo))) :: kW aa ad t q2 rs)) gh (eX8_define_ (rs := (o, .inl (t 4, 1, .inr (.inl fo))) :: rs) hf) q_i_X8_define q_s_X8_define rfl rfl rfl q_c_X8_define q_l_L_38 q_n_X8 (by decide +kernel) rfl ⟨Nat.le_of_ble_eq_true rfl, Nat.le_of_ble_eq_true rfl⟩ ⟨Nat.le_of_ble_eq_true rfl, Nat.le_of_ble_eq_true rfl⟩ (Nat.le_of_ble_eq_true rfl) (kW_pm aa ad t σ _ rs) (kW_pm aa ad t q2 _ rs).symm dL_define_7 rfl [] ⟨0, 12, 15, 15⟩ [⟨0, 12, 19, 17⟩] rfl (fun _ h => absurd h List.not_mem_nil) (by decide) (by decide) q_k_L_15 q_g_2 (fun q9 => ?_)
  refine j_astore (L' := [(5, .ref q9), (0, .ref (ad 0)), (1, .int p1), (2, .int p2), (3, .int p3), (4, .ref o)]) (pc := 15) g dL_define_15 (Nat.le_of_ble_eq_true rfl) rfl ?_
  refine j_iconst (v := 1) (pc := 17) g dL_define_17 (by decide) ?_
  exact hE _ _ dL_define_18
set_option maxRecDepth 100000 in
set_option maxHeartbeats 4000000 in
theorem hL_define_x2 {D : va_G} {t : Nat → ClassId} {aa : gx_AA} {l : Launch} {ad : Nat → Nat} {rs : va_W} {o : Nat} {fo : (Nat → Int64)} {σ : CS} {p1 : Int32} {p2 : Int32} {p3 : Int32} {q2 : CS} (hst : l.stackTraces = false) (hf : xX8_define σ p1 p2 p3 = some (3, q2)) : gx_CH D t (gx_E0 aa) l yL_define cL_define 6 (some .int) [(0, 12, 15, 15), (0, 12, 19, 17)] 9 154 1 6 [.ref (ad 0), .int p1, .int p2, .int p3, .ref o] ((o, .inl (t 4, 1, .inr (.inl fo))) :: kW aa ad t σ rs) ((o, .inl (t 4, 1, .inr (.inl fo))) :: kW aa ad t q2 rs) (some (.int 2)) := by
  refine gx_intro_h hst (by decide) (Nat.le_of_ble_eq_true rfl) (fun J gh hE => ?_)
  have g := gh.g
  show J 0 0 ((o, .inl (t 4, 1, .inr (.inl fo))) :: kW aa ad t σ rs) 0 [(0, .ref (ad 0)), (1, .int p1), (2, .int p2), (3, .int p3), (4, .ref o)] []
  refine j_aload (pc := 0) g 4 dL_define_0 rfl ?_
  refine j_iconst (v := 0) (pc := 2) g dL_define_2 (by decide) ?_
  refine j_aload_n (pc := 3) g 0 dL_define_3 rfl ?_
  refine j_iload_n (pc := 4) g 1 dL_define_4 rfl ?_
  refine j_iload_n (pc := 5) g 2 dL_define_5 rfl ?_
  refine j_iload_n (pc := 6) g 3 dL_define_6 rfl ?_
  refine j_callVH (E0 := "java/lang/IllegalStateException") (pc := 7) (na := 3) (As := [.int p1, .int p2, .int p3]) (rest := [.int 0, .ref o]) (q0 := 1) (ci := 9) (w' := ((o, .inl (t 4, 1, .inr (.inl fo))) :: kW aa ad t q2 rs)) gh (eX8_define_ (rs := (o, .inl (t 4, 1, .inr (.inl fo))) :: rs) hf) q_i_X8_define q_s_X8_define rfl rfl rfl q_c_X8_define q_l_L_38 q_n_X8 (by decide +kernel) rfl ⟨Nat.le_of_ble_eq_true rfl, Nat.le_of_ble_eq_true rfl⟩ ⟨Nat.le_of_ble_eq_true rfl, Nat.le_of_ble_eq_true rfl⟩ (Nat.le_of_ble_eq_true rfl) (kW_pm aa ad t σ _ rs) (kW_pm aa ad t q2 _ rs).symm dL_define_7 rfl [⟨0, 12, 15, 15⟩] ⟨0, 12, 19, 17⟩ [] rfl (List.forall_mem_cons.mpr ⟨⟨by decide, "java/lang/IllegalArgumentException", q_k_L_15, by decide⟩, (fun _ h => absurd h List.not_mem_nil)⟩) (by decide) (by decide) q_k_L_17 q_g_3 (fun q9 => ?_)
  refine j_astore (L' := [(5, .ref q9), (0, .ref (ad 0)), (1, .int p1), (2, .int p2), (3, .int p3), (4, .ref o)]) (pc := 19) g dL_define_19 (Nat.le_of_ble_eq_true rfl) rfl ?_
  refine j_iconst (v := 2) (pc := 21) g dL_define_21 (by decide) ?_
  exact hE _ _ dL_define_22
set_option maxRecDepth 100000 in
set_option maxHeartbeats 4000000 in
theorem hL_erase_ok {D : va_G} {t : Nat → ClassId} {aa : gx_AA} {l : Launch} {ad : Nat → Nat} {rs : va_W} {o : Nat} {fo : (Nat → Int64)} {σ : CS} {p1 : Int32} {p2 : Int32} {q : (Int32 × CS)} (hst : l.stackTraces = false) (hf : fX8_erase σ p1 p2 = some q) : gx_CH D t (gx_E0 aa) l yL_erase cL_erase 5 (some .int) [(0, 10, 13, 15), (0, 10, 17, 46)] 9 153 0 0 [.ref (ad 0), .int p1, .int p2, .ref o] ((o, .inl (t 4, 1, .inr (.inl fo))) :: kW aa ad t σ rs) ((o, .inl (t 4, 1, .inr (.inl (vp_updL fo (0 : Int32).toNatClampNeg q.1.toInt64)))) :: kW aa ad t q.2 rs) (some (.int 0)) := by
  refine gx_intro_h hst (by decide) (Nat.le_of_ble_eq_true rfl) (fun J gh hE => ?_)
  have g := gh.g
  show J 0 0 ((o, .inl (t 4, 1, .inr (.inl fo))) :: kW aa ad t σ rs) 0 [(0, .ref (ad 0)), (1, .int p1), (2, .int p2), (3, .ref o)] []
  refine j_aload_n (pc := 0) g 3 dL_erase_0 rfl ?_
  refine j_iconst (v := 0) (pc := 1) g dL_erase_1 (by decide) ?_
  refine j_aload_n (pc := 2) g 0 dL_erase_2 rfl ?_
  refine j_iload_n (pc := 3) g 1 dL_erase_3 rfl ?_
  refine j_iload_n (pc := 4) g 2 dL_erase_4 rfl ?_
  refine j_callVi (pc := 5) (na := 2) (As := [.int p1, .int p2]) (rest := [.int 0, .ref o]) (q0 := 1) (ci := 9) g (cX8_erase_ (rs := (o, .inl (t 4, 1, .inr (.inl fo))) :: rs) hf) q_i_X8_erase q_s_X8_erase rfl rfl rfl q_c_X8_erase q_l_L_42 q_n_X8 (by decide +kernel) rfl ⟨Nat.le_of_ble_eq_true rfl, Nat.le_of_ble_eq_true rfl⟩ ⟨Nat.le_of_ble_eq_true rfl, Nat.le_of_ble_eq_true rfl⟩ (Nat.le_of_ble_eq_true rfl) (kW_pm aa ad t σ _ rs) (kW_pm aa ad t q.2 _ rs).symm dL_erase_5 ?_ rfl
  refine j_i2l (pc := 8) g dL_erase_8 ?_
  refine j_last (pc := 9) (w' := ((o, .inl (t 4, 1, .inr (.inl (vp_updL fo (0 : Int32).toNatClampNeg q.1.toInt64)))) :: kW aa ad t q.2 rs)) g 0 rfl (show gx_in (0 : Int32) 1 by decide) rfl dL_erase_9 ?_
  refine j_goto (tgt := 21) (pc := 10) g dL_erase_10 (by decide) ?_
  refine j_iconst (v := 0) (pc := 21) g dL_erase_21 (by decide) ?_
  exact hE _ _ dL_erase_22
set_option maxRecDepth 100000 in
set_option maxHeartbeats 4000000 in
theorem hL_erase_x1 {D : va_G} {t : Nat → ClassId} {aa : gx_AA} {l : Launch} {ad : Nat → Nat} {rs : va_W} {o : Nat} {fo : (Nat → Int64)} {σ : CS} {p1 : Int32} {p2 : Int32} {q2 : CS} (hst : l.stackTraces = false) (hf : xX8_erase σ p1 p2 = some (2, q2)) : gx_CH D t (gx_E0 aa) l yL_erase cL_erase 5 (some .int) [(0, 10, 13, 15), (0, 10, 17, 46)] 9 153 1 6 [.ref (ad 0), .int p1, .int p2, .ref o] ((o, .inl (t 4, 1, .inr (.inl fo))) :: kW aa ad t σ rs) ((o, .inl (t 4, 1, .inr (.inl fo))) :: kW aa ad t q2 rs) (some (.int 1)) := by
  refine gx_intro_h hst (by decide) (Nat.le_of_ble_eq_true rfl) (fun J gh hE => ?_)
  have g := gh.g
  show J 0 0 ((o, .inl (t 4, 1, .inr (.inl fo))) :: kW aa ad t σ rs) 0 [(0, .ref (ad 0)), (1, .int p1), (2, .int p2), (3, .ref o)] []
  refine j_aload_n (pc := 0) g 3 dL_erase_0 rfl ?_
  refine j_iconst (v := 0) (pc := 1) g dL_erase_1 (by decide) ?_
  refine j_aload_n (pc := 2) g 0 dL_erase_2 rfl ?_
  refine j_iload_n (pc := 3) g 1 dL_erase_3 rfl ?_
  refine j_iload_n (pc := 4) g 2 dL_erase_4 rfl ?_
  refine j_callVH (E0 := "java/lang/IllegalArgumentException") (pc := 5) (na := 2) (As := [.int p1, .int p2]) (rest := [.int 0, .ref o]) (q0 := 1) (ci := 9) (w' := ((o, .inl (t 4, 1, .inr (.inl fo))) :: kW aa ad t q2 rs)) gh (eX8_erase_ (rs := (o, .inl (t 4, 1, .inr (.inl fo))) :: rs) hf) q_i_X8_erase q_s_X8_erase rfl rfl rfl q_c_X8_erase q_l_L_42 q_n_X8 (by decide +kernel) rfl ⟨Nat.le_of_ble_eq_true rfl, Nat.le_of_ble_eq_true rfl⟩ ⟨Nat.le_of_ble_eq_true rfl, Nat.le_of_ble_eq_true rfl⟩ (Nat.le_of_ble_eq_true rfl) (kW_pm aa ad t σ _ rs) (kW_pm aa ad t q2 _ rs).symm dL_erase_5 rfl [] ⟨0, 10, 13, 15⟩ [⟨0, 10, 17, 46⟩] rfl (fun _ h => absurd h List.not_mem_nil) (by decide) (by decide) q_k_L_15 q_g_2 (fun q9 => ?_)
  refine j_astore (L' := [(4, .ref q9), (0, .ref (ad 0)), (1, .int p1), (2, .int p2), (3, .ref o)]) (pc := 13) g dL_erase_13 (Nat.le_of_ble_eq_true rfl) rfl ?_
  refine j_iconst (v := 1) (pc := 15) g dL_erase_15 (by decide) ?_
  exact hE _ _ dL_erase_16
set_option maxRecDepth 100000 in
set_option maxHeartbeats 4000000 in
theorem hL_erase_x2 {D : va_G} {t : Nat → ClassId} {aa : gx_AA} {l : Launch} {ad : Nat → Nat} {rs : va_W} {o : Nat} {fo : (Nat → Int64)} {σ : CS} {p1 : Int32} {p2 : Int32} {q2 : CS} (hst : l.stackTraces = false) (hf : xX8_erase σ p1 p2 = some (5, q2)) : gx_CH D t (gx_E0 aa) l yL_erase cL_erase 5 (some .int) [(0, 10, 13, 15), (0, 10, 17, 46)] 9 153 1 6 [.ref (ad 0), .int p1, .int p2, .ref o] ((o, .inl (t 4, 1, .inr (.inl fo))) :: kW aa ad t σ rs) ((o, .inl (t 4, 1, .inr (.inl fo))) :: kW aa ad t q2 rs) (some (.int 2)) := by
  refine gx_intro_h hst (by decide) (Nat.le_of_ble_eq_true rfl) (fun J gh hE => ?_)
  have g := gh.g
  show J 0 0 ((o, .inl (t 4, 1, .inr (.inl fo))) :: kW aa ad t σ rs) 0 [(0, .ref (ad 0)), (1, .int p1), (2, .int p2), (3, .ref o)] []
  refine j_aload_n (pc := 0) g 3 dL_erase_0 rfl ?_
  refine j_iconst (v := 0) (pc := 1) g dL_erase_1 (by decide) ?_
  refine j_aload_n (pc := 2) g 0 dL_erase_2 rfl ?_
  refine j_iload_n (pc := 3) g 1 dL_erase_3 rfl ?_
  refine j_iload_n (pc := 4) g 2 dL_erase_4 rfl ?_
  refine j_callVH (E0 := "java/util/NoSuchElementException") (pc := 5) (na := 2) (As := [.int p1, .int p2]) (rest := [.int 0, .ref o]) (q0 := 1) (ci := 9) (w' := ((o, .inl (t 4, 1, .inr (.inl fo))) :: kW aa ad t q2 rs)) gh (eX8_erase_ (rs := (o, .inl (t 4, 1, .inr (.inl fo))) :: rs) hf) q_i_X8_erase q_s_X8_erase rfl rfl rfl q_c_X8_erase q_l_L_42 q_n_X8 (by decide +kernel) rfl ⟨Nat.le_of_ble_eq_true rfl, Nat.le_of_ble_eq_true rfl⟩ ⟨Nat.le_of_ble_eq_true rfl, Nat.le_of_ble_eq_true rfl⟩ (Nat.le_of_ble_eq_true rfl) (kW_pm aa ad t σ _ rs) (kW_pm aa ad t q2 _ rs).symm dL_erase_5 rfl [⟨0, 10, 13, 15⟩] ⟨0, 10, 17, 46⟩ [] rfl (List.forall_mem_cons.mpr ⟨⟨by decide, "java/lang/IllegalArgumentException", q_k_L_15, by decide⟩, (fun _ h => absurd h List.not_mem_nil)⟩) (by decide) (by decide) q_k_L_46 q_g_5 (fun q9 => ?_)
  refine j_astore (L' := [(4, .ref q9), (0, .ref (ad 0)), (1, .int p1), (2, .int p2), (3, .ref o)]) (pc := 17) g dL_erase_17 (Nat.le_of_ble_eq_true rfl) rfl ?_
  refine j_iconst (v := 2) (pc := 19) g dL_erase_19 (by decide) ?_
  exact hE _ _ dL_erase_20
set_option maxRecDepth 100000 in
set_option maxHeartbeats 4000000 in
theorem hL_rank_ok {D : va_G} {t : Nat → ClassId} {aa : gx_AA} {l : Launch} {ad : Nat → Nat} {rs : va_W} {o : Nat} {fo : (Nat → Int64)} {σ : CS} {p1 : Int32} {q : (Int32 × CS)} (hst : l.stackTraces = false) (hf : fX8_rank σ p1 = some q) : gx_CH D t (gx_E0 aa) l yL_rank cL_rank 4 (some .int) [(0, 9, 12, 13)] 8 132 0 0 [.ref (ad 0), .int p1, .ref o] ((o, .inl (t 4, 1, .inr (.inl fo))) :: kW aa ad t σ rs) ((o, .inl (t 4, 1, .inr (.inl (vp_updL fo (0 : Int32).toNatClampNeg q.1.toInt64)))) :: kW aa ad t q.2 rs) (some (.int 0)) := by
  refine gx_intro_h hst (by decide) (Nat.le_of_ble_eq_true rfl) (fun J gh hE => ?_)
  have g := gh.g
  show J 0 0 ((o, .inl (t 4, 1, .inr (.inl fo))) :: kW aa ad t σ rs) 0 [(0, .ref (ad 0)), (1, .int p1), (2, .ref o)] []
  refine j_aload_n (pc := 0) g 2 dL_rank_0 rfl ?_
  refine j_iconst (v := 0) (pc := 1) g dL_rank_1 (by decide) ?_
  refine j_aload_n (pc := 2) g 0 dL_rank_2 rfl ?_
  refine j_iload_n (pc := 3) g 1 dL_rank_3 rfl ?_
  refine j_callVi (pc := 4) (na := 1) (As := [.int p1]) (rest := [.int 0, .ref o]) (q0 := 1) (ci := 9) g (cX8_rank_ (rs := (o, .inl (t 4, 1, .inr (.inl fo))) :: rs) hf) q_i_X8_rank q_s_X8_rank rfl rfl rfl q_c_X8_rank q_l_L_48 q_n_X8 (by decide +kernel) rfl ⟨Nat.le_of_ble_eq_true rfl, Nat.le_of_ble_eq_true rfl⟩ ⟨Nat.le_of_ble_eq_true rfl, Nat.le_of_ble_eq_true rfl⟩ (Nat.le_of_ble_eq_true rfl) (kW_pm aa ad t σ _ rs) (kW_pm aa ad t q.2 _ rs).symm dL_rank_4 ?_ rfl
  refine j_i2l (pc := 7) g dL_rank_7 ?_
  refine j_last (pc := 8) (w' := ((o, .inl (t 4, 1, .inr (.inl (vp_updL fo (0 : Int32).toNatClampNeg q.1.toInt64)))) :: kW aa ad t q.2 rs)) g 0 rfl (show gx_in (0 : Int32) 1 by decide) rfl dL_rank_8 ?_
  refine j_goto (tgt := 15) (pc := 9) g dL_rank_9 (by decide) ?_
  refine j_iconst (v := 0) (pc := 15) g dL_rank_15 (by decide) ?_
  exact hE _ _ dL_rank_16
set_option maxRecDepth 100000 in
set_option maxHeartbeats 4000000 in
theorem hL_rank_x1 {D : va_G} {t : Nat → ClassId} {aa : gx_AA} {l : Launch} {ad : Nat → Nat} {rs : va_W} {o : Nat} {fo : (Nat → Int64)} {σ : CS} {p1 : Int32} {q2 : CS} (hst : l.stackTraces = false) (hf : xX8_rank σ p1 = some (1, q2)) : gx_CH D t (gx_E0 aa) l yL_rank cL_rank 4 (some .int) [(0, 9, 12, 13)] 8 132 1 6 [.ref (ad 0), .int p1, .ref o] ((o, .inl (t 4, 1, .inr (.inl fo))) :: kW aa ad t σ rs) ((o, .inl (t 4, 1, .inr (.inl fo))) :: kW aa ad t q2 rs) (some (.int 1)) := by
  refine gx_intro_h hst (by decide) (Nat.le_of_ble_eq_true rfl) (fun J gh hE => ?_)
  have g := gh.g
  show J 0 0 ((o, .inl (t 4, 1, .inr (.inl fo))) :: kW aa ad t σ rs) 0 [(0, .ref (ad 0)), (1, .int p1), (2, .ref o)] []
  refine j_aload_n (pc := 0) g 2 dL_rank_0 rfl ?_
  refine j_iconst (v := 0) (pc := 1) g dL_rank_1 (by decide) ?_
  refine j_aload_n (pc := 2) g 0 dL_rank_2 rfl ?_
  refine j_iload_n (pc := 3) g 1 dL_rank_3 rfl ?_
  refine j_callVH (E0 := "java/lang/IndexOutOfBoundsException") (pc := 4) (na := 1) (As := [.int p1]) (rest := [.int 0, .ref o]) (q0 := 1) (ci := 9) (w' := ((o, .inl (t 4, 1, .inr (.inl fo))) :: kW aa ad t q2 rs)) gh (eX8_rank_ (rs := (o, .inl (t 4, 1, .inr (.inl fo))) :: rs) hf) q_i_X8_rank q_s_X8_rank rfl rfl rfl q_c_X8_rank q_l_L_48 q_n_X8 (by decide +kernel) rfl ⟨Nat.le_of_ble_eq_true rfl, Nat.le_of_ble_eq_true rfl⟩ ⟨Nat.le_of_ble_eq_true rfl, Nat.le_of_ble_eq_true rfl⟩ (Nat.le_of_ble_eq_true rfl) (kW_pm aa ad t σ _ rs) (kW_pm aa ad t q2 _ rs).symm dL_rank_4 rfl [] ⟨0, 9, 12, 13⟩ [] rfl (fun _ h => absurd h List.not_mem_nil) (by decide) (by decide) q_k_L_13 q_g_1 (fun q9 => ?_)
  refine j_astore_n (L' := [(3, .ref q9), (0, .ref (ad 0)), (1, .int p1), (2, .ref o)]) (pc := 12) g dL_rank_12 rfl (Nat.le_of_ble_eq_true rfl) rfl ?_
  refine j_iconst (v := 1) (pc := 13) g dL_rank_13 (by decide) ?_
  exact hE _ _ dL_rank_14
set_option maxRecDepth 100000 in
set_option maxHeartbeats 4000000 in
theorem hL_loyalty_ok {D : va_G} {t : Nat → ClassId} {aa : gx_AA} {l : Launch} {ad : Nat → Nat} {rs : va_W} {o : Nat} {fo : (Nat → Int64)} {σ : CS} {p1 : Int32} {q : (Int32 × CS)} (hst : l.stackTraces = false) (hf : fX8_loyalty σ p1 = some q) : gx_CH D t (gx_E0 aa) l yL_loyalty cL_loyalty 4 (some .int) [(0, 9, 12, 13)] 8 132 0 0 [.ref (ad 0), .int p1, .ref o] ((o, .inl (t 4, 1, .inr (.inl fo))) :: kW aa ad t σ rs) ((o, .inl (t 4, 1, .inr (.inl (vp_updL fo (0 : Int32).toNatClampNeg q.1.toInt64)))) :: kW aa ad t q.2 rs) (some (.int 0)) := by
  refine gx_intro_h hst (by decide) (Nat.le_of_ble_eq_true rfl) (fun J gh hE => ?_)
  have g := gh.g
  show J 0 0 ((o, .inl (t 4, 1, .inr (.inl fo))) :: kW aa ad t σ rs) 0 [(0, .ref (ad 0)), (1, .int p1), (2, .ref o)] []
  refine j_aload_n (pc := 0) g 2 dL_loyalty_0 rfl ?_
  refine j_iconst (v := 0) (pc := 1) g dL_loyalty_1 (by decide) ?_
  refine j_aload_n (pc := 2) g 0 dL_loyalty_2 rfl ?_
  refine j_iload_n (pc := 3) g 1 dL_loyalty_3 rfl ?_
  refine j_callVi (pc := 4) (na := 1) (As := [.int p1]) (rest := [.int 0, .ref o]) (q0 := 1) (ci := 9) g (cX8_loyalty_ (rs := (o, .inl (t 4, 1, .inr (.inl fo))) :: rs) hf) q_i_X8_loyalty q_s_X8_loyalty rfl rfl rfl q_c_X8_loyalty q_l_L_51 q_n_X8 (by decide +kernel) rfl ⟨Nat.le_of_ble_eq_true rfl, Nat.le_of_ble_eq_true rfl⟩ ⟨Nat.le_of_ble_eq_true rfl, Nat.le_of_ble_eq_true rfl⟩ (Nat.le_of_ble_eq_true rfl) (kW_pm aa ad t σ _ rs) (kW_pm aa ad t q.2 _ rs).symm dL_loyalty_4 ?_ rfl
  refine j_i2l (pc := 7) g dL_loyalty_7 ?_
  refine j_last (pc := 8) (w' := ((o, .inl (t 4, 1, .inr (.inl (vp_updL fo (0 : Int32).toNatClampNeg q.1.toInt64)))) :: kW aa ad t q.2 rs)) g 0 rfl (show gx_in (0 : Int32) 1 by decide) rfl dL_loyalty_8 ?_
  refine j_goto (tgt := 15) (pc := 9) g dL_loyalty_9 (by decide) ?_
  refine j_iconst (v := 0) (pc := 15) g dL_loyalty_15 (by decide) ?_
  exact hE _ _ dL_loyalty_16
set_option maxRecDepth 100000 in
set_option maxHeartbeats 4000000 in
theorem hL_loyalty_x1 {D : va_G} {t : Nat → ClassId} {aa : gx_AA} {l : Launch} {ad : Nat → Nat} {rs : va_W} {o : Nat} {fo : (Nat → Int64)} {σ : CS} {p1 : Int32} {q2 : CS} (hst : l.stackTraces = false) (hf : xX8_loyalty σ p1 = some (1, q2)) : gx_CH D t (gx_E0 aa) l yL_loyalty cL_loyalty 4 (some .int) [(0, 9, 12, 13)] 8 132 1 6 [.ref (ad 0), .int p1, .ref o] ((o, .inl (t 4, 1, .inr (.inl fo))) :: kW aa ad t σ rs) ((o, .inl (t 4, 1, .inr (.inl fo))) :: kW aa ad t q2 rs) (some (.int 1)) := by
  refine gx_intro_h hst (by decide) (Nat.le_of_ble_eq_true rfl) (fun J gh hE => ?_)
  have g := gh.g
  show J 0 0 ((o, .inl (t 4, 1, .inr (.inl fo))) :: kW aa ad t σ rs) 0 [(0, .ref (ad 0)), (1, .int p1), (2, .ref o)] []
  refine j_aload_n (pc := 0) g 2 dL_loyalty_0 rfl ?_
  refine j_iconst (v := 0) (pc := 1) g dL_loyalty_1 (by decide) ?_
  refine j_aload_n (pc := 2) g 0 dL_loyalty_2 rfl ?_
  refine j_iload_n (pc := 3) g 1 dL_loyalty_3 rfl ?_
  refine j_callVH (E0 := "java/lang/IndexOutOfBoundsException") (pc := 4) (na := 1) (As := [.int p1]) (rest := [.int 0, .ref o]) (q0 := 1) (ci := 9) (w' := ((o, .inl (t 4, 1, .inr (.inl fo))) :: kW aa ad t q2 rs)) gh (eX8_loyalty_ (rs := (o, .inl (t 4, 1, .inr (.inl fo))) :: rs) hf) q_i_X8_loyalty q_s_X8_loyalty rfl rfl rfl q_c_X8_loyalty q_l_L_51 q_n_X8 (by decide +kernel) rfl ⟨Nat.le_of_ble_eq_true rfl, Nat.le_of_ble_eq_true rfl⟩ ⟨Nat.le_of_ble_eq_true rfl, Nat.le_of_ble_eq_true rfl⟩ (Nat.le_of_ble_eq_true rfl) (kW_pm aa ad t σ _ rs) (kW_pm aa ad t q2 _ rs).symm dL_loyalty_4 rfl [] ⟨0, 9, 12, 13⟩ [] rfl (fun _ h => absurd h List.not_mem_nil) (by decide) (by decide) q_k_L_13 q_g_1 (fun q9 => ?_)
  refine j_astore_n (L' := [(3, .ref q9), (0, .ref (ad 0)), (1, .int p1), (2, .ref o)]) (pc := 12) g dL_loyalty_12 rfl (Nat.le_of_ble_eq_true rfl) rfl ?_
  refine j_iconst (v := 1) (pc := 13) g dL_loyalty_13 (by decide) ?_
  exact hE _ _ dL_loyalty_14
set_option maxRecDepth 100000 in
set_option maxHeartbeats 4000000 in
theorem hL_refusals_ok {D : va_G} {t : Nat → ClassId} {aa : gx_AA} {l : Launch} {ad : Nat → Nat} {rs : va_W} {o : Nat} {fo : (Nat → Int64)} {σ : CS} {p1 : Int32} {q : (Int32 × CS)} (hst : l.stackTraces = false) (hf : fX8_refusals σ p1 = some q) : gx_CH D t (gx_E0 aa) l yL_refusals cL_refusals 4 (some .int) [(0, 9, 12, 13)] 8 132 0 0 [.ref (ad 0), .int p1, .ref o] ((o, .inl (t 4, 1, .inr (.inl fo))) :: kW aa ad t σ rs) ((o, .inl (t 4, 1, .inr (.inl (vp_updL fo (0 : Int32).toNatClampNeg q.1.toInt64)))) :: kW aa ad t q.2 rs) (some (.int 0)) := by
  refine gx_intro_h hst (by decide) (Nat.le_of_ble_eq_true rfl) (fun J gh hE => ?_)
  have g := gh.g
  show J 0 0 ((o, .inl (t 4, 1, .inr (.inl fo))) :: kW aa ad t σ rs) 0 [(0, .ref (ad 0)), (1, .int p1), (2, .ref o)] []
  refine j_aload_n (pc := 0) g 2 dL_refusals_0 rfl ?_
  refine j_iconst (v := 0) (pc := 1) g dL_refusals_1 (by decide) ?_
  refine j_aload_n (pc := 2) g 0 dL_refusals_2 rfl ?_
  refine j_iload_n (pc := 3) g 1 dL_refusals_3 rfl ?_
  refine j_callVi (pc := 4) (na := 1) (As := [.int p1]) (rest := [.int 0, .ref o]) (q0 := 1) (ci := 9) g (cX8_refusals_ (rs := (o, .inl (t 4, 1, .inr (.inl fo))) :: rs) hf) q_i_X8_refusals q_s_X8_refusals rfl rfl rfl q_c_X8_refusals q_l_L_54 q_n_X8 (by decide +kernel) rfl ⟨Nat.le_of_ble_eq_true rfl, Nat.le_of_ble_eq_true rfl⟩ ⟨Nat.le_of_ble_eq_true rfl, Nat.le_of_ble_eq_true rfl⟩ (Nat.le_of_ble_eq_true rfl) (kW_pm aa ad t σ _ rs) (kW_pm aa ad t q.2 _ rs).symm dL_refusals_4 ?_ rfl
  refine j_i2l (pc := 7) g dL_refusals_7 ?_
  refine j_last (pc := 8) (w' := ((o, .inl (t 4, 1, .inr (.inl (vp_updL fo (0 : Int32).toNatClampNeg q.1.toInt64)))) :: kW aa ad t q.2 rs)) g 0 rfl (show gx_in (0 : Int32) 1 by decide) rfl dL_refusals_8 ?_
  refine j_goto (tgt := 15) (pc := 9) g dL_refusals_9 (by decide) ?_
  refine j_iconst (v := 0) (pc := 15) g dL_refusals_15 (by decide) ?_
  exact hE _ _ dL_refusals_16
set_option maxRecDepth 100000 in
set_option maxHeartbeats 4000000 in
theorem hL_refusals_x1 {D : va_G} {t : Nat → ClassId} {aa : gx_AA} {l : Launch} {ad : Nat → Nat} {rs : va_W} {o : Nat} {fo : (Nat → Int64)} {σ : CS} {p1 : Int32} {q2 : CS} (hst : l.stackTraces = false) (hf : xX8_refusals σ p1 = some (1, q2)) : gx_CH D t (gx_E0 aa) l yL_refusals cL_refusals 4 (some .int) [(0, 9, 12, 13)] 8 132 1 6 [.ref (ad 0), .int p1, .ref o] ((o, .inl (t 4, 1, .inr (.inl fo))) :: kW aa ad t σ rs) ((o, .inl (t 4, 1, .inr (.inl fo))) :: kW aa ad t q2 rs) (some (.int 1)) := by
  refine gx_intro_h hst (by decide) (Nat.le_of_ble_eq_true rfl) (fun J gh hE => ?_)
  have g := gh.g
  show J 0 0 ((o, .inl (t 4, 1, .inr (.inl fo))) :: kW aa ad t σ rs) 0 [(0, .ref (ad 0)), (1, .int p1), (2, .ref o)] []
  refine j_aload_n (pc := 0) g 2 dL_refusals_0 rfl ?_
  refine j_iconst (v := 0) (pc := 1) g dL_refusals_1 (by decide) ?_
  refine j_aload_n (pc := 2) g 0 dL_refusals_2 rfl ?_
  refine j_iload_n (pc := 3) g 1 dL_refusals_3 rfl ?_
  refine j_callVH (E0 := "java/lang/IndexOutOfBoundsException") (pc := 4) (na := 1) (As := [.int p1]) (rest := [.int 0, .ref o]) (q0 := 1) (ci := 9) (w' := ((o, .inl (t 4, 1, .inr (.inl fo))) :: kW aa ad t q2 rs)) gh (eX8_refusals_ (rs := (o, .inl (t 4, 1, .inr (.inl fo))) :: rs) hf) q_i_X8_refusals q_s_X8_refusals rfl rfl rfl q_c_X8_refusals q_l_L_54 q_n_X8 (by decide +kernel) rfl ⟨Nat.le_of_ble_eq_true rfl, Nat.le_of_ble_eq_true rfl⟩ ⟨Nat.le_of_ble_eq_true rfl, Nat.le_of_ble_eq_true rfl⟩ (Nat.le_of_ble_eq_true rfl) (kW_pm aa ad t σ _ rs) (kW_pm aa ad t q2 _ rs).symm dL_refusals_4 rfl [] ⟨0, 9, 12, 13⟩ [] rfl (fun _ h => absurd h List.not_mem_nil) (by decide) (by decide) q_k_L_13 q_g_1 (fun q9 => ?_)
  refine j_astore_n (L' := [(3, .ref q9), (0, .ref (ad 0)), (1, .int p1), (2, .ref o)]) (pc := 12) g dL_refusals_12 rfl (Nat.le_of_ble_eq_true rfl) rfl ?_
  refine j_iconst (v := 1) (pc := 13) g dL_refusals_13 (by decide) ?_
  exact hE _ _ dL_refusals_14
set_option maxRecDepth 100000 in
set_option maxHeartbeats 4000000 in
theorem hL_superior_ok {D : va_G} {t : Nat → ClassId} {aa : gx_AA} {l : Launch} {ad : Nat → Nat} {rs : va_W} {o : Nat} {fo : (Nat → Int64)} {σ : CS} {p1 : Int32} {q : (Int32 × CS)} (hst : l.stackTraces = false) (hf : fX8_superior σ p1 = some q) : gx_CH D t (gx_E0 aa) l yL_superior cL_superior 4 (some .int) [(0, 9, 12, 13), (0, 9, 15, 46)] 8 132 0 0 [.ref (ad 0), .int p1, .ref o] ((o, .inl (t 4, 1, .inr (.inl fo))) :: kW aa ad t σ rs) ((o, .inl (t 4, 1, .inr (.inl (vp_updL fo (0 : Int32).toNatClampNeg q.1.toInt64)))) :: kW aa ad t q.2 rs) (some (.int 0)) := by
  refine gx_intro_h hst (by decide) (Nat.le_of_ble_eq_true rfl) (fun J gh hE => ?_)
  have g := gh.g
  show J 0 0 ((o, .inl (t 4, 1, .inr (.inl fo))) :: kW aa ad t σ rs) 0 [(0, .ref (ad 0)), (1, .int p1), (2, .ref o)] []
  refine j_aload_n (pc := 0) g 2 dL_superior_0 rfl ?_
  refine j_iconst (v := 0) (pc := 1) g dL_superior_1 (by decide) ?_
  refine j_aload_n (pc := 2) g 0 dL_superior_2 rfl ?_
  refine j_iload_n (pc := 3) g 1 dL_superior_3 rfl ?_
  refine j_callVi (pc := 4) (na := 1) (As := [.int p1]) (rest := [.int 0, .ref o]) (q0 := 1) (ci := 9) g (cX8_superior_ (rs := (o, .inl (t 4, 1, .inr (.inl fo))) :: rs) hf) q_i_X8_superior q_s_X8_superior rfl rfl rfl q_c_X8_superior q_l_L_57 q_n_X8 (by decide +kernel) rfl ⟨Nat.le_of_ble_eq_true rfl, Nat.le_of_ble_eq_true rfl⟩ ⟨Nat.le_of_ble_eq_true rfl, Nat.le_of_ble_eq_true rfl⟩ (Nat.le_of_ble_eq_true rfl) (kW_pm aa ad t σ _ rs) (kW_pm aa ad t q.2 _ rs).symm dL_superior_4 ?_ rfl
  refine j_i2l (pc := 7) g dL_superior_7 ?_
  refine j_last (pc := 8) (w' := ((o, .inl (t 4, 1, .inr (.inl (vp_updL fo (0 : Int32).toNatClampNeg q.1.toInt64)))) :: kW aa ad t q.2 rs)) g 0 rfl (show gx_in (0 : Int32) 1 by decide) rfl dL_superior_8 ?_
  refine j_goto (tgt := 18) (pc := 9) g dL_superior_9 (by decide) ?_
  refine j_iconst (v := 0) (pc := 18) g dL_superior_18 (by decide) ?_
  exact hE _ _ dL_superior_19
set_option maxRecDepth 100000 in
set_option maxHeartbeats 4000000 in
theorem hL_superior_x1 {D : va_G} {t : Nat → ClassId} {aa : gx_AA} {l : Launch} {ad : Nat → Nat} {rs : va_W} {o : Nat} {fo : (Nat → Int64)} {σ : CS} {p1 : Int32} {q2 : CS} (hst : l.stackTraces = false) (hf : xX8_superior σ p1 = some (1, q2)) : gx_CH D t (gx_E0 aa) l yL_superior cL_superior 4 (some .int) [(0, 9, 12, 13), (0, 9, 15, 46)] 8 132 1 6 [.ref (ad 0), .int p1, .ref o] ((o, .inl (t 4, 1, .inr (.inl fo))) :: kW aa ad t σ rs) ((o, .inl (t 4, 1, .inr (.inl fo))) :: kW aa ad t q2 rs) (some (.int 1)) := by
  refine gx_intro_h hst (by decide) (Nat.le_of_ble_eq_true rfl) (fun J gh hE => ?_)
  have g := gh.g
  show J 0 0 ((o, .inl (t 4, 1, .inr (.inl fo))) :: kW aa ad t σ rs) 0 [(0, .ref (ad 0)), (1, .int p1), (2, .ref o)] []
  refine j_aload_n (pc := 0) g 2 dL_superior_0 rfl ?_
  refine j_iconst (v := 0) (pc := 1) g dL_superior_1 (by decide) ?_
  refine j_aload_n (pc := 2) g 0 dL_superior_2 rfl ?_
  refine j_iload_n (pc := 3) g 1 dL_superior_3 rfl ?_
  refine j_callVH (E0 := "java/lang/IndexOutOfBoundsException") (pc := 4) (na := 1) (As := [.int p1]) (rest := [.int 0, .ref o]) (q0 := 1) (ci := 9) (w' := ((o, .inl (t 4, 1, .inr (.inl fo))) :: kW aa ad t q2 rs)) gh (eX8_superior_ (rs := (o, .inl (t 4, 1, .inr (.inl fo))) :: rs) hf) q_i_X8_superior q_s_X8_superior rfl rfl rfl q_c_X8_superior q_l_L_57 q_n_X8 (by decide +kernel) rfl ⟨Nat.le_of_ble_eq_true rfl, Nat.le_of_ble_eq_true rfl⟩ ⟨Nat.le_of_ble_eq_true rfl, Nat.le_of_ble_eq_true rfl⟩ (Nat.le_of_ble_eq_true rfl) (kW_pm aa ad t σ _ rs) (kW_pm aa ad t q2 _ rs).symm dL_superior_4 rfl [] ⟨0, 9, 12, 13⟩ [⟨0, 9, 15, 46⟩] rfl (fun _ h => absurd h List.not_mem_nil) (by decide) (by decide) q_k_L_13 q_g_1 (fun q9 => ?_)
  refine j_astore_n (L' := [(3, .ref q9), (0, .ref (ad 0)), (1, .int p1), (2, .ref o)]) (pc := 12) g dL_superior_12 rfl (Nat.le_of_ble_eq_true rfl) rfl ?_
  refine j_iconst (v := 1) (pc := 13) g dL_superior_13 (by decide) ?_
  exact hE _ _ dL_superior_14
set_option maxRecDepth 100000 in
set_option maxHeartbeats 4000000 in
theorem hL_superior_x2 {D : va_G} {t : Nat → ClassId} {aa : gx_AA} {l : Launch} {ad : Nat → Nat} {rs : va_W} {o : Nat} {fo : (Nat → Int64)} {σ : CS} {p1 : Int32} {q2 : CS} (hst : l.stackTraces = false) (hf : xX8_superior σ p1 = some (5, q2)) : gx_CH D t (gx_E0 aa) l yL_superior cL_superior 4 (some .int) [(0, 9, 12, 13), (0, 9, 15, 46)] 8 132 1 6 [.ref (ad 0), .int p1, .ref o] ((o, .inl (t 4, 1, .inr (.inl fo))) :: kW aa ad t σ rs) ((o, .inl (t 4, 1, .inr (.inl fo))) :: kW aa ad t q2 rs) (some (.int 2)) := by
  refine gx_intro_h hst (by decide) (Nat.le_of_ble_eq_true rfl) (fun J gh hE => ?_)
  have g := gh.g
  show J 0 0 ((o, .inl (t 4, 1, .inr (.inl fo))) :: kW aa ad t σ rs) 0 [(0, .ref (ad 0)), (1, .int p1), (2, .ref o)] []
  refine j_aload_n (pc := 0) g 2 dL_superior_0 rfl ?_
  refine j_iconst (v := 0) (pc := 1) g dL_superior_1 (by decide) ?_
  refine j_aload_n (pc := 2) g 0 dL_superior_2 rfl ?_
  refine j_iload_n (pc := 3) g 1 dL_superior_3 rfl ?_
  refine j_callVH (E0 := "java/util/NoSuchElementException") (pc := 4) (na := 1) (As := [.int p1]) (rest := [.int 0, .ref o]) (q0 := 1) (ci := 9) (w' := ((o, .inl (t 4, 1, .inr (.inl fo))) :: kW aa ad t q2 rs)) gh (eX8_superior_ (rs := (o, .inl (t 4, 1, .inr (.inl fo))) :: rs) hf) q_i_X8_superior q_s_X8_superior rfl rfl rfl q_c_X8_superior q_l_L_57 q_n_X8 (by decide +kernel) rfl ⟨Nat.le_of_ble_eq_true rfl, Nat.le_of_ble_eq_true rfl⟩ ⟨Nat.le_of_ble_eq_true rfl, Nat.le_of_ble_eq_true rfl⟩ (Nat.le_of_ble_eq_true rfl) (kW_pm aa ad t σ _ rs) (kW_pm aa ad t q2 _ rs).symm dL_superior_4 rfl [⟨0, 9, 12, 13⟩] ⟨0, 9, 15, 46⟩ [] rfl (List.forall_mem_cons.mpr ⟨⟨by decide, "java/lang/IndexOutOfBoundsException", q_k_L_13, by decide⟩, (fun _ h => absurd h List.not_mem_nil)⟩) (by decide) (by decide) q_k_L_46 q_g_5 (fun q9 => ?_)
  refine j_astore_n (L' := [(3, .ref q9), (0, .ref (ad 0)), (1, .int p1), (2, .ref o)]) (pc := 15) g dL_superior_15 rfl (Nat.le_of_ble_eq_true rfl) rfl ?_
  refine j_iconst (v := 2) (pc := 16) g dL_superior_16 (by decide) ?_
  exact hE _ _ dL_superior_17
set_option maxRecDepth 100000 in
set_option maxHeartbeats 4000000 in
theorem hL_subordinates_ok {D : va_G} {t : Nat → ClassId} {aa : gx_AA} {l : Launch} {ad : Nat → Nat} {rs : va_W} {o : Nat} {fo : (Nat → Int64)} {σ : CS} {p1 : Int32} {q : (Int32 × CS)} (hst : l.stackTraces = false) (hf : fX8_subordinates σ p1 = some q) : gx_CH D t (gx_E0 aa) l yL_subordinates cL_subordinates 4 (some .int) [(0, 9, 12, 13)] 8 132 0 0 [.ref (ad 0), .int p1, .ref o] ((o, .inl (t 4, 1, .inr (.inl fo))) :: kW aa ad t σ rs) ((o, .inl (t 4, 1, .inr (.inl (vp_updL fo (0 : Int32).toNatClampNeg q.1.toInt64)))) :: kW aa ad t q.2 rs) (some (.int 0)) := by
  refine gx_intro_h hst (by decide) (Nat.le_of_ble_eq_true rfl) (fun J gh hE => ?_)
  have g := gh.g
  show J 0 0 ((o, .inl (t 4, 1, .inr (.inl fo))) :: kW aa ad t σ rs) 0 [(0, .ref (ad 0)), (1, .int p1), (2, .ref o)] []
  refine j_aload_n (pc := 0) g 2 dL_subordinates_0 rfl ?_
  refine j_iconst (v := 0) (pc := 1) g dL_subordinates_1 (by decide) ?_
  refine j_aload_n (pc := 2) g 0 dL_subordinates_2 rfl ?_
  refine j_iload_n (pc := 3) g 1 dL_subordinates_3 rfl ?_
  refine j_callVi (pc := 4) (na := 1) (As := [.int p1]) (rest := [.int 0, .ref o]) (q0 := 1) (ci := 9) g (cX8_subordinates_ (rs := (o, .inl (t 4, 1, .inr (.inl fo))) :: rs) hf) q_i_X8_subordinates q_s_X8_subordinates rfl rfl rfl q_c_X8_subordinates q_l_L_60 q_n_X8 (by decide +kernel) rfl ⟨Nat.le_of_ble_eq_true rfl, Nat.le_of_ble_eq_true rfl⟩ ⟨Nat.le_of_ble_eq_true rfl, Nat.le_of_ble_eq_true rfl⟩ (Nat.le_of_ble_eq_true rfl) (kW_pm aa ad t σ _ rs) (kW_pm aa ad t q.2 _ rs).symm dL_subordinates_4 ?_ rfl
  refine j_i2l (pc := 7) g dL_subordinates_7 ?_
  refine j_last (pc := 8) (w' := ((o, .inl (t 4, 1, .inr (.inl (vp_updL fo (0 : Int32).toNatClampNeg q.1.toInt64)))) :: kW aa ad t q.2 rs)) g 0 rfl (show gx_in (0 : Int32) 1 by decide) rfl dL_subordinates_8 ?_
  refine j_goto (tgt := 15) (pc := 9) g dL_subordinates_9 (by decide) ?_
  refine j_iconst (v := 0) (pc := 15) g dL_subordinates_15 (by decide) ?_
  exact hE _ _ dL_subordinates_16
set_option maxRecDepth 100000 in
set_option maxHeartbeats 4000000 in
theorem hL_subordinates_x1 {D : va_G} {t : Nat → ClassId} {aa : gx_AA} {l : Launch} {ad : Nat → Nat} {rs : va_W} {o : Nat} {fo : (Nat → Int64)} {σ : CS} {p1 : Int32} {q2 : CS} (hst : l.stackTraces = false) (hf : xX8_subordinates σ p1 = some (1, q2)) : gx_CH D t (gx_E0 aa) l yL_subordinates cL_subordinates 4 (some .int) [(0, 9, 12, 13)] 8 132 1 6 [.ref (ad 0), .int p1, .ref o] ((o, .inl (t 4, 1, .inr (.inl fo))) :: kW aa ad t σ rs) ((o, .inl (t 4, 1, .inr (.inl fo))) :: kW aa ad t q2 rs) (some (.int 1)) := by
  refine gx_intro_h hst (by decide) (Nat.le_of_ble_eq_true rfl) (fun J gh hE => ?_)
  have g := gh.g
  show J 0 0 ((o, .inl (t 4, 1, .inr (.inl fo))) :: kW aa ad t σ rs) 0 [(0, .ref (ad 0)), (1, .int p1), (2, .ref o)] []
  refine j_aload_n (pc := 0) g 2 dL_subordinates_0 rfl ?_
  refine j_iconst (v := 0) (pc := 1) g dL_subordinates_1 (by decide) ?_
  refine j_aload_n (pc := 2) g 0 dL_subordinates_2 rfl ?_
  refine j_iload_n (pc := 3) g 1 dL_subordinates_3 rfl ?_
  refine j_callVH (E0 := "java/lang/IndexOutOfBoundsException") (pc := 4) (na := 1) (As := [.int p1]) (rest := [.int 0, .ref o]) (q0 := 1) (ci := 9) (w' := ((o, .inl (t 4, 1, .inr (.inl fo))) :: kW aa ad t q2 rs)) gh (eX8_subordinates_ (rs := (o, .inl (t 4, 1, .inr (.inl fo))) :: rs) hf) q_i_X8_subordinates q_s_X8_subordinates rfl rfl rfl q_c_X8_subordinates q_l_L_60 q_n_X8 (by decide +kernel) rfl ⟨Nat.le_of_ble_eq_true rfl, Nat.le_of_ble_eq_true rfl⟩ ⟨Nat.le_of_ble_eq_true rfl, Nat.le_of_ble_eq_true rfl⟩ (Nat.le_of_ble_eq_true rfl) (kW_pm aa ad t σ _ rs) (kW_pm aa ad t q2 _ rs).symm dL_subordinates_4 rfl [] ⟨0, 9, 12, 13⟩ [] rfl (fun _ h => absurd h List.not_mem_nil) (by decide) (by decide) q_k_L_13 q_g_1 (fun q9 => ?_)
  refine j_astore_n (L' := [(3, .ref q9), (0, .ref (ad 0)), (1, .int p1), (2, .ref o)]) (pc := 12) g dL_subordinates_12 rfl (Nat.le_of_ble_eq_true rfl) rfl ?_
  refine j_iconst (v := 1) (pc := 13) g dL_subordinates_13 (by decide) ?_
  exact hE _ _ dL_subordinates_14
set_option maxRecDepth 100000 in
set_option maxHeartbeats 4000000 in
theorem hL_depth_ok {D : va_G} {t : Nat → ClassId} {aa : gx_AA} {l : Launch} {ad : Nat → Nat} {rs : va_W} {o : Nat} {fo : (Nat → Int64)} {σ : CS} {p1 : Int32} {q : (Int32 × CS)} (hst : l.stackTraces = false) (hf : fX8_depth σ p1 = some q) : gx_CH D t (gx_E0 aa) l yL_depth cL_depth 4 (some .int) [(0, 9, 12, 13)] 8 132 0 0 [.ref (ad 0), .int p1, .ref o] ((o, .inl (t 4, 1, .inr (.inl fo))) :: kW aa ad t σ rs) ((o, .inl (t 4, 1, .inr (.inl (vp_updL fo (0 : Int32).toNatClampNeg q.1.toInt64)))) :: kW aa ad t q.2 rs) (some (.int 0)) := by
  refine gx_intro_h hst (by decide) (Nat.le_of_ble_eq_true rfl) (fun J gh hE => ?_)
  have g := gh.g
  show J 0 0 ((o, .inl (t 4, 1, .inr (.inl fo))) :: kW aa ad t σ rs) 0 [(0, .ref (ad 0)), (1, .int p1), (2, .ref o)] []
  refine j_aload_n (pc := 0) g 2 dL_depth_0 rfl ?_
  refine j_iconst (v := 0) (pc := 1) g dL_depth_1 (by decide) ?_
  refine j_aload_n (pc := 2) g 0 dL_depth_2 rfl ?_
  refine j_iload_n (pc := 3) g 1 dL_depth_3 rfl ?_
  refine j_callVi (pc := 4) (na := 1) (As := [.int p1]) (rest := [.int 0, .ref o]) (q0 := 1) (ci := 9) g (cX8_depth_ (rs := (o, .inl (t 4, 1, .inr (.inl fo))) :: rs) hf) q_i_X8_depth q_s_X8_depth rfl rfl rfl q_c_X8_depth q_l_L_63 q_n_X8 (by decide +kernel) rfl ⟨Nat.le_of_ble_eq_true rfl, Nat.le_of_ble_eq_true rfl⟩ ⟨Nat.le_of_ble_eq_true rfl, Nat.le_of_ble_eq_true rfl⟩ (Nat.le_of_ble_eq_true rfl) (kW_pm aa ad t σ _ rs) (kW_pm aa ad t q.2 _ rs).symm dL_depth_4 ?_ rfl
  refine j_i2l (pc := 7) g dL_depth_7 ?_
  refine j_last (pc := 8) (w' := ((o, .inl (t 4, 1, .inr (.inl (vp_updL fo (0 : Int32).toNatClampNeg q.1.toInt64)))) :: kW aa ad t q.2 rs)) g 0 rfl (show gx_in (0 : Int32) 1 by decide) rfl dL_depth_8 ?_
  refine j_goto (tgt := 15) (pc := 9) g dL_depth_9 (by decide) ?_
  refine j_iconst (v := 0) (pc := 15) g dL_depth_15 (by decide) ?_
  exact hE _ _ dL_depth_16
set_option maxRecDepth 100000 in
set_option maxHeartbeats 4000000 in
theorem hL_depth_x1 {D : va_G} {t : Nat → ClassId} {aa : gx_AA} {l : Launch} {ad : Nat → Nat} {rs : va_W} {o : Nat} {fo : (Nat → Int64)} {σ : CS} {p1 : Int32} {q2 : CS} (hst : l.stackTraces = false) (hf : xX8_depth σ p1 = some (1, q2)) : gx_CH D t (gx_E0 aa) l yL_depth cL_depth 4 (some .int) [(0, 9, 12, 13)] 8 132 1 6 [.ref (ad 0), .int p1, .ref o] ((o, .inl (t 4, 1, .inr (.inl fo))) :: kW aa ad t σ rs) ((o, .inl (t 4, 1, .inr (.inl fo))) :: kW aa ad t q2 rs) (some (.int 1)) := by
  refine gx_intro_h hst (by decide) (Nat.le_of_ble_eq_true rfl) (fun J gh hE => ?_)
  have g := gh.g
  show J 0 0 ((o, .inl (t 4, 1, .inr (.inl fo))) :: kW aa ad t σ rs) 0 [(0, .ref (ad 0)), (1, .int p1), (2, .ref o)] []
  refine j_aload_n (pc := 0) g 2 dL_depth_0 rfl ?_
  refine j_iconst (v := 0) (pc := 1) g dL_depth_1 (by decide) ?_
  refine j_aload_n (pc := 2) g 0 dL_depth_2 rfl ?_
  refine j_iload_n (pc := 3) g 1 dL_depth_3 rfl ?_
  refine j_callVH (E0 := "java/lang/IndexOutOfBoundsException") (pc := 4) (na := 1) (As := [.int p1]) (rest := [.int 0, .ref o]) (q0 := 1) (ci := 9) (w' := ((o, .inl (t 4, 1, .inr (.inl fo))) :: kW aa ad t q2 rs)) gh (eX8_depth_ (rs := (o, .inl (t 4, 1, .inr (.inl fo))) :: rs) hf) q_i_X8_depth q_s_X8_depth rfl rfl rfl q_c_X8_depth q_l_L_63 q_n_X8 (by decide +kernel) rfl ⟨Nat.le_of_ble_eq_true rfl, Nat.le_of_ble_eq_true rfl⟩ ⟨Nat.le_of_ble_eq_true rfl, Nat.le_of_ble_eq_true rfl⟩ (Nat.le_of_ble_eq_true rfl) (kW_pm aa ad t σ _ rs) (kW_pm aa ad t q2 _ rs).symm dL_depth_4 rfl [] ⟨0, 9, 12, 13⟩ [] rfl (fun _ h => absurd h List.not_mem_nil) (by decide) (by decide) q_k_L_13 q_g_1 (fun q9 => ?_)
  refine j_astore_n (L' := [(3, .ref q9), (0, .ref (ad 0)), (1, .int p1), (2, .ref o)]) (pc := 12) g dL_depth_12 rfl (Nat.le_of_ble_eq_true rfl) rfl ?_
  refine j_iconst (v := 1) (pc := 13) g dL_depth_13 (by decide) ?_
  exact hE _ _ dL_depth_14
set_option maxRecDepth 100000 in
set_option maxHeartbeats 4000000 in
theorem hL_depthFromTop_ok {D : va_G} {t : Nat → ClassId} {aa : gx_AA} {l : Launch} {ad : Nat → Nat} {rs : va_W} {o : Nat} {fo : (Nat → Int64)} {σ : CS} {p1 : Int32} {q : (Int32 × CS)} (hst : l.stackTraces = false) (hf : fX8_depthFromTop σ p1 = some q) : gx_CH D t (gx_E0 aa) l yL_depthFromTop cL_depthFromTop 4 (some .int) [(0, 9, 12, 13)] 18 446 0 0 [.ref (ad 0), .int p1, .ref o] ((o, .inl (t 4, 1, .inr (.inl fo))) :: kW aa ad t σ rs) ((o, .inl (t 4, 1, .inr (.inl (vp_updL fo (0 : Int32).toNatClampNeg q.1.toInt64)))) :: kW aa ad t q.2 rs) (some (.int 0)) := by
  refine gx_intro_h hst (by decide) (Nat.le_of_ble_eq_true rfl) (fun J gh hE => ?_)
  have g := gh.g
  show J 0 0 ((o, .inl (t 4, 1, .inr (.inl fo))) :: kW aa ad t σ rs) 0 [(0, .ref (ad 0)), (1, .int p1), (2, .ref o)] []
  refine j_aload_n (pc := 0) g 2 dL_depthFromTop_0 rfl ?_
  refine j_iconst (v := 0) (pc := 1) g dL_depthFromTop_1 (by decide) ?_
  refine j_aload_n (pc := 2) g 0 dL_depthFromTop_2 rfl ?_
  refine j_iload_n (pc := 3) g 1 dL_depthFromTop_3 rfl ?_
  refine j_callVi (pc := 4) (na := 1) (As := [.int p1]) (rest := [.int 0, .ref o]) (q0 := 1) (ci := 9) g (cX8_depthFromTop_ (rs := (o, .inl (t 4, 1, .inr (.inl fo))) :: rs) hf) q_i_X8_depthFromTop q_s_X8_depthFromTop rfl rfl rfl q_c_X8_depthFromTop q_l_L_66 q_n_X8 (by decide +kernel) rfl ⟨Nat.le_of_ble_eq_true rfl, Nat.le_of_ble_eq_true rfl⟩ ⟨Nat.le_of_ble_eq_true rfl, Nat.le_of_ble_eq_true rfl⟩ (Nat.le_of_ble_eq_true rfl) (kW_pm aa ad t σ _ rs) (kW_pm aa ad t q.2 _ rs).symm dL_depthFromTop_4 ?_ rfl
  refine j_i2l (pc := 7) g dL_depthFromTop_7 ?_
  refine j_last (pc := 8) (w' := ((o, .inl (t 4, 1, .inr (.inl (vp_updL fo (0 : Int32).toNatClampNeg q.1.toInt64)))) :: kW aa ad t q.2 rs)) g 0 rfl (show gx_in (0 : Int32) 1 by decide) rfl dL_depthFromTop_8 ?_
  refine j_goto (tgt := 15) (pc := 9) g dL_depthFromTop_9 (by decide) ?_
  refine j_iconst (v := 0) (pc := 15) g dL_depthFromTop_15 (by decide) ?_
  exact hE _ _ dL_depthFromTop_16
set_option maxRecDepth 100000 in
set_option maxHeartbeats 4000000 in
theorem hL_depthFromTop_x1 {D : va_G} {t : Nat → ClassId} {aa : gx_AA} {l : Launch} {ad : Nat → Nat} {rs : va_W} {o : Nat} {fo : (Nat → Int64)} {σ : CS} {p1 : Int32} {q2 : CS} (hst : l.stackTraces = false) (hf : xX8_depthFromTop σ p1 = some (1, q2)) : gx_CH D t (gx_E0 aa) l yL_depthFromTop cL_depthFromTop 4 (some .int) [(0, 9, 12, 13)] 18 446 1 6 [.ref (ad 0), .int p1, .ref o] ((o, .inl (t 4, 1, .inr (.inl fo))) :: kW aa ad t σ rs) ((o, .inl (t 4, 1, .inr (.inl fo))) :: kW aa ad t q2 rs) (some (.int 1)) := by
  refine gx_intro_h hst (by decide) (Nat.le_of_ble_eq_true rfl) (fun J gh hE => ?_)
  have g := gh.g
  show J 0 0 ((o, .inl (t 4, 1, .inr (.inl fo))) :: kW aa ad t σ rs) 0 [(0, .ref (ad 0)), (1, .int p1), (2, .ref o)] []
  refine j_aload_n (pc := 0) g 2 dL_depthFromTop_0 rfl ?_
  refine j_iconst (v := 0) (pc := 1) g dL_depthFromTop_1 (by decide) ?_
  refine j_aload_n (pc := 2) g 0 dL_depthFromTop_2 rfl ?_
  refine j_iload_n (pc := 3) g 1 dL_depthFromTop_3 rfl ?_
  refine j_callVH (E0 := "java/lang/IndexOutOfBoundsException") (pc := 4) (na := 1) (As := [.int p1]) (rest := [.int 0, .ref o]) (q0 := 1) (ci := 9) (w' := ((o, .inl (t 4, 1, .inr (.inl fo))) :: kW aa ad t q2 rs)) gh (eX8_depthFromTop_ (rs := (o, .inl (t 4, 1, .inr (.inl fo))) :: rs) hf) q_i_X8_depthFromTop q_s_X8_depthFromTop rfl rfl rfl q_c_X8_depthFromTop q_l_L_66 q_n_X8 (by decide +kernel) rfl ⟨Nat.le_of_ble_eq_true rfl, Nat.le_of_ble_eq_true rfl⟩ ⟨Nat.le_of_ble_eq_true rfl, Nat.le_of_ble_eq_true rfl⟩ (Nat.le_of_ble_eq_true rfl) (kW_pm aa ad t σ _ rs) (kW_pm aa ad t q2 _ rs).symm dL_depthFromTop_4 rfl [] ⟨0, 9, 12, 13⟩ [] rfl (fun _ h => absurd h List.not_mem_nil) (by decide) (by decide) q_k_L_13 q_g_1 (fun q9 => ?_)
  refine j_astore_n (L' := [(3, .ref q9), (0, .ref (ad 0)), (1, .int p1), (2, .ref o)]) (pc := 12) g dL_depthFromTop_12 rfl (Nat.le_of_ble_eq_true rfl) rfl ?_
  refine j_iconst (v := 1) (pc := 13) g dL_depthFromTop_13 (by decide) ?_
  exact hE _ _ dL_depthFromTop_14
set_option maxRecDepth 100000 in
set_option maxHeartbeats 4000000 in
theorem hL_commandSize_ok {D : va_G} {t : Nat → ClassId} {aa : gx_AA} {l : Launch} {ad : Nat → Nat} {rs : va_W} {o : Nat} {fo : (Nat → Int64)} {σ : CS} {p1 : Int32} {q : (Int32 × CS)} (hst : l.stackTraces = false) (hf : fX8_commandSize σ p1 = some q) : gx_CH D t (gx_E0 aa) l yL_commandSize cL_commandSize 4 (some .int) [(0, 9, 12, 13)] 18 429 0 0 [.ref (ad 0), .int p1, .ref o] ((o, .inl (t 4, 1, .inr (.inl fo))) :: kW aa ad t σ rs) ((o, .inl (t 4, 1, .inr (.inl (vp_updL fo (0 : Int32).toNatClampNeg q.1.toInt64)))) :: kW aa ad t q.2 rs) (some (.int 0)) := by
  refine gx_intro_h hst (by decide) (Nat.le_of_ble_eq_true rfl) (fun J gh hE => ?_)
  have g := gh.g
  show J 0 0 ((o, .inl (t 4, 1, .inr (.inl fo))) :: kW aa ad t σ rs) 0 [(0, .ref (ad 0)), (1, .int p1), (2, .ref o)] []
  refine j_aload_n (pc := 0) g 2 dL_commandSize_0 rfl ?_
  refine j_iconst (v := 0) (pc := 1) g dL_commandSize_1 (by decide) ?_
  refine j_aload_n (pc := 2) g 0 dL_commandSize_2 rfl ?_
  refine j_iload_n (pc := 3) g 1 dL_commandSize_3 rfl ?_
  refine j_callVi (pc := 4) (na := 1) (As := [.int p1]) (rest := [.int 0, .ref o]) (q0 := 1) (ci := 9) g (cX8_commandSize_ (rs := (o, .inl (t 4, 1, .inr (.inl fo))) :: rs) hf) q_i_X8_commandSize q_s_X8_commandSize rfl rfl rfl q_c_X8_commandSize q_l_L_69 q_n_X8 (by decide +kernel) rfl ⟨Nat.le_of_ble_eq_true rfl, Nat.le_of_ble_eq_true rfl⟩ ⟨Nat.le_of_ble_eq_true rfl, Nat.le_of_ble_eq_true rfl⟩ (Nat.le_of_ble_eq_true rfl) (kW_pm aa ad t σ _ rs) (kW_pm aa ad t q.2 _ rs).symm dL_commandSize_4 ?_ rfl
  refine j_i2l (pc := 7) g dL_commandSize_7 ?_
  refine j_last (pc := 8) (w' := ((o, .inl (t 4, 1, .inr (.inl (vp_updL fo (0 : Int32).toNatClampNeg q.1.toInt64)))) :: kW aa ad t q.2 rs)) g 0 rfl (show gx_in (0 : Int32) 1 by decide) rfl dL_commandSize_8 ?_
  refine j_goto (tgt := 15) (pc := 9) g dL_commandSize_9 (by decide) ?_
  refine j_iconst (v := 0) (pc := 15) g dL_commandSize_15 (by decide) ?_
  exact hE _ _ dL_commandSize_16
set_option maxRecDepth 100000 in
set_option maxHeartbeats 4000000 in
theorem hL_commandSize_x1 {D : va_G} {t : Nat → ClassId} {aa : gx_AA} {l : Launch} {ad : Nat → Nat} {rs : va_W} {o : Nat} {fo : (Nat → Int64)} {σ : CS} {p1 : Int32} {q2 : CS} (hst : l.stackTraces = false) (hf : xX8_commandSize σ p1 = some (1, q2)) : gx_CH D t (gx_E0 aa) l yL_commandSize cL_commandSize 4 (some .int) [(0, 9, 12, 13)] 18 429 1 6 [.ref (ad 0), .int p1, .ref o] ((o, .inl (t 4, 1, .inr (.inl fo))) :: kW aa ad t σ rs) ((o, .inl (t 4, 1, .inr (.inl fo))) :: kW aa ad t q2 rs) (some (.int 1)) := by
  refine gx_intro_h hst (by decide) (Nat.le_of_ble_eq_true rfl) (fun J gh hE => ?_)
  have g := gh.g
  show J 0 0 ((o, .inl (t 4, 1, .inr (.inl fo))) :: kW aa ad t σ rs) 0 [(0, .ref (ad 0)), (1, .int p1), (2, .ref o)] []
  refine j_aload_n (pc := 0) g 2 dL_commandSize_0 rfl ?_
  refine j_iconst (v := 0) (pc := 1) g dL_commandSize_1 (by decide) ?_
  refine j_aload_n (pc := 2) g 0 dL_commandSize_2 rfl ?_
  refine j_iload_n (pc := 3) g 1 dL_commandSize_3 rfl ?_
  refine j_callVH (E0 := "java/lang/IndexOutOfBoundsException") (pc := 4) (na := 1) (As := [.int p1]) (rest := [.int 0, .ref o]) (q0 := 1) (ci := 9) (w' := ((o, .inl (t 4, 1, .inr (.inl fo))) :: kW aa ad t q2 rs)) gh (eX8_commandSize_ (rs := (o, .inl (t 4, 1, .inr (.inl fo))) :: rs) hf) q_i_X8_commandSize q_s_X8_commandSize rfl rfl rfl q_c_X8_commandSize q_l_L_69 q_n_X8 (by decide +kernel) rfl ⟨Nat.le_of_ble_eq_true rfl, Nat.le_of_ble_eq_true rfl⟩ ⟨Nat.le_of_ble_eq_true rfl, Nat.le_of_ble_eq_true rfl⟩ (Nat.le_of_ble_eq_true rfl) (kW_pm aa ad t σ _ rs) (kW_pm aa ad t q2 _ rs).symm dL_commandSize_4 rfl [] ⟨0, 9, 12, 13⟩ [] rfl (fun _ h => absurd h List.not_mem_nil) (by decide) (by decide) q_k_L_13 q_g_1 (fun q9 => ?_)
  refine j_astore_n (L' := [(3, .ref q9), (0, .ref (ad 0)), (1, .int p1), (2, .ref o)]) (pc := 12) g dL_commandSize_12 rfl (Nat.le_of_ble_eq_true rfl) rfl ?_
  refine j_iconst (v := 1) (pc := 13) g dL_commandSize_13 (by decide) ?_
  exact hE _ _ dL_commandSize_14
set_option maxRecDepth 100000 in
set_option maxHeartbeats 4000000 in
theorem hL_commandSizeByCounting_ok {D : va_G} {t : Nat → ClassId} {aa : gx_AA} {l : Launch} {ad : Nat → Nat} {rs : va_W} {o : Nat} {fo : (Nat → Int64)} {σ : CS} {p1 : Int32} {q : (Int32 × CS)} (hst : l.stackTraces = false) (hf : fX8_commandSizeByCounting σ p1 = some q) : gx_CH D t (gx_E0 aa) l yL_commandSizeByCounting cL_commandSizeByCounting 4 (some .int) [(0, 9, 12, 13)] 8 132 0 0 [.ref (ad 0), .int p1, .ref o] ((o, .inl (t 4, 1, .inr (.inl fo))) :: kW aa ad t σ rs) ((o, .inl (t 4, 1, .inr (.inl (vp_updL fo (0 : Int32).toNatClampNeg q.1.toInt64)))) :: kW aa ad t q.2 rs) (some (.int 0)) := by
  refine gx_intro_h hst (by decide) (Nat.le_of_ble_eq_true rfl) (fun J gh hE => ?_)
  have g := gh.g
  show J 0 0 ((o, .inl (t 4, 1, .inr (.inl fo))) :: kW aa ad t σ rs) 0 [(0, .ref (ad 0)), (1, .int p1), (2, .ref o)] []
  refine j_aload_n (pc := 0) g 2 dL_commandSizeByCounting_0 rfl ?_
  refine j_iconst (v := 0) (pc := 1) g dL_commandSizeByCounting_1 (by decide) ?_
  refine j_aload_n (pc := 2) g 0 dL_commandSizeByCounting_2 rfl ?_
  refine j_iload_n (pc := 3) g 1 dL_commandSizeByCounting_3 rfl ?_
  refine j_callVi (pc := 4) (na := 1) (As := [.int p1]) (rest := [.int 0, .ref o]) (q0 := 1) (ci := 9) g (cX8_commandSizeByCounting_ (rs := (o, .inl (t 4, 1, .inr (.inl fo))) :: rs) hf) q_i_X8_commandSizeByCounting q_s_X8_commandSizeByCounting rfl rfl rfl q_c_X8_commandSizeByCounting q_l_L_72 q_n_X8 (by decide +kernel) rfl ⟨Nat.le_of_ble_eq_true rfl, Nat.le_of_ble_eq_true rfl⟩ ⟨Nat.le_of_ble_eq_true rfl, Nat.le_of_ble_eq_true rfl⟩ (Nat.le_of_ble_eq_true rfl) (kW_pm aa ad t σ _ rs) (kW_pm aa ad t q.2 _ rs).symm dL_commandSizeByCounting_4 ?_ rfl
  refine j_i2l (pc := 7) g dL_commandSizeByCounting_7 ?_
  refine j_last (pc := 8) (w' := ((o, .inl (t 4, 1, .inr (.inl (vp_updL fo (0 : Int32).toNatClampNeg q.1.toInt64)))) :: kW aa ad t q.2 rs)) g 0 rfl (show gx_in (0 : Int32) 1 by decide) rfl dL_commandSizeByCounting_8 ?_
  refine j_goto (tgt := 15) (pc := 9) g dL_commandSizeByCounting_9 (by decide) ?_
  refine j_iconst (v := 0) (pc := 15) g dL_commandSizeByCounting_15 (by decide) ?_
  exact hE _ _ dL_commandSizeByCounting_16
set_option maxRecDepth 100000 in
set_option maxHeartbeats 4000000 in
theorem hL_commandSizeByCounting_x1 {D : va_G} {t : Nat → ClassId} {aa : gx_AA} {l : Launch} {ad : Nat → Nat} {rs : va_W} {o : Nat} {fo : (Nat → Int64)} {σ : CS} {p1 : Int32} {q2 : CS} (hst : l.stackTraces = false) (hf : xX8_commandSizeByCounting σ p1 = some (1, q2)) : gx_CH D t (gx_E0 aa) l yL_commandSizeByCounting cL_commandSizeByCounting 4 (some .int) [(0, 9, 12, 13)] 8 132 1 6 [.ref (ad 0), .int p1, .ref o] ((o, .inl (t 4, 1, .inr (.inl fo))) :: kW aa ad t σ rs) ((o, .inl (t 4, 1, .inr (.inl fo))) :: kW aa ad t q2 rs) (some (.int 1)) := by
  refine gx_intro_h hst (by decide) (Nat.le_of_ble_eq_true rfl) (fun J gh hE => ?_)
  have g := gh.g
  show J 0 0 ((o, .inl (t 4, 1, .inr (.inl fo))) :: kW aa ad t σ rs) 0 [(0, .ref (ad 0)), (1, .int p1), (2, .ref o)] []
  refine j_aload_n (pc := 0) g 2 dL_commandSizeByCounting_0 rfl ?_
  refine j_iconst (v := 0) (pc := 1) g dL_commandSizeByCounting_1 (by decide) ?_
  refine j_aload_n (pc := 2) g 0 dL_commandSizeByCounting_2 rfl ?_
  refine j_iload_n (pc := 3) g 1 dL_commandSizeByCounting_3 rfl ?_
  refine j_callVH (E0 := "java/lang/IndexOutOfBoundsException") (pc := 4) (na := 1) (As := [.int p1]) (rest := [.int 0, .ref o]) (q0 := 1) (ci := 9) (w' := ((o, .inl (t 4, 1, .inr (.inl fo))) :: kW aa ad t q2 rs)) gh (eX8_commandSizeByCounting_ (rs := (o, .inl (t 4, 1, .inr (.inl fo))) :: rs) hf) q_i_X8_commandSizeByCounting q_s_X8_commandSizeByCounting rfl rfl rfl q_c_X8_commandSizeByCounting q_l_L_72 q_n_X8 (by decide +kernel) rfl ⟨Nat.le_of_ble_eq_true rfl, Nat.le_of_ble_eq_true rfl⟩ ⟨Nat.le_of_ble_eq_true rfl, Nat.le_of_ble_eq_true rfl⟩ (Nat.le_of_ble_eq_true rfl) (kW_pm aa ad t σ _ rs) (kW_pm aa ad t q2 _ rs).symm dL_commandSizeByCounting_4 rfl [] ⟨0, 9, 12, 13⟩ [] rfl (fun _ h => absurd h List.not_mem_nil) (by decide) (by decide) q_k_L_13 q_g_1 (fun q9 => ?_)
  refine j_astore_n (L' := [(3, .ref q9), (0, .ref (ad 0)), (1, .int p1), (2, .ref o)]) (pc := 12) g dL_commandSizeByCounting_12 rfl (Nat.le_of_ble_eq_true rfl) rfl ?_
  refine j_iconst (v := 1) (pc := 13) g dL_commandSizeByCounting_13 (by decide) ?_
  exact hE _ _ dL_commandSizeByCounting_14
set_option maxRecDepth 100000 in
set_option maxHeartbeats 4000000 in
theorem hL_isAbove_ok {D : va_G} {t : Nat → ClassId} {aa : gx_AA} {l : Launch} {ad : Nat → Nat} {rs : va_W} {o : Nat} {fo : (Nat → Int64)} {σ : CS} {p1 : Int32} {p2 : Int32} {q : (Int32 × CS)} (hst : l.stackTraces = false) (hf : fX8_isAbove σ p1 p2 = some q) : gx_CH D t (gx_E0 aa) l yL_isAbove cL_isAbove 5 (some .int) [(0, 17, 20, 13)] 8 133 0 0 [.ref (ad 0), .int p1, .int p2, .ref o] ((o, .inl (t 4, 1, .inr (.inl fo))) :: kW aa ad t σ rs) ((o, .inl (t 4, 1, .inr (.inl (vp_updL fo (0 : Int32).toNatClampNeg (if q.1 = 0 then 0 else 1))))) :: kW aa ad t q.2 rs) (some (.int 0)) := by
  refine gx_intro_h hst (by decide) (Nat.le_of_ble_eq_true rfl) (fun J gh hE => ?_)
  have g := gh.g
  show J 0 0 ((o, .inl (t 4, 1, .inr (.inl fo))) :: kW aa ad t σ rs) 0 [(0, .ref (ad 0)), (1, .int p1), (2, .int p2), (3, .ref o)] []
  refine j_aload_n (pc := 0) g 3 dL_isAbove_0 rfl ?_
  refine j_iconst (v := 0) (pc := 1) g dL_isAbove_1 (by decide) ?_
  refine j_aload_n (pc := 2) g 0 dL_isAbove_2 rfl ?_
  refine j_iload_n (pc := 3) g 1 dL_isAbove_3 rfl ?_
  refine j_iload_n (pc := 4) g 2 dL_isAbove_4 rfl ?_
  refine j_callVi (pc := 5) (na := 2) (As := [.int p1, .int p2]) (rest := [.int 0, .ref o]) (q0 := 1) (ci := 9) g (cX8_isAbove_ (rs := (o, .inl (t 4, 1, .inr (.inl fo))) :: rs) hf) q_i_X8_isAbove q_s_X8_isAbove rfl rfl rfl q_c_X8_isAbove q_l_L_75 q_n_X8 (by decide +kernel) rfl ⟨Nat.le_of_ble_eq_true rfl, Nat.le_of_ble_eq_true rfl⟩ ⟨Nat.le_of_ble_eq_true rfl, Nat.le_of_ble_eq_true rfl⟩ (Nat.le_of_ble_eq_true rfl) (kW_pm aa ad t σ _ rs) (kW_pm aa ad t q.2 _ rs).symm dL_isAbove_5 ?_ rfl
  refine j_if_eq (tgt := 15) (pc := 8) g dL_isAbove_8 (by decide) (fun c9 => ?_) (fun c9 => ?_)
  · rw [if_pos c9] at hE
    refine j_lconst (v := 0) (pc := 15) g dL_isAbove_15 (by decide) ?_
    refine j_last (pc := 16) (w' := ((o, .inl (t 4, 1, .inr (.inl (vp_updL fo (0 : Int32).toNatClampNeg (0 : Int64))))) :: kW aa ad t q.2 rs)) g 0 rfl (show gx_in (0 : Int32) 1 by decide) rfl dL_isAbove_16 ?_
    refine j_goto (tgt := 24) (pc := 17) g dL_isAbove_17 (by decide) ?_
    refine j_iconst (v := 0) (pc := 24) g dL_isAbove_24 (by decide) ?_
    exact hE _ _ dL_isAbove_25
  · rw [if_neg c9] at hE
    refine j_lconst (v := 1) (pc := 11) g dL_isAbove_11 (by decide) ?_
    refine j_goto (tgt := 16) (pc := 12) g dL_isAbove_12 (by decide) ?_
    refine j_last (pc := 16) (w' := ((o, .inl (t 4, 1, .inr (.inl (vp_updL fo (0 : Int32).toNatClampNeg (1 : Int64))))) :: kW aa ad t q.2 rs)) g 0 rfl (show gx_in (0 : Int32) 1 by decide) rfl dL_isAbove_16 ?_
    refine j_goto (tgt := 24) (pc := 17) g dL_isAbove_17 (by decide) ?_
    refine j_iconst (v := 0) (pc := 24) g dL_isAbove_24 (by decide) ?_
    exact hE _ _ dL_isAbove_25
set_option maxRecDepth 100000 in
set_option maxHeartbeats 4000000 in
theorem hL_isAbove_x1 {D : va_G} {t : Nat → ClassId} {aa : gx_AA} {l : Launch} {ad : Nat → Nat} {rs : va_W} {o : Nat} {fo : (Nat → Int64)} {σ : CS} {p1 : Int32} {p2 : Int32} {q2 : CS} (hst : l.stackTraces = false) (hf : xX8_isAbove σ p1 p2 = some (1, q2)) : gx_CH D t (gx_E0 aa) l yL_isAbove cL_isAbove 5 (some .int) [(0, 17, 20, 13)] 8 133 1 6 [.ref (ad 0), .int p1, .int p2, .ref o] ((o, .inl (t 4, 1, .inr (.inl fo))) :: kW aa ad t σ rs) ((o, .inl (t 4, 1, .inr (.inl fo))) :: kW aa ad t q2 rs) (some (.int 1)) := by
  refine gx_intro_h hst (by decide) (Nat.le_of_ble_eq_true rfl) (fun J gh hE => ?_)
  have g := gh.g
  show J 0 0 ((o, .inl (t 4, 1, .inr (.inl fo))) :: kW aa ad t σ rs) 0 [(0, .ref (ad 0)), (1, .int p1), (2, .int p2), (3, .ref o)] []
  refine j_aload_n (pc := 0) g 3 dL_isAbove_0 rfl ?_
  refine j_iconst (v := 0) (pc := 1) g dL_isAbove_1 (by decide) ?_
  refine j_aload_n (pc := 2) g 0 dL_isAbove_2 rfl ?_
  refine j_iload_n (pc := 3) g 1 dL_isAbove_3 rfl ?_
  refine j_iload_n (pc := 4) g 2 dL_isAbove_4 rfl ?_
  refine j_callVH (E0 := "java/lang/IndexOutOfBoundsException") (pc := 5) (na := 2) (As := [.int p1, .int p2]) (rest := [.int 0, .ref o]) (q0 := 1) (ci := 9) (w' := ((o, .inl (t 4, 1, .inr (.inl fo))) :: kW aa ad t q2 rs)) gh (eX8_isAbove_ (rs := (o, .inl (t 4, 1, .inr (.inl fo))) :: rs) hf) q_i_X8_isAbove q_s_X8_isAbove rfl rfl rfl q_c_X8_isAbove q_l_L_75 q_n_X8 (by decide +kernel) rfl ⟨Nat.le_of_ble_eq_true rfl, Nat.le_of_ble_eq_true rfl⟩ ⟨Nat.le_of_ble_eq_true rfl, Nat.le_of_ble_eq_true rfl⟩ (Nat.le_of_ble_eq_true rfl) (kW_pm aa ad t σ _ rs) (kW_pm aa ad t q2 _ rs).symm dL_isAbove_5 rfl [] ⟨0, 17, 20, 13⟩ [] rfl (fun _ h => absurd h List.not_mem_nil) (by decide) (by decide) q_k_L_13 q_g_1 (fun q9 => ?_)
  refine j_astore (L' := [(4, .ref q9), (0, .ref (ad 0)), (1, .int p1), (2, .int p2), (3, .ref o)]) (pc := 20) g dL_isAbove_20 (Nat.le_of_ble_eq_true rfl) rfl ?_
  refine j_iconst (v := 1) (pc := 22) g dL_isAbove_22 (by decide) ?_
  exact hE _ _ dL_isAbove_23
set_option maxRecDepth 100000 in
set_option maxHeartbeats 4000000 in
theorem hL_commonSuperior_ok {D : va_G} {t : Nat → ClassId} {aa : gx_AA} {l : Launch} {ad : Nat → Nat} {rs : va_W} {o : Nat} {fo : (Nat → Int64)} {σ : CS} {p1 : Int32} {p2 : Int32} {q : (Int32 × CS)} (hst : l.stackTraces = false) (hf : fX8_commonSuperior σ p1 p2 = some q) : gx_CH D t (gx_E0 aa) l yL_commonSuperior cL_commonSuperior 5 (some .int) [(0, 10, 13, 13)] 8 133 0 0 [.ref (ad 0), .int p1, .int p2, .ref o] ((o, .inl (t 4, 1, .inr (.inl fo))) :: kW aa ad t σ rs) ((o, .inl (t 4, 1, .inr (.inl (vp_updL fo (0 : Int32).toNatClampNeg q.1.toInt64)))) :: kW aa ad t q.2 rs) (some (.int 0)) := by
  refine gx_intro_h hst (by decide) (Nat.le_of_ble_eq_true rfl) (fun J gh hE => ?_)
  have g := gh.g
  show J 0 0 ((o, .inl (t 4, 1, .inr (.inl fo))) :: kW aa ad t σ rs) 0 [(0, .ref (ad 0)), (1, .int p1), (2, .int p2), (3, .ref o)] []
  refine j_aload_n (pc := 0) g 3 dL_commonSuperior_0 rfl ?_
  refine j_iconst (v := 0) (pc := 1) g dL_commonSuperior_1 (by decide) ?_
  refine j_aload_n (pc := 2) g 0 dL_commonSuperior_2 rfl ?_
  refine j_iload_n (pc := 3) g 1 dL_commonSuperior_3 rfl ?_
  refine j_iload_n (pc := 4) g 2 dL_commonSuperior_4 rfl ?_
  refine j_callVi (pc := 5) (na := 2) (As := [.int p1, .int p2]) (rest := [.int 0, .ref o]) (q0 := 1) (ci := 9) g (cX8_commonSuperior_ (rs := (o, .inl (t 4, 1, .inr (.inl fo))) :: rs) hf) q_i_X8_commonSuperior q_s_X8_commonSuperior rfl rfl rfl q_c_X8_commonSuperior q_l_L_79 q_n_X8 (by decide +kernel) rfl ⟨Nat.le_of_ble_eq_true rfl, Nat.le_of_ble_eq_true rfl⟩ ⟨Nat.le_of_ble_eq_true rfl, Nat.le_of_ble_eq_true rfl⟩ (Nat.le_of_ble_eq_true rfl) (kW_pm aa ad t σ _ rs) (kW_pm aa ad t q.2 _ rs).symm dL_commonSuperior_5 ?_ rfl
  refine j_i2l (pc := 8) g dL_commonSuperior_8 ?_
  refine j_last (pc := 9) (w' := ((o, .inl (t 4, 1, .inr (.inl (vp_updL fo (0 : Int32).toNatClampNeg q.1.toInt64)))) :: kW aa ad t q.2 rs)) g 0 rfl (show gx_in (0 : Int32) 1 by decide) rfl dL_commonSuperior_9 ?_
  refine j_goto (tgt := 17) (pc := 10) g dL_commonSuperior_10 (by decide) ?_
  refine j_iconst (v := 0) (pc := 17) g dL_commonSuperior_17 (by decide) ?_
  exact hE _ _ dL_commonSuperior_18
set_option maxRecDepth 100000 in
set_option maxHeartbeats 4000000 in
theorem hL_commonSuperior_x1 {D : va_G} {t : Nat → ClassId} {aa : gx_AA} {l : Launch} {ad : Nat → Nat} {rs : va_W} {o : Nat} {fo : (Nat → Int64)} {σ : CS} {p1 : Int32} {p2 : Int32} {q2 : CS} (hst : l.stackTraces = false) (hf : xX8_commonSuperior σ p1 p2 = some (1, q2)) : gx_CH D t (gx_E0 aa) l yL_commonSuperior cL_commonSuperior 5 (some .int) [(0, 10, 13, 13)] 8 133 1 6 [.ref (ad 0), .int p1, .int p2, .ref o] ((o, .inl (t 4, 1, .inr (.inl fo))) :: kW aa ad t σ rs) ((o, .inl (t 4, 1, .inr (.inl fo))) :: kW aa ad t q2 rs) (some (.int 1)) := by
  refine gx_intro_h hst (by decide) (Nat.le_of_ble_eq_true rfl) (fun J gh hE => ?_)
  have g := gh.g
  show J 0 0 ((o, .inl (t 4, 1, .inr (.inl fo))) :: kW aa ad t σ rs) 0 [(0, .ref (ad 0)), (1, .int p1), (2, .int p2), (3, .ref o)] []
  refine j_aload_n (pc := 0) g 3 dL_commonSuperior_0 rfl ?_
  refine j_iconst (v := 0) (pc := 1) g dL_commonSuperior_1 (by decide) ?_
  refine j_aload_n (pc := 2) g 0 dL_commonSuperior_2 rfl ?_
  refine j_iload_n (pc := 3) g 1 dL_commonSuperior_3 rfl ?_
  refine j_iload_n (pc := 4) g 2 dL_commonSuperior_4 rfl ?_
  refine j_callVH (E0 := "java/lang/IndexOutOfBoundsException") (pc := 5) (na := 2) (As := [.int p1, .int p2]) (rest := [.int 0, .ref o]) (q0 := 1) (ci := 9) (w' := ((o, .inl (t 4, 1, .inr (.inl fo))) :: kW aa ad t q2 rs)) gh (eX8_commonSuperior_ (rs := (o, .inl (t 4, 1, .inr (.inl fo))) :: rs) hf) q_i_X8_commonSuperior q_s_X8_commonSuperior rfl rfl rfl q_c_X8_commonSuperior q_l_L_79 q_n_X8 (by decide +kernel) rfl ⟨Nat.le_of_ble_eq_true rfl, Nat.le_of_ble_eq_true rfl⟩ ⟨Nat.le_of_ble_eq_true rfl, Nat.le_of_ble_eq_true rfl⟩ (Nat.le_of_ble_eq_true rfl) (kW_pm aa ad t σ _ rs) (kW_pm aa ad t q2 _ rs).symm dL_commonSuperior_5 rfl [] ⟨0, 10, 13, 13⟩ [] rfl (fun _ h => absurd h List.not_mem_nil) (by decide) (by decide) q_k_L_13 q_g_1 (fun q9 => ?_)
  refine j_astore (L' := [(4, .ref q9), (0, .ref (ad 0)), (1, .int p1), (2, .int p2), (3, .ref o)]) (pc := 13) g dL_commonSuperior_13 (Nat.le_of_ble_eq_true rfl) rfl ?_
  refine j_iconst (v := 1) (pc := 15) g dL_commonSuperior_15 (by decide) ?_
  exact hE _ _ dL_commonSuperior_16
set_option maxRecDepth 100000 in
set_option maxHeartbeats 4000000 in
theorem hL_hoursFor_ok {D : va_G} {t : Nat → ClassId} {aa : gx_AA} {l : Launch} {ad : Nat → Nat} {rs : va_W} {o : Nat} {fo : (Nat → Int64)} {σ : CS} {p1 : Int32} {p2 : Int32} {q : (Int32 × CS)} (hst : l.stackTraces = false) (hf : fX8_hoursFor σ p1 p2 = some q) : gx_CH D t (gx_E0 aa) l yL_hoursFor cL_hoursFor 5 (some .int) [(0, 10, 13, 13), (0, 10, 17, 17)] 8 134 0 0 [.ref (ad 0), .int p1, .int p2, .ref o] ((o, .inl (t 4, 1, .inr (.inl fo))) :: kW aa ad t σ rs) ((o, .inl (t 4, 1, .inr (.inl (vp_updL fo (0 : Int32).toNatClampNeg q.1.toInt64)))) :: kW aa ad t q.2 rs) (some (.int 0)) := by
  refine gx_intro_h hst (by decide) (Nat.le_of_ble_eq_true rfl) (fun J gh hE => ?_)
  have g := gh.g
  show J 0 0 ((o, .inl (t 4, 1, .inr (.inl fo))) :: kW aa ad t σ rs) 0 [(0, .ref (ad 0)), (1, .int p1), (2, .int p2), (3, .ref o)] []
  refine j_aload_n (pc := 0) g 3 dL_hoursFor_0 rfl ?_
  refine j_iconst (v := 0) (pc := 1) g dL_hoursFor_1 (by decide) ?_
  refine j_aload_n (pc := 2) g 0 dL_hoursFor_2 rfl ?_
  refine j_iload_n (pc := 3) g 1 dL_hoursFor_3 rfl ?_
  refine j_iload_n (pc := 4) g 2 dL_hoursFor_4 rfl ?_
  refine j_callVi (pc := 5) (na := 2) (As := [.int p1, .int p2]) (rest := [.int 0, .ref o]) (q0 := 1) (ci := 9) g (cX8_hoursFor_ (rs := (o, .inl (t 4, 1, .inr (.inl fo))) :: rs) hf) q_i_X8_hoursFor q_s_X8_hoursFor rfl rfl rfl q_c_X8_hoursFor q_l_L_82 q_n_X8 (by decide +kernel) rfl ⟨Nat.le_of_ble_eq_true rfl, Nat.le_of_ble_eq_true rfl⟩ ⟨Nat.le_of_ble_eq_true rfl, Nat.le_of_ble_eq_true rfl⟩ (Nat.le_of_ble_eq_true rfl) (kW_pm aa ad t σ _ rs) (kW_pm aa ad t q.2 _ rs).symm dL_hoursFor_5 ?_ rfl
  refine j_i2l (pc := 8) g dL_hoursFor_8 ?_
  refine j_last (pc := 9) (w' := ((o, .inl (t 4, 1, .inr (.inl (vp_updL fo (0 : Int32).toNatClampNeg q.1.toInt64)))) :: kW aa ad t q.2 rs)) g 0 rfl (show gx_in (0 : Int32) 1 by decide) rfl dL_hoursFor_9 ?_
  refine j_goto (tgt := 21) (pc := 10) g dL_hoursFor_10 (by decide) ?_
  refine j_iconst (v := 0) (pc := 21) g dL_hoursFor_21 (by decide) ?_
  exact hE _ _ dL_hoursFor_22
set_option maxRecDepth 100000 in
set_option maxHeartbeats 4000000 in
theorem hL_hoursFor_x1 {D : va_G} {t : Nat → ClassId} {aa : gx_AA} {l : Launch} {ad : Nat → Nat} {rs : va_W} {o : Nat} {fo : (Nat → Int64)} {σ : CS} {p1 : Int32} {p2 : Int32} {q2 : CS} (hst : l.stackTraces = false) (hf : xX8_hoursFor σ p1 p2 = some (1, q2)) : gx_CH D t (gx_E0 aa) l yL_hoursFor cL_hoursFor 5 (some .int) [(0, 10, 13, 13), (0, 10, 17, 17)] 8 134 1 6 [.ref (ad 0), .int p1, .int p2, .ref o] ((o, .inl (t 4, 1, .inr (.inl fo))) :: kW aa ad t σ rs) ((o, .inl (t 4, 1, .inr (.inl fo))) :: kW aa ad t q2 rs) (some (.int 1)) := by
  refine gx_intro_h hst (by decide) (Nat.le_of_ble_eq_true rfl) (fun J gh hE => ?_)
  have g := gh.g
  show J 0 0 ((o, .inl (t 4, 1, .inr (.inl fo))) :: kW aa ad t σ rs) 0 [(0, .ref (ad 0)), (1, .int p1), (2, .int p2), (3, .ref o)] []
  refine j_aload_n (pc := 0) g 3 dL_hoursFor_0 rfl ?_
  refine j_iconst (v := 0) (pc := 1) g dL_hoursFor_1 (by decide) ?_
  refine j_aload_n (pc := 2) g 0 dL_hoursFor_2 rfl ?_
  refine j_iload_n (pc := 3) g 1 dL_hoursFor_3 rfl ?_
  refine j_iload_n (pc := 4) g 2 dL_hoursFor_4 rfl ?_
  refine j_callVH (E0 := "java/lang/IndexOutOfBoundsException") (pc := 5) (na := 2) (As := [.int p1, .int p2]) (rest := [.int 0, .ref o]) (q0 := 1) (ci := 9) (w' := ((o, .inl (t 4, 1, .inr (.inl fo))) :: kW aa ad t q2 rs)) gh (eX8_hoursFor_ (rs := (o, .inl (t 4, 1, .inr (.inl fo))) :: rs) hf) q_i_X8_hoursFor q_s_X8_hoursFor rfl rfl rfl q_c_X8_hoursFor q_l_L_82 q_n_X8 (by decide +kernel) rfl ⟨Nat.le_of_ble_eq_true rfl, Nat.le_of_ble_eq_true rfl⟩ ⟨Nat.le_of_ble_eq_true rfl, Nat.le_of_ble_eq_true rfl⟩ (Nat.le_of_ble_eq_true rfl) (kW_pm aa ad t σ _ rs) (kW_pm aa ad t q2 _ rs).symm dL_hoursFor_5 rfl [] ⟨0, 10, 13, 13⟩ [⟨0, 10, 17, 17⟩] rfl (fun _ h => absurd h List.not_mem_nil) (by decide) (by decide) q_k_L_13 q_g_1 (fun q9 => ?_)
  refine j_astore (L' := [(4, .ref q9), (0, .ref (ad 0)), (1, .int p1), (2, .int p2), (3, .ref o)]) (pc := 13) g dL_hoursFor_13 (Nat.le_of_ble_eq_true rfl) rfl ?_
  refine j_iconst (v := 1) (pc := 15) g dL_hoursFor_15 (by decide) ?_
  exact hE _ _ dL_hoursFor_16
set_option maxRecDepth 100000 in
set_option maxHeartbeats 4000000 in
theorem hL_hoursFor_x2 {D : va_G} {t : Nat → ClassId} {aa : gx_AA} {l : Launch} {ad : Nat → Nat} {rs : va_W} {o : Nat} {fo : (Nat → Int64)} {σ : CS} {p1 : Int32} {p2 : Int32} {q2 : CS} (hst : l.stackTraces = false) (hf : xX8_hoursFor σ p1 p2 = some (3, q2)) : gx_CH D t (gx_E0 aa) l yL_hoursFor cL_hoursFor 5 (some .int) [(0, 10, 13, 13), (0, 10, 17, 17)] 8 134 1 6 [.ref (ad 0), .int p1, .int p2, .ref o] ((o, .inl (t 4, 1, .inr (.inl fo))) :: kW aa ad t σ rs) ((o, .inl (t 4, 1, .inr (.inl fo))) :: kW aa ad t q2 rs) (some (.int 2)) := by
  refine gx_intro_h hst (by decide) (Nat.le_of_ble_eq_true rfl) (fun J gh hE => ?_)
  have g := gh.g
  show J 0 0 ((o, .inl (t 4, 1, .inr (.inl fo))) :: kW aa ad t σ rs) 0 [(0, .ref (ad 0)), (1, .int p1), (2, .int p2), (3, .ref o)] []
  refine j_aload_n (pc := 0) g 3 dL_hoursFor_0 rfl ?_
  refine j_iconst (v := 0) (pc := 1) g dL_hoursFor_1 (by decide) ?_
  refine j_aload_n (pc := 2) g 0 dL_hoursFor_2 rfl ?_
  refine j_iload_n (pc := 3) g 1 dL_hoursFor_3 rfl ?_
  refine j_iload_n (pc := 4) g 2 dL_hoursFor_4 rfl ?_
  refine j_callVH (E0 := "java/lang/IllegalStateException") (pc := 5) (na := 2) (As := [.int p1, .int p2]) (rest := [.int 0, .ref o]) (q0 := 1) (ci := 9) (w' := ((o, .inl (t 4, 1, .inr (.inl fo))) :: kW aa ad t q2 rs)) gh (eX8_hoursFor_ (rs := (o, .inl (t 4, 1, .inr (.inl fo))) :: rs) hf) q_i_X8_hoursFor q_s_X8_hoursFor rfl rfl rfl q_c_X8_hoursFor q_l_L_82 q_n_X8 (by decide +kernel) rfl ⟨Nat.le_of_ble_eq_true rfl, Nat.le_of_ble_eq_true rfl⟩ ⟨Nat.le_of_ble_eq_true rfl, Nat.le_of_ble_eq_true rfl⟩ (Nat.le_of_ble_eq_true rfl) (kW_pm aa ad t σ _ rs) (kW_pm aa ad t q2 _ rs).symm dL_hoursFor_5 rfl [⟨0, 10, 13, 13⟩] ⟨0, 10, 17, 17⟩ [] rfl (List.forall_mem_cons.mpr ⟨⟨by decide, "java/lang/IndexOutOfBoundsException", q_k_L_13, by decide⟩, (fun _ h => absurd h List.not_mem_nil)⟩) (by decide) (by decide) q_k_L_17 q_g_3 (fun q9 => ?_)
  refine j_astore (L' := [(4, .ref q9), (0, .ref (ad 0)), (1, .int p1), (2, .int p2), (3, .ref o)]) (pc := 17) g dL_hoursFor_17 (Nat.le_of_ble_eq_true rfl) rfl ?_
  refine j_iconst (v := 2) (pc := 19) g dL_hoursFor_19 (by decide) ?_
  exact hE _ _ dL_hoursFor_20
set_option maxRecDepth 100000 in
set_option maxHeartbeats 4000000 in
theorem hL_greatestSeverity_ok {D : va_G} {t : Nat → ClassId} {aa : gx_AA} {l : Launch} {ad : Nat → Nat} {rs : va_W} {o : Nat} {fo : (Nat → Int64)} {σ : CS} {p1 : Int32} {p2 : Int32} {q : (Int32 × CS)} (hst : l.stackTraces = false) (hf : fX8_greatestSeverity σ p1 p2 = some q) : gx_CH D t (gx_E0 aa) l yL_greatestSeverity cL_greatestSeverity 5 (some .int) [(0, 10, 13, 13), (0, 10, 17, 17)] 8 134 0 0 [.ref (ad 0), .int p1, .int p2, .ref o] ((o, .inl (t 4, 1, .inr (.inl fo))) :: kW aa ad t σ rs) ((o, .inl (t 4, 1, .inr (.inl (vp_updL fo (0 : Int32).toNatClampNeg q.1.toInt64)))) :: kW aa ad t q.2 rs) (some (.int 0)) := by
  refine gx_intro_h hst (by decide) (Nat.le_of_ble_eq_true rfl) (fun J gh hE => ?_)
  have g := gh.g
  show J 0 0 ((o, .inl (t 4, 1, .inr (.inl fo))) :: kW aa ad t σ rs) 0 [(0, .ref (ad 0)), (1, .int p1), (2, .int p2), (3, .ref o)] []
  refine j_aload_n (pc := 0) g 3 dL_greatestSeverity_0 rfl ?_
  refine j_iconst (v := 0) (pc := 1) g dL_greatestSeverity_1 (by decide) ?_
  refine j_aload_n (pc := 2) g 0 dL_greatestSeverity_2 rfl ?_
  refine j_iload_n (pc := 3) g 1 dL_greatestSeverity_3 rfl ?_
  refine j_iload_n (pc := 4) g 2 dL_greatestSeverity_4 rfl ?_
  refine j_callVi (pc := 5) (na := 2) (As := [.int p1, .int p2]) (rest := [.int 0, .ref o]) (q0 := 1) (ci := 9) g (cX8_greatestSeverity_ (rs := (o, .inl (t 4, 1, .inr (.inl fo))) :: rs) hf) q_i_X8_greatestSeverity q_s_X8_greatestSeverity rfl rfl rfl q_c_X8_greatestSeverity q_l_L_85 q_n_X8 (by decide +kernel) rfl ⟨Nat.le_of_ble_eq_true rfl, Nat.le_of_ble_eq_true rfl⟩ ⟨Nat.le_of_ble_eq_true rfl, Nat.le_of_ble_eq_true rfl⟩ (Nat.le_of_ble_eq_true rfl) (kW_pm aa ad t σ _ rs) (kW_pm aa ad t q.2 _ rs).symm dL_greatestSeverity_5 ?_ rfl
  refine j_i2l (pc := 8) g dL_greatestSeverity_8 ?_
  refine j_last (pc := 9) (w' := ((o, .inl (t 4, 1, .inr (.inl (vp_updL fo (0 : Int32).toNatClampNeg q.1.toInt64)))) :: kW aa ad t q.2 rs)) g 0 rfl (show gx_in (0 : Int32) 1 by decide) rfl dL_greatestSeverity_9 ?_
  refine j_goto (tgt := 21) (pc := 10) g dL_greatestSeverity_10 (by decide) ?_
  refine j_iconst (v := 0) (pc := 21) g dL_greatestSeverity_21 (by decide) ?_
  exact hE _ _ dL_greatestSeverity_22
set_option maxRecDepth 100000 in
set_option maxHeartbeats 4000000 in
theorem hL_greatestSeverity_x1 {D : va_G} {t : Nat → ClassId} {aa : gx_AA} {l : Launch} {ad : Nat → Nat} {rs : va_W} {o : Nat} {fo : (Nat → Int64)} {σ : CS} {p1 : Int32} {p2 : Int32} {q2 : CS} (hst : l.stackTraces = false) (hf : xX8_greatestSeverity σ p1 p2 = some (1, q2)) : gx_CH D t (gx_E0 aa) l yL_greatestSeverity cL_greatestSeverity 5 (some .int) [(0, 10, 13, 13), (0, 10, 17, 17)] 8 134 1 6 [.ref (ad 0), .int p1, .int p2, .ref o] ((o, .inl (t 4, 1, .inr (.inl fo))) :: kW aa ad t σ rs) ((o, .inl (t 4, 1, .inr (.inl fo))) :: kW aa ad t q2 rs) (some (.int 1)) := by
  refine gx_intro_h hst (by decide) (Nat.le_of_ble_eq_true rfl) (fun J gh hE => ?_)
  have g := gh.g
  show J 0 0 ((o, .inl (t 4, 1, .inr (.inl fo))) :: kW aa ad t σ rs) 0 [(0, .ref (ad 0)), (1, .int p1), (2, .int p2), (3, .ref o)] []
  refine j_aload_n (pc := 0) g 3 dL_greatestSeverity_0 rfl ?_
  refine j_iconst (v := 0) (pc := 1) g dL_greatestSeverity_1 (by decide) ?_
  refine j_aload_n (pc := 2) g 0 dL_greatestSeverity_2 rfl ?_
  refine j_iload_n (pc := 3) g 1 dL_greatestSeverity_3 rfl ?_
  refine j_iload_n (pc := 4) g 2 dL_greatestSeverity_4 rfl ?_
  refine j_callVH (E0 := "java/lang/IndexOutOfBoundsException") (pc := 5) (na := 2) (As := [.int p1, .int p2]) (rest := [.int 0, .ref o]) (q0 := 1) (ci := 9) (w' := ((o, .inl (t 4, 1, .inr (.inl fo))) :: kW aa ad t q2 rs)) gh (eX8_greatestSeverity_ (rs := (o, .inl (t 4, 1, .inr (.inl fo))) :: rs) hf) q_i_X8_greatestSeverity q_s_X8_greatestSeverity rfl rfl rfl q_c_X8_greatestSeverity q_l_L_85 q_n_X8 (by decide +kernel) rfl ⟨Nat.le_of_ble_eq_true rfl, Nat.le_of_ble_eq_true rfl⟩ ⟨Nat.le_of_ble_eq_true rfl, Nat.le_of_ble_eq_true rfl⟩ (Nat.le_of_ble_eq_true rfl) (kW_pm aa ad t σ _ rs) (kW_pm aa ad t q2 _ rs).symm dL_greatestSeverity_5 rfl [] ⟨0, 10, 13, 13⟩ [⟨0, 10, 17, 17⟩] rfl (fun _ h => absurd h List.not_mem_nil) (by decide) (by decide) q_k_L_13 q_g_1 (fun q9 => ?_)
  refine j_astore (L' := [(4, .ref q9), (0, .ref (ad 0)), (1, .int p1), (2, .int p2), (3, .ref o)]) (pc := 13) g dL_greatestSeverity_13 (Nat.le_of_ble_eq_true rfl) rfl ?_
  refine j_iconst (v := 1) (pc := 15) g dL_greatestSeverity_15 (by decide) ?_
  exact hE _ _ dL_greatestSeverity_16
set_option maxRecDepth 100000 in
set_option maxHeartbeats 4000000 in
theorem hL_greatestSeverity_x2 {D : va_G} {t : Nat → ClassId} {aa : gx_AA} {l : Launch} {ad : Nat → Nat} {rs : va_W} {o : Nat} {fo : (Nat → Int64)} {σ : CS} {p1 : Int32} {p2 : Int32} {q2 : CS} (hst : l.stackTraces = false) (hf : xX8_greatestSeverity σ p1 p2 = some (3, q2)) : gx_CH D t (gx_E0 aa) l yL_greatestSeverity cL_greatestSeverity 5 (some .int) [(0, 10, 13, 13), (0, 10, 17, 17)] 8 134 1 6 [.ref (ad 0), .int p1, .int p2, .ref o] ((o, .inl (t 4, 1, .inr (.inl fo))) :: kW aa ad t σ rs) ((o, .inl (t 4, 1, .inr (.inl fo))) :: kW aa ad t q2 rs) (some (.int 2)) := by
  refine gx_intro_h hst (by decide) (Nat.le_of_ble_eq_true rfl) (fun J gh hE => ?_)
  have g := gh.g
  show J 0 0 ((o, .inl (t 4, 1, .inr (.inl fo))) :: kW aa ad t σ rs) 0 [(0, .ref (ad 0)), (1, .int p1), (2, .int p2), (3, .ref o)] []
  refine j_aload_n (pc := 0) g 3 dL_greatestSeverity_0 rfl ?_
  refine j_iconst (v := 0) (pc := 1) g dL_greatestSeverity_1 (by decide) ?_
  refine j_aload_n (pc := 2) g 0 dL_greatestSeverity_2 rfl ?_
  refine j_iload_n (pc := 3) g 1 dL_greatestSeverity_3 rfl ?_
  refine j_iload_n (pc := 4) g 2 dL_greatestSeverity_4 rfl ?_
  refine j_callVH (E0 := "java/lang/IllegalStateException") (pc := 5) (na := 2) (As := [.int p1, .int p2]) (rest := [.int 0, .ref o]) (q0 := 1) (ci := 9) (w' := ((o, .inl (t 4, 1, .inr (.inl fo))) :: kW aa ad t q2 rs)) gh (eX8_greatestSeverity_ (rs := (o, .inl (t 4, 1, .inr (.inl fo))) :: rs) hf) q_i_X8_greatestSeverity q_s_X8_greatestSeverity rfl rfl rfl q_c_X8_greatestSeverity q_l_L_85 q_n_X8 (by decide +kernel) rfl ⟨Nat.le_of_ble_eq_true rfl, Nat.le_of_ble_eq_true rfl⟩ ⟨Nat.le_of_ble_eq_true rfl, Nat.le_of_ble_eq_true rfl⟩ (Nat.le_of_ble_eq_true rfl) (kW_pm aa ad t σ _ rs) (kW_pm aa ad t q2 _ rs).symm dL_greatestSeverity_5 rfl [⟨0, 10, 13, 13⟩] ⟨0, 10, 17, 17⟩ [] rfl (List.forall_mem_cons.mpr ⟨⟨by decide, "java/lang/IndexOutOfBoundsException", q_k_L_13, by decide⟩, (fun _ h => absurd h List.not_mem_nil)⟩) (by decide) (by decide) q_k_L_17 q_g_3 (fun q9 => ?_)
  refine j_astore (L' := [(4, .ref q9), (0, .ref (ad 0)), (1, .int p1), (2, .int p2), (3, .ref o)]) (pc := 17) g dL_greatestSeverity_17 (Nat.le_of_ble_eq_true rfl) rfl ?_
  refine j_iconst (v := 2) (pc := 19) g dL_greatestSeverity_19 (by decide) ?_
  exact hE _ _ dL_greatestSeverity_20
set_option maxRecDepth 100000 in
set_option maxHeartbeats 4000000 in
theorem hL_greatestSeverityByTrial_ok {D : va_G} {t : Nat → ClassId} {aa : gx_AA} {l : Launch} {ad : Nat → Nat} {rs : va_W} {o : Nat} {fo : (Nat → Int64)} {σ : CS} {p1 : Int32} {p2 : Int32} {q : (Int32 × CS)} (hst : l.stackTraces = false) (hf : fX8_greatestSeverityByTrial σ p1 p2 = some q) : gx_CH D t (gx_E0 aa) l yL_greatestSeverityByTrial cL_greatestSeverityByTrial 5 (some .int) [(0, 10, 13, 13), (0, 10, 17, 17)] 8 135 0 0 [.ref (ad 0), .int p1, .int p2, .ref o] ((o, .inl (t 4, 1, .inr (.inl fo))) :: kW aa ad t σ rs) ((o, .inl (t 4, 1, .inr (.inl (vp_updL fo (0 : Int32).toNatClampNeg q.1.toInt64)))) :: kW aa ad t q.2 rs) (some (.int 0)) := by
  refine gx_intro_h hst (by decide) (Nat.le_of_ble_eq_true rfl) (fun J gh hE => ?_)
  have g := gh.g
  show J 0 0 ((o, .inl (t 4, 1, .inr (.inl fo))) :: kW aa ad t σ rs) 0 [(0, .ref (ad 0)), (1, .int p1), (2, .int p2), (3, .ref o)] []
  refine j_aload_n (pc := 0) g 3 dL_greatestSeverityByTrial_0 rfl ?_
  refine j_iconst (v := 0) (pc := 1) g dL_greatestSeverityByTrial_1 (by decide) ?_
  refine j_aload_n (pc := 2) g 0 dL_greatestSeverityByTrial_2 rfl ?_
  refine j_iload_n (pc := 3) g 1 dL_greatestSeverityByTrial_3 rfl ?_
  refine j_iload_n (pc := 4) g 2 dL_greatestSeverityByTrial_4 rfl ?_
  refine j_callVi (pc := 5) (na := 2) (As := [.int p1, .int p2]) (rest := [.int 0, .ref o]) (q0 := 1) (ci := 9) g (cX8_greatestSeverityByTrial_ (rs := (o, .inl (t 4, 1, .inr (.inl fo))) :: rs) hf) q_i_X8_greatestSeverityByTrial q_s_X8_greatestSeverityByTrial rfl rfl rfl q_c_X8_greatestSeverityByTrial q_l_L_88 q_n_X8 (by decide +kernel) rfl ⟨Nat.le_of_ble_eq_true rfl, Nat.le_of_ble_eq_true rfl⟩ ⟨Nat.le_of_ble_eq_true rfl, Nat.le_of_ble_eq_true rfl⟩ (Nat.le_of_ble_eq_true rfl) (kW_pm aa ad t σ _ rs) (kW_pm aa ad t q.2 _ rs).symm dL_greatestSeverityByTrial_5 ?_ rfl
  refine j_i2l (pc := 8) g dL_greatestSeverityByTrial_8 ?_
  refine j_last (pc := 9) (w' := ((o, .inl (t 4, 1, .inr (.inl (vp_updL fo (0 : Int32).toNatClampNeg q.1.toInt64)))) :: kW aa ad t q.2 rs)) g 0 rfl (show gx_in (0 : Int32) 1 by decide) rfl dL_greatestSeverityByTrial_9 ?_
  refine j_goto (tgt := 21) (pc := 10) g dL_greatestSeverityByTrial_10 (by decide) ?_
  refine j_iconst (v := 0) (pc := 21) g dL_greatestSeverityByTrial_21 (by decide) ?_
  exact hE _ _ dL_greatestSeverityByTrial_22
set_option maxRecDepth 100000 in
set_option maxHeartbeats 4000000 in
theorem hL_greatestSeverityByTrial_x1 {D : va_G} {t : Nat → ClassId} {aa : gx_AA} {l : Launch} {ad : Nat → Nat} {rs : va_W} {o : Nat} {fo : (Nat → Int64)} {σ : CS} {p1 : Int32} {p2 : Int32} {q2 : CS} (hst : l.stackTraces = false) (hf : xX8_greatestSeverityByTrial σ p1 p2 = some (1, q2)) : gx_CH D t (gx_E0 aa) l yL_greatestSeverityByTrial cL_greatestSeverityByTrial 5 (some .int) [(0, 10, 13, 13), (0, 10, 17, 17)] 8 135 1 6 [.ref (ad 0), .int p1, .int p2, .ref o] ((o, .inl (t 4, 1, .inr (.inl fo))) :: kW aa ad t σ rs) ((o, .inl (t 4, 1, .inr (.inl fo))) :: kW aa ad t q2 rs) (some (.int 1)) := by
  refine gx_intro_h hst (by decide) (Nat.le_of_ble_eq_true rfl) (fun J gh hE => ?_)
  have g := gh.g
  show J 0 0 ((o, .inl (t 4, 1, .inr (.inl fo))) :: kW aa ad t σ rs) 0 [(0, .ref (ad 0)), (1, .int p1), (2, .int p2), (3, .ref o)] []
  refine j_aload_n (pc := 0) g 3 dL_greatestSeverityByTrial_0 rfl ?_
  refine j_iconst (v := 0) (pc := 1) g dL_greatestSeverityByTrial_1 (by decide) ?_
  refine j_aload_n (pc := 2) g 0 dL_greatestSeverityByTrial_2 rfl ?_
  refine j_iload_n (pc := 3) g 1 dL_greatestSeverityByTrial_3 rfl ?_
  refine j_iload_n (pc := 4) g 2 dL_greatestSeverityByTrial_4 rfl ?_
  refine j_callVH (E0 := "java/lang/IndexOutOfBoundsException") (pc := 5) (na := 2) (As := [.int p1, .int p2]) (rest := [.int 0, .ref o]) (q0 := 1) (ci := 9) (w' := ((o, .inl (t 4, 1, .inr (.inl fo))) :: kW aa ad t q2 rs)) gh (eX8_greatestSeverityByTrial_ (rs := (o, .inl (t 4, 1, .inr (.inl fo))) :: rs) hf) q_i_X8_greatestSeverityByTrial q_s_X8_greatestSeverityByTrial rfl rfl rfl q_c_X8_greatestSeverityByTrial q_l_L_88 q_n_X8 (by decide +kernel) rfl ⟨Nat.le_of_ble_eq_true rfl, Nat.le_of_ble_eq_true rfl⟩ ⟨Nat.le_of_ble_eq_true rfl, Nat.le_of_ble_eq_true rfl⟩ (Nat.le_of_ble_eq_true rfl) (kW_pm aa ad t σ _ rs) (kW_pm aa ad t q2 _ rs).symm dL_greatestSeverityByTrial_5 rfl [] ⟨0, 10, 13, 13⟩ [⟨0, 10, 17, 17⟩] rfl (fun _ h => absurd h List.not_mem_nil) (by decide) (by decide) q_k_L_13 q_g_1 (fun q9 => ?_)
  refine j_astore (L' := [(4, .ref q9), (0, .ref (ad 0)), (1, .int p1), (2, .int p2), (3, .ref o)]) (pc := 13) g dL_greatestSeverityByTrial_13 (Nat.le_of_ble_eq_true rfl) rfl ?_
  refine j_iconst (v := 1) (pc := 15) g dL_greatestSeverityByTrial_15 (by decide) ?_
  exact hE _ _ dL_greatestSeverityByTrial_16
set_option maxRecDepth 100000 in
set_option maxHeartbeats 4000000 in
theorem hL_greatestSeverityByTrial_x2 {D : va_G} {t : Nat → ClassId} {aa : gx_AA} {l : Launch} {ad : Nat → Nat} {rs : va_W} {o : Nat} {fo : (Nat → Int64)} {σ : CS} {p1 : Int32} {p2 : Int32} {q2 : CS} (hst : l.stackTraces = false) (hf : xX8_greatestSeverityByTrial σ p1 p2 = some (3, q2)) : gx_CH D t (gx_E0 aa) l yL_greatestSeverityByTrial cL_greatestSeverityByTrial 5 (some .int) [(0, 10, 13, 13), (0, 10, 17, 17)] 8 135 1 6 [.ref (ad 0), .int p1, .int p2, .ref o] ((o, .inl (t 4, 1, .inr (.inl fo))) :: kW aa ad t σ rs) ((o, .inl (t 4, 1, .inr (.inl fo))) :: kW aa ad t q2 rs) (some (.int 2)) := by
  refine gx_intro_h hst (by decide) (Nat.le_of_ble_eq_true rfl) (fun J gh hE => ?_)
  have g := gh.g
  show J 0 0 ((o, .inl (t 4, 1, .inr (.inl fo))) :: kW aa ad t σ rs) 0 [(0, .ref (ad 0)), (1, .int p1), (2, .int p2), (3, .ref o)] []
  refine j_aload_n (pc := 0) g 3 dL_greatestSeverityByTrial_0 rfl ?_
  refine j_iconst (v := 0) (pc := 1) g dL_greatestSeverityByTrial_1 (by decide) ?_
  refine j_aload_n (pc := 2) g 0 dL_greatestSeverityByTrial_2 rfl ?_
  refine j_iload_n (pc := 3) g 1 dL_greatestSeverityByTrial_3 rfl ?_
  refine j_iload_n (pc := 4) g 2 dL_greatestSeverityByTrial_4 rfl ?_
  refine j_callVH (E0 := "java/lang/IllegalStateException") (pc := 5) (na := 2) (As := [.int p1, .int p2]) (rest := [.int 0, .ref o]) (q0 := 1) (ci := 9) (w' := ((o, .inl (t 4, 1, .inr (.inl fo))) :: kW aa ad t q2 rs)) gh (eX8_greatestSeverityByTrial_ (rs := (o, .inl (t 4, 1, .inr (.inl fo))) :: rs) hf) q_i_X8_greatestSeverityByTrial q_s_X8_greatestSeverityByTrial rfl rfl rfl q_c_X8_greatestSeverityByTrial q_l_L_88 q_n_X8 (by decide +kernel) rfl ⟨Nat.le_of_ble_eq_true rfl, Nat.le_of_ble_eq_true rfl⟩ ⟨Nat.le_of_ble_eq_true rfl, Nat.le_of_ble_eq_true rfl⟩ (Nat.le_of_ble_eq_true rfl) (kW_pm aa ad t σ _ rs) (kW_pm aa ad t q2 _ rs).symm dL_greatestSeverityByTrial_5 rfl [⟨0, 10, 13, 13⟩] ⟨0, 10, 17, 17⟩ [] rfl (List.forall_mem_cons.mpr ⟨⟨by decide, "java/lang/IndexOutOfBoundsException", q_k_L_13, by decide⟩, (fun _ h => absurd h List.not_mem_nil)⟩) (by decide) (by decide) q_k_L_17 q_g_3 (fun q9 => ?_)
  refine j_astore (L' := [(4, .ref q9), (0, .ref (ad 0)), (1, .int p1), (2, .int p2), (3, .ref o)]) (pc := 17) g dL_greatestSeverityByTrial_17 (Nat.le_of_ble_eq_true rfl) rfl ?_
  refine j_iconst (v := 2) (pc := 19) g dL_greatestSeverityByTrial_19 (by decide) ?_
  exact hE _ _ dL_greatestSeverityByTrial_20
set_option maxRecDepth 100000 in
set_option maxHeartbeats 4000000 in
theorem hL_firstRefusal_ok {D : va_G} {t : Nat → ClassId} {aa : gx_AA} {l : Launch} {ad : Nat → Nat} {rs : va_W} {o : Nat} {fo : (Nat → Int64)} {σ : CS} {p1 : Int32} {p2 : Int32} {p3 : Int32} {q : (Int32 × CS)} (hst : l.stackTraces = false) (hf : fX8_firstRefusal σ p1 p2 p3 = some q) : gx_CH D t (gx_E0 aa) l yL_firstRefusal cL_firstRefusal 6 (some .int) [(0, 12, 15, 13), (0, 12, 19, 15), (0, 12, 23, 17), (0, 12, 27, 46)] 8 136 0 0 [.ref (ad 0), .int p1, .int p2, .int p3, .ref o] ((o, .inl (t 4, 1, .inr (.inl fo))) :: kW aa ad t σ rs) ((o, .inl (t 4, 1, .inr (.inl (vp_updL fo (0 : Int32).toNatClampNeg q.1.toInt64)))) :: kW aa ad t q.2 rs) (some (.int 0)) := by
  refine gx_intro_h hst (by decide) (Nat.le_of_ble_eq_true rfl) (fun J gh hE => ?_)
  have g := gh.g
  show J 0 0 ((o, .inl (t 4, 1, .inr (.inl fo))) :: kW aa ad t σ rs) 0 [(0, .ref (ad 0)), (1, .int p1), (2, .int p2), (3, .int p3), (4, .ref o)] []
  refine j_aload (pc := 0) g 4 dL_firstRefusal_0 rfl ?_
  refine j_iconst (v := 0) (pc := 2) g dL_firstRefusal_2 (by decide) ?_
  refine j_aload_n (pc := 3) g 0 dL_firstRefusal_3 rfl ?_
  refine j_iload_n (pc := 4) g 1 dL_firstRefusal_4 rfl ?_
  refine j_iload_n (pc := 5) g 2 dL_firstRefusal_5 rfl ?_
  refine j_iload_n (pc := 6) g 3 dL_firstRefusal_6 rfl ?_
  refine j_callVi (pc := 7) (na := 3) (As := [.int p1, .int p2, .int p3]) (rest := [.int 0, .ref o]) (q0 := 1) (ci := 9) g (cX8_firstRefusal_ (rs := (o, .inl (t 4, 1, .inr (.inl fo))) :: rs) hf) q_i_X8_firstRefusal q_s_X8_firstRefusal rfl rfl rfl q_c_X8_firstRefusal q_l_L_91 q_n_X8 (by decide +kernel) rfl ⟨Nat.le_of_ble_eq_true rfl, Nat.le_of_ble_eq_true rfl⟩ ⟨Nat.le_of_ble_eq_true rfl, Nat.le_of_ble_eq_true rfl⟩ (Nat.le_of_ble_eq_true rfl) (kW_pm aa ad t σ _ rs) (kW_pm aa ad t q.2 _ rs).symm dL_firstRefusal_7 ?_ rfl
  refine j_i2l (pc := 10) g dL_firstRefusal_10 ?_
  refine j_last (pc := 11) (w' := ((o, .inl (t 4, 1, .inr (.inl (vp_updL fo (0 : Int32).toNatClampNeg q.1.toInt64)))) :: kW aa ad t q.2 rs)) g 0 rfl (show gx_in (0 : Int32) 1 by decide) rfl dL_firstRefusal_11 ?_
  refine j_goto (tgt := 31) (pc := 12) g dL_firstRefusal_12 (by decide) ?_
  refine j_iconst (v := 0) (pc := 31) g dL_firstRefusal_31 (by decide) ?_
  exact hE _ _ dL_firstRefusal_32
set_option maxRecDepth 100000 in
set_option maxHeartbeats 4000000 in
theorem hL_firstRefusal_x1 {D : va_G} {t : Nat → ClassId} {aa : gx_AA} {l : Launch} {ad : Nat → Nat} {rs : va_W} {o : Nat} {fo : (Nat → Int64)} {σ : CS} {p1 : Int32} {p2 : Int32} {p3 : Int32} {q2 : CS} (hst : l.stackTraces = false) (hf : xX8_firstRefusal σ p1 p2 p3 = some (1, q2)) : gx_CH D t (gx_E0 aa) l yL_firstRefusal cL_firstRefusal 6 (some .int) [(0, 12, 15, 13), (0, 12, 19, 15), (0, 12, 23, 17), (0, 12, 27, 46)] 8 136 1 6 [.ref (ad 0), .int p1, .int p2, .int p3, .ref o] ((o, .inl (t 4, 1, .inr (.inl fo))) :: kW aa ad t σ rs) ((o, .inl (t 4, 1, .inr (.inl fo))) :: kW aa ad t q2 rs) (some (.int 1)) := by
  refine gx_intro_h hst (by decide) (Nat.le_of_ble_eq_true rfl) (fun J gh hE => ?_)
  have g := gh.g
  show J 0 0 ((o, .inl (t 4, 1, .inr (.inl fo))) :: kW aa ad t σ rs) 0 [(0, .ref (ad 0)), (1, .int p1), (2, .int p2), (3, .int p3), (4, .ref o)] []
  refine j_aload (pc := 0) g 4 dL_firstRefusal_0 rfl ?_
  refine j_iconst (v := 0) (pc := 2) g dL_firstRefusal_2 (by decide) ?_
  refine j_aload_n (pc := 3) g 0 dL_firstRefusal_3 rfl ?_
  refine j_iload_n (pc := 4) g 1 dL_firstRefusal_4 rfl ?_
  refine j_iload_n (pc := 5) g 2 dL_firstRefusal_5 rfl ?_
  refine j_iload_n (pc := 6) g 3 dL_firstRefusal_6 rfl ?_
  refine j_callVH (E0 := "java/lang/IndexOutOfBoundsException") (pc := 7) (na := 3) (As := [.int p1, .int p2, .int p3]) (rest := [.int 0, .ref o]) (q0 := 1) (ci := 9) (w' := ((o, .inl (t 4, 1, .inr (.inl fo))) :: kW aa ad t q2 rs)) gh (eX8_firstRefusal_ (rs := (o, .inl (t 4, 1, .inr (.inl fo))) :: rs) hf) q_i_X8_firstRefusal q_s_X8_firstRefusal rfl rfl rfl q_c_X8_firstRefusal q_l_L_91 q_n_X8 (by decide +kernel) rfl ⟨Nat.le_of_ble_eq_true rfl, Nat.le_of_ble_eq_true rfl⟩ ⟨Nat.le_of_ble_eq_true rfl, Nat.le_of_ble_eq_true rfl⟩ (Nat.le_of_ble_eq_true rfl) (kW_pm aa ad t σ _ rs) (kW_pm aa ad t q2 _ rs).symm dL_firstRefusal_7 rfl [] ⟨0, 12, 15, 13⟩ [⟨0, 12, 19, 15⟩, ⟨0, 12, 23, 17⟩, ⟨0, 12, 27, 46⟩] rfl (fun _ h => absurd h List.not_mem_nil) (by decide) (by decide) q_k_L_13 q_g_1 (fun q9 => ?_)
  refine j_astore (L' := [(5, .ref q9), (0, .ref (ad 0)), (1, .int p1), (2, .int p2), (3, .int p3), (4, .ref o)]) (pc := 15) g dL_firstRefusal_15 (Nat.le_of_ble_eq_true rfl) rfl ?_
  refine j_iconst (v := 1) (pc := 17) g dL_firstRefusal_17 (by decide) ?_
  exact hE _ _ dL_firstRefusal_18
set_option maxRecDepth 100000 in
set_option maxHeartbeats 4000000 in
theorem hL_firstRefusal_x2 {D : va_G} {t : Nat → ClassId} {aa : gx_AA} {l : Launch} {ad : Nat → Nat} {rs : va_W} {o : Nat} {fo : (Nat → Int64)} {σ : CS} {p1 : Int32} {p2 : Int32} {p3 : Int32} {q2 : CS} (hst : l.stackTraces = false) (hf : xX8_firstRefusal σ p1 p2 p3 = some (2, q2)) : gx_CH D t (gx_E0 aa) l yL_firstRefusal cL_firstRefusal 6 (some .int) [(0, 12, 15, 13), (0, 12, 19, 15), (0, 12, 23, 17), (0, 12, 27, 46)] 8 136 1 6 [.ref (ad 0), .int p1, .int p2, .int p3, .ref o] ((o, .inl (t 4, 1, .inr (.inl fo))) :: kW aa ad t σ rs) ((o, .inl (t 4, 1, .inr (.inl fo))) :: kW aa ad t q2 rs) (some (.int 2)) := by
  refine gx_intro_h hst (by decide) (Nat.le_of_ble_eq_true rfl) (fun J gh hE => ?_)
  have g := gh.g
  show J 0 0 ((o, .inl (t 4, 1, .inr (.inl fo))) :: kW aa ad t σ rs) 0 [(0, .ref (ad 0)), (1, .int p1), (2, .int p2), (3, .int p3), (4, .ref o)] []
  refine j_aload (pc := 0) g 4 dL_firstRefusal_0 rfl ?_
  refine j_iconst (v := 0) (pc := 2) g dL_firstRefusal_2 (by decide) ?_
  refine j_aload_n (pc := 3) g 0 dL_firstRefusal_3 rfl ?_
  refine j_iload_n (pc := 4) g 1 dL_firstRefusal_4 rfl ?_
  refine j_iload_n (pc := 5) g 2 dL_firstRefusal_5 rfl ?_
  refine j_iload_n (pc := 6) g 3 dL_firstRefusal_6 rfl ?_
  refine j_callVH (E0 := "java/lang/IllegalArgumentException") (pc := 7) (na := 3) (As := [.int p1, .int p2, .int p3]) (rest := [.int 0, .ref o]) (q0 := 1) (ci := 9) (w' := ((o, .inl (t 4, 1, .inr (.inl fo))) :: kW aa ad t q2 rs)) gh (eX8_firstRefusal_ (rs := (o, .inl (t 4, 1, .inr (.inl fo))) :: rs) hf) q_i_X8_firstRefusal q_s_X8_firstRefusal rfl rfl rfl q_c_X8_firstRefusal q_l_L_91 q_n_X8 (by decide +kernel) rfl ⟨Nat.le_of_ble_eq_true rfl, Nat.le_of_ble_eq_true rfl⟩ ⟨Nat.le_of_ble_eq_true rfl, Nat.le_of_ble_eq_true rfl⟩ (Nat.le_of_ble_eq_true rfl) (kW_pm aa ad t σ _ rs) (kW_pm aa ad t q2 _ rs).symm dL_firstRefusal_7 rfl [⟨0, 12, 15, 13⟩] ⟨0, 12, 19, 15⟩ [⟨0, 12, 23, 17⟩, ⟨0, 12, 27, 46⟩] rfl (List.forall_mem_cons.mpr ⟨⟨by decide, "java/lang/IndexOutOfBoundsException", q_k_L_13, by decide⟩, (fun _ h => absurd h List.not_mem_nil)⟩) (by decide) (by decide) q_k_L_15 q_g_2 (fun q9 => ?_)
  refine j_astore (L' := [(5, .ref q9), (0, .ref (ad 0)), (1, .int p1), (2, .int p2), (3, .int p3), (4, .ref o)]) (pc := 19) g dL_firstRefusal_19 (Nat.le_of_ble_eq_true rfl) rfl ?_
  refine j_iconst (v := 2) (pc := 21) g dL_firstRefusal_21 (by decide) ?_
  exact hE _ _ dL_firstRefusal_22
set_option maxRecDepth 100000 in
set_option maxHeartbeats 4000000 in
theorem hL_firstRefusal_x3 {D : va_G} {t : Nat → ClassId} {aa : gx_AA} {l : Launch} {ad : Nat → Nat} {rs : va_W} {o : Nat} {fo : (Nat → Int64)} {σ : CS} {p1 : Int32} {p2 : Int32} {p3 : Int32} {q2 : CS} (hst : l.stackTraces = false) (hf : xX8_firstRefusal σ p1 p2 p3 = some (3, q2)) : gx_CH D t (gx_E0 aa) l yL_firstRefusal cL_firstRefusal 6 (some .int) [(0, 12, 15, 13), (0, 12, 19, 15), (0, 12, 23, 17), (0, 12, 27, 46)] 8 136 1 6 [.ref (ad 0), .int p1, .int p2, .int p3, .ref o] ((o, .inl (t 4, 1, .inr (.inl fo))) :: kW aa ad t σ rs) ((o, .inl (t 4, 1, .inr (.inl fo))) :: kW aa ad t q2 rs) (some (.int 3)) := by
  refine gx_intro_h hst (by decide) (Nat.le_of_ble_eq_true rfl) (fun J gh hE => ?_)
  have g := gh.g
  show J 0 0 ((o, .inl (t 4, 1, .inr (.inl fo))) :: kW aa ad t σ rs) 0 [(0, .ref (ad 0)), (1, .int p1), (2, .int p2), (3, .int p3), (4, .ref o)] []
  refine j_aload (pc := 0) g 4 dL_firstRefusal_0 rfl ?_
  refine j_iconst (v := 0) (pc := 2) g dL_firstRefusal_2 (by decide) ?_
  refine j_aload_n (pc := 3) g 0 dL_firstRefusal_3 rfl ?_
  refine j_iload_n (pc := 4) g 1 dL_firstRefusal_4 rfl ?_
  refine j_iload_n (pc := 5) g 2 dL_firstRefusal_5 rfl ?_
  refine j_iload_n (pc := 6) g 3 dL_firstRefusal_6 rfl ?_
  refine j_callVH (E0 := "java/lang/IllegalStateException") (pc := 7) (na := 3) (As := [.int p1, .int p2, .int p3]) (rest := [.int 0, .ref o]) (q0 := 1) (ci := 9) (w' := ((o, .inl (t 4, 1, .inr (.inl fo))) :: kW aa ad t q2 rs)) gh (eX8_firstRefusal_ (rs := (o, .inl (t 4, 1, .inr (.inl fo))) :: rs) hf) q_i_X8_firstRefusal q_s_X8_firstRefusal rfl rfl rfl q_c_X8_firstRefusal q_l_L_91 q_n_X8 (by decide +kernel) rfl ⟨Nat.le_of_ble_eq_true rfl, Nat.le_of_ble_eq_true rfl⟩ ⟨Nat.le_of_ble_eq_true rfl, Nat.le_of_ble_eq_true rfl⟩ (Nat.le_of_ble_eq_true rfl) (kW_pm aa ad t σ _ rs) (kW_pm aa ad t q2 _ rs).symm dL_firstRefusal_7 rfl [⟨0, 12, 15, 13⟩, ⟨0, 12, 19, 15⟩] ⟨0, 12, 23, 17⟩ [⟨0, 12, 27, 46⟩] rfl (List.forall_mem_cons.mpr ⟨⟨by decide, "java/lang/IndexOutOfBoundsException", q_k_L_13, by decide⟩, (List.forall_mem_cons.mpr ⟨⟨by decide, "java/lang/IllegalArgumentException", q_k_L_15, by decide⟩, (fun _ h => absurd h List.not_mem_nil)⟩)⟩) (by decide) (by decide) q_k_L_17 q_g_3 (fun q9 => ?_)
  refine j_astore (L' := [(5, .ref q9), (0, .ref (ad 0)), (1, .int p1), (2, .int p2), (3, .int p3), (4, .ref o)]) (pc := 23) g dL_firstRefusal_23 (Nat.le_of_ble_eq_true rfl) rfl ?_
  refine j_iconst (v := 3) (pc := 25) g dL_firstRefusal_25 (by decide) ?_
  exact hE _ _ dL_firstRefusal_26
set_option maxRecDepth 100000 in
set_option maxHeartbeats 4000000 in
theorem hL_firstRefusal_x4 {D : va_G} {t : Nat → ClassId} {aa : gx_AA} {l : Launch} {ad : Nat → Nat} {rs : va_W} {o : Nat} {fo : (Nat → Int64)} {σ : CS} {p1 : Int32} {p2 : Int32} {p3 : Int32} {q2 : CS} (hst : l.stackTraces = false) (hf : xX8_firstRefusal σ p1 p2 p3 = some (5, q2)) : gx_CH D t (gx_E0 aa) l yL_firstRefusal cL_firstRefusal 6 (some .int) [(0, 12, 15, 13), (0, 12, 19, 15), (0, 12, 23, 17), (0, 12, 27, 46)] 8 136 1 6 [.ref (ad 0), .int p1, .int p2, .int p3, .ref o] ((o, .inl (t 4, 1, .inr (.inl fo))) :: kW aa ad t σ rs) ((o, .inl (t 4, 1, .inr (.inl fo))) :: kW aa ad t q2 rs) (some (.int 4)) := by
  refine gx_intro_h hst (by decide) (Nat.le_of_ble_eq_true rfl) (fun J gh hE => ?_)
  have g := gh.g
  show J 0 0 ((o, .inl (t 4, 1, .inr (.inl fo))) :: kW aa ad t σ rs) 0 [(0, .ref (ad 0)), (1, .int p1), (2, .int p2), (3, .int p3), (4, .ref o)] []
  refine j_aload (pc := 0) g 4 dL_firstRefusal_0 rfl ?_
  refine j_iconst (v := 0) (pc := 2) g dL_firstRefusal_2 (by decide) ?_
  refine j_aload_n (pc := 3) g 0 dL_firstRefusal_3 rfl ?_
  refine j_iload_n (pc := 4) g 1 dL_firstRefusal_4 rfl ?_
  refine j_iload_n (pc := 5) g 2 dL_firstRefusal_5 rfl ?_
  refine j_iload_n (pc := 6) g 3 dL_firstRefusal_6 rfl ?_
  refine j_callVH (E0 := "java/util/NoSuchElementException") (pc := 7) (na := 3) (As := [.int p1, .int p2, .int p3]) (rest := [.int 0, .ref o]) (q0 := 1) (ci := 9) (w' := ((o, .inl (t 4, 1, .inr (.inl fo))) :: kW aa ad t q2 rs)) gh (eX8_firstRefusal_ (rs := (o, .inl (t 4, 1, .inr (.inl fo))) :: rs) hf) q_i_X8_firstRefusal q_s_X8_firstRefusal rfl rfl rfl q_c_X8_firstRefusal q_l_L_91 q_n_X8 (by decide +kernel) rfl ⟨Nat.le_of_ble_eq_true rfl, Nat.le_of_ble_eq_true rfl⟩ ⟨Nat.le_of_ble_eq_true rfl, Nat.le_of_ble_eq_true rfl⟩ (Nat.le_of_ble_eq_true rfl) (kW_pm aa ad t σ _ rs) (kW_pm aa ad t q2 _ rs).symm dL_firstRefusal_7 rfl [⟨0, 12, 15, 13⟩, ⟨0, 12, 19, 15⟩, ⟨0, 12, 23, 17⟩] ⟨0, 12, 27, 46⟩ [] rfl (List.forall_mem_cons.mpr ⟨⟨by decide, "java/lang/IndexOutOfBoundsException", q_k_L_13, by decide⟩, (List.forall_mem_cons.mpr ⟨⟨by decide, "java/lang/IllegalArgumentException", q_k_L_15, by decide⟩, (List.forall_mem_cons.mpr ⟨⟨by decide, "java/lang/IllegalStateException", q_k_L_17, by decide⟩, (fun _ h => absurd h List.not_mem_nil)⟩)⟩)⟩) (by decide) (by decide) q_k_L_46 q_g_5 (fun q9 => ?_)
  refine j_astore (L' := [(5, .ref q9), (0, .ref (ad 0)), (1, .int p1), (2, .int p2), (3, .int p3), (4, .ref o)]) (pc := 27) g dL_firstRefusal_27 (Nat.le_of_ble_eq_true rfl) rfl ?_
  refine j_iconst (v := 4) (pc := 29) g dL_firstRefusal_29 (by decide) ?_
  exact hE _ _ dL_firstRefusal_30
set_option maxRecDepth 100000 in
set_option maxHeartbeats 4000000 in
theorem hL_holder_ok {D : va_G} {t : Nat → ClassId} {aa : gx_AA} {l : Launch} {ad : Nat → Nat} {rs : va_W} {o : Nat} {fo : (Nat → Int64)} {σ : CS} {p1 : Int32} {q : (Int32 × CS)} (hst : l.stackTraces = false) (hf : fX8_holder σ p1 = some q) : gx_CH D t (gx_E0 aa) l yL_holder cL_holder 4 (some .int) [(0, 9, 12, 13)] 8 132 0 0 [.ref (ad 0), .int p1, .ref o] ((o, .inl (t 4, 1, .inr (.inl fo))) :: kW aa ad t σ rs) ((o, .inl (t 4, 1, .inr (.inl (vp_updL fo (0 : Int32).toNatClampNeg q.1.toInt64)))) :: kW aa ad t q.2 rs) (some (.int 0)) := by
  refine gx_intro_h hst (by decide) (Nat.le_of_ble_eq_true rfl) (fun J gh hE => ?_)
  have g := gh.g
  show J 0 0 ((o, .inl (t 4, 1, .inr (.inl fo))) :: kW aa ad t σ rs) 0 [(0, .ref (ad 0)), (1, .int p1), (2, .ref o)] []
  refine j_aload_n (pc := 0) g 2 dL_holder_0 rfl ?_
  refine j_iconst (v := 0) (pc := 1) g dL_holder_1 (by decide) ?_
  refine j_aload_n (pc := 2) g 0 dL_holder_2 rfl ?_
  refine j_iload_n (pc := 3) g 1 dL_holder_3 rfl ?_
  refine j_callVi (pc := 4) (na := 1) (As := [.int p1]) (rest := [.int 0, .ref o]) (q0 := 1) (ci := 9) g (cX8_holder_ (rs := (o, .inl (t 4, 1, .inr (.inl fo))) :: rs) hf) q_i_X8_holder q_s_X8_holder rfl rfl rfl q_c_X8_holder q_l_L_94 q_n_X8 (by decide +kernel) rfl ⟨Nat.le_of_ble_eq_true rfl, Nat.le_of_ble_eq_true rfl⟩ ⟨Nat.le_of_ble_eq_true rfl, Nat.le_of_ble_eq_true rfl⟩ (Nat.le_of_ble_eq_true rfl) (kW_pm aa ad t σ _ rs) (kW_pm aa ad t q.2 _ rs).symm dL_holder_4 ?_ rfl
  refine j_i2l (pc := 7) g dL_holder_7 ?_
  refine j_last (pc := 8) (w' := ((o, .inl (t 4, 1, .inr (.inl (vp_updL fo (0 : Int32).toNatClampNeg q.1.toInt64)))) :: kW aa ad t q.2 rs)) g 0 rfl (show gx_in (0 : Int32) 1 by decide) rfl dL_holder_8 ?_
  refine j_goto (tgt := 15) (pc := 9) g dL_holder_9 (by decide) ?_
  refine j_iconst (v := 0) (pc := 15) g dL_holder_15 (by decide) ?_
  exact hE _ _ dL_holder_16
set_option maxRecDepth 100000 in
set_option maxHeartbeats 4000000 in
theorem hL_holder_x1 {D : va_G} {t : Nat → ClassId} {aa : gx_AA} {l : Launch} {ad : Nat → Nat} {rs : va_W} {o : Nat} {fo : (Nat → Int64)} {σ : CS} {p1 : Int32} {q2 : CS} (hst : l.stackTraces = false) (hf : xX8_holder σ p1 = some (1, q2)) : gx_CH D t (gx_E0 aa) l yL_holder cL_holder 4 (some .int) [(0, 9, 12, 13)] 8 132 1 6 [.ref (ad 0), .int p1, .ref o] ((o, .inl (t 4, 1, .inr (.inl fo))) :: kW aa ad t σ rs) ((o, .inl (t 4, 1, .inr (.inl fo))) :: kW aa ad t q2 rs) (some (.int 1)) := by
  refine gx_intro_h hst (by decide) (Nat.le_of_ble_eq_true rfl) (fun J gh hE => ?_)
  have g := gh.g
  show J 0 0 ((o, .inl (t 4, 1, .inr (.inl fo))) :: kW aa ad t σ rs) 0 [(0, .ref (ad 0)), (1, .int p1), (2, .ref o)] []
  refine j_aload_n (pc := 0) g 2 dL_holder_0 rfl ?_
  refine j_iconst (v := 0) (pc := 1) g dL_holder_1 (by decide) ?_
  refine j_aload_n (pc := 2) g 0 dL_holder_2 rfl ?_
  refine j_iload_n (pc := 3) g 1 dL_holder_3 rfl ?_
  refine j_callVH (E0 := "java/lang/IndexOutOfBoundsException") (pc := 4) (na := 1) (As := [.int p1]) (rest := [.int 0, .ref o]) (q0 := 1) (ci := 9) (w' := ((o, .inl (t 4, 1, .inr (.inl fo))) :: kW aa ad t q2 rs)) gh (eX8_holder_ (rs := (o, .inl (t 4, 1, .inr (.inl fo))) :: rs) hf) q_i_X8_holder q_s_X8_holder rfl rfl rfl q_c_X8_holder q_l_L_94 q_n_X8 (by decide +kernel) rfl ⟨Nat.le_of_ble_eq_true rfl, Nat.le_of_ble_eq_true rfl⟩ ⟨Nat.le_of_ble_eq_true rfl, Nat.le_of_ble_eq_true rfl⟩ (Nat.le_of_ble_eq_true rfl) (kW_pm aa ad t σ _ rs) (kW_pm aa ad t q2 _ rs).symm dL_holder_4 rfl [] ⟨0, 9, 12, 13⟩ [] rfl (fun _ h => absurd h List.not_mem_nil) (by decide) (by decide) q_k_L_13 q_g_1 (fun q9 => ?_)
  refine j_astore_n (L' := [(3, .ref q9), (0, .ref (ad 0)), (1, .int p1), (2, .ref o)]) (pc := 12) g dL_holder_12 rfl (Nat.le_of_ble_eq_true rfl) rfl ?_
  refine j_iconst (v := 1) (pc := 13) g dL_holder_13 (by decide) ?_
  exact hE _ _ dL_holder_14
set_option maxRecDepth 100000 in
set_option maxHeartbeats 4000000 in
theorem hL_target_ok {D : va_G} {t : Nat → ClassId} {aa : gx_AA} {l : Launch} {ad : Nat → Nat} {rs : va_W} {o : Nat} {fo : (Nat → Int64)} {σ : CS} {p1 : Int32} {q : (Int32 × CS)} (hst : l.stackTraces = false) (hf : fX8_target σ p1 = some q) : gx_CH D t (gx_E0 aa) l yL_target cL_target 4 (some .int) [(0, 9, 12, 13)] 8 132 0 0 [.ref (ad 0), .int p1, .ref o] ((o, .inl (t 4, 1, .inr (.inl fo))) :: kW aa ad t σ rs) ((o, .inl (t 4, 1, .inr (.inl (vp_updL fo (0 : Int32).toNatClampNeg q.1.toInt64)))) :: kW aa ad t q.2 rs) (some (.int 0)) := by
  refine gx_intro_h hst (by decide) (Nat.le_of_ble_eq_true rfl) (fun J gh hE => ?_)
  have g := gh.g
  show J 0 0 ((o, .inl (t 4, 1, .inr (.inl fo))) :: kW aa ad t σ rs) 0 [(0, .ref (ad 0)), (1, .int p1), (2, .ref o)] []
  refine j_aload_n (pc := 0) g 2 dL_target_0 rfl ?_
  refine j_iconst (v := 0) (pc := 1) g dL_target_1 (by decide) ?_
  refine j_aload_n (pc := 2) g 0 dL_target_2 rfl ?_
  refine j_iload_n (pc := 3) g 1 dL_target_3 rfl ?_
  refine j_callVi (pc := 4) (na := 1) (As := [.int p1]) (rest := [.int 0, .ref o]) (q0 := 1) (ci := 9) g (cX8_target_ (rs := (o, .inl (t 4, 1, .inr (.inl fo))) :: rs) hf) q_i_X8_target q_s_X8_target rfl rfl rfl q_c_X8_target q_l_L_97 q_n_X8 (by decide +kernel) rfl ⟨Nat.le_of_ble_eq_true rfl, Nat.le_of_ble_eq_true rfl⟩ ⟨Nat.le_of_ble_eq_true rfl, Nat.le_of_ble_eq_true rfl⟩ (Nat.le_of_ble_eq_true rfl) (kW_pm aa ad t σ _ rs) (kW_pm aa ad t q.2 _ rs).symm dL_target_4 ?_ rfl
  refine j_i2l (pc := 7) g dL_target_7 ?_
  refine j_last (pc := 8) (w' := ((o, .inl (t 4, 1, .inr (.inl (vp_updL fo (0 : Int32).toNatClampNeg q.1.toInt64)))) :: kW aa ad t q.2 rs)) g 0 rfl (show gx_in (0 : Int32) 1 by decide) rfl dL_target_8 ?_
  refine j_goto (tgt := 15) (pc := 9) g dL_target_9 (by decide) ?_
  refine j_iconst (v := 0) (pc := 15) g dL_target_15 (by decide) ?_
  exact hE _ _ dL_target_16
set_option maxRecDepth 100000 in
set_option maxHeartbeats 4000000 in
theorem hL_target_x1 {D : va_G} {t : Nat → ClassId} {aa : gx_AA} {l : Launch} {ad : Nat → Nat} {rs : va_W} {o : Nat} {fo : (Nat → Int64)} {σ : CS} {p1 : Int32} {q2 : CS} (hst : l.stackTraces = false) (hf : xX8_target σ p1 = some (1, q2)) : gx_CH D t (gx_E0 aa) l yL_target cL_target 4 (some .int) [(0, 9, 12, 13)] 8 132 1 6 [.ref (ad 0), .int p1, .ref o] ((o, .inl (t 4, 1, .inr (.inl fo))) :: kW aa ad t σ rs) ((o, .inl (t 4, 1, .inr (.inl fo))) :: kW aa ad t q2 rs) (some (.int 1)) := by
  refine gx_intro_h hst (by decide) (Nat.le_of_ble_eq_true rfl) (fun J gh hE => ?_)
  have g := gh.g
  show J 0 0 ((o, .inl (t 4, 1, .inr (.inl fo))) :: kW aa ad t σ rs) 0 [(0, .ref (ad 0)), (1, .int p1), (2, .ref o)] []
  refine j_aload_n (pc := 0) g 2 dL_target_0 rfl ?_
  refine j_iconst (v := 0) (pc := 1) g dL_target_1 (by decide) ?_
  refine j_aload_n (pc := 2) g 0 dL_target_2 rfl ?_
  refine j_iload_n (pc := 3) g 1 dL_target_3 rfl ?_
  refine j_callVH (E0 := "java/lang/IndexOutOfBoundsException") (pc := 4) (na := 1) (As := [.int p1]) (rest := [.int 0, .ref o]) (q0 := 1) (ci := 9) (w' := ((o, .inl (t 4, 1, .inr (.inl fo))) :: kW aa ad t q2 rs)) gh (eX8_target_ (rs := (o, .inl (t 4, 1, .inr (.inl fo))) :: rs) hf) q_i_X8_target q_s_X8_target rfl rfl rfl q_c_X8_target q_l_L_97 q_n_X8 (by decide +kernel) rfl ⟨Nat.le_of_ble_eq_true rfl, Nat.le_of_ble_eq_true rfl⟩ ⟨Nat.le_of_ble_eq_true rfl, Nat.le_of_ble_eq_true rfl⟩ (Nat.le_of_ble_eq_true rfl) (kW_pm aa ad t σ _ rs) (kW_pm aa ad t q2 _ rs).symm dL_target_4 rfl [] ⟨0, 9, 12, 13⟩ [] rfl (fun _ h => absurd h List.not_mem_nil) (by decide) (by decide) q_k_L_13 q_g_1 (fun q9 => ?_)
  refine j_astore_n (L' := [(3, .ref q9), (0, .ref (ad 0)), (1, .int p1), (2, .ref o)]) (pc := 12) g dL_target_12 rfl (Nat.le_of_ble_eq_true rfl) rfl ?_
  refine j_iconst (v := 1) (pc := 13) g dL_target_13 (by decide) ?_
  exact hE _ _ dL_target_14
set_option maxRecDepth 100000 in
set_option maxHeartbeats 4000000 in
theorem hL_severity_ok {D : va_G} {t : Nat → ClassId} {aa : gx_AA} {l : Launch} {ad : Nat → Nat} {rs : va_W} {o : Nat} {fo : (Nat → Int64)} {σ : CS} {p1 : Int32} {q : (Int32 × CS)} (hst : l.stackTraces = false) (hf : fX8_severity σ p1 = some q) : gx_CH D t (gx_E0 aa) l yL_severity cL_severity 4 (some .int) [(0, 9, 12, 13)] 8 132 0 0 [.ref (ad 0), .int p1, .ref o] ((o, .inl (t 4, 1, .inr (.inl fo))) :: kW aa ad t σ rs) ((o, .inl (t 4, 1, .inr (.inl (vp_updL fo (0 : Int32).toNatClampNeg q.1.toInt64)))) :: kW aa ad t q.2 rs) (some (.int 0)) := by
  refine gx_intro_h hst (by decide) (Nat.le_of_ble_eq_true rfl) (fun J gh hE => ?_)
  have g := gh.g
  show J 0 0 ((o, .inl (t 4, 1, .inr (.inl fo))) :: kW aa ad t σ rs) 0 [(0, .ref (ad 0)), (1, .int p1), (2, .ref o)] []
  refine j_aload_n (pc := 0) g 2 dL_severity_0 rfl ?_
  refine j_iconst (v := 0) (pc := 1) g dL_severity_1 (by decide) ?_
  refine j_aload_n (pc := 2) g 0 dL_severity_2 rfl ?_
  refine j_iload_n (pc := 3) g 1 dL_severity_3 rfl ?_
  refine j_callVi (pc := 4) (na := 1) (As := [.int p1]) (rest := [.int 0, .ref o]) (q0 := 1) (ci := 9) g (cX8_severity_ (rs := (o, .inl (t 4, 1, .inr (.inl fo))) :: rs) hf) q_i_X8_severity q_s_X8_severity rfl rfl rfl q_c_X8_severity q_l_L_100 q_n_X8 (by decide +kernel) rfl ⟨Nat.le_of_ble_eq_true rfl, Nat.le_of_ble_eq_true rfl⟩ ⟨Nat.le_of_ble_eq_true rfl, Nat.le_of_ble_eq_true rfl⟩ (Nat.le_of_ble_eq_true rfl) (kW_pm aa ad t σ _ rs) (kW_pm aa ad t q.2 _ rs).symm dL_severity_4 ?_ rfl
  refine j_i2l (pc := 7) g dL_severity_7 ?_
  refine j_last (pc := 8) (w' := ((o, .inl (t 4, 1, .inr (.inl (vp_updL fo (0 : Int32).toNatClampNeg q.1.toInt64)))) :: kW aa ad t q.2 rs)) g 0 rfl (show gx_in (0 : Int32) 1 by decide) rfl dL_severity_8 ?_
  refine j_goto (tgt := 15) (pc := 9) g dL_severity_9 (by decide) ?_
  refine j_iconst (v := 0) (pc := 15) g dL_severity_15 (by decide) ?_
  exact hE _ _ dL_severity_16
set_option maxRecDepth 100000 in
set_option maxHeartbeats 4000000 in
theorem hL_severity_x1 {D : va_G} {t : Nat → ClassId} {aa : gx_AA} {l : Launch} {ad : Nat → Nat} {rs : va_W} {o : Nat} {fo : (Nat → Int64)} {σ : CS} {p1 : Int32} {q2 : CS} (hst : l.stackTraces = false) (hf : xX8_severity σ p1 = some (1, q2)) : gx_CH D t (gx_E0 aa) l yL_severity cL_severity 4 (some .int) [(0, 9, 12, 13)] 8 132 1 6 [.ref (ad 0), .int p1, .ref o] ((o, .inl (t 4, 1, .inr (.inl fo))) :: kW aa ad t σ rs) ((o, .inl (t 4, 1, .inr (.inl fo))) :: kW aa ad t q2 rs) (some (.int 1)) := by
  refine gx_intro_h hst (by decide) (Nat.le_of_ble_eq_true rfl) (fun J gh hE => ?_)
  have g := gh.g
  show J 0 0 ((o, .inl (t 4, 1, .inr (.inl fo))) :: kW aa ad t σ rs) 0 [(0, .ref (ad 0)), (1, .int p1), (2, .ref o)] []
  refine j_aload_n (pc := 0) g 2 dL_severity_0 rfl ?_
  refine j_iconst (v := 0) (pc := 1) g dL_severity_1 (by decide) ?_
  refine j_aload_n (pc := 2) g 0 dL_severity_2 rfl ?_
  refine j_iload_n (pc := 3) g 1 dL_severity_3 rfl ?_
  refine j_callVH (E0 := "java/lang/IndexOutOfBoundsException") (pc := 4) (na := 1) (As := [.int p1]) (rest := [.int 0, .ref o]) (q0 := 1) (ci := 9) (w' := ((o, .inl (t 4, 1, .inr (.inl fo))) :: kW aa ad t q2 rs)) gh (eX8_severity_ (rs := (o, .inl (t 4, 1, .inr (.inl fo))) :: rs) hf) q_i_X8_severity q_s_X8_severity rfl rfl rfl q_c_X8_severity q_l_L_100 q_n_X8 (by decide +kernel) rfl ⟨Nat.le_of_ble_eq_true rfl, Nat.le_of_ble_eq_true rfl⟩ ⟨Nat.le_of_ble_eq_true rfl, Nat.le_of_ble_eq_true rfl⟩ (Nat.le_of_ble_eq_true rfl) (kW_pm aa ad t σ _ rs) (kW_pm aa ad t q2 _ rs).symm dL_severity_4 rfl [] ⟨0, 9, 12, 13⟩ [] rfl (fun _ h => absurd h List.not_mem_nil) (by decide) (by decide) q_k_L_13 q_g_1 (fun q9 => ?_)
  refine j_astore_n (L' := [(3, .ref q9), (0, .ref (ad 0)), (1, .int p1), (2, .ref o)]) (pc := 12) g dL_severity_12 rfl (Nat.le_of_ble_eq_true rfl) rfl ?_
  refine j_iconst (v := 1) (pc := 13) g dL_severity_13 (by decide) ?_
  exact hE _ _ dL_severity_14
set_option maxRecDepth 100000 in
set_option maxHeartbeats 4000000 in
theorem hL_meaning_ok {D : va_G} {t : Nat → ClassId} {aa : gx_AA} {l : Launch} {ad : Nat → Nat} {rs : va_W} {o : Nat} {fo : (Nat → Int64)} {σ : CS} {p1 : Int32} {p2 : Int32} {q : Int32} (hst : l.stackTraces = false) (hf : fX8_meaning σ p1 p2 = some q) : gx_CH D t (gx_E0 aa) l yL_meaning cL_meaning 5 (some .int) [(0, 10, 13, 15), (0, 10, 17, 46)] 8 133 0 0 [.ref (ad 0), .int p1, .int p2, .ref o] ((o, .inl (t 4, 1, .inr (.inl fo))) :: kW aa ad t σ rs) ((o, .inl (t 4, 1, .inr (.inl (vp_updL fo (0 : Int32).toNatClampNeg q.toInt64)))) :: kW aa ad t σ rs) (some (.int 0)) := by
  refine gx_intro_h hst (by decide) (Nat.le_of_ble_eq_true rfl) (fun J gh hE => ?_)
  have g := gh.g
  show J 0 0 ((o, .inl (t 4, 1, .inr (.inl fo))) :: kW aa ad t σ rs) 0 [(0, .ref (ad 0)), (1, .int p1), (2, .int p2), (3, .ref o)] []
  refine j_aload_n (pc := 0) g 3 dL_meaning_0 rfl ?_
  refine j_iconst (v := 0) (pc := 1) g dL_meaning_1 (by decide) ?_
  refine j_aload_n (pc := 2) g 0 dL_meaning_2 rfl ?_
  refine j_iload_n (pc := 3) g 1 dL_meaning_3 rfl ?_
  refine j_iload_n (pc := 4) g 2 dL_meaning_4 rfl ?_
  refine j_callVi (pc := 5) (na := 2) (As := [.int p1, .int p2]) (rest := [.int 0, .ref o]) (q0 := 1) (ci := 9) g (cX8_meaning_ (rs := (o, .inl (t 4, 1, .inr (.inl fo))) :: rs) hf) q_i_X8_meaning q_s_X8_meaning rfl rfl rfl q_c_X8_meaning q_l_L_103 q_n_X8 (by decide +kernel) rfl ⟨Nat.le_of_ble_eq_true rfl, Nat.le_of_ble_eq_true rfl⟩ ⟨Nat.le_of_ble_eq_true rfl, Nat.le_of_ble_eq_true rfl⟩ (Nat.le_of_ble_eq_true rfl) (kW_pm aa ad t σ _ rs) (kW_pm aa ad t σ _ rs).symm dL_meaning_5 ?_ rfl
  refine j_i2l (pc := 8) g dL_meaning_8 ?_
  refine j_last (pc := 9) (w' := ((o, .inl (t 4, 1, .inr (.inl (vp_updL fo (0 : Int32).toNatClampNeg q.toInt64)))) :: kW aa ad t σ rs)) g 0 rfl (show gx_in (0 : Int32) 1 by decide) rfl dL_meaning_9 ?_
  refine j_goto (tgt := 21) (pc := 10) g dL_meaning_10 (by decide) ?_
  refine j_iconst (v := 0) (pc := 21) g dL_meaning_21 (by decide) ?_
  exact hE _ _ dL_meaning_22
set_option maxRecDepth 100000 in
set_option maxHeartbeats 4000000 in
theorem hL_meaning_x1 {D : va_G} {t : Nat → ClassId} {aa : gx_AA} {l : Launch} {ad : Nat → Nat} {rs : va_W} {o : Nat} {fo : (Nat → Int64)} {σ : CS} {p1 : Int32} {p2 : Int32} {q2 : CS} (hst : l.stackTraces = false) (hf : xX8_meaning σ p1 p2 = some (2, q2)) : gx_CH D t (gx_E0 aa) l yL_meaning cL_meaning 5 (some .int) [(0, 10, 13, 15), (0, 10, 17, 46)] 8 133 1 6 [.ref (ad 0), .int p1, .int p2, .ref o] ((o, .inl (t 4, 1, .inr (.inl fo))) :: kW aa ad t σ rs) ((o, .inl (t 4, 1, .inr (.inl fo))) :: kW aa ad t q2 rs) (some (.int 1)) := by
  refine gx_intro_h hst (by decide) (Nat.le_of_ble_eq_true rfl) (fun J gh hE => ?_)
  have g := gh.g
  show J 0 0 ((o, .inl (t 4, 1, .inr (.inl fo))) :: kW aa ad t σ rs) 0 [(0, .ref (ad 0)), (1, .int p1), (2, .int p2), (3, .ref o)] []
  refine j_aload_n (pc := 0) g 3 dL_meaning_0 rfl ?_
  refine j_iconst (v := 0) (pc := 1) g dL_meaning_1 (by decide) ?_
  refine j_aload_n (pc := 2) g 0 dL_meaning_2 rfl ?_
  refine j_iload_n (pc := 3) g 1 dL_meaning_3 rfl ?_
  refine j_iload_n (pc := 4) g 2 dL_meaning_4 rfl ?_
  refine j_callVH (E0 := "java/lang/IllegalArgumentException") (pc := 5) (na := 2) (As := [.int p1, .int p2]) (rest := [.int 0, .ref o]) (q0 := 1) (ci := 9) (w' := ((o, .inl (t 4, 1, .inr (.inl fo))) :: kW aa ad t q2 rs)) gh (eX8_meaning_ (rs := (o, .inl (t 4, 1, .inr (.inl fo))) :: rs) hf) q_i_X8_meaning q_s_X8_meaning rfl rfl rfl q_c_X8_meaning q_l_L_103 q_n_X8 (by decide +kernel) rfl ⟨Nat.le_of_ble_eq_true rfl, Nat.le_of_ble_eq_true rfl⟩ ⟨Nat.le_of_ble_eq_true rfl, Nat.le_of_ble_eq_true rfl⟩ (Nat.le_of_ble_eq_true rfl) (kW_pm aa ad t σ _ rs) (kW_pm aa ad t q2 _ rs).symm dL_meaning_5 rfl [] ⟨0, 10, 13, 15⟩ [⟨0, 10, 17, 46⟩] rfl (fun _ h => absurd h List.not_mem_nil) (by decide) (by decide) q_k_L_15 q_g_2 (fun q9 => ?_)
  refine j_astore (L' := [(4, .ref q9), (0, .ref (ad 0)), (1, .int p1), (2, .int p2), (3, .ref o)]) (pc := 13) g dL_meaning_13 (Nat.le_of_ble_eq_true rfl) rfl ?_
  refine j_iconst (v := 1) (pc := 15) g dL_meaning_15 (by decide) ?_
  exact hE _ _ dL_meaning_16
set_option maxRecDepth 100000 in
set_option maxHeartbeats 4000000 in
theorem hL_meaning_x2 {D : va_G} {t : Nat → ClassId} {aa : gx_AA} {l : Launch} {ad : Nat → Nat} {rs : va_W} {o : Nat} {fo : (Nat → Int64)} {σ : CS} {p1 : Int32} {p2 : Int32} {q2 : CS} (hst : l.stackTraces = false) (hf : xX8_meaning σ p1 p2 = some (5, q2)) : gx_CH D t (gx_E0 aa) l yL_meaning cL_meaning 5 (some .int) [(0, 10, 13, 15), (0, 10, 17, 46)] 8 133 1 6 [.ref (ad 0), .int p1, .int p2, .ref o] ((o, .inl (t 4, 1, .inr (.inl fo))) :: kW aa ad t σ rs) ((o, .inl (t 4, 1, .inr (.inl fo))) :: kW aa ad t q2 rs) (some (.int 2)) := by
  refine gx_intro_h hst (by decide) (Nat.le_of_ble_eq_true rfl) (fun J gh hE => ?_)
  have g := gh.g
  show J 0 0 ((o, .inl (t 4, 1, .inr (.inl fo))) :: kW aa ad t σ rs) 0 [(0, .ref (ad 0)), (1, .int p1), (2, .int p2), (3, .ref o)] []
  refine j_aload_n (pc := 0) g 3 dL_meaning_0 rfl ?_
  refine j_iconst (v := 0) (pc := 1) g dL_meaning_1 (by decide) ?_
  refine j_aload_n (pc := 2) g 0 dL_meaning_2 rfl ?_
  refine j_iload_n (pc := 3) g 1 dL_meaning_3 rfl ?_
  refine j_iload_n (pc := 4) g 2 dL_meaning_4 rfl ?_
  refine j_callVH (E0 := "java/util/NoSuchElementException") (pc := 5) (na := 2) (As := [.int p1, .int p2]) (rest := [.int 0, .ref o]) (q0 := 1) (ci := 9) (w' := ((o, .inl (t 4, 1, .inr (.inl fo))) :: kW aa ad t q2 rs)) gh (eX8_meaning_ (rs := (o, .inl (t 4, 1, .inr (.inl fo))) :: rs) hf) q_i_X8_meaning q_s_X8_meaning rfl rfl rfl q_c_X8_meaning q_l_L_103 q_n_X8 (by decide +kernel) rfl ⟨Nat.le_of_ble_eq_true rfl, Nat.le_of_ble_eq_true rfl⟩ ⟨Nat.le_of_ble_eq_true rfl, Nat.le_of_ble_eq_true rfl⟩ (Nat.le_of_ble_eq_true rfl) (kW_pm aa ad t σ _ rs) (kW_pm aa ad t q2 _ rs).symm dL_meaning_5 rfl [⟨0, 10, 13, 15⟩] ⟨0, 10, 17, 46⟩ [] rfl (List.forall_mem_cons.mpr ⟨⟨by decide, "java/lang/IllegalArgumentException", q_k_L_15, by decide⟩, (fun _ h => absurd h List.not_mem_nil)⟩) (by decide) (by decide) q_k_L_46 q_g_5 (fun q9 => ?_)
  refine j_astore (L' := [(4, .ref q9), (0, .ref (ad 0)), (1, .int p1), (2, .int p2), (3, .ref o)]) (pc := 17) g dL_meaning_17 (Nat.le_of_ble_eq_true rfl) rfl ?_
  refine j_iconst (v := 2) (pc := 19) g dL_meaning_19 (by decide) ?_
  exact hE _ _ dL_meaning_20
set_option maxRecDepth 100000 in
set_option maxHeartbeats 4000000 in
theorem hL_flagsWith_ok {D : va_G} {t : Nat → ClassId} {aa : gx_AA} {l : Launch} {ad : Nat → Nat} {rs : va_W} {o : Nat} {fo : (Nat → Int64)} {σ : CS} {p1 : Int32} {q : Int32} (hst : l.stackTraces = false) (hf : fX8_flagsWith σ p1 = some q) : gx_CH D t (gx_E0 aa) l yL_flagsWith cL_flagsWith 4 (some .int) [(0, 9, 12, 15)] 7 111 0 0 [.ref (ad 0), .int p1, .ref o] ((o, .inl (t 4, 1, .inr (.inl fo))) :: kW aa ad t σ rs) ((o, .inl (t 4, 1, .inr (.inl (vp_updL fo (0 : Int32).toNatClampNeg q.toInt64)))) :: kW aa ad t σ rs) (some (.int 0)) := by
  refine gx_intro_h hst (by decide) (Nat.le_of_ble_eq_true rfl) (fun J gh hE => ?_)
  have g := gh.g
  show J 0 0 ((o, .inl (t 4, 1, .inr (.inl fo))) :: kW aa ad t σ rs) 0 [(0, .ref (ad 0)), (1, .int p1), (2, .ref o)] []
  refine j_aload_n (pc := 0) g 2 dL_flagsWith_0 rfl ?_
  refine j_iconst (v := 0) (pc := 1) g dL_flagsWith_1 (by decide) ?_
  refine j_aload_n (pc := 2) g 0 dL_flagsWith_2 rfl ?_
  refine j_iload_n (pc := 3) g 1 dL_flagsWith_3 rfl ?_
  refine j_callVi (pc := 4) (na := 1) (As := [.int p1]) (rest := [.int 0, .ref o]) (q0 := 1) (ci := 9) g (cX8_flagsWith_ (rs := (o, .inl (t 4, 1, .inr (.inl fo))) :: rs) hf) q_i_X8_flagsWith q_s_X8_flagsWith rfl rfl rfl q_c_X8_flagsWith q_l_L_106 q_n_X8 (by decide +kernel) rfl ⟨Nat.le_of_ble_eq_true rfl, Nat.le_of_ble_eq_true rfl⟩ ⟨Nat.le_of_ble_eq_true rfl, Nat.le_of_ble_eq_true rfl⟩ (Nat.le_of_ble_eq_true rfl) (kW_pm aa ad t σ _ rs) (kW_pm aa ad t σ _ rs).symm dL_flagsWith_4 ?_ rfl
  refine j_i2l (pc := 7) g dL_flagsWith_7 ?_
  refine j_last (pc := 8) (w' := ((o, .inl (t 4, 1, .inr (.inl (vp_updL fo (0 : Int32).toNatClampNeg q.toInt64)))) :: kW aa ad t σ rs)) g 0 rfl (show gx_in (0 : Int32) 1 by decide) rfl dL_flagsWith_8 ?_
  refine j_goto (tgt := 15) (pc := 9) g dL_flagsWith_9 (by decide) ?_
  refine j_iconst (v := 0) (pc := 15) g dL_flagsWith_15 (by decide) ?_
  exact hE _ _ dL_flagsWith_16
set_option maxRecDepth 100000 in
set_option maxHeartbeats 4000000 in
theorem hL_flagsWith_x1 {D : va_G} {t : Nat → ClassId} {aa : gx_AA} {l : Launch} {ad : Nat → Nat} {rs : va_W} {o : Nat} {fo : (Nat → Int64)} {σ : CS} {p1 : Int32} {q2 : CS} (hst : l.stackTraces = false) (hf : xX8_flagsWith σ p1 = some (2, q2)) : gx_CH D t (gx_E0 aa) l yL_flagsWith cL_flagsWith 4 (some .int) [(0, 9, 12, 15)] 7 111 1 6 [.ref (ad 0), .int p1, .ref o] ((o, .inl (t 4, 1, .inr (.inl fo))) :: kW aa ad t σ rs) ((o, .inl (t 4, 1, .inr (.inl fo))) :: kW aa ad t q2 rs) (some (.int 1)) := by
  refine gx_intro_h hst (by decide) (Nat.le_of_ble_eq_true rfl) (fun J gh hE => ?_)
  have g := gh.g
  show J 0 0 ((o, .inl (t 4, 1, .inr (.inl fo))) :: kW aa ad t σ rs) 0 [(0, .ref (ad 0)), (1, .int p1), (2, .ref o)] []
  refine j_aload_n (pc := 0) g 2 dL_flagsWith_0 rfl ?_
  refine j_iconst (v := 0) (pc := 1) g dL_flagsWith_1 (by decide) ?_
  refine j_aload_n (pc := 2) g 0 dL_flagsWith_2 rfl ?_
  refine j_iload_n (pc := 3) g 1 dL_flagsWith_3 rfl ?_
  refine j_callVH (E0 := "java/lang/IllegalArgumentException") (pc := 4) (na := 1) (As := [.int p1]) (rest := [.int 0, .ref o]) (q0 := 1) (ci := 9) (w' := ((o, .inl (t 4, 1, .inr (.inl fo))) :: kW aa ad t q2 rs)) gh (eX8_flagsWith_ (rs := (o, .inl (t 4, 1, .inr (.inl fo))) :: rs) hf) q_i_X8_flagsWith q_s_X8_flagsWith rfl rfl rfl q_c_X8_flagsWith q_l_L_106 q_n_X8 (by decide +kernel) rfl ⟨Nat.le_of_ble_eq_true rfl, Nat.le_of_ble_eq_true rfl⟩ ⟨Nat.le_of_ble_eq_true rfl, Nat.le_of_ble_eq_true rfl⟩ (Nat.le_of_ble_eq_true rfl) (kW_pm aa ad t σ _ rs) (kW_pm aa ad t q2 _ rs).symm dL_flagsWith_4 rfl [] ⟨0, 9, 12, 15⟩ [] rfl (fun _ h => absurd h List.not_mem_nil) (by decide) (by decide) q_k_L_15 q_g_2 (fun q9 => ?_)
  refine j_astore_n (L' := [(3, .ref q9), (0, .ref (ad 0)), (1, .int p1), (2, .ref o)]) (pc := 12) g dL_flagsWith_12 rfl (Nat.le_of_ble_eq_true rfl) rfl ?_
  refine j_iconst (v := 1) (pc := 13) g dL_flagsWith_13 (by decide) ?_
  exact hE _ _ dL_flagsWith_14
set_option maxRecDepth 100000 in
set_option maxHeartbeats 4000000 in
theorem hL_officerByRank_ok {D : va_G} {t : Nat → ClassId} {aa : gx_AA} {l : Launch} {ad : Nat → Nat} {rs : va_W} {o : Nat} {fo : (Nat → Int64)} {σ : CS} {p1 : Int32} {q : Int32} (hst : l.stackTraces = false) (hf : fX8_officerByRank σ p1 = some q) : gx_CH D t (gx_E0 aa) l yL_officerByRank cL_officerByRank 4 (some .int) [(0, 9, 12, 46)] 7 112 0 0 [.ref (ad 0), .int p1, .ref o] ((o, .inl (t 4, 1, .inr (.inl fo))) :: kW aa ad t σ rs) ((o, .inl (t 4, 1, .inr (.inl (vp_updL fo (0 : Int32).toNatClampNeg q.toInt64)))) :: kW aa ad t σ rs) (some (.int 0)) := by
  refine gx_intro_h hst (by decide) (Nat.le_of_ble_eq_true rfl) (fun J gh hE => ?_)
  have g := gh.g
  show J 0 0 ((o, .inl (t 4, 1, .inr (.inl fo))) :: kW aa ad t σ rs) 0 [(0, .ref (ad 0)), (1, .int p1), (2, .ref o)] []
  refine j_aload_n (pc := 0) g 2 dL_officerByRank_0 rfl ?_
  refine j_iconst (v := 0) (pc := 1) g dL_officerByRank_1 (by decide) ?_
  refine j_aload_n (pc := 2) g 0 dL_officerByRank_2 rfl ?_
  refine j_iload_n (pc := 3) g 1 dL_officerByRank_3 rfl ?_
  refine j_callVi (pc := 4) (na := 1) (As := [.int p1]) (rest := [.int 0, .ref o]) (q0 := 1) (ci := 9) g (cX8_officerByRank_ (rs := (o, .inl (t 4, 1, .inr (.inl fo))) :: rs) hf) q_i_X8_officerByRank q_s_X8_officerByRank rfl rfl rfl q_c_X8_officerByRank q_l_L_109 q_n_X8 (by decide +kernel) rfl ⟨Nat.le_of_ble_eq_true rfl, Nat.le_of_ble_eq_true rfl⟩ ⟨Nat.le_of_ble_eq_true rfl, Nat.le_of_ble_eq_true rfl⟩ (Nat.le_of_ble_eq_true rfl) (kW_pm aa ad t σ _ rs) (kW_pm aa ad t σ _ rs).symm dL_officerByRank_4 ?_ rfl
  refine j_i2l (pc := 7) g dL_officerByRank_7 ?_
  refine j_last (pc := 8) (w' := ((o, .inl (t 4, 1, .inr (.inl (vp_updL fo (0 : Int32).toNatClampNeg q.toInt64)))) :: kW aa ad t σ rs)) g 0 rfl (show gx_in (0 : Int32) 1 by decide) rfl dL_officerByRank_8 ?_
  refine j_goto (tgt := 15) (pc := 9) g dL_officerByRank_9 (by decide) ?_
  refine j_iconst (v := 0) (pc := 15) g dL_officerByRank_15 (by decide) ?_
  exact hE _ _ dL_officerByRank_16
set_option maxRecDepth 100000 in
set_option maxHeartbeats 4000000 in
theorem hL_officerByRank_x1 {D : va_G} {t : Nat → ClassId} {aa : gx_AA} {l : Launch} {ad : Nat → Nat} {rs : va_W} {o : Nat} {fo : (Nat → Int64)} {σ : CS} {p1 : Int32} {q2 : CS} (hst : l.stackTraces = false) (hf : xX8_officerByRank σ p1 = some (5, q2)) : gx_CH D t (gx_E0 aa) l yL_officerByRank cL_officerByRank 4 (some .int) [(0, 9, 12, 46)] 7 112 1 6 [.ref (ad 0), .int p1, .ref o] ((o, .inl (t 4, 1, .inr (.inl fo))) :: kW aa ad t σ rs) ((o, .inl (t 4, 1, .inr (.inl fo))) :: kW aa ad t q2 rs) (some (.int 1)) := by
  refine gx_intro_h hst (by decide) (Nat.le_of_ble_eq_true rfl) (fun J gh hE => ?_)
  have g := gh.g
  show J 0 0 ((o, .inl (t 4, 1, .inr (.inl fo))) :: kW aa ad t σ rs) 0 [(0, .ref (ad 0)), (1, .int p1), (2, .ref o)] []
  refine j_aload_n (pc := 0) g 2 dL_officerByRank_0 rfl ?_
  refine j_iconst (v := 0) (pc := 1) g dL_officerByRank_1 (by decide) ?_
  refine j_aload_n (pc := 2) g 0 dL_officerByRank_2 rfl ?_
  refine j_iload_n (pc := 3) g 1 dL_officerByRank_3 rfl ?_
  refine j_callVH (E0 := "java/util/NoSuchElementException") (pc := 4) (na := 1) (As := [.int p1]) (rest := [.int 0, .ref o]) (q0 := 1) (ci := 9) (w' := ((o, .inl (t 4, 1, .inr (.inl fo))) :: kW aa ad t q2 rs)) gh (eX8_officerByRank_ (rs := (o, .inl (t 4, 1, .inr (.inl fo))) :: rs) hf) q_i_X8_officerByRank q_s_X8_officerByRank rfl rfl rfl q_c_X8_officerByRank q_l_L_109 q_n_X8 (by decide +kernel) rfl ⟨Nat.le_of_ble_eq_true rfl, Nat.le_of_ble_eq_true rfl⟩ ⟨Nat.le_of_ble_eq_true rfl, Nat.le_of_ble_eq_true rfl⟩ (Nat.le_of_ble_eq_true rfl) (kW_pm aa ad t σ _ rs) (kW_pm aa ad t q2 _ rs).symm dL_officerByRank_4 rfl [] ⟨0, 9, 12, 46⟩ [] rfl (fun _ h => absurd h List.not_mem_nil) (by decide) (by decide) q_k_L_46 q_g_5 (fun q9 => ?_)
  refine j_astore_n (L' := [(3, .ref q9), (0, .ref (ad 0)), (1, .int p1), (2, .ref o)]) (pc := 12) g dL_officerByRank_12 rfl (Nat.le_of_ble_eq_true rfl) rfl ?_
  refine j_iconst (v := 1) (pc := 13) g dL_officerByRank_13 (by decide) ?_
  exact hE _ _ dL_officerByRank_14
set_option maxRecDepth 100000 in
set_option maxHeartbeats 4000000 in
theorem hL_executedShare_ok {D : va_G} {t : Nat → ClassId} {aa : gx_AA} {l : Launch} {ad : Nat → Nat} {rs : va_W} {o : Nat} {fo : (Nat → UInt64)} {σ : CS} {q : UInt32} (hst : l.stackTraces = false) (hf : fX8_executedShare σ = some q) (hn : FP.f2d q &&& 0x7fffffffffffffff ≤ 0x7ff0000000000000) : gx_CH D t (gx_E0 aa) l yL_executedShare cL_executedShare 3 (some .int) [(0, 8, 11, 116)] 7 111 0 0 [.ref (ad 0), .ref o] ((o, .inl (t 5, 1, .inr (.inr (.inr (.inl fo))))) :: kW aa ad t σ rs) ((o, .inl (t 5, 1, .inr (.inr (.inr (.inl (vf_upd fo (0 : Int32).toNatClampNeg (FP.f2d q))))))) :: kW aa ad t σ rs) (some (.int 0)) := by
  refine gx_intro_h hst (by decide) (Nat.le_of_ble_eq_true rfl) (fun J gh hE => ?_)
  have g := gh.g
  show J 0 0 ((o, .inl (t 5, 1, .inr (.inr (.inr (.inl fo))))) :: kW aa ad t σ rs) 0 [(0, .ref (ad 0)), (1, .ref o)] []
  refine j_aload_n (pc := 0) g 1 dL_executedShare_0 rfl ?_
  refine j_iconst (v := 0) (pc := 1) g dL_executedShare_1 (by decide) ?_
  refine j_aload_n (pc := 2) g 0 dL_executedShare_2 rfl ?_
  refine j_callVa (pc := 3) (na := 0) (As := []) (rest := [.int 0, .ref o]) (q0 := 1) (ci := 9) g (cX8_executedShare_ (rs := (o, .inl (t 5, 1, .inr (.inr (.inr (.inl fo))))) :: rs) hf) q_i_X8_executedShare q_s_X8_executedShare rfl rfl rfl q_c_X8_executedShare q_l_L_112 q_n_X8 (by decide +kernel) rfl ⟨Nat.le_of_ble_eq_true rfl, Nat.le_of_ble_eq_true rfl⟩ ⟨Nat.le_of_ble_eq_true rfl, Nat.le_of_ble_eq_true rfl⟩ (Nat.le_of_ble_eq_true rfl) (kW_pm aa ad t σ _ rs) (kW_pm aa ad t σ _ rs).symm dL_executedShare_3 ?_ rfl
  refine j_f2d (pc := 6) g hn dL_executedShare_6 ?_
  refine j_dast (pc := 7) (w' := ((o, .inl (t 5, 1, .inr (.inr (.inr (.inl (vf_upd fo (0 : Int32).toNatClampNeg (FP.f2d q))))))) :: kW aa ad t σ rs)) g 0 rfl (show gx_in (0 : Int32) 1 by decide) rfl dL_executedShare_7 ?_
  refine j_goto (tgt := 14) (pc := 8) g dL_executedShare_8 (by decide) ?_
  refine j_iconst (v := 0) (pc := 14) g dL_executedShare_14 (by decide) ?_
  exact hE _ _ dL_executedShare_15
set_option maxRecDepth 100000 in
set_option maxHeartbeats 4000000 in
theorem hL_executedShare_x1 {D : va_G} {t : Nat → ClassId} {aa : gx_AA} {l : Launch} {ad : Nat → Nat} {rs : va_W} {o : Nat} {fo : (Nat → UInt64)} {σ : CS} {q2 : CS} (hst : l.stackTraces = false) (hf : xX8_executedShare σ = some (6, q2)) : gx_CH D t (gx_E0 aa) l yL_executedShare cL_executedShare 3 (some .int) [(0, 8, 11, 116)] 7 111 1 6 [.ref (ad 0), .ref o] ((o, .inl (t 5, 1, .inr (.inr (.inr (.inl fo))))) :: kW aa ad t σ rs) ((o, .inl (t 5, 1, .inr (.inr (.inr (.inl fo))))) :: kW aa ad t q2 rs) (some (.int 1)) := by
  refine gx_intro_h hst (by decide) (Nat.le_of_ble_eq_true rfl) (fun J gh hE => ?_)
  have g := gh.g
  show J 0 0 ((o, .inl (t 5, 1, .inr (.inr (.inr (.inl fo))))) :: kW aa ad t σ rs) 0 [(0, .ref (ad 0)), (1, .ref o)] []
  refine j_aload_n (pc := 0) g 1 dL_executedShare_0 rfl ?_
  refine j_iconst (v := 0) (pc := 1) g dL_executedShare_1 (by decide) ?_
  refine j_aload_n (pc := 2) g 0 dL_executedShare_2 rfl ?_
  refine j_callVH (E0 := "java/lang/ArithmeticException") (pc := 3) (na := 0) (As := []) (rest := [.int 0, .ref o]) (q0 := 1) (ci := 9) (w' := ((o, .inl (t 5, 1, .inr (.inr (.inr (.inl fo))))) :: kW aa ad t q2 rs)) gh (eX8_executedShare_ (rs := (o, .inl (t 5, 1, .inr (.inr (.inr (.inl fo))))) :: rs) hf) q_i_X8_executedShare q_s_X8_executedShare rfl rfl rfl q_c_X8_executedShare q_l_L_112 q_n_X8 (by decide +kernel) rfl ⟨Nat.le_of_ble_eq_true rfl, Nat.le_of_ble_eq_true rfl⟩ ⟨Nat.le_of_ble_eq_true rfl, Nat.le_of_ble_eq_true rfl⟩ (Nat.le_of_ble_eq_true rfl) (kW_pm aa ad t σ _ rs) (kW_pm aa ad t q2 _ rs).symm dL_executedShare_3 rfl [] ⟨0, 8, 11, 116⟩ [] rfl (fun _ h => absurd h List.not_mem_nil) (by decide) (by decide) q_k_L_116 q_g_6 (fun q9 => ?_)
  refine j_astore_n (L' := [(2, .ref q9), (0, .ref (ad 0)), (1, .ref o)]) (pc := 11) g dL_executedShare_11 rfl (Nat.le_of_ble_eq_true rfl) rfl ?_
  refine j_iconst (v := 1) (pc := 12) g dL_executedShare_12 (by decide) ?_
  exact hE _ _ dL_executedShare_13
set_option maxRecDepth 100000 in
set_option maxHeartbeats 4000000 in
theorem hL_feed_ok {D : va_G} {t : Nat → ClassId} {aa : gx_AA} {l : Launch} {ad : Nat → Nat} {rs : va_W} {o : Nat} {fo : (Nat → Int64)} {σ : CS} {p1 : Int32} {q : (Int32 × CS)} (hst : l.stackTraces = false) (hf : fX8_feed σ p1 = some q) : gx_CH D t (gx_E0 aa) l yL_feed cL_feed 4 (some .int) [(0, 9, 12, 17)] 7 111 0 0 [.ref (ad 0), .int p1, .ref o] ((o, .inl (t 4, 1, .inr (.inl fo))) :: kW aa ad t σ rs) ((o, .inl (t 4, 1, .inr (.inl (vp_updL fo (0 : Int32).toNatClampNeg q.1.toInt64)))) :: kW aa ad t q.2 rs) (some (.int 0)) := by
  refine gx_intro_h hst (by decide) (Nat.le_of_ble_eq_true rfl) (fun J gh hE => ?_)
  have g := gh.g
  show J 0 0 ((o, .inl (t 4, 1, .inr (.inl fo))) :: kW aa ad t σ rs) 0 [(0, .ref (ad 0)), (1, .int p1), (2, .ref o)] []
  refine j_aload_n (pc := 0) g 2 dL_feed_0 rfl ?_
  refine j_iconst (v := 0) (pc := 1) g dL_feed_1 (by decide) ?_
  refine j_aload_n (pc := 2) g 0 dL_feed_2 rfl ?_
  refine j_iload_n (pc := 3) g 1 dL_feed_3 rfl ?_
  refine j_callVi (pc := 4) (na := 1) (As := [.int p1]) (rest := [.int 0, .ref o]) (q0 := 1) (ci := 9) g (cX8_feed_ (rs := (o, .inl (t 4, 1, .inr (.inl fo))) :: rs) hf) q_i_X8_feed q_s_X8_feed rfl rfl rfl q_c_X8_feed q_l_L_118 q_n_X8 (by decide +kernel) rfl ⟨Nat.le_of_ble_eq_true rfl, Nat.le_of_ble_eq_true rfl⟩ ⟨Nat.le_of_ble_eq_true rfl, Nat.le_of_ble_eq_true rfl⟩ (Nat.le_of_ble_eq_true rfl) (kW_pm aa ad t σ _ rs) (kW_pm aa ad t q.2 _ rs).symm dL_feed_4 ?_ rfl
  refine j_i2l (pc := 7) g dL_feed_7 ?_
  refine j_last (pc := 8) (w' := ((o, .inl (t 4, 1, .inr (.inl (vp_updL fo (0 : Int32).toNatClampNeg q.1.toInt64)))) :: kW aa ad t q.2 rs)) g 0 rfl (show gx_in (0 : Int32) 1 by decide) rfl dL_feed_8 ?_
  refine j_goto (tgt := 15) (pc := 9) g dL_feed_9 (by decide) ?_
  refine j_iconst (v := 0) (pc := 15) g dL_feed_15 (by decide) ?_
  exact hE _ _ dL_feed_16
set_option maxRecDepth 100000 in
set_option maxHeartbeats 4000000 in
theorem hL_feed_x1 {D : va_G} {t : Nat → ClassId} {aa : gx_AA} {l : Launch} {ad : Nat → Nat} {rs : va_W} {o : Nat} {fo : (Nat → Int64)} {σ : CS} {p1 : Int32} {q2 : CS} (hst : l.stackTraces = false) (hf : xX8_feed σ p1 = some (3, q2)) : gx_CH D t (gx_E0 aa) l yL_feed cL_feed 4 (some .int) [(0, 9, 12, 17)] 7 111 1 6 [.ref (ad 0), .int p1, .ref o] ((o, .inl (t 4, 1, .inr (.inl fo))) :: kW aa ad t σ rs) ((o, .inl (t 4, 1, .inr (.inl fo))) :: kW aa ad t q2 rs) (some (.int 1)) := by
  refine gx_intro_h hst (by decide) (Nat.le_of_ble_eq_true rfl) (fun J gh hE => ?_)
  have g := gh.g
  show J 0 0 ((o, .inl (t 4, 1, .inr (.inl fo))) :: kW aa ad t σ rs) 0 [(0, .ref (ad 0)), (1, .int p1), (2, .ref o)] []
  refine j_aload_n (pc := 0) g 2 dL_feed_0 rfl ?_
  refine j_iconst (v := 0) (pc := 1) g dL_feed_1 (by decide) ?_
  refine j_aload_n (pc := 2) g 0 dL_feed_2 rfl ?_
  refine j_iload_n (pc := 3) g 1 dL_feed_3 rfl ?_
  refine j_callVH (E0 := "java/lang/IllegalStateException") (pc := 4) (na := 1) (As := [.int p1]) (rest := [.int 0, .ref o]) (q0 := 1) (ci := 9) (w' := ((o, .inl (t 4, 1, .inr (.inl fo))) :: kW aa ad t q2 rs)) gh (eX8_feed_ (rs := (o, .inl (t 4, 1, .inr (.inl fo))) :: rs) hf) q_i_X8_feed q_s_X8_feed rfl rfl rfl q_c_X8_feed q_l_L_118 q_n_X8 (by decide +kernel) rfl ⟨Nat.le_of_ble_eq_true rfl, Nat.le_of_ble_eq_true rfl⟩ ⟨Nat.le_of_ble_eq_true rfl, Nat.le_of_ble_eq_true rfl⟩ (Nat.le_of_ble_eq_true rfl) (kW_pm aa ad t σ _ rs) (kW_pm aa ad t q2 _ rs).symm dL_feed_4 rfl [] ⟨0, 9, 12, 17⟩ [] rfl (fun _ h => absurd h List.not_mem_nil) (by decide) (by decide) q_k_L_17 q_g_3 (fun q9 => ?_)
  refine j_astore_n (L' := [(3, .ref q9), (0, .ref (ad 0)), (1, .int p1), (2, .ref o)]) (pc := 12) g dL_feed_12 rfl (Nat.le_of_ble_eq_true rfl) rfl ?_
  refine j_iconst (v := 1) (pc := 13) g dL_feed_13 (by decide) ?_
  exact hE _ _ dL_feed_14
set_option maxRecDepth 100000 in
set_option maxHeartbeats 4000000 in
theorem hL_runCommands_ok {D : va_G} {t : Nat → ClassId} {aa : gx_AA} {l : Launch} {ad : Nat → Nat} {rs : va_W} {o : Nat} {fo : (Nat → Int64)} {σ : CS} {q : (Int32 × CS)} (hst : l.stackTraces = false) (hf : fX8_runCommands σ = some q) : gx_CH D t (gx_E0 aa) l yL_runCommands cL_runCommands 3 (some .int) [(0, 8, 11, 15), (0, 8, 14, 27)] 21 494 0 0 [.ref (ad 0), .ref o] ((o, .inl (t 4, 1, .inr (.inl fo))) :: kW aa ad t σ rs) ((o, .inl (t 4, 1, .inr (.inl (vp_updL fo (0 : Int32).toNatClampNeg q.1.toInt64)))) :: kW aa ad t q.2 rs) (some (.int 0)) := by
  refine gx_intro_h hst (by decide) (Nat.le_of_ble_eq_true rfl) (fun J gh hE => ?_)
  have g := gh.g
  show J 0 0 ((o, .inl (t 4, 1, .inr (.inl fo))) :: kW aa ad t σ rs) 0 [(0, .ref (ad 0)), (1, .ref o)] []
  refine j_aload_n (pc := 0) g 1 dL_runCommands_0 rfl ?_
  refine j_iconst (v := 0) (pc := 1) g dL_runCommands_1 (by decide) ?_
  refine j_aload_n (pc := 2) g 0 dL_runCommands_2 rfl ?_
  refine j_callVi (pc := 3) (na := 0) (As := []) (rest := [.int 0, .ref o]) (q0 := 1) (ci := 9) g (cX8_runCommands_ (rs := (o, .inl (t 4, 1, .inr (.inl fo))) :: rs) hf) q_i_X8_runCommands q_s_X8_runCommands rfl rfl rfl q_c_X8_runCommands q_l_L_122 q_n_X8 (by decide +kernel) rfl ⟨Nat.le_of_ble_eq_true rfl, Nat.le_of_ble_eq_true rfl⟩ ⟨Nat.le_of_ble_eq_true rfl, Nat.le_of_ble_eq_true rfl⟩ (Nat.le_of_ble_eq_true rfl) (kW_pm aa ad t σ _ rs) (kW_pm aa ad t q.2 _ rs).symm dL_runCommands_3 ?_ rfl
  refine j_i2l (pc := 6) g dL_runCommands_6 ?_
  refine j_last (pc := 7) (w' := ((o, .inl (t 4, 1, .inr (.inl (vp_updL fo (0 : Int32).toNatClampNeg q.1.toInt64)))) :: kW aa ad t q.2 rs)) g 0 rfl (show gx_in (0 : Int32) 1 by decide) rfl dL_runCommands_7 ?_
  refine j_goto (tgt := 17) (pc := 8) g dL_runCommands_8 (by decide) ?_
  refine j_iconst (v := 0) (pc := 17) g dL_runCommands_17 (by decide) ?_
  exact hE _ _ dL_runCommands_18
set_option maxRecDepth 100000 in
set_option maxHeartbeats 4000000 in
theorem hL_runCommands_x1 {D : va_G} {t : Nat → ClassId} {aa : gx_AA} {l : Launch} {ad : Nat → Nat} {rs : va_W} {o : Nat} {fo : (Nat → Int64)} {σ : CS} {q2 : CS} (hst : l.stackTraces = false) (hf : xX8_runCommands σ = some (2, q2)) : gx_CH D t (gx_E0 aa) l yL_runCommands cL_runCommands 3 (some .int) [(0, 8, 11, 15), (0, 8, 14, 27)] 21 494 1 6 [.ref (ad 0), .ref o] ((o, .inl (t 4, 1, .inr (.inl fo))) :: kW aa ad t σ rs) ((o, .inl (t 4, 1, .inr (.inl fo))) :: kW aa ad t q2 rs) (some (.int 1)) := by
  refine gx_intro_h hst (by decide) (Nat.le_of_ble_eq_true rfl) (fun J gh hE => ?_)
  have g := gh.g
  show J 0 0 ((o, .inl (t 4, 1, .inr (.inl fo))) :: kW aa ad t σ rs) 0 [(0, .ref (ad 0)), (1, .ref o)] []
  refine j_aload_n (pc := 0) g 1 dL_runCommands_0 rfl ?_
  refine j_iconst (v := 0) (pc := 1) g dL_runCommands_1 (by decide) ?_
  refine j_aload_n (pc := 2) g 0 dL_runCommands_2 rfl ?_
  refine j_callVH (E0 := "java/lang/IllegalArgumentException") (pc := 3) (na := 0) (As := []) (rest := [.int 0, .ref o]) (q0 := 1) (ci := 9) (w' := ((o, .inl (t 4, 1, .inr (.inl fo))) :: kW aa ad t q2 rs)) gh (eX8_runCommands_ (rs := (o, .inl (t 4, 1, .inr (.inl fo))) :: rs) hf) q_i_X8_runCommands q_s_X8_runCommands rfl rfl rfl q_c_X8_runCommands q_l_L_122 q_n_X8 (by decide +kernel) rfl ⟨Nat.le_of_ble_eq_true rfl, Nat.le_of_ble_eq_true rfl⟩ ⟨Nat.le_of_ble_eq_true rfl, Nat.le_of_ble_eq_true rfl⟩ (Nat.le_of_ble_eq_true rfl) (kW_pm aa ad t σ _ rs) (kW_pm aa ad t q2 _ rs).symm dL_runCommands_3 rfl [] ⟨0, 8, 11, 15⟩ [⟨0, 8, 14, 27⟩] rfl (fun _ h => absurd h List.not_mem_nil) (by decide) (by decide) q_k_L_15 q_g_2 (fun q9 => ?_)
  refine j_astore_n (L' := [(2, .ref q9), (0, .ref (ad 0)), (1, .ref o)]) (pc := 11) g dL_runCommands_11 rfl (Nat.le_of_ble_eq_true rfl) rfl ?_
  refine j_iconst (v := 1) (pc := 12) g dL_runCommands_12 (by decide) ?_
  exact hE _ _ dL_runCommands_13
set_option maxRecDepth 100000 in
set_option maxHeartbeats 4000000 in
theorem hL_runCommands_x2 {D : va_G} {t : Nat → ClassId} {aa : gx_AA} {l : Launch} {ad : Nat → Nat} {rs : va_W} {o : Nat} {fo : (Nat → Int64)} {σ : CS} {q2 : CS} (hst : l.stackTraces = false) (hf : xX8_runCommands σ = some (4, q2)) : gx_CH D t (gx_E0 aa) l yL_runCommands cL_runCommands 3 (some .int) [(0, 8, 11, 15), (0, 8, 14, 27)] 21 494 1 6 [.ref (ad 0), .ref o] ((o, .inl (t 4, 1, .inr (.inl fo))) :: kW aa ad t σ rs) ((o, .inl (t 4, 1, .inr (.inl fo))) :: kW aa ad t q2 rs) (some (.int 2)) := by
  refine gx_intro_h hst (by decide) (Nat.le_of_ble_eq_true rfl) (fun J gh hE => ?_)
  have g := gh.g
  show J 0 0 ((o, .inl (t 4, 1, .inr (.inl fo))) :: kW aa ad t σ rs) 0 [(0, .ref (ad 0)), (1, .ref o)] []
  refine j_aload_n (pc := 0) g 1 dL_runCommands_0 rfl ?_
  refine j_iconst (v := 0) (pc := 1) g dL_runCommands_1 (by decide) ?_
  refine j_aload_n (pc := 2) g 0 dL_runCommands_2 rfl ?_
  refine j_callVH (E0 := "java/lang/UnsupportedOperationException") (pc := 3) (na := 0) (As := []) (rest := [.int 0, .ref o]) (q0 := 1) (ci := 9) (w' := ((o, .inl (t 4, 1, .inr (.inl fo))) :: kW aa ad t q2 rs)) gh (eX8_runCommands_ (rs := (o, .inl (t 4, 1, .inr (.inl fo))) :: rs) hf) q_i_X8_runCommands q_s_X8_runCommands rfl rfl rfl q_c_X8_runCommands q_l_L_122 q_n_X8 (by decide +kernel) rfl ⟨Nat.le_of_ble_eq_true rfl, Nat.le_of_ble_eq_true rfl⟩ ⟨Nat.le_of_ble_eq_true rfl, Nat.le_of_ble_eq_true rfl⟩ (Nat.le_of_ble_eq_true rfl) (kW_pm aa ad t σ _ rs) (kW_pm aa ad t q2 _ rs).symm dL_runCommands_3 rfl [⟨0, 8, 11, 15⟩] ⟨0, 8, 14, 27⟩ [] rfl (List.forall_mem_cons.mpr ⟨⟨by decide, "java/lang/IllegalArgumentException", q_k_L_15, by decide⟩, (fun _ h => absurd h List.not_mem_nil)⟩) (by decide) (by decide) q_k_L_27 q_g_4 (fun q9 => ?_)
  refine j_astore_n (L' := [(2, .ref q9), (0, .ref (ad 0)), (1, .ref o)]) (pc := 14) g dL_runCommands_14 rfl (Nat.le_of_ble_eq_true rfl) rfl ?_
  refine j_iconst (v := 2) (pc := 15) g dL_runCommands_15 (by decide) ?_
  exact hE _ _ dL_runCommands_16
set_option maxRecDepth 100000 in
set_option maxHeartbeats 4000000 in
theorem hL_errorPosition_ok {D : va_G} {t : Nat → ClassId} {aa : gx_AA} {l : Launch} {ad : Nat → Nat} {rs : va_W} {o : Nat} {fo : (Nat → Int64)} {σ : CS} {q : Int32} (hst : l.stackTraces = false) (hf : fX8_errorPosition σ = some q) : gx_CH D t (gx_E0 aa) l yL_errorPosition cL_errorPosition 3 (some .int) [(0, 8, 11, 46)] 7 110 0 0 [.ref (ad 0), .ref o] ((o, .inl (t 4, 1, .inr (.inl fo))) :: kW aa ad t σ rs) ((o, .inl (t 4, 1, .inr (.inl (vp_updL fo (0 : Int32).toNatClampNeg q.toInt64)))) :: kW aa ad t σ rs) (some (.int 0)) := by
  refine gx_intro_h hst (by decide) (Nat.le_of_ble_eq_true rfl) (fun J gh hE => ?_)
  have g := gh.g
  show J 0 0 ((o, .inl (t 4, 1, .inr (.inl fo))) :: kW aa ad t σ rs) 0 [(0, .ref (ad 0)), (1, .ref o)] []
  refine j_aload_n (pc := 0) g 1 dL_errorPosition_0 rfl ?_
  refine j_iconst (v := 0) (pc := 1) g dL_errorPosition_1 (by decide) ?_
  refine j_aload_n (pc := 2) g 0 dL_errorPosition_2 rfl ?_
  refine j_callVi (pc := 3) (na := 0) (As := []) (rest := [.int 0, .ref o]) (q0 := 1) (ci := 9) g (cX8_errorPosition_ (rs := (o, .inl (t 4, 1, .inr (.inl fo))) :: rs) hf) q_i_X8_errorPosition q_s_X8_errorPosition rfl rfl rfl q_c_X8_errorPosition q_l_L_126 q_n_X8 (by decide +kernel) rfl ⟨Nat.le_of_ble_eq_true rfl, Nat.le_of_ble_eq_true rfl⟩ ⟨Nat.le_of_ble_eq_true rfl, Nat.le_of_ble_eq_true rfl⟩ (Nat.le_of_ble_eq_true rfl) (kW_pm aa ad t σ _ rs) (kW_pm aa ad t σ _ rs).symm dL_errorPosition_3 ?_ rfl
  refine j_i2l (pc := 6) g dL_errorPosition_6 ?_
  refine j_last (pc := 7) (w' := ((o, .inl (t 4, 1, .inr (.inl (vp_updL fo (0 : Int32).toNatClampNeg q.toInt64)))) :: kW aa ad t σ rs)) g 0 rfl (show gx_in (0 : Int32) 1 by decide) rfl dL_errorPosition_7 ?_
  refine j_goto (tgt := 14) (pc := 8) g dL_errorPosition_8 (by decide) ?_
  refine j_iconst (v := 0) (pc := 14) g dL_errorPosition_14 (by decide) ?_
  exact hE _ _ dL_errorPosition_15
set_option maxRecDepth 100000 in
set_option maxHeartbeats 4000000 in
theorem hL_errorPosition_x1 {D : va_G} {t : Nat → ClassId} {aa : gx_AA} {l : Launch} {ad : Nat → Nat} {rs : va_W} {o : Nat} {fo : (Nat → Int64)} {σ : CS} {q2 : CS} (hst : l.stackTraces = false) (hf : xX8_errorPosition σ = some (5, q2)) : gx_CH D t (gx_E0 aa) l yL_errorPosition cL_errorPosition 3 (some .int) [(0, 8, 11, 46)] 7 110 1 6 [.ref (ad 0), .ref o] ((o, .inl (t 4, 1, .inr (.inl fo))) :: kW aa ad t σ rs) ((o, .inl (t 4, 1, .inr (.inl fo))) :: kW aa ad t q2 rs) (some (.int 1)) := by
  refine gx_intro_h hst (by decide) (Nat.le_of_ble_eq_true rfl) (fun J gh hE => ?_)
  have g := gh.g
  show J 0 0 ((o, .inl (t 4, 1, .inr (.inl fo))) :: kW aa ad t σ rs) 0 [(0, .ref (ad 0)), (1, .ref o)] []
  refine j_aload_n (pc := 0) g 1 dL_errorPosition_0 rfl ?_
  refine j_iconst (v := 0) (pc := 1) g dL_errorPosition_1 (by decide) ?_
  refine j_aload_n (pc := 2) g 0 dL_errorPosition_2 rfl ?_
  refine j_callVH (E0 := "java/util/NoSuchElementException") (pc := 3) (na := 0) (As := []) (rest := [.int 0, .ref o]) (q0 := 1) (ci := 9) (w' := ((o, .inl (t 4, 1, .inr (.inl fo))) :: kW aa ad t q2 rs)) gh (eX8_errorPosition_ (rs := (o, .inl (t 4, 1, .inr (.inl fo))) :: rs) hf) q_i_X8_errorPosition q_s_X8_errorPosition rfl rfl rfl q_c_X8_errorPosition q_l_L_126 q_n_X8 (by decide +kernel) rfl ⟨Nat.le_of_ble_eq_true rfl, Nat.le_of_ble_eq_true rfl⟩ ⟨Nat.le_of_ble_eq_true rfl, Nat.le_of_ble_eq_true rfl⟩ (Nat.le_of_ble_eq_true rfl) (kW_pm aa ad t σ _ rs) (kW_pm aa ad t q2 _ rs).symm dL_errorPosition_3 rfl [] ⟨0, 8, 11, 46⟩ [] rfl (fun _ h => absurd h List.not_mem_nil) (by decide) (by decide) q_k_L_46 q_g_5 (fun q9 => ?_)
  refine j_astore_n (L' := [(2, .ref q9), (0, .ref (ad 0)), (1, .ref o)]) (pc := 11) g dL_errorPosition_11 rfl (Nat.le_of_ble_eq_true rfl) rfl ?_
  refine j_iconst (v := 1) (pc := 12) g dL_errorPosition_12 (by decide) ?_
  exact hE _ _ dL_errorPosition_13
set_option maxRecDepth 100000 in
set_option maxHeartbeats 4000000 in
theorem hL_failedCommand_ok {D : va_G} {t : Nat → ClassId} {aa : gx_AA} {l : Launch} {ad : Nat → Nat} {rs : va_W} {o : Nat} {fo : (Nat → Int64)} {σ : CS} {q : Int32} (hst : l.stackTraces = false) (hf : fX8_failedCommand σ = some q) : gx_CH D t (gx_E0 aa) l yL_failedCommand cL_failedCommand 3 (some .int) [(0, 8, 11, 46)] 7 110 0 0 [.ref (ad 0), .ref o] ((o, .inl (t 4, 1, .inr (.inl fo))) :: kW aa ad t σ rs) ((o, .inl (t 4, 1, .inr (.inl (vp_updL fo (0 : Int32).toNatClampNeg q.toInt64)))) :: kW aa ad t σ rs) (some (.int 0)) := by
  refine gx_intro_h hst (by decide) (Nat.le_of_ble_eq_true rfl) (fun J gh hE => ?_)
  have g := gh.g
  show J 0 0 ((o, .inl (t 4, 1, .inr (.inl fo))) :: kW aa ad t σ rs) 0 [(0, .ref (ad 0)), (1, .ref o)] []
  refine j_aload_n (pc := 0) g 1 dL_failedCommand_0 rfl ?_
  refine j_iconst (v := 0) (pc := 1) g dL_failedCommand_1 (by decide) ?_
  refine j_aload_n (pc := 2) g 0 dL_failedCommand_2 rfl ?_
  refine j_callVi (pc := 3) (na := 0) (As := []) (rest := [.int 0, .ref o]) (q0 := 1) (ci := 9) g (cX8_failedCommand_ (rs := (o, .inl (t 4, 1, .inr (.inl fo))) :: rs) hf) q_i_X8_failedCommand q_s_X8_failedCommand rfl rfl rfl q_c_X8_failedCommand q_l_L_129 q_n_X8 (by decide +kernel) rfl ⟨Nat.le_of_ble_eq_true rfl, Nat.le_of_ble_eq_true rfl⟩ ⟨Nat.le_of_ble_eq_true rfl, Nat.le_of_ble_eq_true rfl⟩ (Nat.le_of_ble_eq_true rfl) (kW_pm aa ad t σ _ rs) (kW_pm aa ad t σ _ rs).symm dL_failedCommand_3 ?_ rfl
  refine j_i2l (pc := 6) g dL_failedCommand_6 ?_
  refine j_last (pc := 7) (w' := ((o, .inl (t 4, 1, .inr (.inl (vp_updL fo (0 : Int32).toNatClampNeg q.toInt64)))) :: kW aa ad t σ rs)) g 0 rfl (show gx_in (0 : Int32) 1 by decide) rfl dL_failedCommand_7 ?_
  refine j_goto (tgt := 14) (pc := 8) g dL_failedCommand_8 (by decide) ?_
  refine j_iconst (v := 0) (pc := 14) g dL_failedCommand_14 (by decide) ?_
  exact hE _ _ dL_failedCommand_15
set_option maxRecDepth 100000 in
set_option maxHeartbeats 4000000 in
theorem hL_failedCommand_x1 {D : va_G} {t : Nat → ClassId} {aa : gx_AA} {l : Launch} {ad : Nat → Nat} {rs : va_W} {o : Nat} {fo : (Nat → Int64)} {σ : CS} {q2 : CS} (hst : l.stackTraces = false) (hf : xX8_failedCommand σ = some (5, q2)) : gx_CH D t (gx_E0 aa) l yL_failedCommand cL_failedCommand 3 (some .int) [(0, 8, 11, 46)] 7 110 1 6 [.ref (ad 0), .ref o] ((o, .inl (t 4, 1, .inr (.inl fo))) :: kW aa ad t σ rs) ((o, .inl (t 4, 1, .inr (.inl fo))) :: kW aa ad t q2 rs) (some (.int 1)) := by
  refine gx_intro_h hst (by decide) (Nat.le_of_ble_eq_true rfl) (fun J gh hE => ?_)
  have g := gh.g
  show J 0 0 ((o, .inl (t 4, 1, .inr (.inl fo))) :: kW aa ad t σ rs) 0 [(0, .ref (ad 0)), (1, .ref o)] []
  refine j_aload_n (pc := 0) g 1 dL_failedCommand_0 rfl ?_
  refine j_iconst (v := 0) (pc := 1) g dL_failedCommand_1 (by decide) ?_
  refine j_aload_n (pc := 2) g 0 dL_failedCommand_2 rfl ?_
  refine j_callVH (E0 := "java/util/NoSuchElementException") (pc := 3) (na := 0) (As := []) (rest := [.int 0, .ref o]) (q0 := 1) (ci := 9) (w' := ((o, .inl (t 4, 1, .inr (.inl fo))) :: kW aa ad t q2 rs)) gh (eX8_failedCommand_ (rs := (o, .inl (t 4, 1, .inr (.inl fo))) :: rs) hf) q_i_X8_failedCommand q_s_X8_failedCommand rfl rfl rfl q_c_X8_failedCommand q_l_L_129 q_n_X8 (by decide +kernel) rfl ⟨Nat.le_of_ble_eq_true rfl, Nat.le_of_ble_eq_true rfl⟩ ⟨Nat.le_of_ble_eq_true rfl, Nat.le_of_ble_eq_true rfl⟩ (Nat.le_of_ble_eq_true rfl) (kW_pm aa ad t σ _ rs) (kW_pm aa ad t q2 _ rs).symm dL_failedCommand_3 rfl [] ⟨0, 8, 11, 46⟩ [] rfl (fun _ h => absurd h List.not_mem_nil) (by decide) (by decide) q_k_L_46 q_g_5 (fun q9 => ?_)
  refine j_astore_n (L' := [(2, .ref q9), (0, .ref (ad 0)), (1, .ref o)]) (pc := 11) g dL_failedCommand_11 rfl (Nat.le_of_ble_eq_true rfl) rfl ?_
  refine j_iconst (v := 1) (pc := 12) g dL_failedCommand_12 (by decide) ?_
  exact hE _ _ dL_failedCommand_13
set_option maxRecDepth 100000 in
set_option maxHeartbeats 4000000 in
theorem hL_writeCommand_ok {D : va_G} {t : Nat → ClassId} {aa : gx_AA} {l : Launch} {ad : Nat → Nat} {rs : va_W} {o : Nat} {fo : (Nat → Int64)} {σ : CS} {p1 : Int32} {q : (Int32 × CS)} (hst : l.stackTraces = false) (hf : fX8_writeCommand σ p1 = some q) : gx_CH D t (gx_E0 aa) l yL_writeCommand cL_writeCommand 4 (some .int) [(0, 9, 12, 13)] 20 488 0 0 [.ref (ad 0), .int p1, .ref o] ((o, .inl (t 4, 1, .inr (.inl fo))) :: kW aa ad t σ rs) ((o, .inl (t 4, 1, .inr (.inl (vp_updL fo (0 : Int32).toNatClampNeg q.1.toInt64)))) :: kW aa ad t q.2 rs) (some (.int 0)) := by
  refine gx_intro_h hst (by decide) (Nat.le_of_ble_eq_true rfl) (fun J gh hE => ?_)
  have g := gh.g
  show J 0 0 ((o, .inl (t 4, 1, .inr (.inl fo))) :: kW aa ad t σ rs) 0 [(0, .ref (ad 0)), (1, .int p1), (2, .ref o)] []
  refine j_aload_n (pc := 0) g 2 dL_writeCommand_0 rfl ?_
  refine j_iconst (v := 0) (pc := 1) g dL_writeCommand_1 (by decide) ?_
  refine j_aload_n (pc := 2) g 0 dL_writeCommand_2 rfl ?_
  refine j_iload_n (pc := 3) g 1 dL_writeCommand_3 rfl ?_
  refine j_callVi (pc := 4) (na := 1) (As := [.int p1]) (rest := [.int 0, .ref o]) (q0 := 1) (ci := 9) g (cX8_writeCommand_ (rs := (o, .inl (t 4, 1, .inr (.inl fo))) :: rs) hf) q_i_X8_writeCommand q_s_X8_writeCommand rfl rfl rfl q_c_X8_writeCommand q_l_L_132 q_n_X8 (by decide +kernel) rfl ⟨Nat.le_of_ble_eq_true rfl, Nat.le_of_ble_eq_true rfl⟩ ⟨Nat.le_of_ble_eq_true rfl, Nat.le_of_ble_eq_true rfl⟩ (Nat.le_of_ble_eq_true rfl) (kW_pm aa ad t σ _ rs) (kW_pm aa ad t q.2 _ rs).symm dL_writeCommand_4 ?_ rfl
  refine j_i2l (pc := 7) g dL_writeCommand_7 ?_
  refine j_last (pc := 8) (w' := ((o, .inl (t 4, 1, .inr (.inl (vp_updL fo (0 : Int32).toNatClampNeg q.1.toInt64)))) :: kW aa ad t q.2 rs)) g 0 rfl (show gx_in (0 : Int32) 1 by decide) rfl dL_writeCommand_8 ?_
  refine j_goto (tgt := 15) (pc := 9) g dL_writeCommand_9 (by decide) ?_
  refine j_iconst (v := 0) (pc := 15) g dL_writeCommand_15 (by decide) ?_
  exact hE _ _ dL_writeCommand_16
set_option maxRecDepth 100000 in
set_option maxHeartbeats 4000000 in
theorem hL_writeCommand_x1 {D : va_G} {t : Nat → ClassId} {aa : gx_AA} {l : Launch} {ad : Nat → Nat} {rs : va_W} {o : Nat} {fo : (Nat → Int64)} {σ : CS} {p1 : Int32} {q2 : CS} (hst : l.stackTraces = false) (hf : xX8_writeCommand σ p1 = some (1, q2)) : gx_CH D t (gx_E0 aa) l yL_writeCommand cL_writeCommand 4 (some .int) [(0, 9, 12, 13)] 20 488 1 6 [.ref (ad 0), .int p1, .ref o] ((o, .inl (t 4, 1, .inr (.inl fo))) :: kW aa ad t σ rs) ((o, .inl (t 4, 1, .inr (.inl fo))) :: kW aa ad t q2 rs) (some (.int 1)) := by
  refine gx_intro_h hst (by decide) (Nat.le_of_ble_eq_true rfl) (fun J gh hE => ?_)
  have g := gh.g
  show J 0 0 ((o, .inl (t 4, 1, .inr (.inl fo))) :: kW aa ad t σ rs) 0 [(0, .ref (ad 0)), (1, .int p1), (2, .ref o)] []
  refine j_aload_n (pc := 0) g 2 dL_writeCommand_0 rfl ?_
  refine j_iconst (v := 0) (pc := 1) g dL_writeCommand_1 (by decide) ?_
  refine j_aload_n (pc := 2) g 0 dL_writeCommand_2 rfl ?_
  refine j_iload_n (pc := 3) g 1 dL_writeCommand_3 rfl ?_
  refine j_callVH (E0 := "java/lang/IndexOutOfBoundsException") (pc := 4) (na := 1) (As := [.int p1]) (rest := [.int 0, .ref o]) (q0 := 1) (ci := 9) (w' := ((o, .inl (t 4, 1, .inr (.inl fo))) :: kW aa ad t q2 rs)) gh (eX8_writeCommand_ (rs := (o, .inl (t 4, 1, .inr (.inl fo))) :: rs) hf) q_i_X8_writeCommand q_s_X8_writeCommand rfl rfl rfl q_c_X8_writeCommand q_l_L_132 q_n_X8 (by decide +kernel) rfl ⟨Nat.le_of_ble_eq_true rfl, Nat.le_of_ble_eq_true rfl⟩ ⟨Nat.le_of_ble_eq_true rfl, Nat.le_of_ble_eq_true rfl⟩ (Nat.le_of_ble_eq_true rfl) (kW_pm aa ad t σ _ rs) (kW_pm aa ad t q2 _ rs).symm dL_writeCommand_4 rfl [] ⟨0, 9, 12, 13⟩ [] rfl (fun _ h => absurd h List.not_mem_nil) (by decide) (by decide) q_k_L_13 q_g_1 (fun q9 => ?_)
  refine j_astore_n (L' := [(3, .ref q9), (0, .ref (ad 0)), (1, .int p1), (2, .ref o)]) (pc := 12) g dL_writeCommand_12 rfl (Nat.le_of_ble_eq_true rfl) rfl ?_
  refine j_iconst (v := 1) (pc := 13) g dL_writeCommand_13 (by decide) ?_
  exact hE _ _ dL_writeCommand_14
set_option maxRecDepth 100000 in
set_option maxHeartbeats 4000000 in
theorem hL_outputChar_ok {D : va_G} {t : Nat → ClassId} {aa : gx_AA} {l : Launch} {ad : Nat → Nat} {rs : va_W} {o : Nat} {fo : (Nat → Int64)} {σ : CS} {p1 : Int32} {q : Int32} (hst : l.stackTraces = false) (hf : fX8_outputChar σ p1 = some q) : gx_CH D t (gx_E0 aa) l yL_outputChar cL_outputChar 4 (some .int) [(0, 9, 12, 13)] 7 111 0 0 [.ref (ad 0), .int p1, .ref o] ((o, .inl (t 4, 1, .inr (.inl fo))) :: kW aa ad t σ rs) ((o, .inl (t 4, 1, .inr (.inl (vp_updL fo (0 : Int32).toNatClampNeg q.toInt64)))) :: kW aa ad t σ rs) (some (.int 0)) := by
  refine gx_intro_h hst (by decide) (Nat.le_of_ble_eq_true rfl) (fun J gh hE => ?_)
  have g := gh.g
  show J 0 0 ((o, .inl (t 4, 1, .inr (.inl fo))) :: kW aa ad t σ rs) 0 [(0, .ref (ad 0)), (1, .int p1), (2, .ref o)] []
  refine j_aload_n (pc := 0) g 2 dL_outputChar_0 rfl ?_
  refine j_iconst (v := 0) (pc := 1) g dL_outputChar_1 (by decide) ?_
  refine j_aload_n (pc := 2) g 0 dL_outputChar_2 rfl ?_
  refine j_iload_n (pc := 3) g 1 dL_outputChar_3 rfl ?_
  refine j_callVi (pc := 4) (na := 1) (As := [.int p1]) (rest := [.int 0, .ref o]) (q0 := 1) (ci := 9) g (cX8_outputChar_ (rs := (o, .inl (t 4, 1, .inr (.inl fo))) :: rs) hf) q_i_X8_outputChar q_s_X8_outputChar rfl rfl rfl q_c_X8_outputChar q_l_L_135 q_n_X8 (by decide +kernel) rfl ⟨Nat.le_of_ble_eq_true rfl, Nat.le_of_ble_eq_true rfl⟩ ⟨Nat.le_of_ble_eq_true rfl, Nat.le_of_ble_eq_true rfl⟩ (Nat.le_of_ble_eq_true rfl) (kW_pm aa ad t σ _ rs) (kW_pm aa ad t σ _ rs).symm dL_outputChar_4 ?_ rfl
  refine j_i2l (pc := 7) g dL_outputChar_7 ?_
  refine j_last (pc := 8) (w' := ((o, .inl (t 4, 1, .inr (.inl (vp_updL fo (0 : Int32).toNatClampNeg q.toInt64)))) :: kW aa ad t σ rs)) g 0 rfl (show gx_in (0 : Int32) 1 by decide) rfl dL_outputChar_8 ?_
  refine j_goto (tgt := 15) (pc := 9) g dL_outputChar_9 (by decide) ?_
  refine j_iconst (v := 0) (pc := 15) g dL_outputChar_15 (by decide) ?_
  exact hE _ _ dL_outputChar_16
set_option maxRecDepth 100000 in
set_option maxHeartbeats 4000000 in
theorem hL_outputChar_x1 {D : va_G} {t : Nat → ClassId} {aa : gx_AA} {l : Launch} {ad : Nat → Nat} {rs : va_W} {o : Nat} {fo : (Nat → Int64)} {σ : CS} {p1 : Int32} {q2 : CS} (hst : l.stackTraces = false) (hf : xX8_outputChar σ p1 = some (1, q2)) : gx_CH D t (gx_E0 aa) l yL_outputChar cL_outputChar 4 (some .int) [(0, 9, 12, 13)] 7 111 1 6 [.ref (ad 0), .int p1, .ref o] ((o, .inl (t 4, 1, .inr (.inl fo))) :: kW aa ad t σ rs) ((o, .inl (t 4, 1, .inr (.inl fo))) :: kW aa ad t q2 rs) (some (.int 1)) := by
  refine gx_intro_h hst (by decide) (Nat.le_of_ble_eq_true rfl) (fun J gh hE => ?_)
  have g := gh.g
  show J 0 0 ((o, .inl (t 4, 1, .inr (.inl fo))) :: kW aa ad t σ rs) 0 [(0, .ref (ad 0)), (1, .int p1), (2, .ref o)] []
  refine j_aload_n (pc := 0) g 2 dL_outputChar_0 rfl ?_
  refine j_iconst (v := 0) (pc := 1) g dL_outputChar_1 (by decide) ?_
  refine j_aload_n (pc := 2) g 0 dL_outputChar_2 rfl ?_
  refine j_iload_n (pc := 3) g 1 dL_outputChar_3 rfl ?_
  refine j_callVH (E0 := "java/lang/IndexOutOfBoundsException") (pc := 4) (na := 1) (As := [.int p1]) (rest := [.int 0, .ref o]) (q0 := 1) (ci := 9) (w' := ((o, .inl (t 4, 1, .inr (.inl fo))) :: kW aa ad t q2 rs)) gh (eX8_outputChar_ (rs := (o, .inl (t 4, 1, .inr (.inl fo))) :: rs) hf) q_i_X8_outputChar q_s_X8_outputChar rfl rfl rfl q_c_X8_outputChar q_l_L_135 q_n_X8 (by decide +kernel) rfl ⟨Nat.le_of_ble_eq_true rfl, Nat.le_of_ble_eq_true rfl⟩ ⟨Nat.le_of_ble_eq_true rfl, Nat.le_of_ble_eq_true rfl⟩ (Nat.le_of_ble_eq_true rfl) (kW_pm aa ad t σ _ rs) (kW_pm aa ad t q2 _ rs).symm dL_outputChar_4 rfl [] ⟨0, 9, 12, 13⟩ [] rfl (fun _ h => absurd h List.not_mem_nil) (by decide) (by decide) q_k_L_13 q_g_1 (fun q9 => ?_)
  refine j_astore_n (L' := [(3, .ref q9), (0, .ref (ad 0)), (1, .int p1), (2, .ref o)]) (pc := 12) g dL_outputChar_12 rfl (Nat.le_of_ble_eq_true rfl) rfl ?_
  refine j_iconst (v := 1) (pc := 13) g dL_outputChar_13 (by decide) ?_
  exact hE _ _ dL_outputChar_14
set_option maxRecDepth 100000 in
set_option maxHeartbeats 4000000 in
theorem hL_undo_ok {D : va_G} {t : Nat → ClassId} {aa : gx_AA} {l : Launch} {ad : Nat → Nat} {rs : va_W} {o : Nat} {fo : (Nat → Int64)} {σ : CS} {q : (Int32 × CS)} (hst : l.stackTraces = false) (hf : fX8_undo σ = some q) : gx_CH D t (gx_E0 aa) l yL_undo cL_undo 3 (some .int) [(0, 8, 11, 17)] 7 111 0 0 [.ref (ad 0), .ref o] ((o, .inl (t 4, 1, .inr (.inl fo))) :: kW aa ad t σ rs) ((o, .inl (t 4, 1, .inr (.inl (vp_updL fo (0 : Int32).toNatClampNeg q.1.toInt64)))) :: kW aa ad t q.2 rs) (some (.int 0)) := by
  refine gx_intro_h hst (by decide) (Nat.le_of_ble_eq_true rfl) (fun J gh hE => ?_)
  have g := gh.g
  show J 0 0 ((o, .inl (t 4, 1, .inr (.inl fo))) :: kW aa ad t σ rs) 0 [(0, .ref (ad 0)), (1, .ref o)] []
  refine j_aload_n (pc := 0) g 1 dL_undo_0 rfl ?_
  refine j_iconst (v := 0) (pc := 1) g dL_undo_1 (by decide) ?_
  refine j_aload_n (pc := 2) g 0 dL_undo_2 rfl ?_
  refine j_callVi (pc := 3) (na := 0) (As := []) (rest := [.int 0, .ref o]) (q0 := 1) (ci := 9) g (cX8_undo_ (rs := (o, .inl (t 4, 1, .inr (.inl fo))) :: rs) hf) q_i_X8_undo q_s_X8_undo rfl rfl rfl q_c_X8_undo q_l_L_139 q_n_X8 (by decide +kernel) rfl ⟨Nat.le_of_ble_eq_true rfl, Nat.le_of_ble_eq_true rfl⟩ ⟨Nat.le_of_ble_eq_true rfl, Nat.le_of_ble_eq_true rfl⟩ (Nat.le_of_ble_eq_true rfl) (kW_pm aa ad t σ _ rs) (kW_pm aa ad t q.2 _ rs).symm dL_undo_3 ?_ rfl
  refine j_i2l (pc := 6) g dL_undo_6 ?_
  refine j_last (pc := 7) (w' := ((o, .inl (t 4, 1, .inr (.inl (vp_updL fo (0 : Int32).toNatClampNeg q.1.toInt64)))) :: kW aa ad t q.2 rs)) g 0 rfl (show gx_in (0 : Int32) 1 by decide) rfl dL_undo_7 ?_
  refine j_goto (tgt := 14) (pc := 8) g dL_undo_8 (by decide) ?_
  refine j_iconst (v := 0) (pc := 14) g dL_undo_14 (by decide) ?_
  exact hE _ _ dL_undo_15
set_option maxRecDepth 100000 in
set_option maxHeartbeats 4000000 in
theorem hL_undo_x1 {D : va_G} {t : Nat → ClassId} {aa : gx_AA} {l : Launch} {ad : Nat → Nat} {rs : va_W} {o : Nat} {fo : (Nat → Int64)} {σ : CS} {q2 : CS} (hst : l.stackTraces = false) (hf : xX8_undo σ = some (3, q2)) : gx_CH D t (gx_E0 aa) l yL_undo cL_undo 3 (some .int) [(0, 8, 11, 17)] 7 111 1 6 [.ref (ad 0), .ref o] ((o, .inl (t 4, 1, .inr (.inl fo))) :: kW aa ad t σ rs) ((o, .inl (t 4, 1, .inr (.inl fo))) :: kW aa ad t q2 rs) (some (.int 1)) := by
  refine gx_intro_h hst (by decide) (Nat.le_of_ble_eq_true rfl) (fun J gh hE => ?_)
  have g := gh.g
  show J 0 0 ((o, .inl (t 4, 1, .inr (.inl fo))) :: kW aa ad t σ rs) 0 [(0, .ref (ad 0)), (1, .ref o)] []
  refine j_aload_n (pc := 0) g 1 dL_undo_0 rfl ?_
  refine j_iconst (v := 0) (pc := 1) g dL_undo_1 (by decide) ?_
  refine j_aload_n (pc := 2) g 0 dL_undo_2 rfl ?_
  refine j_callVH (E0 := "java/lang/IllegalStateException") (pc := 3) (na := 0) (As := []) (rest := [.int 0, .ref o]) (q0 := 1) (ci := 9) (w' := ((o, .inl (t 4, 1, .inr (.inl fo))) :: kW aa ad t q2 rs)) gh (eX8_undo_ (rs := (o, .inl (t 4, 1, .inr (.inl fo))) :: rs) hf) q_i_X8_undo q_s_X8_undo rfl rfl rfl q_c_X8_undo q_l_L_139 q_n_X8 (by decide +kernel) rfl ⟨Nat.le_of_ble_eq_true rfl, Nat.le_of_ble_eq_true rfl⟩ ⟨Nat.le_of_ble_eq_true rfl, Nat.le_of_ble_eq_true rfl⟩ (Nat.le_of_ble_eq_true rfl) (kW_pm aa ad t σ _ rs) (kW_pm aa ad t q2 _ rs).symm dL_undo_3 rfl [] ⟨0, 8, 11, 17⟩ [] rfl (fun _ h => absurd h List.not_mem_nil) (by decide) (by decide) q_k_L_17 q_g_3 (fun q9 => ?_)
  refine j_astore_n (L' := [(2, .ref q9), (0, .ref (ad 0)), (1, .ref o)]) (pc := 11) g dL_undo_11 rfl (Nat.le_of_ble_eq_true rfl) rfl ?_
  refine j_iconst (v := 1) (pc := 12) g dL_undo_12 (by decide) ?_
  exact hE _ _ dL_undo_13
set_option maxRecDepth 100000 in
set_option maxHeartbeats 4000000 in
theorem hL_restore_ok {D : va_G} {t : Nat → ClassId} {aa : gx_AA} {l : Launch} {ad : Nat → Nat} {rs : va_W} {o : Nat} {fo : (Nat → Int64)} {σ : CS} {q : (Int32 × CS)} (hst : l.stackTraces = false) (hf : fX8_restore σ = some q) : gx_CH D t (gx_E0 aa) l yL_restore cL_restore 3 (some .int) [(0, 8, 11, 17)] 7 110 0 0 [.ref (ad 0), .ref o] ((o, .inl (t 4, 1, .inr (.inl fo))) :: kW aa ad t σ rs) ((o, .inl (t 4, 1, .inr (.inl (vp_updL fo (0 : Int32).toNatClampNeg q.1.toInt64)))) :: kW aa ad t q.2 rs) (some (.int 0)) := by
  refine gx_intro_h hst (by decide) (Nat.le_of_ble_eq_true rfl) (fun J gh hE => ?_)
  have g := gh.g
  show J 0 0 ((o, .inl (t 4, 1, .inr (.inl fo))) :: kW aa ad t σ rs) 0 [(0, .ref (ad 0)), (1, .ref o)] []
  refine j_aload_n (pc := 0) g 1 dL_restore_0 rfl ?_
  refine j_iconst (v := 0) (pc := 1) g dL_restore_1 (by decide) ?_
  refine j_aload_n (pc := 2) g 0 dL_restore_2 rfl ?_
  refine j_callVi (pc := 3) (na := 0) (As := []) (rest := [.int 0, .ref o]) (q0 := 1) (ci := 9) g (cX8_restore_ (rs := (o, .inl (t 4, 1, .inr (.inl fo))) :: rs) hf) q_i_X8_restore q_s_X8_restore rfl rfl rfl q_c_X8_restore q_l_L_142 q_n_X8 (by decide +kernel) rfl ⟨Nat.le_of_ble_eq_true rfl, Nat.le_of_ble_eq_true rfl⟩ ⟨Nat.le_of_ble_eq_true rfl, Nat.le_of_ble_eq_true rfl⟩ (Nat.le_of_ble_eq_true rfl) (kW_pm aa ad t σ _ rs) (kW_pm aa ad t q.2 _ rs).symm dL_restore_3 ?_ rfl
  refine j_i2l (pc := 6) g dL_restore_6 ?_
  refine j_last (pc := 7) (w' := ((o, .inl (t 4, 1, .inr (.inl (vp_updL fo (0 : Int32).toNatClampNeg q.1.toInt64)))) :: kW aa ad t q.2 rs)) g 0 rfl (show gx_in (0 : Int32) 1 by decide) rfl dL_restore_7 ?_
  refine j_goto (tgt := 14) (pc := 8) g dL_restore_8 (by decide) ?_
  refine j_iconst (v := 0) (pc := 14) g dL_restore_14 (by decide) ?_
  exact hE _ _ dL_restore_15
set_option maxRecDepth 100000 in
set_option maxHeartbeats 4000000 in
theorem hL_restore_x1 {D : va_G} {t : Nat → ClassId} {aa : gx_AA} {l : Launch} {ad : Nat → Nat} {rs : va_W} {o : Nat} {fo : (Nat → Int64)} {σ : CS} {q2 : CS} (hst : l.stackTraces = false) (hf : xX8_restore σ = some (3, q2)) : gx_CH D t (gx_E0 aa) l yL_restore cL_restore 3 (some .int) [(0, 8, 11, 17)] 7 110 1 6 [.ref (ad 0), .ref o] ((o, .inl (t 4, 1, .inr (.inl fo))) :: kW aa ad t σ rs) ((o, .inl (t 4, 1, .inr (.inl fo))) :: kW aa ad t q2 rs) (some (.int 1)) := by
  refine gx_intro_h hst (by decide) (Nat.le_of_ble_eq_true rfl) (fun J gh hE => ?_)
  have g := gh.g
  show J 0 0 ((o, .inl (t 4, 1, .inr (.inl fo))) :: kW aa ad t σ rs) 0 [(0, .ref (ad 0)), (1, .ref o)] []
  refine j_aload_n (pc := 0) g 1 dL_restore_0 rfl ?_
  refine j_iconst (v := 0) (pc := 1) g dL_restore_1 (by decide) ?_
  refine j_aload_n (pc := 2) g 0 dL_restore_2 rfl ?_
  refine j_callVH (E0 := "java/lang/IllegalStateException") (pc := 3) (na := 0) (As := []) (rest := [.int 0, .ref o]) (q0 := 1) (ci := 9) (w' := ((o, .inl (t 4, 1, .inr (.inl fo))) :: kW aa ad t q2 rs)) gh (eX8_restore_ (rs := (o, .inl (t 4, 1, .inr (.inl fo))) :: rs) hf) q_i_X8_restore q_s_X8_restore rfl rfl rfl q_c_X8_restore q_l_L_142 q_n_X8 (by decide +kernel) rfl ⟨Nat.le_of_ble_eq_true rfl, Nat.le_of_ble_eq_true rfl⟩ ⟨Nat.le_of_ble_eq_true rfl, Nat.le_of_ble_eq_true rfl⟩ (Nat.le_of_ble_eq_true rfl) (kW_pm aa ad t σ _ rs) (kW_pm aa ad t q2 _ rs).symm dL_restore_3 rfl [] ⟨0, 8, 11, 17⟩ [] rfl (fun _ h => absurd h List.not_mem_nil) (by decide) (by decide) q_k_L_17 q_g_3 (fun q9 => ?_)
  refine j_astore_n (L' := [(2, .ref q9), (0, .ref (ad 0)), (1, .ref o)]) (pc := 11) g dL_restore_11 rfl (Nat.le_of_ble_eq_true rfl) rfl ?_
  refine j_iconst (v := 1) (pc := 12) g dL_restore_12 (by decide) ?_
  exact hE _ _ dL_restore_13
