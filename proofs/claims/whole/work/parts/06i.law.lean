theorem wl_13 : Cond.methodLink RL 13 yX7_date ∈ lw_good := gw 290 (by decide +kernel) (by decide +kernel)
set_option maxRecDepth 20000 in
theorem mi_X7_date : MIv yX7_date cX7_date 4 (some .int) 2 := ⟨gw 293 rfl rfl, gw 291 (by decide +kernel) (by decide +kernel), gw 292 (by decide +kernel) (by decide +kernel), gw 38 (by decide +kernel) (by decide +kernel), by decide +kernel, by decide +kernel, by decide +kernel⟩
theorem wl_17 : Cond.methodLink RL 17 yX8_date ∈ lw_good := gw 812 (by decide +kernel) (by decide +kernel)
set_option maxRecDepth 20000 in
theorem mi_X8_date : MIv yX8_date cX8_date 5 (some .int) 2 := ⟨gw 815 rfl rfl, gw 813 (by decide +kernel) (by decide +kernel), gw 814 (by decide +kernel) (by decide +kernel), gw 44 (by decide +kernel) (by decide +kernel), by decide +kernel, by decide +kernel, by decide +kernel⟩
theorem wl_18 : Cond.methodLink RL 18 yX7_dayOf ∈ lw_good := gw 312 (by decide +kernel) (by decide +kernel)
set_option maxRecDepth 20000 in
theorem mi_X7_dayOf : MIv yX7_dayOf cX7_dayOf 5 (some .int) 3 := ⟨gw 315 rfl rfl, gw 313 (by decide +kernel) (by decide +kernel), gw 314 (by decide +kernel) (by decide +kernel), gw 38 (by decide +kernel) (by decide +kernel), by decide +kernel, by decide +kernel, by decide +kernel⟩
theorem wl_22 : Cond.methodLink RL 22 yX8_dayOf ∈ lw_good := gw 839 (by decide +kernel) (by decide +kernel)
set_option maxRecDepth 20000 in
theorem mi_X8_dayOf : MIv yX8_dayOf cX8_dayOf 5 (some .int) 3 := ⟨gw 842 rfl rfl, gw 840 (by decide +kernel) (by decide +kernel), gw 841 (by decide +kernel) (by decide +kernel), gw 44 (by decide +kernel) (by decide +kernel), by decide +kernel, by decide +kernel, by decide +kernel⟩
theorem wl_25 : Cond.methodLink RL 25 yX7_interest ∈ lw_good := gw 320 (by decide +kernel) (by decide +kernel)
set_option maxRecDepth 20000 in
theorem mi_X7_interest : MIv yX7_interest cX7_interest 7 (some .long) 5 := ⟨gw 323 rfl rfl, gw 321 (by decide +kernel) (by decide +kernel), gw 322 (by decide +kernel) (by decide +kernel), gw 38 (by decide +kernel) (by decide +kernel), by decide +kernel, by decide +kernel, by decide +kernel⟩
theorem wl_29 : Cond.methodLink RL 29 yX8_interest ∈ lw_good := gw 849 (by decide +kernel) (by decide +kernel)
set_option maxRecDepth 20000 in
theorem mi_X8_interest : MIv yX8_interest cX8_interest 8 (some .long) 5 := ⟨gw 852 rfl rfl, gw 850 (by decide +kernel) (by decide +kernel), gw 851 (by decide +kernel) (by decide +kernel), gw 44 (by decide +kernel) (by decide +kernel), by decide +kernel, by decide +kernel, by decide +kernel⟩
theorem wl_30 : Cond.methodLink RL 30 yX7_loan ∈ lw_good := gw 351 (by decide +kernel) (by decide +kernel)
set_option maxRecDepth 20000 in
theorem mi_X7_loan : MIv yX7_loan cX7_loan 6 (some .int) 4 := ⟨gw 354 rfl rfl, gw 352 (by decide +kernel) (by decide +kernel), gw 353 (by decide +kernel) (by decide +kernel), gw 38 (by decide +kernel) (by decide +kernel), by decide +kernel, by decide +kernel, by decide +kernel⟩
theorem wl_34 : Cond.methodLink RL 34 yX8_loan ∈ lw_good := gw 871 (by decide +kernel) (by decide +kernel)
theorem wl_35 : Cond.methodLink RL 35 yX7_days ∈ lw_good := gw 406 (by decide +kernel) (by decide +kernel)
theorem wl_39 : Cond.methodLink RL 39 yX8_days ∈ lw_good := gw 911 (by decide +kernel) (by decide +kernel)
theorem wl_40 : Cond.methodLink RL 40 yX7_pay ∈ lw_good := gw 430 (by decide +kernel) (by decide +kernel)
theorem wl_44 : Cond.methodLink RL 44 yX8_pay ∈ lw_good := gw 928 (by decide +kernel) (by decide +kernel)
theorem wl_45 : Cond.methodLink RL 45 yX7_reset ∈ lw_good := gw 451 (by decide +kernel) (by decide +kernel)
theorem wl_49 : Cond.methodLink RL 49 yX8_reset ∈ lw_good := gw 957 (by decide +kernel) (by decide +kernel)
theorem wl_50 : Cond.methodLink RL 50 yX7_writeOff ∈ lw_good := gw 456 (by decide +kernel) (by decide +kernel)
theorem wl_54 : Cond.methodLink RL 54 yX8_writeOff ∈ lw_good := gw 961 (by decide +kernel) (by decide +kernel)
theorem wl_55 : Cond.methodLink RL 55 yX7_rule ∈ lw_good := gw 473 (by decide +kernel) (by decide +kernel)
theorem wl_58 : Cond.methodLink RL 58 yX8_rule ∈ lw_good := gw 966 (by decide +kernel) (by decide +kernel)
theorem wl_59 : Cond.methodLink RL 59 yX7_of ∈ lw_good := gw 477 (by decide +kernel) (by decide +kernel)
set_option maxRecDepth 20000 in
theorem mi_X7_of : MIv yX7_of cX7_of 4 (some .int) 2 := ⟨gw 480 rfl rfl, gw 478 (by decide +kernel) (by decide +kernel), gw 479 (by decide +kernel) (by decide +kernel), gw 38 (by decide +kernel) (by decide +kernel), by decide +kernel, by decide +kernel, by decide +kernel⟩
theorem wl_62 : Cond.methodLink RL 62 yX8_of ∈ lw_good := gw 971 (by decide +kernel) (by decide +kernel)
set_option maxRecDepth 20000 in
theorem mi_X8_of : MIv yX8_of cX8_of 5 (some .int) 2 := ⟨gw 974 rfl rfl, gw 972 (by decide +kernel) (by decide +kernel), gw 973 (by decide +kernel) (by decide +kernel), gw 44 (by decide +kernel) (by decide +kernel), by decide +kernel, by decide +kernel, by decide +kernel⟩
theorem wl_63 : Cond.methodLink RL 63 yX7_sum ∈ lw_good := gw 493 (by decide +kernel) (by decide +kernel)
set_option maxRecDepth 20000 in
theorem mi_X7_sum : MIv yX7_sum cX7_sum 4 (some .long) 2 := ⟨gw 496 rfl rfl, gw 494 (by decide +kernel) (by decide +kernel), gw 495 (by decide +kernel) (by decide +kernel), gw 38 (by decide +kernel) (by decide +kernel), by decide +kernel, by decide +kernel, by decide +kernel⟩
theorem wl_66 : Cond.methodLink RL 66 yX8_sum ∈ lw_good := gw 976 (by decide +kernel) (by decide +kernel)
set_option maxRecDepth 20000 in
theorem mi_X8_sum : MIv yX8_sum cX8_sum 6 (some .long) 2 := ⟨gw 979 rfl rfl, gw 977 (by decide +kernel) (by decide +kernel), gw 978 (by decide +kernel) (by decide +kernel), gw 44 (by decide +kernel) (by decide +kernel), by decide +kernel, by decide +kernel, by decide +kernel⟩
theorem wl_67 : Cond.methodLink RL 67 yX7_bill ∈ lw_good := gw 508 (by decide +kernel) (by decide +kernel)
set_option maxRecDepth 20000 in
theorem mi_X7_bill : MIv yX7_bill cX7_bill 6 (some .long) 3 := ⟨gw 511 rfl rfl, gw 509 (by decide +kernel) (by decide +kernel), gw 510 (by decide +kernel) (by decide +kernel), gw 38 (by decide +kernel) (by decide +kernel), by decide +kernel, by decide +kernel, by decide +kernel⟩
theorem wl_71 : Cond.methodLink RL 71 yX8_bill ∈ lw_good := gw 988 (by decide +kernel) (by decide +kernel)
set_option maxRecDepth 20000 in
theorem mi_X8_bill : MIv yX8_bill cX8_bill 4 (some .long) 3 := ⟨gw 991 rfl rfl, gw 989 (by decide +kernel) (by decide +kernel), gw 990 (by decide +kernel) (by decide +kernel), gw 44 (by decide +kernel) (by decide +kernel), by decide +kernel, by decide +kernel, by decide +kernel⟩
theorem wl_72 : Cond.methodLink RL 72 yX7_toCome ∈ lw_good := gw 514 (by decide +kernel) (by decide +kernel)
set_option maxRecDepth 20000 in
theorem mi_X7_toCome : MIv yX7_toCome cX7_toCome 5 (some .long) 3 := ⟨gw 517 rfl rfl, gw 515 (by decide +kernel) (by decide +kernel), gw 516 (by decide +kernel) (by decide +kernel), gw 38 (by decide +kernel) (by decide +kernel), by decide +kernel, by decide +kernel, by decide +kernel⟩
theorem wl_75 : Cond.methodLink RL 75 yX8_toCome ∈ lw_good := gw 993 (by decide +kernel) (by decide +kernel)
set_option maxRecDepth 20000 in
theorem mi_X8_toCome : MIv yX8_toCome cX8_toCome 5 (some .long) 3 := ⟨gw 996 rfl rfl, gw 994 (by decide +kernel) (by decide +kernel), gw 995 (by decide +kernel) (by decide +kernel), gw 44 (by decide +kernel) (by decide +kernel), by decide +kernel, by decide +kernel, by decide +kernel⟩
theorem wl_76 : Cond.methodLink RL 76 yX7_coming ∈ lw_good := gw 526 (by decide +kernel) (by decide +kernel)
set_option maxRecDepth 20000 in
theorem mi_X7_coming : MIv yX7_coming cX7_coming 5 (some .long) 2 := ⟨gw 529 rfl rfl, gw 527 (by decide +kernel) (by decide +kernel), gw 528 (by decide +kernel) (by decide +kernel), gw 38 (by decide +kernel) (by decide +kernel), by decide +kernel, by decide +kernel, by decide +kernel⟩
theorem wl_79 : Cond.methodLink RL 79 yX8_coming ∈ lw_good := gw 1005 (by decide +kernel) (by decide +kernel)
set_option maxRecDepth 20000 in
theorem mi_X8_coming : MIv yX8_coming cX8_coming 9 (some .long) 2 := ⟨gw 1008 rfl rfl, gw 1006 (by decide +kernel) (by decide +kernel), gw 1007 (by decide +kernel) (by decide +kernel), gw 44 (by decide +kernel) (by decide +kernel), by decide +kernel, by decide +kernel, by decide +kernel⟩
theorem wl_80 : Cond.methodLink RL 80 yX7_value ∈ lw_good := gw 539 (by decide +kernel) (by decide +kernel)
set_option maxRecDepth 20000 in
theorem mi_X7_value : MIv yX7_value cX7_value 4 (some .long) 2 := ⟨gw 542 rfl rfl, gw 540 (by decide +kernel) (by decide +kernel), gw 541 (by decide +kernel) (by decide +kernel), gw 38 (by decide +kernel) (by decide +kernel), by decide +kernel, by decide +kernel, by decide +kernel⟩
theorem wl_83 : Cond.methodLink RL 83 yX8_value ∈ lw_good := gw 1009 (by decide +kernel) (by decide +kernel)
set_option maxRecDepth 20000 in
theorem mi_X8_value : MIv yX8_value cX8_value 6 (some .long) 2 := ⟨gw 1012 rfl rfl, gw 1010 (by decide +kernel) (by decide +kernel), gw 1011 (by decide +kernel) (by decide +kernel), gw 44 (by decide +kernel) (by decide +kernel), by decide +kernel, by decide +kernel, by decide +kernel⟩
theorem wl_84 : Cond.methodLink RL 84 yX7_yieldOf ∈ lw_good := gw 565 (by decide +kernel) (by decide +kernel)
set_option maxRecDepth 20000 in
theorem mi_X7_yieldOf : MIv yX7_yieldOf cX7_yieldOf 4 (some .long) 2 := ⟨gw 568 rfl rfl, gw 566 (by decide +kernel) (by decide +kernel), gw 567 (by decide +kernel) (by decide +kernel), gw 38 (by decide +kernel) (by decide +kernel), by decide +kernel, by decide +kernel, by decide +kernel⟩
theorem wl_87 : Cond.methodLink RL 87 yX8_yieldOf ∈ lw_good := gw 1034 (by decide +kernel) (by decide +kernel)
set_option maxRecDepth 20000 in
theorem mi_X8_yieldOf : MIv yX8_yieldOf cX8_yieldOf 4 (some .long) 2 := ⟨gw 1037 rfl rfl, gw 1035 (by decide +kernel) (by decide +kernel), gw 1036 (by decide +kernel) (by decide +kernel), gw 44 (by decide +kernel) (by decide +kernel), by decide +kernel, by decide +kernel, by decide +kernel⟩
theorem wl_88 : Cond.methodLink RL 88 yX7_near ∈ lw_good := gw 575 (by decide +kernel) (by decide +kernel)
set_option maxRecDepth 20000 in
theorem mi_X7_near : MIv yX7_near cX7_near 4 (some .int) 2 := ⟨gw 578 rfl rfl, gw 576 (by decide +kernel) (by decide +kernel), gw 577 (by decide +kernel) (by decide +kernel), gw 38 (by decide +kernel) (by decide +kernel), by decide +kernel, by decide +kernel, by decide +kernel⟩
theorem wl_92 : Cond.methodLink RL 92 yX8_near ∈ lw_good := gw 1043 (by decide +kernel) (by decide +kernel)
set_option maxRecDepth 20000 in
theorem mi_X8_near : MIv yX8_near cX8_near 4 (some .int) 2 := ⟨gw 1046 rfl rfl, gw 1044 (by decide +kernel) (by decide +kernel), gw 1045 (by decide +kernel) (by decide +kernel), gw 44 (by decide +kernel) (by decide +kernel), by decide +kernel, by decide +kernel, by decide +kernel⟩
theorem wl_93 : Cond.methodLink RL 93 yX7_duration ∈ lw_good := gw 583 (by decide +kernel) (by decide +kernel)
set_option maxRecDepth 20000 in
theorem mi_X7_duration : MIv yX7_duration cX7_duration 8 (some .long) 2 := ⟨gw 586 rfl rfl, gw 584 (by decide +kernel) (by decide +kernel), gw 585 (by decide +kernel) (by decide +kernel), gw 38 (by decide +kernel) (by decide +kernel), by decide +kernel, by decide +kernel, by decide +kernel⟩
theorem wl_96 : Cond.methodLink RL 96 yX8_duration ∈ lw_good := gw 1057 (by decide +kernel) (by decide +kernel)
set_option maxRecDepth 20000 in
theorem mi_X8_duration : MIv yX8_duration cX8_duration 8 (some .long) 2 := ⟨gw 1060 rfl rfl, gw 1058 (by decide +kernel) (by decide +kernel), gw 1059 (by decide +kernel) (by decide +kernel), gw 44 (by decide +kernel) (by decide +kernel), by decide +kernel, by decide +kernel, by decide +kernel⟩
theorem wl_97 : Cond.methodLink RL 97 yX7_behind ∈ lw_good := gw 591 (by decide +kernel) (by decide +kernel)
set_option maxRecDepth 20000 in
theorem mi_X7_behind : MIv yX7_behind cX7_behind 4 (some .int) 1 := ⟨gw 594 rfl rfl, gw 592 (by decide +kernel) (by decide +kernel), gw 593 (by decide +kernel) (by decide +kernel), gw 38 (by decide +kernel) (by decide +kernel), by decide +kernel, by decide +kernel, by decide +kernel⟩
theorem wl_100 : Cond.methodLink RL 100 yX8_behind ∈ lw_good := gw 1061 (by decide +kernel) (by decide +kernel)
set_option maxRecDepth 20000 in
theorem mi_X8_behind : MIv yX8_behind cX8_behind 4 (some .int) 1 := ⟨gw 1064 rfl rfl, gw 1062 (by decide +kernel) (by decide +kernel), gw 1063 (by decide +kernel) (by decide +kernel), gw 44 (by decide +kernel) (by decide +kernel), by decide +kernel, by decide +kernel, by decide +kernel⟩
theorem wl_101 : Cond.methodLink RL 101 yX7_settles ∈ lw_good := gw 595 (by decide +kernel) (by decide +kernel)
set_option maxRecDepth 20000 in
theorem mi_X7_settles : MIv yX7_settles cX7_settles 3 (some .int) 1 := ⟨gw 598 rfl rfl, gw 596 (by decide +kernel) (by decide +kernel), gw 597 (by decide +kernel) (by decide +kernel), gw 38 (by decide +kernel) (by decide +kernel), by decide +kernel, by decide +kernel, by decide +kernel⟩
theorem wl_104 : Cond.methodLink RL 104 yX8_settles ∈ lw_good := gw 1065 (by decide +kernel) (by decide +kernel)
set_option maxRecDepth 20000 in
theorem mi_X8_settles : MIv yX8_settles cX8_settles 3 (some .int) 1 := ⟨gw 1068 rfl rfl, gw 1066 (by decide +kernel) (by decide +kernel), gw 1067 (by decide +kernel) (by decide +kernel), gw 44 (by decide +kernel) (by decide +kernel), by decide +kernel, by decide +kernel, by decide +kernel⟩
theorem wl_105 : Cond.methodLink RL 105 yX7_would ∈ lw_good := gw 599 (by decide +kernel) (by decide +kernel)
set_option maxRecDepth 20000 in
theorem mi_X7_would : MIv yX7_would cX7_would 10 (some .long) 3 := ⟨gw 602 rfl rfl, gw 600 (by decide +kernel) (by decide +kernel), gw 601 (by decide +kernel) (by decide +kernel), gw 38 (by decide +kernel) (by decide +kernel), by decide +kernel, by decide +kernel, by decide +kernel⟩
theorem wl_109 : Cond.methodLink RL 109 yX8_would ∈ lw_good := gw 1069 (by decide +kernel) (by decide +kernel)
set_option maxRecDepth 20000 in
theorem mi_X8_would : MIv yX8_would cX8_would 5 (some .long) 3 := ⟨gw 1072 rfl rfl, gw 1070 (by decide +kernel) (by decide +kernel), gw 1071 (by decide +kernel) (by decide +kernel), gw 44 (by decide +kernel) (by decide +kernel), by decide +kernel, by decide +kernel, by decide +kernel⟩
theorem wl_110 : Cond.methodLink RL 110 yX7_sooner ∈ lw_good := gw 610 (by decide +kernel) (by decide +kernel)
set_option maxRecDepth 20000 in
theorem mi_X7_sooner : MIv yX7_sooner cX7_sooner 5 (some .int) 2 := ⟨gw 613 rfl rfl, gw 611 (by decide +kernel) (by decide +kernel), gw 612 (by decide +kernel) (by decide +kernel), gw 38 (by decide +kernel) (by decide +kernel), by decide +kernel, by decide +kernel, by decide +kernel⟩
theorem wl_113 : Cond.methodLink RL 113 yX8_sooner ∈ lw_good := gw 1077 (by decide +kernel) (by decide +kernel)
set_option maxRecDepth 20000 in
theorem mi_X8_sooner : MIv yX8_sooner cX8_sooner 6 (some .int) 2 := ⟨gw 1080 rfl rfl, gw 1078 (by decide +kernel) (by decide +kernel), gw 1079 (by decide +kernel) (by decide +kernel), gw 44 (by decide +kernel) (by decide +kernel), by decide +kernel, by decide +kernel, by decide +kernel⟩
theorem wl_114 : Cond.methodLink RL 114 yX7_judge ∈ lw_good := gw 619 (by decide +kernel) (by decide +kernel)
set_option maxRecDepth 20000 in
theorem mi_X7_judge : MIv yX7_judge cX7_judge 6 (some .int) 2 := ⟨gw 622 rfl rfl, gw 620 (by decide +kernel) (by decide +kernel), gw 621 (by decide +kernel) (by decide +kernel), gw 38 (by decide +kernel) (by decide +kernel), by decide +kernel, by decide +kernel, by decide +kernel⟩
theorem wl_117 : Cond.methodLink RL 117 yX8_judge ∈ lw_good := gw 1085 (by decide +kernel) (by decide +kernel)
set_option maxRecDepth 20000 in
theorem mi_X8_judge : MIv yX8_judge cX8_judge 5 (some .int) 2 := ⟨gw 1088 rfl rfl, gw 1086 (by decide +kernel) (by decide +kernel), gw 1087 (by decide +kernel) (by decide +kernel), gw 44 (by decide +kernel) (by decide +kernel), by decide +kernel, by decide +kernel, by decide +kernel⟩
theorem wl_118 : Cond.methodLink RL 118 yX7_feed ∈ lw_good := gw 626 (by decide +kernel) (by decide +kernel)
set_option maxRecDepth 20000 in
theorem mi_X7_feed : MIv yX7_feed cX7_feed 2 (some .int) 1 := ⟨gw 629 rfl rfl, gw 627 (by decide +kernel) (by decide +kernel), gw 628 (by decide +kernel) (by decide +kernel), gw 38 (by decide +kernel) (by decide +kernel), by decide +kernel, by decide +kernel, by decide +kernel⟩
theorem wl_121 : Cond.methodLink RL 121 yX8_feed ∈ lw_good := gw 1093 (by decide +kernel) (by decide +kernel)
set_option maxRecDepth 20000 in
theorem mi_X8_feed : MIv yX8_feed cX8_feed 2 (some .int) 1 := ⟨gw 1096 rfl rfl, gw 1094 (by decide +kernel) (by decide +kernel), gw 1095 (by decide +kernel) (by decide +kernel), gw 44 (by decide +kernel) (by decide +kernel), by decide +kernel, by decide +kernel, by decide +kernel⟩
theorem wl_122 : Cond.methodLink RL 122 yX7_script ∈ lw_good := gw 630 (by decide +kernel) (by decide +kernel)
set_option maxRecDepth 20000 in
theorem mi_X7_script : MIv yX7_script cX7_script 4 (some .int) 0 := ⟨gw 633 rfl rfl, gw 631 (by decide +kernel) (by decide +kernel), gw 632 (by decide +kernel) (by decide +kernel), gw 38 (by decide +kernel) (by decide +kernel), by decide +kernel, by decide +kernel, by decide +kernel⟩
theorem wl_126 : Cond.methodLink RL 126 yX8_script ∈ lw_good := gw 1098 (by decide +kernel) (by decide +kernel)
set_option maxRecDepth 20000 in
theorem mi_X8_script : MIv yX8_script cX8_script 3 (some .int) 0 := ⟨gw 1101 rfl rfl, gw 1099 (by decide +kernel) (by decide +kernel), gw 1100 (by decide +kernel) (by decide +kernel), gw 44 (by decide +kernel) (by decide +kernel), by decide +kernel, by decide +kernel, by decide +kernel⟩
theorem wl_127 : Cond.methodLink RL 127 yX7_image ∈ lw_good := gw 668 (by decide +kernel) (by decide +kernel)
set_option maxRecDepth 20000 in
theorem mi_X7_image : MIv yX7_image cX7_image 1 (some .int) 0 := ⟨gw 671 rfl rfl, gw 669 (by decide +kernel) (by decide +kernel), gw 670 (by decide +kernel) (by decide +kernel), gw 38 (by decide +kernel) (by decide +kernel), by decide +kernel, by decide +kernel, by decide +kernel⟩
theorem wl_130 : Cond.methodLink RL 130 yX8_image ∈ lw_good := gw 1135 (by decide +kernel) (by decide +kernel)
set_option maxRecDepth 20000 in
theorem mi_X8_image : MIv yX8_image cX8_image 1 (some .int) 0 := ⟨gw 1138 rfl rfl, gw 1136 (by decide +kernel) (by decide +kernel), gw 1137 (by decide +kernel) (by decide +kernel), gw 44 (by decide +kernel) (by decide +kernel), by decide +kernel, by decide +kernel, by decide +kernel⟩
theorem wl_131 : Cond.methodLink RL 131 yX7_back ∈ lw_good := gw 672 (by decide +kernel) (by decide +kernel)
set_option maxRecDepth 20000 in
theorem mi_X7_back : MIv yX7_back cX7_back 2 (some .int) 0 := ⟨gw 675 rfl rfl, gw 673 (by decide +kernel) (by decide +kernel), gw 674 (by decide +kernel) (by decide +kernel), gw 38 (by decide +kernel) (by decide +kernel), by decide +kernel, by decide +kernel, by decide +kernel⟩
theorem wl_134 : Cond.methodLink RL 134 yX8_back ∈ lw_good := gw 1139 (by decide +kernel) (by decide +kernel)
set_option maxRecDepth 20000 in
theorem mi_X8_back : MIv yX8_back cX8_back 2 (some .int) 0 := ⟨gw 1142 rfl rfl, gw 1140 (by decide +kernel) (by decide +kernel), gw 1141 (by decide +kernel) (by decide +kernel), gw 44 (by decide +kernel) (by decide +kernel), by decide +kernel, by decide +kernel, by decide +kernel⟩
theorem wl_135 : Cond.methodLink RL 135 yX7_hold ∈ lw_good := gw 676 (by decide +kernel) (by decide +kernel)
set_option maxRecDepth 20000 in
theorem mi_X7_hold : MIv yX7_hold cX7_hold 6 (some .int) 3 := ⟨gw 679 rfl rfl, gw 677 (by decide +kernel) (by decide +kernel), gw 678 (by decide +kernel) (by decide +kernel), gw 38 (by decide +kernel) (by decide +kernel), by decide +kernel, by decide +kernel, by decide +kernel⟩
theorem wl_138 : Cond.methodLink RL 138 yX8_hold ∈ lw_good := gw 1143 (by decide +kernel) (by decide +kernel)
set_option maxRecDepth 20000 in
theorem mi_X8_hold : MIv yX8_hold cX8_hold 4 (some .int) 3 := ⟨gw 1146 rfl rfl, gw 1144 (by decide +kernel) (by decide +kernel), gw 1145 (by decide +kernel) (by decide +kernel), gw 44 (by decide +kernel) (by decide +kernel), by decide +kernel, by decide +kernel, by decide +kernel⟩
theorem wl_139 : Cond.methodLink RL 139 yX7_row ∈ lw_good := gw 689 (by decide +kernel) (by decide +kernel)
set_option maxRecDepth 20000 in
theorem mi_X7_row : MIv yX7_row cX7_row 3 (some .int) 2 := ⟨gw 692 rfl rfl, gw 690 (by decide +kernel) (by decide +kernel), gw 691 (by decide +kernel) (by decide +kernel), gw 38 (by decide +kernel) (by decide +kernel), by decide +kernel, by decide +kernel, by decide +kernel⟩
theorem wl_142 : Cond.methodLink RL 142 yX8_row ∈ lw_good := gw 1147 (by decide +kernel) (by decide +kernel)
set_option maxRecDepth 20000 in
theorem mi_X8_row : MIv yX8_row cX8_row 4 (some .int) 2 := ⟨gw 1150 rfl rfl, gw 1148 (by decide +kernel) (by decide +kernel), gw 1149 (by decide +kernel) (by decide +kernel), gw 44 (by decide +kernel) (by decide +kernel), by decide +kernel, by decide +kernel, by decide +kernel⟩
theorem wl_143 : Cond.methodLink RL 143 yX7_put ∈ lw_good := gw 700 (by decide +kernel) (by decide +kernel)
set_option maxRecDepth 20000 in
theorem mi_X7_put : MIv yX7_put cX7_put 6 (some .int) 3 := ⟨gw 703 rfl rfl, gw 701 (by decide +kernel) (by decide +kernel), gw 702 (by decide +kernel) (by decide +kernel), gw 38 (by decide +kernel) (by decide +kernel), by decide +kernel, by decide +kernel, by decide +kernel⟩
theorem wl_147 : Cond.methodLink RL 147 yX8_put ∈ lw_good := gw 1151 (by decide +kernel) (by decide +kernel)
set_option maxRecDepth 20000 in
theorem mi_X8_put : MIv yX8_put cX8_put 5 (some .int) 3 := ⟨gw 1154 rfl rfl, gw 1152 (by decide +kernel) (by decide +kernel), gw 1153 (by decide +kernel) (by decide +kernel), gw 44 (by decide +kernel) (by decide +kernel), by decide +kernel, by decide +kernel, by decide +kernel⟩
theorem wl_148 : Cond.methodLink RL 148 yX7_tells ∈ lw_good := gw 704 (by decide +kernel) (by decide +kernel)
set_option maxRecDepth 20000 in
theorem mi_X7_tells : MIv yX7_tells cX7_tells 4 (some .long) 2 := ⟨gw 707 rfl rfl, gw 705 (by decide +kernel) (by decide +kernel), gw 706 (by decide +kernel) (by decide +kernel), gw 38 (by decide +kernel) (by decide +kernel), by decide +kernel, by decide +kernel, by decide +kernel⟩
theorem wl_151 : Cond.methodLink RL 151 yX8_tells ∈ lw_good := gw 1155 (by decide +kernel) (by decide +kernel)
set_option maxRecDepth 20000 in
theorem mi_X8_tells : MIv yX8_tells cX8_tells 4 (some .long) 2 := ⟨gw 1158 rfl rfl, gw 1156 (by decide +kernel) (by decide +kernel), gw 1157 (by decide +kernel) (by decide +kernel), gw 44 (by decide +kernel) (by decide +kernel), by decide +kernel, by decide +kernel, by decide +kernel⟩
theorem wl_152 : Cond.methodLink RL 152 yX7_count ∈ lw_good := gw 717 (by decide +kernel) (by decide +kernel)
set_option maxRecDepth 20000 in
theorem mi_X7_count : MIv yX7_count cX7_count 2 (some .int) 1 := ⟨gw 720 rfl rfl, gw 718 (by decide +kernel) (by decide +kernel), gw 719 (by decide +kernel) (by decide +kernel), gw 38 (by decide +kernel) (by decide +kernel), by decide +kernel, by decide +kernel, by decide +kernel⟩
theorem wl_155 : Cond.methodLink RL 155 yX8_count ∈ lw_good := gw 1161 (by decide +kernel) (by decide +kernel)
set_option maxRecDepth 20000 in
theorem mi_X8_count : MIv yX8_count cX8_count 4 (some .int) 1 := ⟨gw 1164 rfl rfl, gw 1162 (by decide +kernel) (by decide +kernel), gw 1163 (by decide +kernel) (by decide +kernel), gw 44 (by decide +kernel) (by decide +kernel), by decide +kernel, by decide +kernel, by decide +kernel⟩
/-! THE LAW, CALL BY CALL -/
/-- two ints as a long -/
def lj (a b : Int32) : Int64 := (a.toInt64 <<< ((32 : Int32).toInt64 &&& 63)) ||| (b.toInt64 &&& 4294967295)
/-- what stays as it is while the law runs -/
def LE (p : Program) (s : State) (m : MethodId) (c : Code) (b L : Nat) (xs : Nat → Int32) (Z : ZT) : Prop := p.tables.exec = Jvm.exec ∧ c.code = cL_law ∧ c.maxLocals = 4 ∧ s.vm.findClass RL = some m.cls ∧ (∀ w ∈ lw_good, w.before #[Value.ref b] s = true) ∧ va_X b L xs s s.heap ∧ b < s.heap.size ∧ va_K Z.2.1 cls7 (tyz Z) s ∧ va_Z "LoanBook$Dates" "DAYS_AHEAD" "[I" (.ref (Z.1 226)) (AH s) s s.heap ∧ va_T .int (Z.1 226) 12 (fun j => .int (daT j)) (AH s) s s.heap ∧ (∀ i j, i < 226 → j < 226 → Z.1 i = Z.1 j → i = j) ∧ va_Nw (.methodLinkNest "LoanBook$Book" 37 ⟨"LoanBook", "isRate", "(I)Z"⟩ "LoanBook") s ∧ va_Nw (.methodLinkNest "LoanBook$Book" 41 ⟨"LoanBook", "isWithin", "(III)Z"⟩ "LoanBook") s ∧ ∀ q, zA Z q → AH s q
def LV (Z : ZT) (b i : Nat) : List (Nat × Value) := [(0, .ref b), (1, .ref (Z.1 0)), (2, .ref (Z.1 202)), (3, .int (nI i))]
/-- behind a call of both: the next turn -/
def LK (p : Program) (l : Launch) (e : Env) (s : State) (m : MethodId) (below : List Frame) (meth : Method) (c : Code) (b i : Nat) (Z : ZT) (cells slots : Nat) (Q : State → Prop) : Prop := ∀ (d : Drawn) (S : St) (H : Heap) (locs : List Loc) (ls : Array Slot), s.drawn.sameBut d lw_cs → Inv S → Rep Z S H → va_S (AH s) s.heap H locs → lv_has ls 4 (LV Z b i) → W p l e room_1 (s.setDrawn d) m #[Value.ref b] below meth c H locs cells slots Q (F0 m 1537 ls [])
section LAW
variable {p : Program} {l : Launch} {e : Env} {s : State} {m : MethodId} {below : List Frame} {meth : Method} {c : Code} {b L i : Nat} {xs : Nat → Int32} {Z : ZT} {cells slots : Nat} {Q : State → Prop} {d0 : Drawn} {H : Heap} {locs : List Loc} {ls : Array Slot} {st : List Value} {S : St}
theorem lw_el (hE : LE p s m c b L xs Z) (hi : i + 7 ≤ L) (hL : L ≤ 3584) (hl : lv_has ls 4 (LV Z b i)) (hS : va_S (AH s) s.heap H locs) {k pc : Nat} (hk : k < 7) {n : Int} (hn : Int32.ofInt n = nI k) (d1 : decode cL_law pc = .ok (.aload_n 0, 1)) (d2 : decode cL_law (pc + 1) = .ok (.iload_n 3, 1)) (d3 : decode cL_law (pc + 2) = .ok (.iconst n, 1)) (d4 : decode cL_law (pc + 3) = .ok (.iadd, 1)) (d5 : decode cL_law (pc + 4) = .ok (.iaload, 1))
    (kk : W p l e room_1 (s.setDrawn d0) m #[Value.ref b] below meth c H locs cells slots Q (F0 m (pc + 5) ls (.int (xs (i + k)) :: st))) : W p l e room_1 (s.setDrawn d0) m #[Value.ref b] below meth c H locs cells slots Q (F0 m pc ls st) := by
  obtain ⟨hx, hb, hml, hown, hts, hX, hbl, -⟩ := hE
  refine lv_aload_n hx hb d1 rfl (lv_at hl 0 rfl) ?_
  refine lv_iload_n hx hb d2 rfl (lv_at hl 3 rfl) ?_
  refine lv_iconst (v := nI k) hx hb d3 hn ?_
  refine lv_iadd hx hb d4 ?_
  rw [nI_add]
  have hX : va_X b L xs (s.setDrawn d0) s.heap := hX
  refine va_sld (A := AH s) hx hb hX hbl (Nat.not_le.mpr hbl) hS (vp_in_nI (n := i + k) (by omega) (by omega)) d5 ?_
  rw [clamp_nI (by omega)]
  exact kk
theorem lw_el6 (hE : LE p s m c b L xs Z) (hi : i + 7 ≤ L) (hL : L ≤ 3584) (hl : lv_has ls 4 (LV Z b i)) (hS : va_S (AH s) s.heap H locs) {k pc : Nat} (hk : k < 7) {n : Int} (hn : (Int8.ofInt n).toInt32 = nI k) (d1 : decode cL_law pc = .ok (.aload_n 0, 1)) (d2 : decode cL_law (pc + 1) = .ok (.iload_n 3, 1)) (d3 : decode cL_law (pc + 2) = .ok (.bipush n, 2)) (d4 : decode cL_law (pc + 4) = .ok (.iadd, 1)) (d5 : decode cL_law (pc + 5) = .ok (.iaload, 1))
    (kk : W p l e room_1 (s.setDrawn d0) m #[Value.ref b] below meth c H locs cells slots Q (F0 m (pc + 6) ls (.int (xs (i + k)) :: st))) : W p l e room_1 (s.setDrawn d0) m #[Value.ref b] below meth c H locs cells slots Q (F0 m pc ls st) := by
  obtain ⟨hx, hb, hml, hown, hts, hX, hbl, -⟩ := hE
  refine lv_aload_n hx hb d1 rfl (lv_at hl 0 rfl) ?_
  refine lv_iload_n hx hb d2 rfl (lv_at hl 3 rfl) ?_
  refine lv_bipush (v := nI k) hx hb d3 hn ?_
  refine lv_iadd hx hb d4 ?_
  rw [nI_add]
  have hX : va_X b L xs (s.setDrawn d0) s.heap := hX
  refine va_sld (A := AH s) hx hb hX hbl (Nat.not_le.mpr hbl) hS (vp_in_nI (n := i + k) (by omega) (by omega)) d5 ?_
  rw [clamp_nI (by omega)]
  exact kk
theorem wl_k23 : Cond.constantLong RL 23 4294967295 ∈ lw_good := gw 1169 (by decide +kernel) (by decide +kernel)
theorem lw_elJ (hE : LE p s m c b L xs Z) (hi : i + 7 ≤ L) (hL : L ≤ 3584) (hl : lv_has ls 4 (LV Z b i)) (hS : va_S (AH s) s.heap H locs) {k pc : Nat} (hk : k + 1 < 7) {n n2 : Int} (hn : Int32.ofInt n = nI k) (hn2 : Int32.ofInt n2 = nI (k + 1)) (d1 : decode cL_law pc = .ok (.aload_n 0, 1)) (d2 : decode cL_law (pc + 1) = .ok (.iload_n 3, 1)) (d3 : decode cL_law (pc + 2) = .ok (.iconst n, 1)) (d4 : decode cL_law (pc + 3) = .ok (.iadd, 1)) (d5 : decode cL_law (pc + 4) = .ok (.iaload, 1)) (d6 : decode cL_law (pc + 5) = .ok (.i2l, 1)) (d7 : decode cL_law (pc + 6) = .ok (.bipush 32, 2)) (d8 : decode cL_law (pc + 8) = .ok (.lshl, 1)) (e1 : decode cL_law (pc + 9) = .ok (.aload_n 0, 1)) (e2 : decode cL_law (pc + 10) = .ok (.iload_n 3, 1)) (e3 : decode cL_law (pc + 11) = .ok (.iconst n2, 1)) (e4 : decode cL_law (pc + 12) = .ok (.iadd, 1)) (e5 : decode cL_law (pc + 13) = .ok (.iaload, 1)) (e6 : decode cL_law (pc + 14) = .ok (.i2l, 1)) (e7 : decode cL_law (pc + 15) = .ok (.ldc2_w 23, 3)) (e8 : decode cL_law (pc + 18) = .ok (.land, 1)) (e9 : decode cL_law (pc + 19) = .ok (.lor, 1))
    (kk : W p l e room_1 (s.setDrawn d0) m #[Value.ref b] below meth c H locs cells slots Q (F0 m (pc + 20) ls (.long (lj (xs (i + k)) (xs (i + (k + 1)))) :: st))) : W p l e room_1 (s.setDrawn d0) m #[Value.ref b] below meth c H locs cells slots Q (F0 m pc ls st) := by
  refine lw_el hE hi hL hl hS (show k < 7 by omega) hn d1 d2 d3 d4 d5 ?_
  have hE2 := hE
  obtain ⟨hx, hb, hml, hown, hts, -⟩ := hE2
  refine lv_i2l hx hb d6 rfl ?_
  refine lv_bipush (v := 32) hx hb d7 (by decide) ?_
  refine lv_lshl hx hb d8 rfl ?_
  refine lw_el hE hi hL hl hS hk hn2 e1 e2 e3 e4 e5 ?_
  refine lv_i2l hx hb e6 rfl ?_
  refine lv_ldc2 (v := 4294967295) hx hb hown (dr_words hts _ _ wl_k23) e7 ?_
  refine lv_land hx hb e8 ?_
  refine lv_lor hx hb e9 ?_
  exact kk
/-- a call of either -/
theorem lw_call (hE : LE p s m c b L xs Z) {idx n ci nL' : Nat} {y : MethodName} {cc' : ByteArray} {rt' : Option FieldType} {rm : Room} {c0 : Nat} (As rest : List Value) {S1 : St} {v : Option Value} {pc : Nat} {T : u_T} {N : Nat} (hM : MetX Z l y cc' nL' rt' rm (.ref c0 :: As) S v S1) (hd : decode cL_law pc = .ok (.invokevirtual idx, 3)) (hi : MIv y cc' nL' rt' n) (hlk : Cond.methodLink RL idx y ∈ lw_good) (hR : RmOK room_1 rm nL') (hc : cls7[ci]? = some (y.cls, T, N)) (hk : (kd0 c0).1 = ci) (hci : ci < 7) (hn : As.length = n) (hl : lv_has ls 4 (LV Z b i)) (hW : (rest.map fun v => v.category).sum ≤ 8) (hP : Rep Z S H) (hS : va_S (AH s) s.heap H locs) (hcs : cells ≤ room_1.cells ∧ slots ≤ room_1.slots)
    (kk : ∀ (H1 : Heap) (locs1 : List Loc), Rep Z S1 H1 → va_S (AH s) s.heap H1 locs1 → W p l e room_1 (s.setDrawn d0) m #[Value.ref b] below meth c H1 locs1 cells slots Q (F0 m (pc + 3) ls (v.toList ++ trs Z rest))) : W p l e room_1 (s.setDrawn d0) m #[Value.ref b] below meth c H locs cells slots Q (F0 m pc ls (trs Z (As.reverse ++ .ref c0 :: rest))) := by
  obtain ⟨hx, hb, hml, hown, hts, hX, hbl, h1, h2, h3, h4, h5, h6, h7⟩ := hE
  exact wx_call (wx_runV (own := RL) (cc := cL_law) (nL := 4) ⟨hx, hb, hml, hown, dr_words hts d0⟩ hM hi hlk hR hc hk hci hn hl.1 hW (fun U hU hW => KS.far (s := s.setDrawn d0) h1 h2 h3 h4 h5 h6 h7 hS hU hW) h1 hP hd hcs) hS h7 kk
set_option maxRecDepth 20000 in
set_option maxHeartbeats 4000000 in
theorem lc_date (hE : LE p s m c b L xs Z) (hL : L ≤ 3584) (hi : i + 7 ≤ L) (hcs : cells ≤ room_1.cells ∧ slots ≤ room_1.slots) (hK : LK p l e s m below meth c b i Z cells slots Q) (hd : s.drawn.sameBut d0 lw_cs) (hI : Inv S) (hP : Rep Z S H) (hS : va_S (AH s) s.heap H locs) (hl : lv_has ls 4 (LV Z b i)) : W p l e room_1 (s.setDrawn d0) m #[Value.ref b] below meth c H locs cells slots Q (F0 m 176 ls []) := by
  obtain ⟨r, S1, S2, h1, h2, hI2⟩ := y_date (xs (i + 1)) (xs (i + 2)) S hI
  have hx := hE.1
  have hb := hE.2.1
  refine lv_aload_n hx hb dL_law_176 rfl (lv_at hl 1 rfl) ?_
  refine lw_el hE hi hL hl hS (k := 1) (by omega) (by decide) dL_law_177 dL_law_178 dL_law_179 dL_law_180 dL_law_181 ?_
  refine lw_el hE hi hL hl hS (k := 2) (by omega) (by decide) dL_law_182 dL_law_183 dL_law_184 dL_law_185 dL_law_186 ?_
  refine lw_call hE [.int (xs (i + 1)), .int (xs (i + 2))] [] (m_X7_date Z l 0 (xs (i + 1)) (xs (i + 2)) S h1) dL_law_187 mi_X7_date wl_13 ⟨Nat.le_of_ble_eq_true rfl, Nat.le_of_ble_eq_true rfl, rfl, rfl⟩ rfl (by rw [kd00]) (by omega) rfl hl (Nat.le_of_ble_eq_true rfl) hP hS hcs (fun H locs hP hS => ?_)
  refine lv_aload_n hx hb dL_law_190 rfl (lv_at hl 2 rfl) ?_
  refine lw_el hE hi hL hl hS (k := 1) (by omega) (by decide) dL_law_191 dL_law_192 dL_law_193 dL_law_194 dL_law_195 ?_
  refine lw_el hE hi hL hl hS (k := 2) (by omega) (by decide) dL_law_196 dL_law_197 dL_law_198 dL_law_199 dL_law_200 ?_
  refine lw_call hE [.int (xs (i + 1)), .int (xs (i + 2))] [.int r] (m_X8_date Z l 202 (xs (i + 1)) (xs (i + 2)) S1 h2) dL_law_201 mi_X8_date wl_17 ⟨Nat.le_of_ble_eq_true rfl, Nat.le_of_ble_eq_true rfl, rfl, rfl⟩ rfl (by rw [kd202]) (by omega) rfl hl (Nat.le_of_ble_eq_true rfl) hP hS hcs (fun H locs hP hS => ?_)
  refine lv_icmp_eq (tgt := 1537) hx hb dL_law_204 (by decide) (fun _ => ?_) (fun hc => absurd rfl hc)
  exact hK d0 S2 H locs ls hd hI2 hP hS hl
set_option maxRecDepth 20000 in
set_option maxHeartbeats 4000000 in
theorem lc_dayOf (hE : LE p s m c b L xs Z) (hL : L ≤ 3584) (hi : i + 7 ≤ L) (hcs : cells ≤ room_1.cells ∧ slots ≤ room_1.slots) (hK : LK p l e s m below meth c b i Z cells slots Q) (hd : s.drawn.sameBut d0 lw_cs) (hI : Inv S) (hP : Rep Z S H) (hS : va_S (AH s) s.heap H locs) (hl : lv_has ls 4 (LV Z b i)) : W p l e room_1 (s.setDrawn d0) m #[Value.ref b] below meth c H locs cells slots Q (F0 m 209 ls []) := by
  obtain ⟨r, S1, S2, h1, h2, hI2⟩ := y_dayOf (xs (i + 1)) (xs (i + 2)) (xs (i + 3)) S hI
  have hx := hE.1
  have hb := hE.2.1
  refine lv_aload_n hx hb dL_law_209 rfl (lv_at hl 1 rfl) ?_
  refine lw_el hE hi hL hl hS (k := 1) (by omega) (by decide) dL_law_210 dL_law_211 dL_law_212 dL_law_213 dL_law_214 ?_
  refine lw_el hE hi hL hl hS (k := 2) (by omega) (by decide) dL_law_215 dL_law_216 dL_law_217 dL_law_218 dL_law_219 ?_
  refine lw_el hE hi hL hl hS (k := 3) (by omega) (by decide) dL_law_220 dL_law_221 dL_law_222 dL_law_223 dL_law_224 ?_
  refine lw_call hE [.int (xs (i + 1)), .int (xs (i + 2)), .int (xs (i + 3))] [] (m_X7_dayOf Z l 0 (xs (i + 1)) (xs (i + 2)) (xs (i + 3)) S h1) dL_law_225 mi_X7_dayOf wl_18 ⟨Nat.le_of_ble_eq_true rfl, Nat.le_of_ble_eq_true rfl, rfl, rfl⟩ rfl (by rw [kd00]) (by omega) rfl hl (Nat.le_of_ble_eq_true rfl) hP hS hcs (fun H locs hP hS => ?_)
  refine lv_aload_n hx hb dL_law_228 rfl (lv_at hl 2 rfl) ?_
  refine lw_el hE hi hL hl hS (k := 1) (by omega) (by decide) dL_law_229 dL_law_230 dL_law_231 dL_law_232 dL_law_233 ?_
  refine lw_el hE hi hL hl hS (k := 2) (by omega) (by decide) dL_law_234 dL_law_235 dL_law_236 dL_law_237 dL_law_238 ?_
  refine lw_el hE hi hL hl hS (k := 3) (by omega) (by decide) dL_law_239 dL_law_240 dL_law_241 dL_law_242 dL_law_243 ?_
  refine lw_call hE [.int (xs (i + 1)), .int (xs (i + 2)), .int (xs (i + 3))] [.int r] (m_X8_dayOf Z l 202 (xs (i + 1)) (xs (i + 2)) (xs (i + 3)) S1 h2) dL_law_244 mi_X8_dayOf wl_22 ⟨Nat.le_of_ble_eq_true rfl, Nat.le_of_ble_eq_true rfl, rfl, rfl⟩ rfl (by rw [kd202]) (by omega) rfl hl (Nat.le_of_ble_eq_true rfl) hP hS hcs (fun H locs hP hS => ?_)
  refine lv_icmp_eq (tgt := 1537) hx hb dL_law_247 (by decide) (fun _ => ?_) (fun hc => absurd rfl hc)
  exact hK d0 S2 H locs ls hd hI2 hP hS hl
set_option maxRecDepth 20000 in
set_option maxHeartbeats 4000000 in
theorem lc_interest (hE : LE p s m c b L xs Z) (hL : L ≤ 3584) (hi : i + 7 ≤ L) (hcs : cells ≤ room_1.cells ∧ slots ≤ room_1.slots) (hK : LK p l e s m below meth c b i Z cells slots Q) (hd : s.drawn.sameBut d0 lw_cs) (hI : Inv S) (hP : Rep Z S H) (hS : va_S (AH s) s.heap H locs) (hl : lv_has ls 4 (LV Z b i)) : W p l e room_1 (s.setDrawn d0) m #[Value.ref b] below meth c H locs cells slots Q (F0 m 252 ls []) := by
  obtain ⟨r, S1, S2, h1, h2, hI2⟩ := y_interest (lj (xs (i + 1)) (xs (i + (1 + 1)))) (xs (i + 3)) (xs (i + 4)) (xs (i + 5)) (xs (i + 6)) S hI
  have hx := hE.1
  have hb := hE.2.1
  refine lv_aload_n hx hb dL_law_252 rfl (lv_at hl 1 rfl) ?_
  refine lw_elJ hE hi hL hl hS (k := 1) (by omega) (by decide) (by decide) dL_law_253 dL_law_254 dL_law_255 dL_law_256 dL_law_257 dL_law_258 dL_law_259 dL_law_261 dL_law_262 dL_law_263 dL_law_264 dL_law_265 dL_law_266 dL_law_267 dL_law_268 dL_law_271 dL_law_272 ?_
  refine lw_el hE hi hL hl hS (k := 3) (by omega) (by decide) dL_law_273 dL_law_274 dL_law_275 dL_law_276 dL_law_277 ?_
  refine lw_el hE hi hL hl hS (k := 4) (by omega) (by decide) dL_law_278 dL_law_279 dL_law_280 dL_law_281 dL_law_282 ?_
  refine lw_el hE hi hL hl hS (k := 5) (by omega) (by decide) dL_law_283 dL_law_284 dL_law_285 dL_law_286 dL_law_287 ?_
  refine lw_el6 hE hi hL hl hS (k := 6) (by omega) (by decide) dL_law_288 dL_law_289 dL_law_290 dL_law_292 dL_law_293 ?_
  refine lw_call hE [.long (lj (xs (i + 1)) (xs (i + (1 + 1)))), .int (xs (i + 3)), .int (xs (i + 4)), .int (xs (i + 5)), .int (xs (i + 6))] [] (m_X7_interest Z l 0 (lj (xs (i + 1)) (xs (i + (1 + 1)))) (xs (i + 3)) (xs (i + 4)) (xs (i + 5)) (xs (i + 6)) S h1) dL_law_294 mi_X7_interest wl_25 ⟨Nat.le_of_ble_eq_true rfl, Nat.le_of_ble_eq_true rfl, rfl, rfl⟩ rfl (by rw [kd00]) (by omega) rfl hl (Nat.le_of_ble_eq_true rfl) hP hS hcs (fun H locs hP hS => ?_)
  refine lv_aload_n hx hb dL_law_297 rfl (lv_at hl 2 rfl) ?_
  refine lw_elJ hE hi hL hl hS (k := 1) (by omega) (by decide) (by decide) dL_law_298 dL_law_299 dL_law_300 dL_law_301 dL_law_302 dL_law_303 dL_law_304 dL_law_306 dL_law_307 dL_law_308 dL_law_309 dL_law_310 dL_law_311 dL_law_312 dL_law_313 dL_law_316 dL_law_317 ?_
  refine lw_el hE hi hL hl hS (k := 3) (by omega) (by decide) dL_law_318 dL_law_319 dL_law_320 dL_law_321 dL_law_322 ?_
  refine lw_el hE hi hL hl hS (k := 4) (by omega) (by decide) dL_law_323 dL_law_324 dL_law_325 dL_law_326 dL_law_327 ?_
  refine lw_el hE hi hL hl hS (k := 5) (by omega) (by decide) dL_law_328 dL_law_329 dL_law_330 dL_law_331 dL_law_332 ?_
  refine lw_el6 hE hi hL hl hS (k := 6) (by omega) (by decide) dL_law_333 dL_law_334 dL_law_335 dL_law_337 dL_law_338 ?_
  refine lw_call hE [.long (lj (xs (i + 1)) (xs (i + (1 + 1)))), .int (xs (i + 3)), .int (xs (i + 4)), .int (xs (i + 5)), .int (xs (i + 6))] [.long r] (m_X8_interest Z l 202 (lj (xs (i + 1)) (xs (i + (1 + 1)))) (xs (i + 3)) (xs (i + 4)) (xs (i + 5)) (xs (i + 6)) S1 h2) dL_law_339 mi_X8_interest wl_29 ⟨Nat.le_of_ble_eq_true rfl, Nat.le_of_ble_eq_true rfl, rfl, rfl⟩ rfl (by rw [kd202]) (by omega) rfl hl (Nat.le_of_ble_eq_true rfl) hP hS hcs (fun H locs hP hS => ?_)
  refine W.lcmp hx hb dL_law_342 ?_
  refine lv_if_eq (tgt := 1537) hx hb dL_law_343 (by decide) (fun _ => ?_) (fun hc => ?_)
  · exact hK d0 S2 H locs ls hd hI2 hP hS hl
  · exact absurd ((lg_cmp_eq r r).mpr rfl) hc
set_option maxRecDepth 20000 in
set_option maxHeartbeats 4000000 in
theorem lc_loan (hE : LE p s m c b L xs Z) (hL : L ≤ 3584) (hi : i + 7 ≤ L) (hcs : cells ≤ room_1.cells ∧ slots ≤ room_1.slots) (hK : LK p l e s m below meth c b i Z cells slots Q) (hd : s.drawn.sameBut d0 lw_cs) (hI : Inv S) (hP : Rep Z S H) (hS : va_S (AH s) s.heap H locs) (hl : lv_has ls 4 (LV Z b i)) : W p l e room_1 (s.setDrawn d0) m #[Value.ref b] below meth c H locs cells slots Q (F0 m 348 ls []) := by
  obtain ⟨r, S1, S2, h1, h2, hI2⟩ := y_loan (lj (xs (i + 1)) (xs (i + (1 + 1)))) (xs (i + 3)) (xs (i + 4)) (xs (i + 5)) S hI
  have hx := hE.1
  have hb := hE.2.1
  refine lv_aload_n hx hb dL_law_348 rfl (lv_at hl 1 rfl) ?_
  refine lw_elJ hE hi hL hl hS (k := 1) (by omega) (by decide) (by decide) dL_law_349 dL_law_350 dL_law_351 dL_law_352 dL_law_353 dL_law_354 dL_law_355 dL_law_357 dL_law_358 dL_law_359 dL_law_360 dL_law_361 dL_law_362 dL_law_363 dL_law_364 dL_law_367 dL_law_368 ?_
  refine lw_el hE hi hL hl hS (k := 3) (by omega) (by decide) dL_law_369 dL_law_370 dL_law_371 dL_law_372 dL_law_373 ?_
  refine lw_el hE hi hL hl hS (k := 4) (by omega) (by decide) dL_law_374 dL_law_375 dL_law_376 dL_law_377 dL_law_378 ?_
  refine lw_el hE hi hL hl hS (k := 5) (by omega) (by decide) dL_law_379 dL_law_380 dL_law_381 dL_law_382 dL_law_383 ?_
  refine lw_call hE [.long (lj (xs (i + 1)) (xs (i + (1 + 1)))), .int (xs (i + 3)), .int (xs (i + 4)), .int (xs (i + 5))] [] (m_X7_loan Z l 0 (lj (xs (i + 1)) (xs (i + (1 + 1)))) (xs (i + 3)) (xs (i + 4)) (xs (i + 5)) S h1) dL_law_384 mi_X7_loan wl_30 ⟨Nat.le_of_ble_eq_true rfl, Nat.le_of_ble_eq_true rfl, rfl, rfl⟩ rfl (by rw [kd00]) (by omega) rfl hl (Nat.le_of_ble_eq_true rfl) hP hS hcs (fun H locs hP hS => ?_)
  refine lv_aload_n hx hb dL_law_387 rfl (lv_at hl 2 rfl) ?_
  refine lw_elJ hE hi hL hl hS (k := 1) (by omega) (by decide) (by decide) dL_law_388 dL_law_389 dL_law_390 dL_law_391 dL_law_392 dL_law_393 dL_law_394 dL_law_396 dL_law_397 dL_law_398 dL_law_399 dL_law_400 dL_law_401 dL_law_402 dL_law_403 dL_law_406 dL_law_407 ?_
  refine lw_el hE hi hL hl hS (k := 3) (by omega) (by decide) dL_law_408 dL_law_409 dL_law_410 dL_law_411 dL_law_412 ?_
  refine lw_el hE hi hL hl hS (k := 4) (by omega) (by decide) dL_law_413 dL_law_414 dL_law_415 dL_law_416 dL_law_417 ?_
  refine lw_el hE hi hL hl hS (k := 5) (by omega) (by decide) dL_law_418 dL_law_419 dL_law_420 dL_law_421 dL_law_422 ?_
  refine lw_call hE [.long (lj (xs (i + 1)) (xs (i + (1 + 1)))), .int (xs (i + 3)), .int (xs (i + 4)), .int (xs (i + 5))] [.int r] (m_X8_loan Z l 202 (lj (xs (i + 1)) (xs (i + (1 + 1)))) (xs (i + 3)) (xs (i + 4)) (xs (i + 5)) S1 h2) dL_law_423 mi_X8_loan wl_34 ⟨Nat.le_of_ble_eq_true rfl, Nat.le_of_ble_eq_true rfl, rfl, rfl⟩ rfl (by rw [kd202]) (by omega) rfl hl (Nat.le_of_ble_eq_true rfl) hP hS hcs (fun H locs hP hS => ?_)
  refine lv_icmp_eq (tgt := 1537) hx hb dL_law_426 (by decide) (fun _ => ?_) (fun hc => absurd rfl hc)
  exact hK d0 S2 H locs ls hd hI2 hP hS hl
set_option maxRecDepth 20000 in
set_option maxHeartbeats 4000000 in
theorem lc_days (hE : LE p s m c b L xs Z) (hL : L ≤ 3584) (hi : i + 7 ≤ L) (hcs : cells ≤ room_1.cells ∧ slots ≤ room_1.slots) (hK : LK p l e s m below meth c b i Z cells slots Q) (hd : s.drawn.sameBut d0 lw_cs) (hI : Inv S) (hP : Rep Z S H) (hS : va_S (AH s) s.heap H locs) (hl : lv_has ls 4 (LV Z b i)) : W p l e room_1 (s.setDrawn d0) m #[Value.ref b] below meth c H locs cells slots Q (F0 m 431 ls []) := by
  obtain ⟨r, S1, S2, h1, h2, hI2⟩ := y_days (xs (i + 1)) S hI
  have hx := hE.1
  have hb := hE.2.1
  refine lv_aload_n hx hb dL_law_431 rfl (lv_at hl 1 rfl) ?_
  refine lw_el hE hi hL hl hS (k := 1) (by omega) (by decide) dL_law_432 dL_law_433 dL_law_434 dL_law_435 dL_law_436 ?_
  refine lw_call hE [.int (xs (i + 1))] [] (m_X7_days Z l 0 (xs (i + 1)) S h1) dL_law_437 mi_X7_days wl_35 ⟨Nat.le_of_ble_eq_true rfl, Nat.le_of_ble_eq_true rfl, rfl, rfl⟩ rfl (by rw [kd00]) (by omega) rfl hl (Nat.le_of_ble_eq_true rfl) hP hS hcs (fun H locs hP hS => ?_)
  refine lv_aload_n hx hb dL_law_440 rfl (lv_at hl 2 rfl) ?_
  refine lw_el hE hi hL hl hS (k := 1) (by omega) (by decide) dL_law_441 dL_law_442 dL_law_443 dL_law_444 dL_law_445 ?_
  refine lw_call hE [.int (xs (i + 1))] [.int r] (m_X8_days Z l 202 (xs (i + 1)) S1 h2) dL_law_446 mi_X8_days wl_39 ⟨Nat.le_of_ble_eq_true rfl, Nat.le_of_ble_eq_true rfl, rfl, rfl⟩ rfl (by rw [kd202]) (by omega) rfl hl (Nat.le_of_ble_eq_true rfl) hP hS hcs (fun H locs hP hS => ?_)
  refine lv_icmp_eq (tgt := 1537) hx hb dL_law_449 (by decide) (fun _ => ?_) (fun hc => absurd rfl hc)
  exact hK d0 S2 H locs ls hd hI2 hP hS hl
set_option maxRecDepth 20000 in
set_option maxHeartbeats 4000000 in
theorem lc_pay (hE : LE p s m c b L xs Z) (hL : L ≤ 3584) (hi : i + 7 ≤ L) (hcs : cells ≤ room_1.cells ∧ slots ≤ room_1.slots) (hK : LK p l e s m below meth c b i Z cells slots Q) (hd : s.drawn.sameBut d0 lw_cs) (hI : Inv S) (hP : Rep Z S H) (hS : va_S (AH s) s.heap H locs) (hl : lv_has ls 4 (LV Z b i)) : W p l e room_1 (s.setDrawn d0) m #[Value.ref b] below meth c H locs cells slots Q (F0 m 454 ls []) := by
  obtain ⟨r, S1, S2, h1, h2, hI2⟩ := y_pay (xs (i + 1)) (lj (xs (i + 2)) (xs (i + (2 + 1)))) S hI
  have hx := hE.1
  have hb := hE.2.1
  refine lv_aload_n hx hb dL_law_454 rfl (lv_at hl 1 rfl) ?_
  refine lw_el hE hi hL hl hS (k := 1) (by omega) (by decide) dL_law_455 dL_law_456 dL_law_457 dL_law_458 dL_law_459 ?_
  refine lw_elJ hE hi hL hl hS (k := 2) (by omega) (by decide) (by decide) dL_law_460 dL_law_461 dL_law_462 dL_law_463 dL_law_464 dL_law_465 dL_law_466 dL_law_468 dL_law_469 dL_law_470 dL_law_471 dL_law_472 dL_law_473 dL_law_474 dL_law_475 dL_law_478 dL_law_479 ?_
  refine lw_call hE [.int (xs (i + 1)), .long (lj (xs (i + 2)) (xs (i + (2 + 1))))] [] (m_X7_pay Z l 0 (xs (i + 1)) (lj (xs (i + 2)) (xs (i + (2 + 1)))) S h1) dL_law_480 mi_X7_pay wl_40 ⟨Nat.le_of_ble_eq_true rfl, Nat.le_of_ble_eq_true rfl, rfl, rfl⟩ rfl (by rw [kd00]) (by omega) rfl hl (Nat.le_of_ble_eq_true rfl) hP hS hcs (fun H locs hP hS => ?_)
  refine lv_aload_n hx hb dL_law_483 rfl (lv_at hl 2 rfl) ?_
  refine lw_el hE hi hL hl hS (k := 1) (by omega) (by decide) dL_law_484 dL_law_485 dL_law_486 dL_law_487 dL_law_488 ?_
  refine lw_elJ hE hi hL hl hS (k := 2) (by omega) (by decide) (by decide) dL_law_489 dL_law_490 dL_law_491 dL_law_492 dL_law_493 dL_law_494 dL_law_495 dL_law_497 dL_law_498 dL_law_499 dL_law_500 dL_law_501 dL_law_502 dL_law_503 dL_law_504 dL_law_507 dL_law_508 ?_
  refine lw_call hE [.int (xs (i + 1)), .long (lj (xs (i + 2)) (xs (i + (2 + 1))))] [.long r] (m_X8_pay Z l 202 (xs (i + 1)) (lj (xs (i + 2)) (xs (i + (2 + 1)))) S1 h2) dL_law_509 mi_X8_pay wl_44 ⟨Nat.le_of_ble_eq_true rfl, Nat.le_of_ble_eq_true rfl, rfl, rfl⟩ rfl (by rw [kd202]) (by omega) rfl hl (Nat.le_of_ble_eq_true rfl) hP hS hcs (fun H locs hP hS => ?_)
  refine W.lcmp hx hb dL_law_512 ?_
  refine lv_if_eq (tgt := 1537) hx hb dL_law_513 (by decide) (fun _ => ?_) (fun hc => ?_)
  · exact hK d0 S2 H locs ls hd hI2 hP hS hl
  · exact absurd ((lg_cmp_eq r r).mpr rfl) hc
set_option maxRecDepth 20000 in
set_option maxHeartbeats 4000000 in
theorem lc_reset (hE : LE p s m c b L xs Z) (hL : L ≤ 3584) (hi : i + 7 ≤ L) (hcs : cells ≤ room_1.cells ∧ slots ≤ room_1.slots) (hK : LK p l e s m below meth c b i Z cells slots Q) (hd : s.drawn.sameBut d0 lw_cs) (hI : Inv S) (hP : Rep Z S H) (hS : va_S (AH s) s.heap H locs) (hl : lv_has ls 4 (LV Z b i)) : W p l e room_1 (s.setDrawn d0) m #[Value.ref b] below meth c H locs cells slots Q (F0 m 518 ls []) := by
  obtain ⟨r, S1, S2, h1, h2, hI2⟩ := y_reset (xs (i + 1)) (xs (i + 2)) S hI
  have hx := hE.1
  have hb := hE.2.1
  refine lv_aload_n hx hb dL_law_518 rfl (lv_at hl 1 rfl) ?_
  refine lw_el hE hi hL hl hS (k := 1) (by omega) (by decide) dL_law_519 dL_law_520 dL_law_521 dL_law_522 dL_law_523 ?_
  refine lw_el hE hi hL hl hS (k := 2) (by omega) (by decide) dL_law_524 dL_law_525 dL_law_526 dL_law_527 dL_law_528 ?_
  refine lw_call hE [.int (xs (i + 1)), .int (xs (i + 2))] [] (m_X7_reset Z l 0 (xs (i + 1)) (xs (i + 2)) S h1) dL_law_529 mi_X7_reset wl_45 ⟨Nat.le_of_ble_eq_true rfl, Nat.le_of_ble_eq_true rfl, rfl, rfl⟩ rfl (by rw [kd00]) (by omega) rfl hl (Nat.le_of_ble_eq_true rfl) hP hS hcs (fun H locs hP hS => ?_)
  refine lv_aload_n hx hb dL_law_532 rfl (lv_at hl 2 rfl) ?_
  refine lw_el hE hi hL hl hS (k := 1) (by omega) (by decide) dL_law_533 dL_law_534 dL_law_535 dL_law_536 dL_law_537 ?_
  refine lw_el hE hi hL hl hS (k := 2) (by omega) (by decide) dL_law_538 dL_law_539 dL_law_540 dL_law_541 dL_law_542 ?_
  refine lw_call hE [.int (xs (i + 1)), .int (xs (i + 2))] [.long r] (m_X8_reset Z l 202 (xs (i + 1)) (xs (i + 2)) S1 h2) dL_law_543 mi_X8_reset wl_49 ⟨Nat.le_of_ble_eq_true rfl, Nat.le_of_ble_eq_true rfl, rfl, rfl⟩ rfl (by rw [kd202]) (by omega) rfl hl (Nat.le_of_ble_eq_true rfl) hP hS hcs (fun H locs hP hS => ?_)
  refine W.lcmp hx hb dL_law_546 ?_
  refine lv_if_eq (tgt := 1537) hx hb dL_law_547 (by decide) (fun _ => ?_) (fun hc => ?_)
  · exact hK d0 S2 H locs ls hd hI2 hP hS hl
  · exact absurd ((lg_cmp_eq r r).mpr rfl) hc
set_option maxRecDepth 20000 in
set_option maxHeartbeats 4000000 in
theorem lc_writeOff (hE : LE p s m c b L xs Z) (hL : L ≤ 3584) (hi : i + 7 ≤ L) (hcs : cells ≤ room_1.cells ∧ slots ≤ room_1.slots) (hK : LK p l e s m below meth c b i Z cells slots Q) (hd : s.drawn.sameBut d0 lw_cs) (hI : Inv S) (hP : Rep Z S H) (hS : va_S (AH s) s.heap H locs) (hl : lv_has ls 4 (LV Z b i)) : W p l e room_1 (s.setDrawn d0) m #[Value.ref b] below meth c H locs cells slots Q (F0 m 552 ls []) := by
  obtain ⟨r, S1, S2, h1, h2, hI2⟩ := y_writeOff (xs (i + 1)) S hI
  have hx := hE.1
  have hb := hE.2.1
  refine lv_aload_n hx hb dL_law_552 rfl (lv_at hl 1 rfl) ?_
  refine lw_el hE hi hL hl hS (k := 1) (by omega) (by decide) dL_law_553 dL_law_554 dL_law_555 dL_law_556 dL_law_557 ?_
  refine lw_call hE [.int (xs (i + 1))] [] (m_X7_writeOff Z l 0 (xs (i + 1)) S h1) dL_law_558 mi_X7_writeOff wl_50 ⟨Nat.le_of_ble_eq_true rfl, Nat.le_of_ble_eq_true rfl, rfl, rfl⟩ rfl (by rw [kd00]) (by omega) rfl hl (Nat.le_of_ble_eq_true rfl) hP hS hcs (fun H locs hP hS => ?_)
  refine lv_aload_n hx hb dL_law_561 rfl (lv_at hl 2 rfl) ?_
  refine lw_el hE hi hL hl hS (k := 1) (by omega) (by decide) dL_law_562 dL_law_563 dL_law_564 dL_law_565 dL_law_566 ?_
  refine lw_call hE [.int (xs (i + 1))] [.long r] (m_X8_writeOff Z l 202 (xs (i + 1)) S1 h2) dL_law_567 mi_X8_writeOff wl_54 ⟨Nat.le_of_ble_eq_true rfl, Nat.le_of_ble_eq_true rfl, rfl, rfl⟩ rfl (by rw [kd202]) (by omega) rfl hl (Nat.le_of_ble_eq_true rfl) hP hS hcs (fun H locs hP hS => ?_)
  refine W.lcmp hx hb dL_law_570 ?_
  refine lv_if_eq (tgt := 1537) hx hb dL_law_571 (by decide) (fun _ => ?_) (fun hc => ?_)
  · exact hK d0 S2 H locs ls hd hI2 hP hS hl
  · exact absurd ((lg_cmp_eq r r).mpr rfl) hc
set_option maxRecDepth 20000 in
set_option maxHeartbeats 4000000 in
theorem lc_rule (hE : LE p s m c b L xs Z) (hL : L ≤ 3584) (hi : i + 7 ≤ L) (hcs : cells ≤ room_1.cells ∧ slots ≤ room_1.slots) (hK : LK p l e s m below meth c b i Z cells slots Q) (hd : s.drawn.sameBut d0 lw_cs) (hI : Inv S) (hP : Rep Z S H) (hS : va_S (AH s) s.heap H locs) (hl : lv_has ls 4 (LV Z b i)) : W p l e room_1 (s.setDrawn d0) m #[Value.ref b] below meth c H locs cells slots Q (F0 m 576 ls []) := by
  obtain ⟨r, S1, S2, h1, h2, hI2⟩ := y_rule (xs (i + 1)) (xs (i + 2)) S hI
  have hx := hE.1
  have hb := hE.2.1
  refine lv_aload_n hx hb dL_law_576 rfl (lv_at hl 1 rfl) ?_
  refine lw_el hE hi hL hl hS (k := 1) (by omega) (by decide) dL_law_577 dL_law_578 dL_law_579 dL_law_580 dL_law_581 ?_
  refine lw_el hE hi hL hl hS (k := 2) (by omega) (by decide) dL_law_582 dL_law_583 dL_law_584 dL_law_585 dL_law_586 ?_
  refine lw_call hE [.int (xs (i + 1)), .int (xs (i + 2))] [] (m_X7_rule Z l 0 (xs (i + 1)) (xs (i + 2)) S h1) dL_law_587 mi_X7_rule wl_55 ⟨Nat.le_of_ble_eq_true rfl, Nat.le_of_ble_eq_true rfl, rfl, rfl⟩ rfl (by rw [kd00]) (by omega) rfl hl (Nat.le_of_ble_eq_true rfl) hP hS hcs (fun H locs hP hS => ?_)
  refine lv_aload_n hx hb dL_law_590 rfl (lv_at hl 2 rfl) ?_
  refine lw_el hE hi hL hl hS (k := 1) (by omega) (by decide) dL_law_591 dL_law_592 dL_law_593 dL_law_594 dL_law_595 ?_
  refine lw_el hE hi hL hl hS (k := 2) (by omega) (by decide) dL_law_596 dL_law_597 dL_law_598 dL_law_599 dL_law_600 ?_
  refine lw_call hE [.int (xs (i + 1)), .int (xs (i + 2))] [.int r] (m_X8_rule Z l 202 (xs (i + 1)) (xs (i + 2)) S1 h2) dL_law_601 mi_X8_rule wl_58 ⟨Nat.le_of_ble_eq_true rfl, Nat.le_of_ble_eq_true rfl, rfl, rfl⟩ rfl (by rw [kd202]) (by omega) rfl hl (Nat.le_of_ble_eq_true rfl) hP hS hcs (fun H locs hP hS => ?_)
  refine lv_icmp_eq (tgt := 1537) hx hb dL_law_604 (by decide) (fun _ => ?_) (fun hc => absurd rfl hc)
  exact hK d0 S2 H locs ls hd hI2 hP hS hl
set_option maxRecDepth 20000 in
set_option maxHeartbeats 4000000 in
theorem lc_of (hE : LE p s m c b L xs Z) (hL : L ≤ 3584) (hi : i + 7 ≤ L) (hcs : cells ≤ room_1.cells ∧ slots ≤ room_1.slots) (hK : LK p l e s m below meth c b i Z cells slots Q) (hd : s.drawn.sameBut d0 lw_cs) (hI : Inv S) (hP : Rep Z S H) (hS : va_S (AH s) s.heap H locs) (hl : lv_has ls 4 (LV Z b i)) : W p l e room_1 (s.setDrawn d0) m #[Value.ref b] below meth c H locs cells slots Q (F0 m 609 ls []) := by
  obtain ⟨r, S1, S2, h1, h2, hI2⟩ := y_of (xs (i + 1)) (xs (i + 2)) S hI
  have hx := hE.1
  have hb := hE.2.1
  refine lv_aload_n hx hb dL_law_609 rfl (lv_at hl 1 rfl) ?_
  refine lw_el hE hi hL hl hS (k := 1) (by omega) (by decide) dL_law_610 dL_law_611 dL_law_612 dL_law_613 dL_law_614 ?_
  refine lw_el hE hi hL hl hS (k := 2) (by omega) (by decide) dL_law_615 dL_law_616 dL_law_617 dL_law_618 dL_law_619 ?_
  refine lw_call hE [.int (xs (i + 1)), .int (xs (i + 2))] [] (m_X7_of Z l 0 (xs (i + 1)) (xs (i + 2)) S h1) dL_law_620 mi_X7_of wl_59 ⟨Nat.le_of_ble_eq_true rfl, Nat.le_of_ble_eq_true rfl, rfl, rfl⟩ rfl (by rw [kd00]) (by omega) rfl hl (Nat.le_of_ble_eq_true rfl) hP hS hcs (fun H locs hP hS => ?_)
  refine lv_aload_n hx hb dL_law_623 rfl (lv_at hl 2 rfl) ?_
  refine lw_el hE hi hL hl hS (k := 1) (by omega) (by decide) dL_law_624 dL_law_625 dL_law_626 dL_law_627 dL_law_628 ?_
  refine lw_el hE hi hL hl hS (k := 2) (by omega) (by decide) dL_law_629 dL_law_630 dL_law_631 dL_law_632 dL_law_633 ?_
  refine lw_call hE [.int (xs (i + 1)), .int (xs (i + 2))] [.int r] (m_X8_of Z l 202 (xs (i + 1)) (xs (i + 2)) S1 h2) dL_law_634 mi_X8_of wl_62 ⟨Nat.le_of_ble_eq_true rfl, Nat.le_of_ble_eq_true rfl, rfl, rfl⟩ rfl (by rw [kd202]) (by omega) rfl hl (Nat.le_of_ble_eq_true rfl) hP hS hcs (fun H locs hP hS => ?_)
  refine lv_icmp_eq (tgt := 1537) hx hb dL_law_637 (by decide) (fun _ => ?_) (fun hc => absurd rfl hc)
  exact hK d0 S2 H locs ls hd hI2 hP hS hl
set_option maxRecDepth 20000 in
set_option maxHeartbeats 4000000 in
theorem lc_sum (hE : LE p s m c b L xs Z) (hL : L ≤ 3584) (hi : i + 7 ≤ L) (hcs : cells ≤ room_1.cells ∧ slots ≤ room_1.slots) (hK : LK p l e s m below meth c b i Z cells slots Q) (hd : s.drawn.sameBut d0 lw_cs) (hI : Inv S) (hP : Rep Z S H) (hS : va_S (AH s) s.heap H locs) (hl : lv_has ls 4 (LV Z b i)) : W p l e room_1 (s.setDrawn d0) m #[Value.ref b] below meth c H locs cells slots Q (F0 m 642 ls []) := by
  obtain ⟨r, S1, S2, h1, h2, hI2⟩ := y_sum (xs (i + 1)) (xs (i + 2)) S hI
  have hx := hE.1
  have hb := hE.2.1
  refine lv_aload_n hx hb dL_law_642 rfl (lv_at hl 1 rfl) ?_
  refine lw_el hE hi hL hl hS (k := 1) (by omega) (by decide) dL_law_643 dL_law_644 dL_law_645 dL_law_646 dL_law_647 ?_
  refine lw_el hE hi hL hl hS (k := 2) (by omega) (by decide) dL_law_648 dL_law_649 dL_law_650 dL_law_651 dL_law_652 ?_
  refine lw_call hE [.int (xs (i + 1)), .int (xs (i + 2))] [] (m_X7_sum Z l 0 (xs (i + 1)) (xs (i + 2)) S h1) dL_law_653 mi_X7_sum wl_63 ⟨Nat.le_of_ble_eq_true rfl, Nat.le_of_ble_eq_true rfl, rfl, rfl⟩ rfl (by rw [kd00]) (by omega) rfl hl (Nat.le_of_ble_eq_true rfl) hP hS hcs (fun H locs hP hS => ?_)
  refine lv_aload_n hx hb dL_law_656 rfl (lv_at hl 2 rfl) ?_
  refine lw_el hE hi hL hl hS (k := 1) (by omega) (by decide) dL_law_657 dL_law_658 dL_law_659 dL_law_660 dL_law_661 ?_
  refine lw_el hE hi hL hl hS (k := 2) (by omega) (by decide) dL_law_662 dL_law_663 dL_law_664 dL_law_665 dL_law_666 ?_
  refine lw_call hE [.int (xs (i + 1)), .int (xs (i + 2))] [.long r] (m_X8_sum Z l 202 (xs (i + 1)) (xs (i + 2)) S1 h2) dL_law_667 mi_X8_sum wl_66 ⟨Nat.le_of_ble_eq_true rfl, Nat.le_of_ble_eq_true rfl, rfl, rfl⟩ rfl (by rw [kd202]) (by omega) rfl hl (Nat.le_of_ble_eq_true rfl) hP hS hcs (fun H locs hP hS => ?_)
  refine W.lcmp hx hb dL_law_670 ?_
  refine lv_if_eq (tgt := 1537) hx hb dL_law_671 (by decide) (fun _ => ?_) (fun hc => ?_)
  · exact hK d0 S2 H locs ls hd hI2 hP hS hl
  · exact absurd ((lg_cmp_eq r r).mpr rfl) hc
set_option maxRecDepth 20000 in
set_option maxHeartbeats 4000000 in
theorem lc_bill (hE : LE p s m c b L xs Z) (hL : L ≤ 3584) (hi : i + 7 ≤ L) (hcs : cells ≤ room_1.cells ∧ slots ≤ room_1.slots) (hK : LK p l e s m below meth c b i Z cells slots Q) (hd : s.drawn.sameBut d0 lw_cs) (hI : Inv S) (hP : Rep Z S H) (hS : va_S (AH s) s.heap H locs) (hl : lv_has ls 4 (LV Z b i)) : W p l e room_1 (s.setDrawn d0) m #[Value.ref b] below meth c H locs cells slots Q (F0 m 676 ls []) := by
  obtain ⟨r, S1, S2, h1, h2, hI2⟩ := y_bill (xs (i + 1)) (xs (i + 2)) (xs (i + 3)) S hI
  have hx := hE.1
  have hb := hE.2.1
  refine lv_aload_n hx hb dL_law_676 rfl (lv_at hl 1 rfl) ?_
  refine lw_el hE hi hL hl hS (k := 1) (by omega) (by decide) dL_law_677 dL_law_678 dL_law_679 dL_law_680 dL_law_681 ?_
  refine lw_el hE hi hL hl hS (k := 2) (by omega) (by decide) dL_law_682 dL_law_683 dL_law_684 dL_law_685 dL_law_686 ?_
  refine lw_el hE hi hL hl hS (k := 3) (by omega) (by decide) dL_law_687 dL_law_688 dL_law_689 dL_law_690 dL_law_691 ?_
  refine lw_call hE [.int (xs (i + 1)), .int (xs (i + 2)), .int (xs (i + 3))] [] (m_X7_bill Z l 0 (xs (i + 1)) (xs (i + 2)) (xs (i + 3)) S h1) dL_law_692 mi_X7_bill wl_67 ⟨Nat.le_of_ble_eq_true rfl, Nat.le_of_ble_eq_true rfl, rfl, rfl⟩ rfl (by rw [kd00]) (by omega) rfl hl (Nat.le_of_ble_eq_true rfl) hP hS hcs (fun H locs hP hS => ?_)
  refine lv_aload_n hx hb dL_law_695 rfl (lv_at hl 2 rfl) ?_
  refine lw_el hE hi hL hl hS (k := 1) (by omega) (by decide) dL_law_696 dL_law_697 dL_law_698 dL_law_699 dL_law_700 ?_
  refine lw_el hE hi hL hl hS (k := 2) (by omega) (by decide) dL_law_701 dL_law_702 dL_law_703 dL_law_704 dL_law_705 ?_
  refine lw_el hE hi hL hl hS (k := 3) (by omega) (by decide) dL_law_706 dL_law_707 dL_law_708 dL_law_709 dL_law_710 ?_
  refine lw_call hE [.int (xs (i + 1)), .int (xs (i + 2)), .int (xs (i + 3))] [.long r] (m_X8_bill Z l 202 (xs (i + 1)) (xs (i + 2)) (xs (i + 3)) S1 h2) dL_law_711 mi_X8_bill wl_71 ⟨Nat.le_of_ble_eq_true rfl, Nat.le_of_ble_eq_true rfl, rfl, rfl⟩ rfl (by rw [kd202]) (by omega) rfl hl (Nat.le_of_ble_eq_true rfl) hP hS hcs (fun H locs hP hS => ?_)
  refine W.lcmp hx hb dL_law_714 ?_
  refine lv_if_eq (tgt := 1537) hx hb dL_law_715 (by decide) (fun _ => ?_) (fun hc => ?_)
  · exact hK d0 S2 H locs ls hd hI2 hP hS hl
  · exact absurd ((lg_cmp_eq r r).mpr rfl) hc
set_option maxRecDepth 20000 in
set_option maxHeartbeats 4000000 in
theorem lc_toCome (hE : LE p s m c b L xs Z) (hL : L ≤ 3584) (hi : i + 7 ≤ L) (hcs : cells ≤ room_1.cells ∧ slots ≤ room_1.slots) (hK : LK p l e s m below meth c b i Z cells slots Q) (hd : s.drawn.sameBut d0 lw_cs) (hI : Inv S) (hP : Rep Z S H) (hS : va_S (AH s) s.heap H locs) (hl : lv_has ls 4 (LV Z b i)) : W p l e room_1 (s.setDrawn d0) m #[Value.ref b] below meth c H locs cells slots Q (F0 m 720 ls []) := by
  obtain ⟨r, S1, S2, h1, h2, hI2⟩ := y_toCome (xs (i + 1)) (xs (i + 2)) (xs (i + 3)) S hI
  have hx := hE.1
  have hb := hE.2.1
  refine lv_aload_n hx hb dL_law_720 rfl (lv_at hl 1 rfl) ?_
  refine lw_el hE hi hL hl hS (k := 1) (by omega) (by decide) dL_law_721 dL_law_722 dL_law_723 dL_law_724 dL_law_725 ?_
  refine lw_el hE hi hL hl hS (k := 2) (by omega) (by decide) dL_law_726 dL_law_727 dL_law_728 dL_law_729 dL_law_730 ?_
  refine lw_el hE hi hL hl hS (k := 3) (by omega) (by decide) dL_law_731 dL_law_732 dL_law_733 dL_law_734 dL_law_735 ?_
  refine lw_call hE [.int (xs (i + 1)), .int (xs (i + 2)), .int (xs (i + 3))] [] (m_X7_toCome Z l 0 (xs (i + 1)) (xs (i + 2)) (xs (i + 3)) S h1) dL_law_736 mi_X7_toCome wl_72 ⟨Nat.le_of_ble_eq_true rfl, Nat.le_of_ble_eq_true rfl, rfl, rfl⟩ rfl (by rw [kd00]) (by omega) rfl hl (Nat.le_of_ble_eq_true rfl) hP hS hcs (fun H locs hP hS => ?_)
  refine lv_aload_n hx hb dL_law_739 rfl (lv_at hl 2 rfl) ?_
  refine lw_el hE hi hL hl hS (k := 1) (by omega) (by decide) dL_law_740 dL_law_741 dL_law_742 dL_law_743 dL_law_744 ?_
  refine lw_el hE hi hL hl hS (k := 2) (by omega) (by decide) dL_law_745 dL_law_746 dL_law_747 dL_law_748 dL_law_749 ?_
  refine lw_el hE hi hL hl hS (k := 3) (by omega) (by decide) dL_law_750 dL_law_751 dL_law_752 dL_law_753 dL_law_754 ?_
  refine lw_call hE [.int (xs (i + 1)), .int (xs (i + 2)), .int (xs (i + 3))] [.long r] (m_X8_toCome Z l 202 (xs (i + 1)) (xs (i + 2)) (xs (i + 3)) S1 h2) dL_law_755 mi_X8_toCome wl_75 ⟨Nat.le_of_ble_eq_true rfl, Nat.le_of_ble_eq_true rfl, rfl, rfl⟩ rfl (by rw [kd202]) (by omega) rfl hl (Nat.le_of_ble_eq_true rfl) hP hS hcs (fun H locs hP hS => ?_)
  refine W.lcmp hx hb dL_law_758 ?_
  refine lv_if_eq (tgt := 1537) hx hb dL_law_759 (by decide) (fun _ => ?_) (fun hc => ?_)
  · exact hK d0 S2 H locs ls hd hI2 hP hS hl
  · exact absurd ((lg_cmp_eq r r).mpr rfl) hc
set_option maxRecDepth 20000 in
set_option maxHeartbeats 4000000 in
theorem lc_coming (hE : LE p s m c b L xs Z) (hL : L ≤ 3584) (hi : i + 7 ≤ L) (hcs : cells ≤ room_1.cells ∧ slots ≤ room_1.slots) (hK : LK p l e s m below meth c b i Z cells slots Q) (hd : s.drawn.sameBut d0 lw_cs) (hI : Inv S) (hP : Rep Z S H) (hS : va_S (AH s) s.heap H locs) (hl : lv_has ls 4 (LV Z b i)) : W p l e room_1 (s.setDrawn d0) m #[Value.ref b] below meth c H locs cells slots Q (F0 m 764 ls []) := by
  obtain ⟨r, S1, S2, h1, h2, hI2⟩ := y_coming (xs (i + 1)) (xs (i + 2)) S hI
  have hx := hE.1
  have hb := hE.2.1
  refine lv_aload_n hx hb dL_law_764 rfl (lv_at hl 1 rfl) ?_
  refine lw_el hE hi hL hl hS (k := 1) (by omega) (by decide) dL_law_765 dL_law_766 dL_law_767 dL_law_768 dL_law_769 ?_
  refine lw_el hE hi hL hl hS (k := 2) (by omega) (by decide) dL_law_770 dL_law_771 dL_law_772 dL_law_773 dL_law_774 ?_
  refine lw_call hE [.int (xs (i + 1)), .int (xs (i + 2))] [] (m_X7_coming Z l 0 (xs (i + 1)) (xs (i + 2)) S h1) dL_law_775 mi_X7_coming wl_76 ⟨Nat.le_of_ble_eq_true rfl, Nat.le_of_ble_eq_true rfl, rfl, rfl⟩ rfl (by rw [kd00]) (by omega) rfl hl (Nat.le_of_ble_eq_true rfl) hP hS hcs (fun H locs hP hS => ?_)
  refine lv_aload_n hx hb dL_law_778 rfl (lv_at hl 2 rfl) ?_
  refine lw_el hE hi hL hl hS (k := 1) (by omega) (by decide) dL_law_779 dL_law_780 dL_law_781 dL_law_782 dL_law_783 ?_
  refine lw_el hE hi hL hl hS (k := 2) (by omega) (by decide) dL_law_784 dL_law_785 dL_law_786 dL_law_787 dL_law_788 ?_
  refine lw_call hE [.int (xs (i + 1)), .int (xs (i + 2))] [.long r] (m_X8_coming Z l 202 (xs (i + 1)) (xs (i + 2)) S1 h2) dL_law_789 mi_X8_coming wl_79 ⟨Nat.le_of_ble_eq_true rfl, Nat.le_of_ble_eq_true rfl, rfl, rfl⟩ rfl (by rw [kd202]) (by omega) rfl hl (Nat.le_of_ble_eq_true rfl) hP hS hcs (fun H locs hP hS => ?_)
  refine W.lcmp hx hb dL_law_792 ?_
  refine lv_if_eq (tgt := 1537) hx hb dL_law_793 (by decide) (fun _ => ?_) (fun hc => ?_)
  · exact hK d0 S2 H locs ls hd hI2 hP hS hl
  · exact absurd ((lg_cmp_eq r r).mpr rfl) hc
set_option maxRecDepth 20000 in
set_option maxHeartbeats 4000000 in
theorem lc_value (hE : LE p s m c b L xs Z) (hL : L ≤ 3584) (hi : i + 7 ≤ L) (hcs : cells ≤ room_1.cells ∧ slots ≤ room_1.slots) (hK : LK p l e s m below meth c b i Z cells slots Q) (hd : s.drawn.sameBut d0 lw_cs) (hI : Inv S) (hP : Rep Z S H) (hS : va_S (AH s) s.heap H locs) (hl : lv_has ls 4 (LV Z b i)) (hv : vn_snl2d (lj (xs (i + 2)) (xs (i + (2 + 1)))) = false) : W p l e room_1 (s.setDrawn d0) m #[Value.ref b] below meth c H locs cells slots Q (F0 m 798 ls []) := by
  obtain ⟨r, S1, S2, h1, h2, hI2⟩ := y_value (xs (i + 1)) (lj (xs (i + 2)) (xs (i + (2 + 1)))) hv S hI
  have hx := hE.1
  have hb := hE.2.1
  refine lv_aload_n hx hb dL_law_798 rfl (lv_at hl 1 rfl) ?_
  refine lw_el hE hi hL hl hS (k := 1) (by omega) (by decide) dL_law_799 dL_law_800 dL_law_801 dL_law_802 dL_law_803 ?_
  refine lw_elJ hE hi hL hl hS (k := 2) (by omega) (by decide) (by decide) dL_law_804 dL_law_805 dL_law_806 dL_law_807 dL_law_808 dL_law_809 dL_law_810 dL_law_812 dL_law_813 dL_law_814 dL_law_815 dL_law_816 dL_law_817 dL_law_818 dL_law_819 dL_law_822 dL_law_823 ?_
  refine lw_call hE [.int (xs (i + 1)), .long (lj (xs (i + 2)) (xs (i + (2 + 1))))] [] (m_X7_value Z l 0 (xs (i + 1)) (lj (xs (i + 2)) (xs (i + (2 + 1)))) S h1) dL_law_824 mi_X7_value wl_80 ⟨Nat.le_of_ble_eq_true rfl, Nat.le_of_ble_eq_true rfl, rfl, rfl⟩ rfl (by rw [kd00]) (by omega) rfl hl (Nat.le_of_ble_eq_true rfl) hP hS hcs (fun H locs hP hS => ?_)
  refine lv_aload_n hx hb dL_law_827 rfl (lv_at hl 2 rfl) ?_
  refine lw_el hE hi hL hl hS (k := 1) (by omega) (by decide) dL_law_828 dL_law_829 dL_law_830 dL_law_831 dL_law_832 ?_
  refine lw_elJ hE hi hL hl hS (k := 2) (by omega) (by decide) (by decide) dL_law_833 dL_law_834 dL_law_835 dL_law_836 dL_law_837 dL_law_838 dL_law_839 dL_law_841 dL_law_842 dL_law_843 dL_law_844 dL_law_845 dL_law_846 dL_law_847 dL_law_848 dL_law_851 dL_law_852 ?_
  refine lw_call hE [.int (xs (i + 1)), .long (lj (xs (i + 2)) (xs (i + (2 + 1))))] [.long r] (m_X8_value Z l 202 (xs (i + 1)) (lj (xs (i + 2)) (xs (i + (2 + 1)))) S1 h2) dL_law_853 mi_X8_value wl_83 ⟨Nat.le_of_ble_eq_true rfl, Nat.le_of_ble_eq_true rfl, rfl, rfl⟩ rfl (by rw [kd202]) (by omega) rfl hl (Nat.le_of_ble_eq_true rfl) hP hS hcs (fun H locs hP hS => ?_)
  refine W.lcmp hx hb dL_law_856 ?_
  refine lv_if_eq (tgt := 1537) hx hb dL_law_857 (by decide) (fun _ => ?_) (fun hc => ?_)
  · exact hK d0 S2 H locs ls hd hI2 hP hS hl
  · exact absurd ((lg_cmp_eq r r).mpr rfl) hc
set_option maxRecDepth 20000 in
set_option maxHeartbeats 4000000 in
theorem lc_yieldOf (hE : LE p s m c b L xs Z) (hL : L ≤ 3584) (hi : i + 7 ≤ L) (hcs : cells ≤ room_1.cells ∧ slots ≤ room_1.slots) (hK : LK p l e s m below meth c b i Z cells slots Q) (hd : s.drawn.sameBut d0 lw_cs) (hI : Inv S) (hP : Rep Z S H) (hS : va_S (AH s) s.heap H locs) (hl : lv_has ls 4 (LV Z b i)) : W p l e room_1 (s.setDrawn d0) m #[Value.ref b] below meth c H locs cells slots Q (F0 m 862 ls []) := by
  obtain ⟨r, S1, S2, h1, h2, hI2⟩ := y_yieldOf (xs (i + 1)) (lj (xs (i + 2)) (xs (i + (2 + 1)))) S hI
  have hx := hE.1
  have hb := hE.2.1
  refine lv_aload_n hx hb dL_law_862 rfl (lv_at hl 1 rfl) ?_
  refine lw_el hE hi hL hl hS (k := 1) (by omega) (by decide) dL_law_863 dL_law_864 dL_law_865 dL_law_866 dL_law_867 ?_
  refine lw_elJ hE hi hL hl hS (k := 2) (by omega) (by decide) (by decide) dL_law_868 dL_law_869 dL_law_870 dL_law_871 dL_law_872 dL_law_873 dL_law_874 dL_law_876 dL_law_877 dL_law_878 dL_law_879 dL_law_880 dL_law_881 dL_law_882 dL_law_883 dL_law_886 dL_law_887 ?_
  refine lw_call hE [.int (xs (i + 1)), .long (lj (xs (i + 2)) (xs (i + (2 + 1))))] [] (m_X7_yieldOf Z l 0 (xs (i + 1)) (lj (xs (i + 2)) (xs (i + (2 + 1)))) S h1) dL_law_888 mi_X7_yieldOf wl_84 ⟨Nat.le_of_ble_eq_true rfl, Nat.le_of_ble_eq_true rfl, rfl, rfl⟩ rfl (by rw [kd00]) (by omega) rfl hl (Nat.le_of_ble_eq_true rfl) hP hS hcs (fun H locs hP hS => ?_)
  refine lv_aload_n hx hb dL_law_891 rfl (lv_at hl 2 rfl) ?_
  refine lw_el hE hi hL hl hS (k := 1) (by omega) (by decide) dL_law_892 dL_law_893 dL_law_894 dL_law_895 dL_law_896 ?_
  refine lw_elJ hE hi hL hl hS (k := 2) (by omega) (by decide) (by decide) dL_law_897 dL_law_898 dL_law_899 dL_law_900 dL_law_901 dL_law_902 dL_law_903 dL_law_905 dL_law_906 dL_law_907 dL_law_908 dL_law_909 dL_law_910 dL_law_911 dL_law_912 dL_law_915 dL_law_916 ?_
  refine lw_call hE [.int (xs (i + 1)), .long (lj (xs (i + 2)) (xs (i + (2 + 1))))] [.long r] (m_X8_yieldOf Z l 202 (xs (i + 1)) (lj (xs (i + 2)) (xs (i + (2 + 1)))) S1 h2) dL_law_917 mi_X8_yieldOf wl_87 ⟨Nat.le_of_ble_eq_true rfl, Nat.le_of_ble_eq_true rfl, rfl, rfl⟩ rfl (by rw [kd202]) (by omega) rfl hl (Nat.le_of_ble_eq_true rfl) hP hS hcs (fun H locs hP hS => ?_)
  refine W.lcmp hx hb dL_law_920 ?_
  refine lv_if_eq (tgt := 1537) hx hb dL_law_921 (by decide) (fun _ => ?_) (fun hc => ?_)
  · exact hK d0 S2 H locs ls hd hI2 hP hS hl
  · exact absurd ((lg_cmp_eq r r).mpr rfl) hc
set_option maxRecDepth 20000 in
set_option maxHeartbeats 4000000 in
theorem lc_near (hE : LE p s m c b L xs Z) (hL : L ≤ 3584) (hi : i + 7 ≤ L) (hcs : cells ≤ room_1.cells ∧ slots ≤ room_1.slots) (hK : LK p l e s m below meth c b i Z cells slots Q) (hd : s.drawn.sameBut d0 lw_cs) (hI : Inv S) (hP : Rep Z S H) (hS : va_S (AH s) s.heap H locs) (hl : lv_has ls 4 (LV Z b i)) : W p l e room_1 (s.setDrawn d0) m #[Value.ref b] below meth c H locs cells slots Q (F0 m 926 ls []) := by
  obtain ⟨r, S1, S2, h1, h2, hI2⟩ := y_near (xs (i + 1)) (lj (xs (i + 2)) (xs (i + (2 + 1)))) S hI
  have hx := hE.1
  have hb := hE.2.1
  refine lv_aload_n hx hb dL_law_926 rfl (lv_at hl 1 rfl) ?_
  refine lw_el hE hi hL hl hS (k := 1) (by omega) (by decide) dL_law_927 dL_law_928 dL_law_929 dL_law_930 dL_law_931 ?_
  refine lw_elJ hE hi hL hl hS (k := 2) (by omega) (by decide) (by decide) dL_law_932 dL_law_933 dL_law_934 dL_law_935 dL_law_936 dL_law_937 dL_law_938 dL_law_940 dL_law_941 dL_law_942 dL_law_943 dL_law_944 dL_law_945 dL_law_946 dL_law_947 dL_law_950 dL_law_951 ?_
  refine lw_call hE [.int (xs (i + 1)), .long (lj (xs (i + 2)) (xs (i + (2 + 1))))] [] (m_X7_near Z l 0 (xs (i + 1)) (lj (xs (i + 2)) (xs (i + (2 + 1)))) S h1) dL_law_952 mi_X7_near wl_88 ⟨Nat.le_of_ble_eq_true rfl, Nat.le_of_ble_eq_true rfl, rfl, rfl⟩ rfl (by rw [kd00]) (by omega) rfl hl (Nat.le_of_ble_eq_true rfl) hP hS hcs (fun H locs hP hS => ?_)
  refine lv_aload_n hx hb dL_law_955 rfl (lv_at hl 2 rfl) ?_
  refine lw_el hE hi hL hl hS (k := 1) (by omega) (by decide) dL_law_956 dL_law_957 dL_law_958 dL_law_959 dL_law_960 ?_
  refine lw_elJ hE hi hL hl hS (k := 2) (by omega) (by decide) (by decide) dL_law_961 dL_law_962 dL_law_963 dL_law_964 dL_law_965 dL_law_966 dL_law_967 dL_law_969 dL_law_970 dL_law_971 dL_law_972 dL_law_973 dL_law_974 dL_law_975 dL_law_976 dL_law_979 dL_law_980 ?_
  refine lw_call hE [.int (xs (i + 1)), .long (lj (xs (i + 2)) (xs (i + (2 + 1))))] [.int r] (m_X8_near Z l 202 (xs (i + 1)) (lj (xs (i + 2)) (xs (i + (2 + 1)))) S1 h2) dL_law_981 mi_X8_near wl_92 ⟨Nat.le_of_ble_eq_true rfl, Nat.le_of_ble_eq_true rfl, rfl, rfl⟩ rfl (by rw [kd202]) (by omega) rfl hl (Nat.le_of_ble_eq_true rfl) hP hS hcs (fun H locs hP hS => ?_)
  refine lv_icmp_eq (tgt := 1537) hx hb dL_law_984 (by decide) (fun _ => ?_) (fun hc => absurd rfl hc)
  exact hK d0 S2 H locs ls hd hI2 hP hS hl
set_option maxRecDepth 20000 in
set_option maxHeartbeats 4000000 in
theorem lc_duration (hE : LE p s m c b L xs Z) (hL : L ≤ 3584) (hi : i + 7 ≤ L) (hcs : cells ≤ room_1.cells ∧ slots ≤ room_1.slots) (hK : LK p l e s m below meth c b i Z cells slots Q) (hd : s.drawn.sameBut d0 lw_cs) (hI : Inv S) (hP : Rep Z S H) (hS : va_S (AH s) s.heap H locs) (hl : lv_has ls 4 (LV Z b i)) (hv : vn_snl2d (lj (xs (i + 2)) (xs (i + (2 + 1)))) = false) : W p l e room_1 (s.setDrawn d0) m #[Value.ref b] below meth c H locs cells slots Q (F0 m 989 ls []) := by
  obtain ⟨r, S1, S2, h1, h2, hI2⟩ := y_duration (xs (i + 1)) (lj (xs (i + 2)) (xs (i + (2 + 1)))) hv S hI
  have hx := hE.1
  have hb := hE.2.1
  refine lv_aload_n hx hb dL_law_989 rfl (lv_at hl 1 rfl) ?_
  refine lw_el hE hi hL hl hS (k := 1) (by omega) (by decide) dL_law_990 dL_law_991 dL_law_992 dL_law_993 dL_law_994 ?_
  refine lw_elJ hE hi hL hl hS (k := 2) (by omega) (by decide) (by decide) dL_law_995 dL_law_996 dL_law_997 dL_law_998 dL_law_999 dL_law_1000 dL_law_1001 dL_law_1003 dL_law_1004 dL_law_1005 dL_law_1006 dL_law_1007 dL_law_1008 dL_law_1009 dL_law_1010 dL_law_1013 dL_law_1014 ?_
  refine lw_call hE [.int (xs (i + 1)), .long (lj (xs (i + 2)) (xs (i + (2 + 1))))] [] (m_X7_duration Z l 0 (xs (i + 1)) (lj (xs (i + 2)) (xs (i + (2 + 1)))) S h1) dL_law_1015 mi_X7_duration wl_93 ⟨Nat.le_of_ble_eq_true rfl, Nat.le_of_ble_eq_true rfl, rfl, rfl⟩ rfl (by rw [kd00]) (by omega) rfl hl (Nat.le_of_ble_eq_true rfl) hP hS hcs (fun H locs hP hS => ?_)
  refine lv_aload_n hx hb dL_law_1018 rfl (lv_at hl 2 rfl) ?_
  refine lw_el hE hi hL hl hS (k := 1) (by omega) (by decide) dL_law_1019 dL_law_1020 dL_law_1021 dL_law_1022 dL_law_1023 ?_
  refine lw_elJ hE hi hL hl hS (k := 2) (by omega) (by decide) (by decide) dL_law_1024 dL_law_1025 dL_law_1026 dL_law_1027 dL_law_1028 dL_law_1029 dL_law_1030 dL_law_1032 dL_law_1033 dL_law_1034 dL_law_1035 dL_law_1036 dL_law_1037 dL_law_1038 dL_law_1039 dL_law_1042 dL_law_1043 ?_
  refine lw_call hE [.int (xs (i + 1)), .long (lj (xs (i + 2)) (xs (i + (2 + 1))))] [.long r] (m_X8_duration Z l 202 (xs (i + 1)) (lj (xs (i + 2)) (xs (i + (2 + 1)))) S1 h2) dL_law_1044 mi_X8_duration wl_96 ⟨Nat.le_of_ble_eq_true rfl, Nat.le_of_ble_eq_true rfl, rfl, rfl⟩ rfl (by rw [kd202]) (by omega) rfl hl (Nat.le_of_ble_eq_true rfl) hP hS hcs (fun H locs hP hS => ?_)
  refine W.lcmp hx hb dL_law_1047 ?_
  refine lv_if_eq (tgt := 1537) hx hb dL_law_1048 (by decide) (fun _ => ?_) (fun hc => ?_)
  · exact hK d0 S2 H locs ls hd hI2 hP hS hl
  · exact absurd ((lg_cmp_eq r r).mpr rfl) hc
set_option maxRecDepth 20000 in
set_option maxHeartbeats 4000000 in
theorem lc_behind (hE : LE p s m c b L xs Z) (hL : L ≤ 3584) (hi : i + 7 ≤ L) (hcs : cells ≤ room_1.cells ∧ slots ≤ room_1.slots) (hK : LK p l e s m below meth c b i Z cells slots Q) (hd : s.drawn.sameBut d0 lw_cs) (hI : Inv S) (hP : Rep Z S H) (hS : va_S (AH s) s.heap H locs) (hl : lv_has ls 4 (LV Z b i)) : W p l e room_1 (s.setDrawn d0) m #[Value.ref b] below meth c H locs cells slots Q (F0 m 1053 ls []) := by
  obtain ⟨r, S1, S2, h1, h2, hI2⟩ := y_behind (xs (i + 1)) S hI
  have hx := hE.1
  have hb := hE.2.1
  refine lv_aload_n hx hb dL_law_1053 rfl (lv_at hl 1 rfl) ?_
  refine lw_el hE hi hL hl hS (k := 1) (by omega) (by decide) dL_law_1054 dL_law_1055 dL_law_1056 dL_law_1057 dL_law_1058 ?_
  refine lw_call hE [.int (xs (i + 1))] [] (m_X7_behind Z l 0 (xs (i + 1)) S h1) dL_law_1059 mi_X7_behind wl_97 ⟨Nat.le_of_ble_eq_true rfl, Nat.le_of_ble_eq_true rfl, rfl, rfl⟩ rfl (by rw [kd00]) (by omega) rfl hl (Nat.le_of_ble_eq_true rfl) hP hS hcs (fun H locs hP hS => ?_)
  refine lv_aload_n hx hb dL_law_1062 rfl (lv_at hl 2 rfl) ?_
  refine lw_el hE hi hL hl hS (k := 1) (by omega) (by decide) dL_law_1063 dL_law_1064 dL_law_1065 dL_law_1066 dL_law_1067 ?_
  refine lw_call hE [.int (xs (i + 1))] [.int r] (m_X8_behind Z l 202 (xs (i + 1)) S1 h2) dL_law_1068 mi_X8_behind wl_100 ⟨Nat.le_of_ble_eq_true rfl, Nat.le_of_ble_eq_true rfl, rfl, rfl⟩ rfl (by rw [kd202]) (by omega) rfl hl (Nat.le_of_ble_eq_true rfl) hP hS hcs (fun H locs hP hS => ?_)
  refine lv_icmp_eq (tgt := 1537) hx hb dL_law_1071 (by decide) (fun _ => ?_) (fun hc => absurd rfl hc)
  exact hK d0 S2 H locs ls hd hI2 hP hS hl
set_option maxRecDepth 20000 in
set_option maxHeartbeats 4000000 in
theorem lc_settles (hE : LE p s m c b L xs Z) (hL : L ≤ 3584) (hi : i + 7 ≤ L) (hcs : cells ≤ room_1.cells ∧ slots ≤ room_1.slots) (hK : LK p l e s m below meth c b i Z cells slots Q) (hd : s.drawn.sameBut d0 lw_cs) (hI : Inv S) (hP : Rep Z S H) (hS : va_S (AH s) s.heap H locs) (hl : lv_has ls 4 (LV Z b i)) : W p l e room_1 (s.setDrawn d0) m #[Value.ref b] below meth c H locs cells slots Q (F0 m 1076 ls []) := by
  obtain ⟨r, S1, S2, h1, h2, hI2⟩ := y_settles (xs (i + 1)) S hI
  have hx := hE.1
  have hb := hE.2.1
  refine lv_aload_n hx hb dL_law_1076 rfl (lv_at hl 1 rfl) ?_
  refine lw_el hE hi hL hl hS (k := 1) (by omega) (by decide) dL_law_1077 dL_law_1078 dL_law_1079 dL_law_1080 dL_law_1081 ?_
  refine lw_call hE [.int (xs (i + 1))] [] (m_X7_settles Z l 0 (xs (i + 1)) S h1) dL_law_1082 mi_X7_settles wl_101 ⟨Nat.le_of_ble_eq_true rfl, Nat.le_of_ble_eq_true rfl, rfl, rfl⟩ rfl (by rw [kd00]) (by omega) rfl hl (Nat.le_of_ble_eq_true rfl) hP hS hcs (fun H locs hP hS => ?_)
  refine lv_aload_n hx hb dL_law_1085 rfl (lv_at hl 2 rfl) ?_
  refine lw_el hE hi hL hl hS (k := 1) (by omega) (by decide) dL_law_1086 dL_law_1087 dL_law_1088 dL_law_1089 dL_law_1090 ?_
  refine lw_call hE [.int (xs (i + 1))] [.int r] (m_X8_settles Z l 202 (xs (i + 1)) S1 h2) dL_law_1091 mi_X8_settles wl_104 ⟨Nat.le_of_ble_eq_true rfl, Nat.le_of_ble_eq_true rfl, rfl, rfl⟩ rfl (by rw [kd202]) (by omega) rfl hl (Nat.le_of_ble_eq_true rfl) hP hS hcs (fun H locs hP hS => ?_)
  refine lv_icmp_eq (tgt := 1537) hx hb dL_law_1094 (by decide) (fun _ => ?_) (fun hc => absurd rfl hc)
  exact hK d0 S2 H locs ls hd hI2 hP hS hl
set_option maxRecDepth 20000 in
set_option maxHeartbeats 4000000 in
theorem lc_would (hE : LE p s m c b L xs Z) (hL : L ≤ 3584) (hi : i + 7 ≤ L) (hcs : cells ≤ room_1.cells ∧ slots ≤ room_1.slots) (hK : LK p l e s m below meth c b i Z cells slots Q) (hd : s.drawn.sameBut d0 lw_cs) (hI : Inv S) (hP : Rep Z S H) (hS : va_S (AH s) s.heap H locs) (hl : lv_has ls 4 (LV Z b i)) : W p l e room_1 (s.setDrawn d0) m #[Value.ref b] below meth c H locs cells slots Q (F0 m 1099 ls []) := by
  obtain ⟨r, S1, S2, h1, h2, hI2⟩ := y_would (xs (i + 1)) (lj (xs (i + 2)) (xs (i + (2 + 1)))) (xs (i + 4)) S hI
  have hx := hE.1
  have hb := hE.2.1
  refine lv_aload_n hx hb dL_law_1099 rfl (lv_at hl 1 rfl) ?_
  refine lw_el hE hi hL hl hS (k := 1) (by omega) (by decide) dL_law_1100 dL_law_1101 dL_law_1102 dL_law_1103 dL_law_1104 ?_
  refine lw_elJ hE hi hL hl hS (k := 2) (by omega) (by decide) (by decide) dL_law_1105 dL_law_1106 dL_law_1107 dL_law_1108 dL_law_1109 dL_law_1110 dL_law_1111 dL_law_1113 dL_law_1114 dL_law_1115 dL_law_1116 dL_law_1117 dL_law_1118 dL_law_1119 dL_law_1120 dL_law_1123 dL_law_1124 ?_
  refine lw_el hE hi hL hl hS (k := 4) (by omega) (by decide) dL_law_1125 dL_law_1126 dL_law_1127 dL_law_1128 dL_law_1129 ?_
  refine lw_call hE [.int (xs (i + 1)), .long (lj (xs (i + 2)) (xs (i + (2 + 1)))), .int (xs (i + 4))] [] (m_X7_would Z l 0 (xs (i + 1)) (lj (xs (i + 2)) (xs (i + (2 + 1)))) (xs (i + 4)) S h1) dL_law_1130 mi_X7_would wl_105 ⟨Nat.le_of_ble_eq_true rfl, Nat.le_of_ble_eq_true rfl, rfl, rfl⟩ rfl (by rw [kd00]) (by omega) rfl hl (Nat.le_of_ble_eq_true rfl) hP hS hcs (fun H locs hP hS => ?_)
  refine lv_aload_n hx hb dL_law_1133 rfl (lv_at hl 2 rfl) ?_
  refine lw_el hE hi hL hl hS (k := 1) (by omega) (by decide) dL_law_1134 dL_law_1135 dL_law_1136 dL_law_1137 dL_law_1138 ?_
  refine lw_elJ hE hi hL hl hS (k := 2) (by omega) (by decide) (by decide) dL_law_1139 dL_law_1140 dL_law_1141 dL_law_1142 dL_law_1143 dL_law_1144 dL_law_1145 dL_law_1147 dL_law_1148 dL_law_1149 dL_law_1150 dL_law_1151 dL_law_1152 dL_law_1153 dL_law_1154 dL_law_1157 dL_law_1158 ?_
  refine lw_el hE hi hL hl hS (k := 4) (by omega) (by decide) dL_law_1159 dL_law_1160 dL_law_1161 dL_law_1162 dL_law_1163 ?_
  refine lw_call hE [.int (xs (i + 1)), .long (lj (xs (i + 2)) (xs (i + (2 + 1)))), .int (xs (i + 4))] [.long r] (m_X8_would Z l 202 (xs (i + 1)) (lj (xs (i + 2)) (xs (i + (2 + 1)))) (xs (i + 4)) S1 h2) dL_law_1164 mi_X8_would wl_109 ⟨Nat.le_of_ble_eq_true rfl, Nat.le_of_ble_eq_true rfl, rfl, rfl⟩ rfl (by rw [kd202]) (by omega) rfl hl (Nat.le_of_ble_eq_true rfl) hP hS hcs (fun H locs hP hS => ?_)
  refine W.lcmp hx hb dL_law_1167 ?_
  refine lv_if_eq (tgt := 1537) hx hb dL_law_1168 (by decide) (fun _ => ?_) (fun hc => ?_)
  · exact hK d0 S2 H locs ls hd hI2 hP hS hl
  · exact absurd ((lg_cmp_eq r r).mpr rfl) hc
set_option maxRecDepth 20000 in
set_option maxHeartbeats 4000000 in
theorem lc_sooner (hE : LE p s m c b L xs Z) (hL : L ≤ 3584) (hi : i + 7 ≤ L) (hcs : cells ≤ room_1.cells ∧ slots ≤ room_1.slots) (hK : LK p l e s m below meth c b i Z cells slots Q) (hd : s.drawn.sameBut d0 lw_cs) (hI : Inv S) (hP : Rep Z S H) (hS : va_S (AH s) s.heap H locs) (hl : lv_has ls 4 (LV Z b i)) : W p l e room_1 (s.setDrawn d0) m #[Value.ref b] below meth c H locs cells slots Q (F0 m 1173 ls []) := by
  obtain ⟨r, S1, S2, h1, h2, hI2⟩ := y_sooner (xs (i + 1)) (lj (xs (i + 2)) (xs (i + (2 + 1)))) S hI
  have hx := hE.1
  have hb := hE.2.1
  refine lv_aload_n hx hb dL_law_1173 rfl (lv_at hl 1 rfl) ?_
  refine lw_el hE hi hL hl hS (k := 1) (by omega) (by decide) dL_law_1174 dL_law_1175 dL_law_1176 dL_law_1177 dL_law_1178 ?_
  refine lw_elJ hE hi hL hl hS (k := 2) (by omega) (by decide) (by decide) dL_law_1179 dL_law_1180 dL_law_1181 dL_law_1182 dL_law_1183 dL_law_1184 dL_law_1185 dL_law_1187 dL_law_1188 dL_law_1189 dL_law_1190 dL_law_1191 dL_law_1192 dL_law_1193 dL_law_1194 dL_law_1197 dL_law_1198 ?_
  refine lw_call hE [.int (xs (i + 1)), .long (lj (xs (i + 2)) (xs (i + (2 + 1))))] [] (m_X7_sooner Z l 0 (xs (i + 1)) (lj (xs (i + 2)) (xs (i + (2 + 1)))) S h1) dL_law_1199 mi_X7_sooner wl_110 ⟨Nat.le_of_ble_eq_true rfl, Nat.le_of_ble_eq_true rfl, rfl, rfl⟩ rfl (by rw [kd00]) (by omega) rfl hl (Nat.le_of_ble_eq_true rfl) hP hS hcs (fun H locs hP hS => ?_)
  refine lv_aload_n hx hb dL_law_1202 rfl (lv_at hl 2 rfl) ?_
  refine lw_el hE hi hL hl hS (k := 1) (by omega) (by decide) dL_law_1203 dL_law_1204 dL_law_1205 dL_law_1206 dL_law_1207 ?_
  refine lw_elJ hE hi hL hl hS (k := 2) (by omega) (by decide) (by decide) dL_law_1208 dL_law_1209 dL_law_1210 dL_law_1211 dL_law_1212 dL_law_1213 dL_law_1214 dL_law_1216 dL_law_1217 dL_law_1218 dL_law_1219 dL_law_1220 dL_law_1221 dL_law_1222 dL_law_1223 dL_law_1226 dL_law_1227 ?_
  refine lw_call hE [.int (xs (i + 1)), .long (lj (xs (i + 2)) (xs (i + (2 + 1))))] [.int r] (m_X8_sooner Z l 202 (xs (i + 1)) (lj (xs (i + 2)) (xs (i + (2 + 1)))) S1 h2) dL_law_1228 mi_X8_sooner wl_113 ⟨Nat.le_of_ble_eq_true rfl, Nat.le_of_ble_eq_true rfl, rfl, rfl⟩ rfl (by rw [kd202]) (by omega) rfl hl (Nat.le_of_ble_eq_true rfl) hP hS hcs (fun H locs hP hS => ?_)
  refine lv_icmp_eq (tgt := 1537) hx hb dL_law_1231 (by decide) (fun _ => ?_) (fun hc => absurd rfl hc)
  exact hK d0 S2 H locs ls hd hI2 hP hS hl
set_option maxRecDepth 20000 in
set_option maxHeartbeats 4000000 in
theorem lc_judge (hE : LE p s m c b L xs Z) (hL : L ≤ 3584) (hi : i + 7 ≤ L) (hcs : cells ≤ room_1.cells ∧ slots ≤ room_1.slots) (hK : LK p l e s m below meth c b i Z cells slots Q) (hd : s.drawn.sameBut d0 lw_cs) (hI : Inv S) (hP : Rep Z S H) (hS : va_S (AH s) s.heap H locs) (hl : lv_has ls 4 (LV Z b i)) : W p l e room_1 (s.setDrawn d0) m #[Value.ref b] below meth c H locs cells slots Q (F0 m 1236 ls []) := by
  obtain ⟨r, S1, S2, h1, h2, hI2⟩ := y_judge (xs (i + 1)) (xs (i + 2)) S hI
  have hx := hE.1
  have hb := hE.2.1
  refine lv_aload_n hx hb dL_law_1236 rfl (lv_at hl 1 rfl) ?_
  refine lw_el hE hi hL hl hS (k := 1) (by omega) (by decide) dL_law_1237 dL_law_1238 dL_law_1239 dL_law_1240 dL_law_1241 ?_
  refine lw_el hE hi hL hl hS (k := 2) (by omega) (by decide) dL_law_1242 dL_law_1243 dL_law_1244 dL_law_1245 dL_law_1246 ?_
  refine lw_call hE [.int (xs (i + 1)), .int (xs (i + 2))] [] (m_X7_judge Z l 0 (xs (i + 1)) (xs (i + 2)) S h1) dL_law_1247 mi_X7_judge wl_114 ⟨Nat.le_of_ble_eq_true rfl, Nat.le_of_ble_eq_true rfl, rfl, rfl⟩ rfl (by rw [kd00]) (by omega) rfl hl (Nat.le_of_ble_eq_true rfl) hP hS hcs (fun H locs hP hS => ?_)
  refine lv_aload_n hx hb dL_law_1250 rfl (lv_at hl 2 rfl) ?_
  refine lw_el hE hi hL hl hS (k := 1) (by omega) (by decide) dL_law_1251 dL_law_1252 dL_law_1253 dL_law_1254 dL_law_1255 ?_
  refine lw_el hE hi hL hl hS (k := 2) (by omega) (by decide) dL_law_1256 dL_law_1257 dL_law_1258 dL_law_1259 dL_law_1260 ?_
  refine lw_call hE [.int (xs (i + 1)), .int (xs (i + 2))] [.int r] (m_X8_judge Z l 202 (xs (i + 1)) (xs (i + 2)) S1 h2) dL_law_1261 mi_X8_judge wl_117 ⟨Nat.le_of_ble_eq_true rfl, Nat.le_of_ble_eq_true rfl, rfl, rfl⟩ rfl (by rw [kd202]) (by omega) rfl hl (Nat.le_of_ble_eq_true rfl) hP hS hcs (fun H locs hP hS => ?_)
  refine lv_icmp_eq (tgt := 1537) hx hb dL_law_1264 (by decide) (fun _ => ?_) (fun hc => absurd rfl hc)
  exact hK d0 S2 H locs ls hd hI2 hP hS hl
set_option maxRecDepth 20000 in
set_option maxHeartbeats 4000000 in
theorem lc_feed (hE : LE p s m c b L xs Z) (hL : L ≤ 3584) (hi : i + 7 ≤ L) (hcs : cells ≤ room_1.cells ∧ slots ≤ room_1.slots) (hK : LK p l e s m below meth c b i Z cells slots Q) (hd : s.drawn.sameBut d0 lw_cs) (hI : Inv S) (hP : Rep Z S H) (hS : va_S (AH s) s.heap H locs) (hl : lv_has ls 4 (LV Z b i)) : W p l e room_1 (s.setDrawn d0) m #[Value.ref b] below meth c H locs cells slots Q (F0 m 1269 ls []) := by
  obtain ⟨r, S1, S2, h1, h2, hI2⟩ := y_feed (xs (i + 1)) S hI
  have hx := hE.1
  have hb := hE.2.1
  refine lv_aload_n hx hb dL_law_1269 rfl (lv_at hl 1 rfl) ?_
  refine lw_el hE hi hL hl hS (k := 1) (by omega) (by decide) dL_law_1270 dL_law_1271 dL_law_1272 dL_law_1273 dL_law_1274 ?_
  refine lw_call hE [.int (xs (i + 1))] [] (m_X7_feed Z l 0 (xs (i + 1)) S h1) dL_law_1275 mi_X7_feed wl_118 ⟨Nat.le_of_ble_eq_true rfl, Nat.le_of_ble_eq_true rfl, rfl, rfl⟩ rfl (by rw [kd00]) (by omega) rfl hl (Nat.le_of_ble_eq_true rfl) hP hS hcs (fun H locs hP hS => ?_)
  refine lv_aload_n hx hb dL_law_1278 rfl (lv_at hl 2 rfl) ?_
  refine lw_el hE hi hL hl hS (k := 1) (by omega) (by decide) dL_law_1279 dL_law_1280 dL_law_1281 dL_law_1282 dL_law_1283 ?_
  refine lw_call hE [.int (xs (i + 1))] [.int r] (m_X8_feed Z l 202 (xs (i + 1)) S1 h2) dL_law_1284 mi_X8_feed wl_121 ⟨Nat.le_of_ble_eq_true rfl, Nat.le_of_ble_eq_true rfl, rfl, rfl⟩ rfl (by rw [kd202]) (by omega) rfl hl (Nat.le_of_ble_eq_true rfl) hP hS hcs (fun H locs hP hS => ?_)
  refine lv_icmp_eq (tgt := 1537) hx hb dL_law_1287 (by decide) (fun _ => ?_) (fun hc => absurd rfl hc)
  exact hK d0 S2 H locs ls hd hI2 hP hS hl
set_option maxRecDepth 20000 in
set_option maxHeartbeats 4000000 in
theorem lc_script (hE : LE p s m c b L xs Z) (hL : L ≤ 3584) (hi : i + 7 ≤ L) (hcs : cells ≤ room_1.cells ∧ slots ≤ room_1.slots) (hK : LK p l e s m below meth c b i Z cells slots Q) (hd : s.drawn.sameBut d0 lw_cs) (hI : Inv S) (hP : Rep Z S H) (hS : va_S (AH s) s.heap H locs) (hl : lv_has ls 4 (LV Z b i)) : W p l e room_1 (s.setDrawn d0) m #[Value.ref b] below meth c H locs cells slots Q (F0 m 1292 ls []) := by
  obtain ⟨r, S1, S2, h1, h2, hI2⟩ := y_script S hI
  have hx := hE.1
  have hb := hE.2.1
  refine lv_aload_n hx hb dL_law_1292 rfl (lv_at hl 1 rfl) ?_
  refine lw_call hE [] [] (m_X7_script Z l 0  S h1) dL_law_1293 mi_X7_script wl_122 ⟨Nat.le_of_ble_eq_true rfl, Nat.le_of_ble_eq_true rfl, rfl, rfl⟩ rfl (by rw [kd00]) (by omega) rfl hl (Nat.le_of_ble_eq_true rfl) hP hS hcs (fun H locs hP hS => ?_)
  refine lv_aload_n hx hb dL_law_1296 rfl (lv_at hl 2 rfl) ?_
  refine lw_call hE [] [.int r] (m_X8_script Z l 202  S1 h2) dL_law_1297 mi_X8_script wl_126 ⟨Nat.le_of_ble_eq_true rfl, Nat.le_of_ble_eq_true rfl, rfl, rfl⟩ rfl (by rw [kd202]) (by omega) rfl hl (Nat.le_of_ble_eq_true rfl) hP hS hcs (fun H locs hP hS => ?_)
  refine lv_icmp_eq (tgt := 1537) hx hb dL_law_1300 (by decide) (fun _ => ?_) (fun hc => absurd rfl hc)
  exact hK d0 S2 H locs ls hd hI2 hP hS hl
set_option maxRecDepth 20000 in
set_option maxHeartbeats 4000000 in
theorem lc_image (hE : LE p s m c b L xs Z) (hL : L ≤ 3584) (hi : i + 7 ≤ L) (hcs : cells ≤ room_1.cells ∧ slots ≤ room_1.slots) (hK : LK p l e s m below meth c b i Z cells slots Q) (hd : s.drawn.sameBut d0 lw_cs) (hI : Inv S) (hP : Rep Z S H) (hS : va_S (AH s) s.heap H locs) (hl : lv_has ls 4 (LV Z b i)) : W p l e room_1 (s.setDrawn d0) m #[Value.ref b] below meth c H locs cells slots Q (F0 m 1305 ls []) := by
  obtain ⟨r, S1, S2, h1, h2, hI2⟩ := y_image S hI
  have hx := hE.1
  have hb := hE.2.1
  refine lv_aload_n hx hb dL_law_1305 rfl (lv_at hl 1 rfl) ?_
  refine lw_call hE [] [] (m_X7_image Z l 0  S h1) dL_law_1306 mi_X7_image wl_127 ⟨Nat.le_of_ble_eq_true rfl, Nat.le_of_ble_eq_true rfl, rfl, rfl⟩ rfl (by rw [kd00]) (by omega) rfl hl (Nat.le_of_ble_eq_true rfl) hP hS hcs (fun H locs hP hS => ?_)
  refine lv_aload_n hx hb dL_law_1309 rfl (lv_at hl 2 rfl) ?_
  refine lw_call hE [] [.int r] (m_X8_image Z l 202  S1 h2) dL_law_1310 mi_X8_image wl_130 ⟨Nat.le_of_ble_eq_true rfl, Nat.le_of_ble_eq_true rfl, rfl, rfl⟩ rfl (by rw [kd202]) (by omega) rfl hl (Nat.le_of_ble_eq_true rfl) hP hS hcs (fun H locs hP hS => ?_)
  refine lv_icmp_eq (tgt := 1537) hx hb dL_law_1313 (by decide) (fun _ => ?_) (fun hc => absurd rfl hc)
  exact hK d0 S2 H locs ls hd hI2 hP hS hl
set_option maxRecDepth 20000 in
set_option maxHeartbeats 4000000 in
theorem lc_back (hE : LE p s m c b L xs Z) (hL : L ≤ 3584) (hi : i + 7 ≤ L) (hcs : cells ≤ room_1.cells ∧ slots ≤ room_1.slots) (hK : LK p l e s m below meth c b i Z cells slots Q) (hd : s.drawn.sameBut d0 lw_cs) (hI : Inv S) (hP : Rep Z S H) (hS : va_S (AH s) s.heap H locs) (hl : lv_has ls 4 (LV Z b i)) : W p l e room_1 (s.setDrawn d0) m #[Value.ref b] below meth c H locs cells slots Q (F0 m 1318 ls []) := by
  obtain ⟨r, S1, S2, h1, h2, hI2⟩ := y_back S hI
  have hx := hE.1
  have hb := hE.2.1
  refine lv_aload_n hx hb dL_law_1318 rfl (lv_at hl 1 rfl) ?_
  refine lw_call hE [] [] (m_X7_back Z l 0  S h1) dL_law_1319 mi_X7_back wl_131 ⟨Nat.le_of_ble_eq_true rfl, Nat.le_of_ble_eq_true rfl, rfl, rfl⟩ rfl (by rw [kd00]) (by omega) rfl hl (Nat.le_of_ble_eq_true rfl) hP hS hcs (fun H locs hP hS => ?_)
  refine lv_aload_n hx hb dL_law_1322 rfl (lv_at hl 2 rfl) ?_
  refine lw_call hE [] [.int r] (m_X8_back Z l 202  S1 h2) dL_law_1323 mi_X8_back wl_134 ⟨Nat.le_of_ble_eq_true rfl, Nat.le_of_ble_eq_true rfl, rfl, rfl⟩ rfl (by rw [kd202]) (by omega) rfl hl (Nat.le_of_ble_eq_true rfl) hP hS hcs (fun H locs hP hS => ?_)
  refine lv_icmp_eq (tgt := 1537) hx hb dL_law_1326 (by decide) (fun _ => ?_) (fun hc => absurd rfl hc)
  exact hK d0 S2 H locs ls hd hI2 hP hS hl
set_option maxRecDepth 20000 in
set_option maxHeartbeats 4000000 in
theorem lc_hold (hE : LE p s m c b L xs Z) (hL : L ≤ 3584) (hi : i + 7 ≤ L) (hcs : cells ≤ room_1.cells ∧ slots ≤ room_1.slots) (hK : LK p l e s m below meth c b i Z cells slots Q) (hd : s.drawn.sameBut d0 lw_cs) (hI : Inv S) (hP : Rep Z S H) (hS : va_S (AH s) s.heap H locs) (hl : lv_has ls 4 (LV Z b i)) : W p l e room_1 (s.setDrawn d0) m #[Value.ref b] below meth c H locs cells slots Q (F0 m 1331 ls []) := by
  obtain ⟨r, S1, S2, h1, h2, hI2⟩ := y_hold (xs (i + 1)) (xs (i + 2)) (xs (i + 3)) S hI
  have hx := hE.1
  have hb := hE.2.1
  refine lv_aload_n hx hb dL_law_1331 rfl (lv_at hl 1 rfl) ?_
  refine lw_el hE hi hL hl hS (k := 1) (by omega) (by decide) dL_law_1332 dL_law_1333 dL_law_1334 dL_law_1335 dL_law_1336 ?_
  refine lw_el hE hi hL hl hS (k := 2) (by omega) (by decide) dL_law_1337 dL_law_1338 dL_law_1339 dL_law_1340 dL_law_1341 ?_
  refine lw_el hE hi hL hl hS (k := 3) (by omega) (by decide) dL_law_1342 dL_law_1343 dL_law_1344 dL_law_1345 dL_law_1346 ?_
  refine lw_call hE [.int (xs (i + 1)), .int (xs (i + 2)), .int (xs (i + 3))] [] (m_X7_hold Z l 0 (xs (i + 1)) (xs (i + 2)) (xs (i + 3)) S h1) dL_law_1347 mi_X7_hold wl_135 ⟨Nat.le_of_ble_eq_true rfl, Nat.le_of_ble_eq_true rfl, rfl, rfl⟩ rfl (by rw [kd00]) (by omega) rfl hl (Nat.le_of_ble_eq_true rfl) hP hS hcs (fun H locs hP hS => ?_)
  refine lv_aload_n hx hb dL_law_1350 rfl (lv_at hl 2 rfl) ?_
  refine lw_el hE hi hL hl hS (k := 1) (by omega) (by decide) dL_law_1351 dL_law_1352 dL_law_1353 dL_law_1354 dL_law_1355 ?_
  refine lw_el hE hi hL hl hS (k := 2) (by omega) (by decide) dL_law_1356 dL_law_1357 dL_law_1358 dL_law_1359 dL_law_1360 ?_
  refine lw_el hE hi hL hl hS (k := 3) (by omega) (by decide) dL_law_1361 dL_law_1362 dL_law_1363 dL_law_1364 dL_law_1365 ?_
  refine lw_call hE [.int (xs (i + 1)), .int (xs (i + 2)), .int (xs (i + 3))] [.int r] (m_X8_hold Z l 202 (xs (i + 1)) (xs (i + 2)) (xs (i + 3)) S1 h2) dL_law_1366 mi_X8_hold wl_138 ⟨Nat.le_of_ble_eq_true rfl, Nat.le_of_ble_eq_true rfl, rfl, rfl⟩ rfl (by rw [kd202]) (by omega) rfl hl (Nat.le_of_ble_eq_true rfl) hP hS hcs (fun H locs hP hS => ?_)
  refine lv_icmp_eq (tgt := 1537) hx hb dL_law_1369 (by decide) (fun _ => ?_) (fun hc => absurd rfl hc)
  exact hK d0 S2 H locs ls hd hI2 hP hS hl
set_option maxRecDepth 20000 in
set_option maxHeartbeats 4000000 in
theorem lc_row (hE : LE p s m c b L xs Z) (hL : L ≤ 3584) (hi : i + 7 ≤ L) (hcs : cells ≤ room_1.cells ∧ slots ≤ room_1.slots) (hK : LK p l e s m below meth c b i Z cells slots Q) (hd : s.drawn.sameBut d0 lw_cs) (hI : Inv S) (hP : Rep Z S H) (hS : va_S (AH s) s.heap H locs) (hl : lv_has ls 4 (LV Z b i)) : W p l e room_1 (s.setDrawn d0) m #[Value.ref b] below meth c H locs cells slots Q (F0 m 1374 ls []) := by
  obtain ⟨r, S1, S2, h1, h2, hI2⟩ := y_row (xs (i + 1)) (xs (i + 2)) S hI
  have hx := hE.1
  have hb := hE.2.1
  refine lv_aload_n hx hb dL_law_1374 rfl (lv_at hl 1 rfl) ?_
  refine lw_el hE hi hL hl hS (k := 1) (by omega) (by decide) dL_law_1375 dL_law_1376 dL_law_1377 dL_law_1378 dL_law_1379 ?_
  refine lw_el hE hi hL hl hS (k := 2) (by omega) (by decide) dL_law_1380 dL_law_1381 dL_law_1382 dL_law_1383 dL_law_1384 ?_
  refine lw_call hE [.int (xs (i + 1)), .int (xs (i + 2))] [] (m_X7_row Z l 0 (xs (i + 1)) (xs (i + 2)) S h1) dL_law_1385 mi_X7_row wl_139 ⟨Nat.le_of_ble_eq_true rfl, Nat.le_of_ble_eq_true rfl, rfl, rfl⟩ rfl (by rw [kd00]) (by omega) rfl hl (Nat.le_of_ble_eq_true rfl) hP hS hcs (fun H locs hP hS => ?_)
  refine lv_aload_n hx hb dL_law_1388 rfl (lv_at hl 2 rfl) ?_
  refine lw_el hE hi hL hl hS (k := 1) (by omega) (by decide) dL_law_1389 dL_law_1390 dL_law_1391 dL_law_1392 dL_law_1393 ?_
  refine lw_el hE hi hL hl hS (k := 2) (by omega) (by decide) dL_law_1394 dL_law_1395 dL_law_1396 dL_law_1397 dL_law_1398 ?_
  refine lw_call hE [.int (xs (i + 1)), .int (xs (i + 2))] [.int r] (m_X8_row Z l 202 (xs (i + 1)) (xs (i + 2)) S1 h2) dL_law_1399 mi_X8_row wl_142 ⟨Nat.le_of_ble_eq_true rfl, Nat.le_of_ble_eq_true rfl, rfl, rfl⟩ rfl (by rw [kd202]) (by omega) rfl hl (Nat.le_of_ble_eq_true rfl) hP hS hcs (fun H locs hP hS => ?_)
  refine lv_icmp_eq (tgt := 1537) hx hb dL_law_1402 (by decide) (fun _ => ?_) (fun hc => absurd rfl hc)
  exact hK d0 S2 H locs ls hd hI2 hP hS hl
set_option maxRecDepth 20000 in
set_option maxHeartbeats 4000000 in
theorem lc_put (hE : LE p s m c b L xs Z) (hL : L ≤ 3584) (hi : i + 7 ≤ L) (hcs : cells ≤ room_1.cells ∧ slots ≤ room_1.slots) (hK : LK p l e s m below meth c b i Z cells slots Q) (hd : s.drawn.sameBut d0 lw_cs) (hI : Inv S) (hP : Rep Z S H) (hS : va_S (AH s) s.heap H locs) (hl : lv_has ls 4 (LV Z b i)) : W p l e room_1 (s.setDrawn d0) m #[Value.ref b] below meth c H locs cells slots Q (F0 m 1407 ls []) := by
  obtain ⟨r, S1, S2, h1, h2, hI2⟩ := y_put (xs (i + 1)) (xs (i + 2)) (lj (xs (i + 3)) (xs (i + (3 + 1)))) S hI
  have hx := hE.1
  have hb := hE.2.1
  refine lv_aload_n hx hb dL_law_1407 rfl (lv_at hl 1 rfl) ?_
  refine lw_el hE hi hL hl hS (k := 1) (by omega) (by decide) dL_law_1408 dL_law_1409 dL_law_1410 dL_law_1411 dL_law_1412 ?_
  refine lw_el hE hi hL hl hS (k := 2) (by omega) (by decide) dL_law_1413 dL_law_1414 dL_law_1415 dL_law_1416 dL_law_1417 ?_
  refine lw_elJ hE hi hL hl hS (k := 3) (by omega) (by decide) (by decide) dL_law_1418 dL_law_1419 dL_law_1420 dL_law_1421 dL_law_1422 dL_law_1423 dL_law_1424 dL_law_1426 dL_law_1427 dL_law_1428 dL_law_1429 dL_law_1430 dL_law_1431 dL_law_1432 dL_law_1433 dL_law_1436 dL_law_1437 ?_
  refine lw_call hE [.int (xs (i + 1)), .int (xs (i + 2)), .long (lj (xs (i + 3)) (xs (i + (3 + 1))))] [] (m_X7_put Z l 0 (xs (i + 1)) (xs (i + 2)) (lj (xs (i + 3)) (xs (i + (3 + 1)))) S h1) dL_law_1438 mi_X7_put wl_143 ⟨Nat.le_of_ble_eq_true rfl, Nat.le_of_ble_eq_true rfl, rfl, rfl⟩ rfl (by rw [kd00]) (by omega) rfl hl (Nat.le_of_ble_eq_true rfl) hP hS hcs (fun H locs hP hS => ?_)
  refine lv_aload_n hx hb dL_law_1441 rfl (lv_at hl 2 rfl) ?_
  refine lw_el hE hi hL hl hS (k := 1) (by omega) (by decide) dL_law_1442 dL_law_1443 dL_law_1444 dL_law_1445 dL_law_1446 ?_
  refine lw_el hE hi hL hl hS (k := 2) (by omega) (by decide) dL_law_1447 dL_law_1448 dL_law_1449 dL_law_1450 dL_law_1451 ?_
  refine lw_elJ hE hi hL hl hS (k := 3) (by omega) (by decide) (by decide) dL_law_1452 dL_law_1453 dL_law_1454 dL_law_1455 dL_law_1456 dL_law_1457 dL_law_1458 dL_law_1460 dL_law_1461 dL_law_1462 dL_law_1463 dL_law_1464 dL_law_1465 dL_law_1466 dL_law_1467 dL_law_1470 dL_law_1471 ?_
  refine lw_call hE [.int (xs (i + 1)), .int (xs (i + 2)), .long (lj (xs (i + 3)) (xs (i + (3 + 1))))] [.int r] (m_X8_put Z l 202 (xs (i + 1)) (xs (i + 2)) (lj (xs (i + 3)) (xs (i + (3 + 1)))) S1 h2) dL_law_1472 mi_X8_put wl_147 ⟨Nat.le_of_ble_eq_true rfl, Nat.le_of_ble_eq_true rfl, rfl, rfl⟩ rfl (by rw [kd202]) (by omega) rfl hl (Nat.le_of_ble_eq_true rfl) hP hS hcs (fun H locs hP hS => ?_)
  refine lv_icmp_eq (tgt := 1537) hx hb dL_law_1475 (by decide) (fun _ => ?_) (fun hc => absurd rfl hc)
  exact hK d0 S2 H locs ls hd hI2 hP hS hl
set_option maxRecDepth 20000 in
set_option maxHeartbeats 4000000 in
theorem lc_tells (hE : LE p s m c b L xs Z) (hL : L ≤ 3584) (hi : i + 7 ≤ L) (hcs : cells ≤ room_1.cells ∧ slots ≤ room_1.slots) (hK : LK p l e s m below meth c b i Z cells slots Q) (hd : s.drawn.sameBut d0 lw_cs) (hI : Inv S) (hP : Rep Z S H) (hS : va_S (AH s) s.heap H locs) (hl : lv_has ls 4 (LV Z b i)) : W p l e room_1 (s.setDrawn d0) m #[Value.ref b] below meth c H locs cells slots Q (F0 m 1480 ls []) := by
  obtain ⟨r, S1, S2, h1, h2, hI2⟩ := y_tells (xs (i + 1)) (xs (i + 2)) S hI
  have hx := hE.1
  have hb := hE.2.1
  refine lv_aload_n hx hb dL_law_1480 rfl (lv_at hl 1 rfl) ?_
  refine lw_el hE hi hL hl hS (k := 1) (by omega) (by decide) dL_law_1481 dL_law_1482 dL_law_1483 dL_law_1484 dL_law_1485 ?_
  refine lw_el hE hi hL hl hS (k := 2) (by omega) (by decide) dL_law_1486 dL_law_1487 dL_law_1488 dL_law_1489 dL_law_1490 ?_
  refine lw_call hE [.int (xs (i + 1)), .int (xs (i + 2))] [] (m_X7_tells Z l 0 (xs (i + 1)) (xs (i + 2)) S h1) dL_law_1491 mi_X7_tells wl_148 ⟨Nat.le_of_ble_eq_true rfl, Nat.le_of_ble_eq_true rfl, rfl, rfl⟩ rfl (by rw [kd00]) (by omega) rfl hl (Nat.le_of_ble_eq_true rfl) hP hS hcs (fun H locs hP hS => ?_)
  refine lv_aload_n hx hb dL_law_1494 rfl (lv_at hl 2 rfl) ?_
  refine lw_el hE hi hL hl hS (k := 1) (by omega) (by decide) dL_law_1495 dL_law_1496 dL_law_1497 dL_law_1498 dL_law_1499 ?_
  refine lw_el hE hi hL hl hS (k := 2) (by omega) (by decide) dL_law_1500 dL_law_1501 dL_law_1502 dL_law_1503 dL_law_1504 ?_
  refine lw_call hE [.int (xs (i + 1)), .int (xs (i + 2))] [.long r] (m_X8_tells Z l 202 (xs (i + 1)) (xs (i + 2)) S1 h2) dL_law_1505 mi_X8_tells wl_151 ⟨Nat.le_of_ble_eq_true rfl, Nat.le_of_ble_eq_true rfl, rfl, rfl⟩ rfl (by rw [kd202]) (by omega) rfl hl (Nat.le_of_ble_eq_true rfl) hP hS hcs (fun H locs hP hS => ?_)
  refine W.lcmp hx hb dL_law_1508 ?_
  refine lv_if_eq (tgt := 1537) hx hb dL_law_1509 (by decide) (fun _ => ?_) (fun hc => ?_)
  · exact hK d0 S2 H locs ls hd hI2 hP hS hl
  · exact absurd ((lg_cmp_eq r r).mpr rfl) hc
set_option maxRecDepth 20000 in
set_option maxHeartbeats 4000000 in
theorem lc_count (hE : LE p s m c b L xs Z) (hL : L ≤ 3584) (hi : i + 7 ≤ L) (hcs : cells ≤ room_1.cells ∧ slots ≤ room_1.slots) (hK : LK p l e s m below meth c b i Z cells slots Q) (hd : s.drawn.sameBut d0 lw_cs) (hI : Inv S) (hP : Rep Z S H) (hS : va_S (AH s) s.heap H locs) (hl : lv_has ls 4 (LV Z b i)) : W p l e room_1 (s.setDrawn d0) m #[Value.ref b] below meth c H locs cells slots Q (F0 m 1514 ls []) := by
  obtain ⟨r, S1, S2, h1, h2, hI2⟩ := y_count (xs (i + 1)) S hI
  have hx := hE.1
  have hb := hE.2.1
  refine lv_aload_n hx hb dL_law_1514 rfl (lv_at hl 1 rfl) ?_
  refine lw_el hE hi hL hl hS (k := 1) (by omega) (by decide) dL_law_1515 dL_law_1516 dL_law_1517 dL_law_1518 dL_law_1519 ?_
  refine lw_call hE [.int (xs (i + 1))] [] (m_X7_count Z l 0 (xs (i + 1)) S h1) dL_law_1520 mi_X7_count wl_152 ⟨Nat.le_of_ble_eq_true rfl, Nat.le_of_ble_eq_true rfl, rfl, rfl⟩ rfl (by rw [kd00]) (by omega) rfl hl (Nat.le_of_ble_eq_true rfl) hP hS hcs (fun H locs hP hS => ?_)
  refine lv_aload_n hx hb dL_law_1523 rfl (lv_at hl 2 rfl) ?_
  refine lw_el hE hi hL hl hS (k := 1) (by omega) (by decide) dL_law_1524 dL_law_1525 dL_law_1526 dL_law_1527 dL_law_1528 ?_
  refine lw_call hE [.int (xs (i + 1))] [.int r] (m_X8_count Z l 202 (xs (i + 1)) S1 h2) dL_law_1529 mi_X8_count wl_155 ⟨Nat.le_of_ble_eq_true rfl, Nat.le_of_ble_eq_true rfl, rfl, rfl⟩ rfl (by rw [kd202]) (by omega) rfl hl (Nat.le_of_ble_eq_true rfl) hP hS hcs (fun H locs hP hS => ?_)
  refine lv_icmp_eq (tgt := 1537) hx hb dL_law_1532 (by decide) (fun _ => ?_) (fun hc => absurd rfl hc)
  exact hK d0 S2 H locs ls hd hI2 hP hS hl
end LAW
