section WORDS
set_option maxRecDepth 20000 in
theorem lk10_130 : Cond.methodLink (cnm 10) 130 (mY mX7_addGoer) ∈ TB := tm 478 rfl
set_option maxRecDepth 20000 in
theorem lk12_28 : Cond.methodLink (cnm 12) 28 (mY mX10_of) ∈ TB := tm 482 rfl
set_option maxRecDepth 20000 in
theorem lk10_134 : Cond.methodLink (cnm 10) 134 (mY mX7_hasGoer) ∈ TB := tm 486 rfl
set_option maxRecDepth 20000 in
theorem lk10_149 : Cond.methodLink (cnm 10) 149 (mY mX0_canBits) ∈ TB := tm 490 rfl
set_option maxRecDepth 20000 in
theorem lk0_93 : Cond.methodLink (cnm 0) 93 (mY mX0_can) ∈ TB := tm 494 rfl
set_option maxRecDepth 20000 in
theorem lk0_83 : Cond.methodLink (cnm 0) 83 (mY mX0_regard) ∈ TB := tm 498 rfl
set_option maxRecDepth 20000 in
theorem lk0_29 : Cond.methodLink (cnm 0) 29 (mY mX0_regardUnknown) ∈ TB := tm 502 rfl
set_option maxRecDepth 20000 in
theorem lk0_86 : Cond.methodLink (cnm 0) 86 (mY mX0_told) ∈ TB := tm 506 rfl
set_option maxRecDepth 20000 in
theorem lk0_40 : Cond.methodLink (cnm 0) 40 (mY mX7_inForce) ∈ TB := tm 511 rfl
set_option maxRecDepth 20000 in
theorem lk7_74 : Cond.methodLink (cnm 7) 74 (mY mX7_hasLaw) ∈ TB := tm 515 rfl
set_option maxRecDepth 20000 in
theorem lk0_53 : Cond.methodLink (cnm 0) 53 (mY mX9_has) ∈ TB := tm 519 rfl
set_option maxRecDepth 20000 in
theorem lk0_57 : Cond.methodLink (cnm 0) 57 (mY mX9_reckon) ∈ TB := tm 523 rfl
set_option maxRecDepth 20000 in
theorem lk9_50 : Cond.methodLink (cnm 9) 50 (mY mX9_join) ∈ TB := tm 532 rfl
set_option maxRecDepth 20000 in
theorem lk12_32 : Cond.methodLink (cnm 12) 32 (mY mX10_asks) ∈ TB := tm 539 rfl
set_option maxRecDepth 20000 in
theorem lk10_153 : Cond.methodLink (cnm 10) 153 (mY mX10_within) ∈ TB := tm 543 rfl
set_option maxRecDepth 20000 in
theorem lk10_157 : Cond.methodLink (cnm 10) 157 (mY mX0_regard) ∈ TB := tm 544 rfl
set_option maxRecDepth 20000 in
theorem lk10_161 : Cond.methodLink (cnm 10) 161 (mY mX0_told) ∈ TB := tm 545 rfl
set_option maxRecDepth 20000 in
theorem lk12_36 : Cond.methodLink (cnm 12) 36 (mY mX10_terms) ∈ TB := tm 546 rfl
set_option maxRecDepth 20000 in
theorem lk10_164 : Cond.methodLink (cnm 10) 164 (mY mX7_changeTerm) ∈ TB := tm 550 rfl
set_option maxRecDepth 20000 in
theorem lk12_40 : Cond.methodLink (cnm 12) 40 (mY mX10_feed) ∈ TB := tm 554 rfl
set_option maxRecDepth 20000 in
theorem lk10_168 : Cond.methodLink (cnm 10) 168 (mY mX8_take) ∈ TB := tm 558 rfl
set_option maxRecDepth 20000 in
theorem lk8_19 : Cond.methodLink (cnm 8) 19 (mY mX8_takeFour) ∈ TB := tm 562 rfl
set_option maxRecDepth 20000 in
theorem lk12_45 : Cond.methodLink (cnm 12) 45 (mY mX10_end) ∈ TB := tm 566 rfl
set_option maxRecDepth 20000 in
theorem lk10_172 : Cond.methodLink (cnm 10) 172 (mY mX8_shorten) ∈ TB := tm 570 rfl
set_option maxRecDepth 20000 in
theorem lk12_50 : Cond.methodLink (cnm 12) 50 (mY mX10_row) ∈ TB := tm 574 rfl
set_option maxRecDepth 20000 in
theorem lk10_180 : Cond.methodLink (cnm 10) 180 (mY mX8_byteAt) ∈ TB := tm 578 rfl
set_option maxRecDepth 20000 in
theorem lk10_183 : Cond.methodLink (cnm 10) 183 (mY mX8_clear) ∈ TB := tm 582 rfl
set_option maxRecDepth 20000 in
theorem lk12_55 : Cond.methodLink (cnm 12) 55 (mY mX10_rust) ∈ TB := tm 586 rfl
set_option maxRecDepth 20000 in
theorem lk12_59 : Cond.methodLink (cnm 12) 59 (mY mX10_law) ∈ TB := tm 590 rfl
set_option maxRecDepth 20000 in
theorem lk10_189 : Cond.methodLink (cnm 10) 189 (mY mX10_readTape) ∈ TB := tm 594 rfl
set_option maxRecDepth 20000 in
theorem lk10_353 : Cond.methodLink (cnm 10) 353 (mY mX4_read) ∈ TB := tm 598 rfl
set_option maxRecDepth 20000 in
theorem lk4_47 : Cond.methodLink (cnm 4) 47 (mY mX4_split) ∈ TB := tm 602 rfl
set_option maxRecDepth 20000 in
theorem lk4_73 : Cond.methodLink (cnm 4) 73 (mY mX4_behindToken) ∈ TB := tm 606 rfl
set_option maxRecDepth 20000 in
theorem lk4_81 : Cond.methodLink (cnm 4) 81 (mY mX4_sortOf) ∈ TB := tm 610 rfl
set_option maxRecDepth 20000 in
theorem lk4_77 : Cond.methodLink (cnm 4) 77 (mY mX4_addToken) ∈ TB := tm 613 rfl
set_option maxRecDepth 20000 in
theorem lk4_85 : Cond.methodLink (cnm 4) 85 (mY mX4_wordOf) ∈ TB := tm 617 rfl
set_option maxRecDepth 20000 in
theorem lk4_97 : Cond.methodLink (cnm 4) 97 (mY mJ0_length_8abf5) ∈ TB := tm 621 rfl
set_option maxRecDepth 20000 in
theorem lk15_335 : Cond.methodLink (cnm 15) 335 (mY mJ0_coder_7d493) ∈ TB := tm 625 rfl
set_option maxRecDepth 20000 in
theorem lk4_101 : Cond.methodLink (cnm 4) 101 (mY mJ0_charAt_5068e) ∈ TB := tm 631 rfl
set_option maxRecDepth 20000 in
theorem lk15_492 : Cond.methodLink (cnm 15) 492 (mY mJ0_isLatin1_aae02) ∈ TB := tm 635 rfl
set_option maxRecDepth 20000 in
theorem lk15_495 : Cond.methodLink (cnm 15) 495 (mY mJ1_charAt_3b067) ∈ TB := tm 639 rfl
set_option maxRecDepth 20000 in
theorem lk16_9 : Cond.methodLink (cnm 16) 9 (mY mJ0_checkIndex_df160) ∈ TB := tm 642 rfl
set_option maxRecDepth 20000 in
theorem lk15_1059 : Cond.methodLink (cnm 15) 1059 (mY mJ3_checkIndex_8e157) ∈ TB := tm 647 rfl
set_option maxRecDepth 20000 in
theorem lk4_51 : Cond.methodLink (cnm 4) 51 (mY mX9_clear) ∈ TB := tm 670 rfl
set_option maxRecDepth 20000 in
theorem lk4_54 : Cond.methodLink (cnm 4) 54 (mY mX4_clause) ∈ TB := tm 674 rfl
set_option maxRecDepth 20000 in
theorem lk4_58 : Cond.methodLink (cnm 4) 58 (mY mX4_here) ∈ TB := tm 678 rfl
set_option maxRecDepth 20000 in
theorem lk4_62 : Cond.methodLink (cnm 4) 62 (mY mX4_faulty) ∈ TB := tm 682 rfl
set_option maxRecDepth 20000 in
theorem lk4_120 : Cond.methodLink (cnm 4) 120 (mY mX4_sum) ∈ TB := tm 686 rfl
set_option maxRecDepth 20000 in
theorem lk4_149 : Cond.methodLink (cnm 4) 149 (mY mX4_term) ∈ TB := tm 690 rfl
set_option maxRecDepth 20000 in
theorem lk4_152 : Cond.methodLink (cnm 4) 152 (mY mX4_part) ∈ TB := tm 694 rfl
set_option maxRecDepth 20000 in
theorem lk4_143 : Cond.methodLink (cnm 4) 143 (mY mX4_inBrackets) ∈ TB := tm 698 rfl
set_option maxRecDepth 20000 in
theorem lk4_129 : Cond.methodLink (cnm 4) 129 (mY mX4_test) ∈ TB := tm 702 rfl
set_option maxRecDepth 20000 in
theorem lk4_133 : Cond.methodLink (cnm 4) 133 (mY mX4_plain) ∈ TB := tm 706 rfl
set_option maxRecDepth 20000 in
theorem lk4_146 : Cond.methodLink (cnm 4) 146 (mY mX4_comparison) ∈ TB := tm 710 rfl
set_option maxRecDepth 20000 in
theorem lk4_140 : Cond.methodLink (cnm 4) 140 (mY mX9_add) ∈ TB := tm 714 rfl
set_option maxRecDepth 20000 in
theorem lk4_136 : Cond.methodLink (cnm 4) 136 (mY mX9_aim) ∈ TB := tm 718 rfl
set_option maxRecDepth 20000 in
theorem lk4_124 : Cond.methodLink (cnm 4) 124 (mY mX4_take) ∈ TB := tm 722 rfl
set_option maxRecDepth 20000 in
theorem lk4_155 : Cond.methodLink (cnm 4) 155 (mY mX4_orderWord) ∈ TB := tm 726 rfl
set_option maxRecDepth 20000 in
theorem lk4_161 : Cond.methodLink (cnm 4) 161 (mY mX4_numberedWord) ∈ TB := tm 730 rfl
set_option maxRecDepth 20000 in
theorem lk4_158 : Cond.methodLink (cnm 4) 158 (mY mX4_lawWord) ∈ TB := tm 734 rfl
set_option maxRecDepth 20000 in
theorem lk4_127 : Cond.methodLink (cnm 4) 127 (mY mX4_times) ∈ TB := tm 738 rfl
set_option maxRecDepth 20000 in
theorem lk10_197 : Cond.methodLink (cnm 10) 197 (mY mX9_copy) ∈ TB := tm 742 rfl
set_option maxRecDepth 20000 in
theorem lk9_31 : Cond.methodLink (cnm 9) 31 (mY mX9_init) ∈ TB := tm 747 rfl
set_option maxRecDepth 20000 in
theorem lk10_203 : Cond.methodLink (cnm 10) 203 (mY mX7_addLaw) ∈ TB := tm 751 rfl
set_option maxRecDepth 20000 in
theorem lk12_63 : Cond.methodLink (cnm 12) 63 (mY mX10_orders) ∈ TB := tm 756 rfl
set_option maxRecDepth 20000 in
theorem lk10_207 : Cond.methodLink (cnm 10) 207 (mY mX1_keepAhead) ∈ TB := tm 760 rfl
set_option maxRecDepth 20000 in
theorem lk1_89 : Cond.methodLink (cnm 1) 89 (mY mX7_copyFrom) ∈ TB := tm 764 rfl
set_option maxRecDepth 20000 in
theorem lk10_210 : Cond.methodLink (cnm 10) 210 (mY mX5_run) ∈ TB := tm 769 rfl
set_option maxRecDepth 20000 in
theorem lk5_41 : Cond.methodLink (cnm 5) 41 (mY mX5_runOnce) ∈ TB := tm 773 rfl
set_option maxRecDepth 20000 in
theorem lk5_45 : Cond.methodLink (cnm 5) 45 (mY mX5_lookRound) ∈ TB := tm 777 rfl
set_option maxRecDepth 20000 in
theorem lk5_82 : Cond.methodLink (cnm 5) 82 (mY mX7_hasGoer) ∈ TB := tm 781 rfl
set_option maxRecDepth 20000 in
theorem lk5_92 : Cond.methodLink (cnm 5) 92 (mY mX7_hasGate) ∈ TB := tm 782 rfl
set_option maxRecDepth 20000 in
theorem lk5_48 : Cond.methodLink (cnm 5) 48 (mY mX9_has) ∈ TB := tm 783 rfl
set_option maxRecDepth 20000 in
theorem lk5_52 : Cond.methodLink (cnm 5) 52 (mY mX9_reckon) ∈ TB := tm 784 rfl
set_option maxRecDepth 20000 in
theorem lk5_60 : Cond.methodLink (cnm 5) 60 (mY mX1_sendThrough) ∈ TB := tm 786 rfl
set_option maxRecDepth 20000 in
theorem lk1_39 : Cond.methodLink (cnm 1) 39 (mY mX7_hasGoer) ∈ TB := tm 790 rfl
set_option maxRecDepth 20000 in
theorem lk1_43 : Cond.methodLink (cnm 1) 43 (mY mX7_hasGate) ∈ TB := tm 791 rfl
set_option maxRecDepth 20000 in
theorem lk1_46 : Cond.methodLink (cnm 1) 46 (mY mX0_can) ∈ TB := tm 792 rfl
set_option maxRecDepth 20000 in
theorem lk1_61 : Cond.methodLink (cnm 1) 61 (mY mX1_keep) ∈ TB := tm 793 rfl
set_option maxRecDepth 20000 in
theorem lk1_65 : Cond.methodLink (cnm 1) 65 (mY mX0_move) ∈ TB := tm 797 rfl
set_option maxRecDepth 20000 in
theorem lk5_66 : Cond.methodLink (cnm 5) 66 (mY mX1_flip) ∈ TB := tm 801 rfl
set_option maxRecDepth 20000 in
theorem lk5_70 : Cond.methodLink (cnm 5) 70 (mY mX1_changeArm) ∈ TB := tm 805 rfl
set_option maxRecDepth 20000 in
theorem lk1_73 : Cond.methodLinkNest (cnm 1) 73 yX10_within "CountGates" ∈ NW := by decide +kernel
set_option maxRecDepth 20000 in
theorem lk5_73 : Cond.methodLink (cnm 5) 73 (mY mX1_nextDay) ∈ TB := tm 810 rfl
set_option maxRecDepth 20000 in
theorem lk10_213 : Cond.methodLink (cnm 10) 213 (mY mX1_restoreAhead) ∈ TB := tm 814 rfl
set_option maxRecDepth 20000 in
theorem lk12_67 : Cond.methodLink (cnm 12) 67 (mY mX10_fault) ∈ TB := tm 818 rfl
set_option maxRecDepth 20000 in
theorem lk12_71 : Cond.methodLink (cnm 12) 71 (mY mX10_stopped) ∈ TB := tm 822 rfl
set_option maxRecDepth 20000 in
theorem lk12_75 : Cond.methodLink (cnm 12) 75 (mY mX10_force) ∈ TB := tm 826 rfl
set_option maxRecDepth 20000 in
theorem lk10_219 : Cond.methodLink (cnm 10) 219 (mY mX7_hasLaw) ∈ TB := tm 830 rfl
set_option maxRecDepth 20000 in
theorem lk12_79 : Cond.methodLink (cnm 12) 79 (mY mX10_go) ∈ TB := tm 831 rfl
set_option maxRecDepth 20000 in
theorem lk10_225 : Cond.methodLink (cnm 10) 225 (mY mX1_sendThrough) ∈ TB := tm 835 rfl
set_option maxRecDepth 20000 in
theorem lk12_83 : Cond.methodLink (cnm 12) 83 (mY mX10_latch) ∈ TB := tm 836 rfl
set_option maxRecDepth 20000 in
theorem lk10_228 : Cond.methodLink (cnm 10) 228 (mY mX1_flip) ∈ TB := tm 840 rfl
set_option maxRecDepth 20000 in
theorem lk12_87 : Cond.methodLink (cnm 12) 87 (mY mX10_set) ∈ TB := tm 841 rfl
set_option maxRecDepth 20000 in
theorem lk10_231 : Cond.methodLink (cnm 10) 231 (mY mX1_changeArm) ∈ TB := tm 845 rfl
set_option maxRecDepth 20000 in
theorem lk12_91 : Cond.methodLink (cnm 12) 91 (mY mX10_pass) ∈ TB := tm 846 rfl
set_option maxRecDepth 20000 in
theorem lk10_234 : Cond.methodLink (cnm 10) 234 (mY mX1_nextDay) ∈ TB := tm 850 rfl
set_option maxRecDepth 20000 in
theorem lk12_95 : Cond.methodLink (cnm 12) 95 (mY mX10_undo) ∈ TB := tm 851 rfl
set_option maxRecDepth 20000 in
theorem lk10_238 : Cond.methodLink (cnm 10) 238 (mY mX1_takeBack) ∈ TB := tm 855 rfl
set_option maxRecDepth 20000 in
theorem lk12_99 : Cond.methodLink (cnm 12) 99 (mY mX10_way) ∈ TB := tm 859 rfl
set_option maxRecDepth 20000 in
theorem lk10_241 : Cond.methodLink (cnm 10) 241 (mY mX10_canSeek) ∈ TB := tm 863 rfl
set_option maxRecDepth 20000 in
theorem lk10_245 : Cond.methodLink (cnm 10) 245 (mY mX6_begin) ∈ TB := tm 867 rfl
set_option maxRecDepth 20000 in
theorem lk6_58 : Cond.methodLink (cnm 6) 58 (mY mX7_copyFrom) ∈ TB := tm 871 rfl
set_option maxRecDepth 20000 in
theorem lk6_62 : Cond.methodLink (cnm 6) 62 (mY mJ7_fill_53178) ∈ TB := tm 872 rfl
set_option maxRecDepth 20000 in
theorem lk10_249 : Cond.methodLink (cnm 10) 249 (mY mX6_wayLength) ∈ TB := tm 875 rfl
set_option maxRecDepth 20000 in
theorem lk6_115 : Cond.methodLink (cnm 6) 115 (mY mX6_find) ∈ TB := tm 879 rfl
set_option maxRecDepth 20000 in
theorem lk6_100 : Cond.methodLink (cnm 6) 100 (mY mX6_start) ∈ TB := tm 883 rfl
set_option maxRecDepth 20000 in
theorem lk6_104 : Cond.methodLink (cnm 6) 104 (mY mX6_isAt) ∈ TB := tm 887 rfl
set_option maxRecDepth 20000 in
theorem lk6_111 : Cond.methodLink (cnm 6) 111 (mY mX6_behind) ∈ TB := tm 890 rfl
set_option maxRecDepth 20000 in
theorem lk6_87 : Cond.methodLink (cnm 6) 87 (mY mX0_regard) ∈ TB := tm 894 rfl
set_option maxRecDepth 20000 in
theorem lk6_93 : Cond.methodLink (cnm 6) 93 (mY mX0_told) ∈ TB := tm 895 rfl
set_option maxRecDepth 20000 in
theorem lk10_252 : Cond.methodLink (cnm 10) 252 (mY mX6_wayGate) ∈ TB := tm 896 rfl
set_option maxRecDepth 20000 in
theorem lk12_103 : Cond.methodLink (cnm 12) 103 (mY mX10_cheap) ∈ TB := tm 900 rfl
set_option maxRecDepth 20000 in
theorem lk10_255 : Cond.methodLink (cnm 10) 255 (mY mX6_leastToll) ∈ TB := tm 904 rfl
set_option maxRecDepth 20000 in
theorem lk6_121 : Cond.methodLink (cnm 6) 121 (mY mX6_cheapestUnsettled) ∈ TB := tm 908 rfl
set_option maxRecDepth 20000 in
theorem lk6_124 : Cond.methodLink (cnm 6) 124 (mY mX6_payInto) ∈ TB := tm 912 rfl
set_option maxRecDepth 20000 in
theorem lk12_107 : Cond.methodLink (cnm 12) 107 (mY mX10_manys) ∈ TB := tm 916 rfl
set_option maxRecDepth 20000 in
theorem lk10_258 : Cond.methodLink (cnm 10) 258 (mY mX6_manyBits) ∈ TB := tm 920 rfl
set_option maxRecDepth 20000 in
theorem lk6_118 : Cond.methodLink (cnm 6) 118 (mY mX6_findAll) ∈ TB := tm 924 rfl
set_option maxRecDepth 20000 in
theorem lk12_111 : Cond.methodLink (cnm 12) 111 (mY mX10_reach) ∈ TB := tm 928 rfl
set_option maxRecDepth 20000 in
theorem lk10_261 : Cond.methodLink (cnm 10) 261 (mY mX6_parkBits) ∈ TB := tm 932 rfl
set_option maxRecDepth 20000 in
theorem lk12_115 : Cond.methodLink (cnm 12) 115 (mY mX10_ways) ∈ TB := tm 936 rfl
set_option maxRecDepth 20000 in
theorem lk10_266 : Cond.methodLink (cnm 10) 266 (mY mX6_flow) ∈ TB := tm 941 rfl
set_option maxRecDepth 20000 in
theorem lk6_128 : Cond.methodLink (cnm 6) 128 (mY mJ7_fill_d0a16) ∈ TB := tm 945 rfl
set_option maxRecDepth 20000 in
theorem lk6_131 : Cond.methodLink (cnm 6) 131 (mY mX6_flowFrom) ∈ TB := tm 948 rfl
set_option maxRecDepth 20000 in
theorem lk10_270 : Cond.methodLink (cnm 10) 270 (mY mX6_flowed) ∈ TB := tm 953 rfl
set_option maxRecDepth 20000 in
theorem lk12_120 : Cond.methodLink (cnm 12) 120 (mY mX10_likely) ∈ TB := tm 957 rfl
set_option maxRecDepth 20000 in
theorem lk12_124 : Cond.methodLink (cnm 12) 124 (mY mX10_again) ∈ TB := tm 962 rfl
set_option maxRecDepth 20000 in
theorem lk10_276 : Cond.methodLink (cnm 10) 276 (mY mX0_roundAndRound) ∈ TB := tm 966 rfl
set_option maxRecDepth 20000 in
theorem lk0_103 : Cond.methodLink (cnm 0) 103 (mY mJ7_fill_53178) ∈ TB := tm 970 rfl
set_option maxRecDepth 20000 in
theorem lk12_128 : Cond.methodLink (cnm 12) 128 (mY mX10_fixed) ∈ TB := tm 971 rfl
set_option maxRecDepth 20000 in
theorem lk10_280 : Cond.methodLink (cnm 10) 280 (mY mX6_firstFix) ∈ TB := tm 975 rfl
set_option maxRecDepth 20000 in
theorem lk6_141 : Cond.methodLink (cnm 6) 141 (mY mX6_tryArm) ∈ TB := tm 979 rfl
set_option maxRecDepth 20000 in
theorem lk12_132 : Cond.methodLink (cnm 12) 132 (mY mX10_cut) ∈ TB := tm 983 rfl
set_option maxRecDepth 20000 in
theorem lk10_283 : Cond.methodLink (cnm 10) 283 (mY mX6_fewestShut) ∈ TB := tm 987 rfl
set_option maxRecDepth 20000 in
theorem lk6_144 : Cond.methodLink (cnm 6) 144 (mY mJ6_bitCount_0f7a4) ∈ TB := tm 991 rfl
set_option maxRecDepth 20000 in
theorem lk6_150 : Cond.methodLink (cnm 6) 150 (mY mX6_shuts) ∈ TB := tm 997 rfl
set_option maxRecDepth 20000 in
theorem lk10_286 : Cond.methodLink (cnm 10) 286 (mY mJ6_bitCount_0f7a4) ∈ TB := tm 1001 rfl
set_option maxRecDepth 20000 in
theorem lk12_136 : Cond.methodLink (cnm 12) 136 (mY mX10_meet) ∈ TB := tm 1002 rfl
set_option maxRecDepth 20000 in
theorem lk10_291 : Cond.methodLink (cnm 10) 291 (mY mX6_keepSteps) ∈ TB := tm 1006 rfl
set_option maxRecDepth 20000 in
theorem lk10_294 : Cond.methodLink (cnm 10) 294 (mY mX6_meetingPlace) ∈ TB := tm 1010 rfl
set_option maxRecDepth 20000 in
theorem lk6_154 : Cond.methodLink (cnm 6) 154 (mY mX6_longerSteps) ∈ TB := tm 1014 rfl
set_option maxRecDepth 20000 in
theorem lk6_157 : Cond.methodLinkNest (cnm 6) 157 yX10_within "CountGates" ∈ NW := by decide +kernel
set_option maxRecDepth 20000 in
theorem lk10_297 : Cond.methodLink (cnm 10) 297 (mY mX6_longerSteps) ∈ TB := tm 1020 rfl
set_option maxRecDepth 20000 in
theorem lk12_140 : Cond.methodLink (cnm 12) 140 (mY mX10_seen) ∈ TB := tm 1021 rfl
set_option maxRecDepth 20000 in
theorem lk10_300 : Cond.methodLink (cnm 10) 300 (mY mX7_addSight) ∈ TB := tm 1025 rfl
set_option maxRecDepth 20000 in
theorem lk12_144 : Cond.methodLink (cnm 12) 144 (mY mX10_forget) ∈ TB := tm 1029 rfl
set_option maxRecDepth 20000 in
theorem lk12_148 : Cond.methodLink (cnm 12) 148 (mY mX10_kinds) ∈ TB := tm 1033 rfl
set_option maxRecDepth 20000 in
theorem lk10_306 : Cond.methodLink (cnm 10) 306 (mY mX3_possible) ∈ TB := tm 1037 rfl
set_option maxRecDepth 20000 in
theorem lk3_45 : Cond.methodLink (cnm 3) 45 (mY mX3_comesOut) ∈ TB := tm 1041 rfl
set_option maxRecDepth 20000 in
theorem lk3_23 : Cond.methodLink (cnm 3) 23 (mY mX0_regardUnknown) ∈ TB := tm 1045 rfl
set_option maxRecDepth 20000 in
theorem lk3_29 : Cond.methodLink (cnm 3) 29 (mY mX0_told) ∈ TB := tm 1046 rfl
set_option maxRecDepth 20000 in
theorem lk12_152 : Cond.methodLink (cnm 12) 152 (mY mX10_ask) ∈ TB := tm 1047 rfl
set_option maxRecDepth 20000 in
theorem lk10_310 : Cond.methodLink (cnm 10) 310 (mY mX3_bestTrial) ∈ TB := tm 1051 rfl
set_option maxRecDepth 20000 in
theorem lk3_52 : Cond.methodLink (cnm 3) 52 (mY mX3_possible) ∈ TB := tm 1055 rfl
set_option maxRecDepth 20000 in
theorem lk3_56 : Cond.methodLink (cnm 3) 56 (mY mX3_mostAlike) ∈ TB := tm 1056 rfl
set_option maxRecDepth 20000 in
theorem lk12_156 : Cond.methodLink (cnm 12) 156 (mY mX10_few) ∈ TB := tm 1061 rfl
set_option maxRecDepth 20000 in
theorem lk10_317 : Cond.methodLink (cnm 10) 317 (mY mX3_fewerBitten) ∈ TB := tm 1065 rfl
set_option maxRecDepth 20000 in
theorem lk3_66 : Cond.methodLink (cnm 3) 66 (mY mJ7_fill_d0a16) ∈ TB := tm 1069 rfl
set_option maxRecDepth 20000 in
theorem lk12_161 : Cond.methodLink (cnm 12) 161 (mY mX10_compare) ∈ TB := tm 1072 rfl
set_option maxRecDepth 20000 in
theorem lk10_321 : Cond.methodLink (cnm 10) 321 (mY mX6_tryLaw) ∈ TB := tm 1076 rfl
set_option maxRecDepth 20000 in
theorem lk12_165 : Cond.methodLink (cnm 12) 165 (mY mX10_days) ∈ TB := tm 1080 rfl
set_option maxRecDepth 20000 in
theorem lk10_332 : Cond.methodLink (cnm 10) 332 (mY mX2_run) ∈ TB := tm 1085 rfl
set_option maxRecDepth 20000 in
theorem lk2_26 : Cond.methodLink (cnm 2) 26 (mY mX7_copyFrom) ∈ TB := tm 1089 rfl
set_option maxRecDepth 20000 in
theorem lk2_37 : Cond.methodLink (cnm 2) 37 (mY mX2_draw) ∈ TB := tm 1090 rfl
set_option maxRecDepth 20000 in
theorem lk2_44 : Cond.methodLink (cnm 2) 44 (mY mX7_hasGoer) ∈ TB := tm 1095 rfl
set_option maxRecDepth 20000 in
theorem lk2_48 : Cond.methodLink (cnm 2) 48 (mY mX7_hasGate) ∈ TB := tm 1096 rfl
end WORDS
