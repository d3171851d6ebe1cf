section WORDS
theorem tokX0_init : TOK mX0_init := TOK.of tkX0_init
set_option maxRecDepth 20000 in
theorem okX0_init : OKm mX0_init := ⟨tm 172 rfl, tm 4 rfl, ⟨by decide, by decide⟩, by decide⟩
set_option maxRecDepth 20000 in
theorem inX0_init : Cond.instanceMethod (mY mX0_init) ∈ TB := tm 171 rfl
theorem tokX0_regard : TOK mX0_regard := TOK.of tkX0_regard
set_option maxRecDepth 20000 in
theorem okX0_regard : OKm mX0_regard := ⟨tm 501 rfl, tm 4 rfl, ⟨by decide, by decide⟩, by decide⟩
set_option maxRecDepth 20000 in
theorem inX0_regard : Cond.instanceMethod (mY mX0_regard) ∈ TB := tm 499 rfl
set_option maxRecDepth 20000 in
theorem seX0_regard : Cond.selects (mY mX0_regard).cls (mY mX0_regard) (mY mX0_regard) ∈ TB := tm 500 rfl
theorem tokX0_regardUnknown : TOK mX0_regardUnknown := TOK.of tkX0_regardUnknown
set_option maxRecDepth 20000 in
theorem okX0_regardUnknown : OKm mX0_regardUnknown := ⟨tm 505 rfl, tm 4 rfl, ⟨by decide, by decide⟩, by decide⟩
set_option maxRecDepth 20000 in
theorem inX0_regardUnknown : Cond.instanceMethod (mY mX0_regardUnknown) ∈ TB := tm 503 rfl
set_option maxRecDepth 20000 in
theorem seX0_regardUnknown : Cond.selects (mY mX0_regardUnknown).cls (mY mX0_regardUnknown) (mY mX0_regardUnknown) ∈ TB := tm 504 rfl
theorem tokX0_told : TOK mX0_told := TOK.of tkX0_told
set_option maxRecDepth 20000 in
theorem okX0_told : OKm mX0_told := ⟨tm 509 rfl, tm 4 rfl, ⟨by decide, by decide⟩, by decide⟩
set_option maxRecDepth 20000 in
theorem inX0_told : Cond.instanceMethod (mY mX0_told) ∈ TB := tm 507 rfl
set_option maxRecDepth 20000 in
theorem seX0_told : Cond.selects (mY mX0_told).cls (mY mX0_told) (mY mX0_told) ∈ TB := tm 508 rfl
theorem tokX0_can : TOK mX0_can := TOK.of tkX0_can
set_option maxRecDepth 20000 in
theorem okX0_can : OKm mX0_can := ⟨tm 497 rfl, tm 4 rfl, ⟨by decide, by decide⟩, by decide⟩
set_option maxRecDepth 20000 in
theorem inX0_can : Cond.instanceMethod (mY mX0_can) ∈ TB := tm 495 rfl
set_option maxRecDepth 20000 in
theorem seX0_can : Cond.selects (mY mX0_can).cls (mY mX0_can) (mY mX0_can) ∈ TB := tm 496 rfl
theorem tokX0_canBits : TOK mX0_canBits := TOK.of tkX0_canBits
set_option maxRecDepth 20000 in
theorem okX0_canBits : OKm mX0_canBits := ⟨tm 493 rfl, tm 4 rfl, ⟨by decide, by decide⟩, by decide⟩
set_option maxRecDepth 20000 in
theorem inX0_canBits : Cond.instanceMethod (mY mX0_canBits) ∈ TB := tm 491 rfl
set_option maxRecDepth 20000 in
theorem seX0_canBits : Cond.selects (mY mX0_canBits).cls (mY mX0_canBits) (mY mX0_canBits) ∈ TB := tm 492 rfl
theorem tokX0_move : TOK mX0_move := TOK.of tkX0_move
set_option maxRecDepth 20000 in
theorem okX0_move : OKm mX0_move := ⟨tm 800 rfl, tm 4 rfl, ⟨by decide, by decide⟩, by decide⟩
set_option maxRecDepth 20000 in
theorem inX0_move : Cond.instanceMethod (mY mX0_move) ∈ TB := tm 798 rfl
set_option maxRecDepth 20000 in
theorem seX0_move : Cond.selects (mY mX0_move).cls (mY mX0_move) (mY mX0_move) ∈ TB := tm 799 rfl
theorem tokX0_roundAndRound : TOK mX0_roundAndRound := TOK.of tkX0_roundAndRound
set_option maxRecDepth 20000 in
theorem okX0_roundAndRound : OKm mX0_roundAndRound := ⟨tm 969 rfl, tm 4 rfl, ⟨by decide, by decide⟩, by decide⟩
set_option maxRecDepth 20000 in
theorem inX0_roundAndRound : Cond.instanceMethod (mY mX0_roundAndRound) ∈ TB := tm 967 rfl
set_option maxRecDepth 20000 in
theorem seX0_roundAndRound : Cond.selects (mY mX0_roundAndRound).cls (mY mX0_roundAndRound) (mY mX0_roundAndRound) ∈ TB := tm 968 rfl
theorem tokX1_init : TOK mX1_init := TOK.of tkX1_init
set_option maxRecDepth 20000 in
theorem okX1_init : OKm mX1_init := ⟨tm 259 rfl, tm 7 rfl, ⟨by decide, by decide⟩, by decide⟩
set_option maxRecDepth 20000 in
theorem inX1_init : Cond.instanceMethod (mY mX1_init) ∈ TB := tm 258 rfl
theorem tokX1_sendThrough : TOK mX1_sendThrough := TOK.of tkX1_sendThrough
set_option maxRecDepth 20000 in
theorem okX1_sendThrough : OKm mX1_sendThrough := ⟨tm 789 rfl, tm 7 rfl, ⟨by decide, by decide⟩, by decide⟩
set_option maxRecDepth 20000 in
theorem inX1_sendThrough : Cond.instanceMethod (mY mX1_sendThrough) ∈ TB := tm 787 rfl
set_option maxRecDepth 20000 in
theorem seX1_sendThrough : Cond.selects (mY mX1_sendThrough).cls (mY mX1_sendThrough) (mY mX1_sendThrough) ∈ TB := tm 788 rfl
theorem tokX1_flip : TOK mX1_flip := TOK.of tkX1_flip
set_option maxRecDepth 20000 in
theorem okX1_flip : OKm mX1_flip := ⟨tm 804 rfl, tm 7 rfl, ⟨by decide, by decide⟩, by decide⟩
set_option maxRecDepth 20000 in
theorem inX1_flip : Cond.instanceMethod (mY mX1_flip) ∈ TB := tm 802 rfl
set_option maxRecDepth 20000 in
theorem seX1_flip : Cond.selects (mY mX1_flip).cls (mY mX1_flip) (mY mX1_flip) ∈ TB := tm 803 rfl
theorem tokX1_changeArm : TOK mX1_changeArm := TOK.of tkX1_changeArm
set_option maxRecDepth 20000 in
theorem okX1_changeArm : OKm mX1_changeArm := ⟨tm 808 rfl, tm 7 rfl, ⟨by decide, by decide⟩, by decide⟩
set_option maxRecDepth 20000 in
theorem inX1_changeArm : Cond.instanceMethod (mY mX1_changeArm) ∈ TB := tm 806 rfl
set_option maxRecDepth 20000 in
theorem seX1_changeArm : Cond.selects (mY mX1_changeArm).cls (mY mX1_changeArm) (mY mX1_changeArm) ∈ TB := tm 807 rfl
theorem tokX1_nextDay : TOK mX1_nextDay := TOK.of tkX1_nextDay
set_option maxRecDepth 20000 in
theorem okX1_nextDay : OKm mX1_nextDay := ⟨tm 813 rfl, tm 7 rfl, ⟨by decide, by decide⟩, by decide⟩
set_option maxRecDepth 20000 in
theorem inX1_nextDay : Cond.instanceMethod (mY mX1_nextDay) ∈ TB := tm 811 rfl
set_option maxRecDepth 20000 in
theorem seX1_nextDay : Cond.selects (mY mX1_nextDay).cls (mY mX1_nextDay) (mY mX1_nextDay) ∈ TB := tm 812 rfl
theorem tokX1_takeBack : TOK mX1_takeBack := TOK.of tkX1_takeBack
set_option maxRecDepth 20000 in
theorem okX1_takeBack : OKm mX1_takeBack := ⟨tm 858 rfl, tm 7 rfl, ⟨by decide, by decide⟩, by decide⟩
set_option maxRecDepth 20000 in
theorem inX1_takeBack : Cond.instanceMethod (mY mX1_takeBack) ∈ TB := tm 856 rfl
set_option maxRecDepth 20000 in
theorem seX1_takeBack : Cond.selects (mY mX1_takeBack).cls (mY mX1_takeBack) (mY mX1_takeBack) ∈ TB := tm 857 rfl
theorem tokX1_keep : TOK mX1_keep := TOK.of tkX1_keep
set_option maxRecDepth 20000 in
theorem okX1_keep : OKm mX1_keep := ⟨tm 796 rfl, tm 7 rfl, ⟨by decide, by decide⟩, by decide⟩
set_option maxRecDepth 20000 in
theorem inX1_keep : Cond.instanceMethod (mY mX1_keep) ∈ TB := tm 795 rfl
set_option maxRecDepth 20000 in
theorem seX1_keep : Cond.selects (mY mX1_keep).cls (mY mX1_keep) (mY mX1_keep) ∈ TB := tbm (List.mem_append_left _ (by decide +kernel)) rfl
theorem tokX1_keepAhead : TOK mX1_keepAhead := TOK.of tkX1_keepAhead
set_option maxRecDepth 20000 in
theorem okX1_keepAhead : OKm mX1_keepAhead := ⟨tm 763 rfl, tm 7 rfl, ⟨by decide, by decide⟩, by decide⟩
set_option maxRecDepth 20000 in
theorem inX1_keepAhead : Cond.instanceMethod (mY mX1_keepAhead) ∈ TB := tm 761 rfl
set_option maxRecDepth 20000 in
theorem seX1_keepAhead : Cond.selects (mY mX1_keepAhead).cls (mY mX1_keepAhead) (mY mX1_keepAhead) ∈ TB := tm 762 rfl
theorem tokX1_restoreAhead : TOK mX1_restoreAhead := TOK.of tkX1_restoreAhead
set_option maxRecDepth 20000 in
theorem okX1_restoreAhead : OKm mX1_restoreAhead := ⟨tm 817 rfl, tm 7 rfl, ⟨by decide, by decide⟩, by decide⟩
set_option maxRecDepth 20000 in
theorem inX1_restoreAhead : Cond.instanceMethod (mY mX1_restoreAhead) ∈ TB := tm 815 rfl
set_option maxRecDepth 20000 in
theorem seX1_restoreAhead : Cond.selects (mY mX1_restoreAhead).cls (mY mX1_restoreAhead) (mY mX1_restoreAhead) ∈ TB := tm 816 rfl
theorem tokX2_init : TOK mX2_init := TOK.of tkX2_init
set_option maxRecDepth 20000 in
theorem okX2_init : OKm mX2_init := ⟨tm 381 rfl, tm 11 rfl, ⟨by decide, by decide⟩, by decide⟩
set_option maxRecDepth 20000 in
theorem inX2_init : Cond.instanceMethod (mY mX2_init) ∈ TB := tm 380 rfl
theorem tokX2_run : TOK mX2_run := TOK.of tkX2_run
set_option maxRecDepth 20000 in
theorem okX2_run : OKm mX2_run := ⟨tm 1088 rfl, tm 11 rfl, ⟨by decide, by decide⟩, by decide⟩
set_option maxRecDepth 20000 in
theorem inX2_run : Cond.instanceMethod (mY mX2_run) ∈ TB := tm 1086 rfl
set_option maxRecDepth 20000 in
theorem seX2_run : Cond.selects (mY mX2_run).cls (mY mX2_run) (mY mX2_run) ∈ TB := tm 1087 rfl
theorem tokX2_draw : TOK mX2_draw := TOK.of tkX2_draw
set_option maxRecDepth 20000 in
theorem okX2_draw : OKm mX2_draw := ⟨tm 1093 rfl, tm 11 rfl, ⟨by decide, by decide⟩, by decide⟩
set_option maxRecDepth 20000 in
theorem inX2_draw : Cond.instanceMethod (mY mX2_draw) ∈ TB := tm 1092 rfl
set_option maxRecDepth 20000 in
theorem seX2_draw : Cond.selects (mY mX2_draw).cls (mY mX2_draw) (mY mX2_draw) ∈ TB := tbm (List.mem_append_left _ (by decide +kernel)) rfl
theorem tokX2_behind : TOK mX2_behind := TOK.of tkX2_behind
set_option maxRecDepth 20000 in
theorem okX2_behind : OKm mX2_behind := ⟨tm 1106 rfl, tm 11 rfl, ⟨by decide, by decide⟩, by decide⟩
set_option maxRecDepth 20000 in
theorem inX2_behind : Cond.instanceMethod (mY mX2_behind) ∈ TB := tm 1104 rfl
set_option maxRecDepth 20000 in
theorem seX2_behind : Cond.selects (mY mX2_behind).cls (mY mX2_behind) (mY mX2_behind) ∈ TB := tm 1105 rfl
theorem tokX3_init : TOK mX3_init := TOK.of tkX3_init
set_option maxRecDepth 20000 in
theorem okX3_init : OKm mX3_init := ⟨tm 365 rfl, tm 10 rfl, ⟨by decide, by decide⟩, by decide⟩
set_option maxRecDepth 20000 in
theorem inX3_init : Cond.instanceMethod (mY mX3_init) ∈ TB := tm 364 rfl
theorem tokX3_comesOut : TOK mX3_comesOut := TOK.of tkX3_comesOut
set_option maxRecDepth 20000 in
theorem okX3_comesOut : OKm mX3_comesOut := ⟨tm 1044 rfl, tm 10 rfl, ⟨by decide, by decide⟩, by decide⟩
set_option maxRecDepth 20000 in
theorem inX3_comesOut : Cond.instanceMethod (mY mX3_comesOut) ∈ TB := tm 1043 rfl
set_option maxRecDepth 20000 in
theorem seX3_comesOut : Cond.selects (mY mX3_comesOut).cls (mY mX3_comesOut) (mY mX3_comesOut) ∈ TB := tbm (List.mem_append_left _ (by decide +kernel)) rfl
theorem tokX3_possible : TOK mX3_possible := TOK.of tkX3_possible
set_option maxRecDepth 20000 in
theorem okX3_possible : OKm mX3_possible := ⟨tm 1040 rfl, tm 10 rfl, ⟨by decide, by decide⟩, by decide⟩
set_option maxRecDepth 20000 in
theorem inX3_possible : Cond.instanceMethod (mY mX3_possible) ∈ TB := tm 1038 rfl
set_option maxRecDepth 20000 in
theorem seX3_possible : Cond.selects (mY mX3_possible).cls (mY mX3_possible) (mY mX3_possible) ∈ TB := tm 1039 rfl
theorem tokX3_bestTrial : TOK mX3_bestTrial := TOK.of tkX3_bestTrial
set_option maxRecDepth 20000 in
theorem okX3_bestTrial : OKm mX3_bestTrial := ⟨tm 1054 rfl, tm 10 rfl, ⟨by decide, by decide⟩, by decide⟩
set_option maxRecDepth 20000 in
theorem inX3_bestTrial : Cond.instanceMethod (mY mX3_bestTrial) ∈ TB := tm 1052 rfl
set_option maxRecDepth 20000 in
theorem seX3_bestTrial : Cond.selects (mY mX3_bestTrial).cls (mY mX3_bestTrial) (mY mX3_bestTrial) ∈ TB := tm 1053 rfl
theorem tokX3_mostAlike : TOK mX3_mostAlike := TOK.of tkX3_mostAlike
set_option maxRecDepth 20000 in
theorem okX3_mostAlike : OKm mX3_mostAlike := ⟨tm 1059 rfl, tm 10 rfl, ⟨by decide, by decide⟩, by decide⟩
set_option maxRecDepth 20000 in
theorem inX3_mostAlike : Cond.instanceMethod (mY mX3_mostAlike) ∈ TB := tm 1058 rfl
set_option maxRecDepth 20000 in
theorem seX3_mostAlike : Cond.selects (mY mX3_mostAlike).cls (mY mX3_mostAlike) (mY mX3_mostAlike) ∈ TB := tbm (List.mem_append_left _ (by decide +kernel)) rfl
theorem tokX3_fewerBitten : TOK mX3_fewerBitten := TOK.of tkX3_fewerBitten
set_option maxRecDepth 20000 in
theorem okX3_fewerBitten : OKm mX3_fewerBitten := ⟨tm 1068 rfl, tm 10 rfl, ⟨by decide, by decide⟩, by decide⟩
set_option maxRecDepth 20000 in
theorem inX3_fewerBitten : Cond.instanceMethod (mY mX3_fewerBitten) ∈ TB := tm 1066 rfl
set_option maxRecDepth 20000 in
theorem seX3_fewerBitten : Cond.selects (mY mX3_fewerBitten).cls (mY mX3_fewerBitten) (mY mX3_fewerBitten) ∈ TB := tm 1067 rfl
theorem tokX4_init : TOK mX4_init := TOK.of tkX4_init
set_option maxRecDepth 20000 in
theorem okX4_init : OKm mX4_init := ⟨tm 188 rfl, tm 5 rfl, ⟨by decide, by decide⟩, by decide⟩
set_option maxRecDepth 20000 in
theorem inX4_init : Cond.instanceMethod (mY mX4_init) ∈ TB := tm 187 rfl
theorem tokX4_read : TOK mX4_read := TOK.of tkX4_read
set_option maxRecDepth 20000 in
theorem okX4_read : OKm mX4_read := ⟨tm 601 rfl, tm 5 rfl, ⟨by decide, by decide⟩, by decide⟩
set_option maxRecDepth 20000 in
theorem inX4_read : Cond.instanceMethod (mY mX4_read) ∈ TB := tm 599 rfl
set_option maxRecDepth 20000 in
theorem seX4_read : Cond.selects (mY mX4_read).cls (mY mX4_read) (mY mX4_read) ∈ TB := tm 600 rfl
theorem tokX4_split : TOK mX4_split := TOK.of tkX4_split
set_option maxRecDepth 20000 in
theorem okX4_split : OKm mX4_split := ⟨tm 605 rfl, tm 5 rfl, ⟨by decide, by decide⟩, by decide⟩
set_option maxRecDepth 20000 in
theorem inX4_split : Cond.instanceMethod (mY mX4_split) ∈ TB := tm 604 rfl
set_option maxRecDepth 20000 in
theorem seX4_split : Cond.selects (mY mX4_split).cls (mY mX4_split) (mY mX4_split) ∈ TB := tbm (List.mem_append_left _ (by decide +kernel)) rfl
theorem tokX4_behindToken : TOK mX4_behindToken := TOK.of tkX4_behindToken
set_option maxRecDepth 20000 in
theorem okX4_behindToken : OKm mX4_behindToken := ⟨tm 609 rfl, tm 5 rfl, ⟨by decide, by decide⟩, by decide⟩
set_option maxRecDepth 20000 in
theorem inX4_behindToken : Cond.instanceMethod (mY mX4_behindToken) ∈ TB := tm 608 rfl
set_option maxRecDepth 20000 in
theorem seX4_behindToken : Cond.selects (mY mX4_behindToken).cls (mY mX4_behindToken) (mY mX4_behindToken) ∈ TB := tbm (List.mem_append_left _ (by decide +kernel)) rfl
theorem tokX4_addToken : TOK mX4_addToken := TOK.of tkX4_addToken
set_option maxRecDepth 20000 in
theorem okX4_addToken : OKm mX4_addToken := ⟨tm 616 rfl, tm 5 rfl, ⟨by decide, by decide⟩, by decide⟩
set_option maxRecDepth 20000 in
theorem inX4_addToken : Cond.instanceMethod (mY mX4_addToken) ∈ TB := tm 615 rfl
set_option maxRecDepth 20000 in
theorem seX4_addToken : Cond.selects (mY mX4_addToken).cls (mY mX4_addToken) (mY mX4_addToken) ∈ TB := tbm (List.mem_append_left _ (by decide +kernel)) rfl
theorem tokX4_sortOf : TOK mX4_sortOf := TOK.of tkX4_sortOf
set_option maxRecDepth 20000 in
theorem okX4_sortOf : OKm mX4_sortOf := ⟨tm 612 rfl, tm 5 rfl, ⟨by decide, by decide⟩, by decide⟩
set_option maxRecDepth 20000 in
theorem inX4_sortOf : Cond.static (mY mX4_sortOf) ∈ TB := tm 611 rfl
theorem tokX4_wordOf : TOK mX4_wordOf := TOK.of tkX4_wordOf
set_option maxRecDepth 20000 in
theorem okX4_wordOf : OKm mX4_wordOf := ⟨tm 619 rfl, tm 5 rfl, ⟨by decide, by decide⟩, by decide⟩
set_option maxRecDepth 20000 in
theorem inX4_wordOf : Cond.static (mY mX4_wordOf) ∈ TB := tm 618 rfl
theorem tokX4_here : TOK mX4_here := TOK.of tkX4_here
set_option maxRecDepth 20000 in
theorem okX4_here : OKm mX4_here := ⟨tm 681 rfl, tm 5 rfl, ⟨by decide, by decide⟩, by decide⟩
set_option maxRecDepth 20000 in
theorem inX4_here : Cond.instanceMethod (mY mX4_here) ∈ TB := tm 680 rfl
set_option maxRecDepth 20000 in
theorem seX4_here : Cond.selects (mY mX4_here).cls (mY mX4_here) (mY mX4_here) ∈ TB := tbm (List.mem_append_left _ (by decide +kernel)) rfl
theorem tokX4_faulty : TOK mX4_faulty := TOK.of tkX4_faulty
set_option maxRecDepth 20000 in
theorem okX4_faulty : OKm mX4_faulty := ⟨tm 685 rfl, tm 5 rfl, ⟨by decide, by decide⟩, by decide⟩
set_option maxRecDepth 20000 in
theorem inX4_faulty : Cond.instanceMethod (mY mX4_faulty) ∈ TB := tm 684 rfl
set_option maxRecDepth 20000 in
theorem seX4_faulty : Cond.selects (mY mX4_faulty).cls (mY mX4_faulty) (mY mX4_faulty) ∈ TB := tbm (List.mem_append_left _ (by decide +kernel)) rfl
theorem tokX4_take : TOK mX4_take := TOK.of tkX4_take
set_option maxRecDepth 20000 in
theorem okX4_take : OKm mX4_take := ⟨tm 725 rfl, tm 5 rfl, ⟨by decide, by decide⟩, by decide⟩
set_option maxRecDepth 20000 in
theorem inX4_take : Cond.instanceMethod (mY mX4_take) ∈ TB := tm 724 rfl
set_option maxRecDepth 20000 in
theorem seX4_take : Cond.selects (mY mX4_take).cls (mY mX4_take) (mY mX4_take) ∈ TB := tbm (List.mem_append_left _ (by decide +kernel)) rfl
theorem tokX4_clause : TOK mX4_clause := TOK.of tkX4_clause
set_option maxRecDepth 20000 in
theorem okX4_clause : OKm mX4_clause := ⟨tm 677 rfl, tm 5 rfl, ⟨by decide, by decide⟩, by decide⟩
set_option maxRecDepth 20000 in
theorem inX4_clause : Cond.instanceMethod (mY mX4_clause) ∈ TB := tm 676 rfl
set_option maxRecDepth 20000 in
theorem seX4_clause : Cond.selects (mY mX4_clause).cls (mY mX4_clause) (mY mX4_clause) ∈ TB := tbm (List.mem_append_left _ (by decide +kernel)) rfl
theorem tokX4_times : TOK mX4_times := TOK.of tkX4_times
set_option maxRecDepth 20000 in
theorem okX4_times : OKm mX4_times := ⟨tm 741 rfl, tm 5 rfl, ⟨by decide, by decide⟩, by decide⟩
set_option maxRecDepth 20000 in
theorem inX4_times : Cond.instanceMethod (mY mX4_times) ∈ TB := tm 740 rfl
set_option maxRecDepth 20000 in
theorem seX4_times : Cond.selects (mY mX4_times).cls (mY mX4_times) (mY mX4_times) ∈ TB := tbm (List.mem_append_left _ (by decide +kernel)) rfl
theorem tokX4_test : TOK mX4_test := TOK.of tkX4_test
set_option maxRecDepth 20000 in
theorem okX4_test : OKm mX4_test := ⟨tm 705 rfl, tm 5 rfl, ⟨by decide, by decide⟩, by decide⟩
set_option maxRecDepth 20000 in
theorem inX4_test : Cond.instanceMethod (mY mX4_test) ∈ TB := tm 704 rfl
set_option maxRecDepth 20000 in
theorem seX4_test : Cond.selects (mY mX4_test).cls (mY mX4_test) (mY mX4_test) ∈ TB := tbm (List.mem_append_left _ (by decide +kernel)) rfl
theorem tokX4_plain : TOK mX4_plain := TOK.of tkX4_plain
set_option maxRecDepth 20000 in
theorem okX4_plain : OKm mX4_plain := ⟨tm 709 rfl, tm 5 rfl, ⟨by decide, by decide⟩, by decide⟩
set_option maxRecDepth 20000 in
theorem inX4_plain : Cond.instanceMethod (mY mX4_plain) ∈ TB := tm 708 rfl
set_option maxRecDepth 20000 in
theorem seX4_plain : Cond.selects (mY mX4_plain).cls (mY mX4_plain) (mY mX4_plain) ∈ TB := tbm (List.mem_append_left _ (by decide +kernel)) rfl
theorem tokX4_comparison : TOK mX4_comparison := TOK.of tkX4_comparison
set_option maxRecDepth 20000 in
theorem okX4_comparison : OKm mX4_comparison := ⟨tm 713 rfl, tm 5 rfl, ⟨by decide, by decide⟩, by decide⟩
set_option maxRecDepth 20000 in
theorem inX4_comparison : Cond.instanceMethod (mY mX4_comparison) ∈ TB := tm 712 rfl
set_option maxRecDepth 20000 in
theorem seX4_comparison : Cond.selects (mY mX4_comparison).cls (mY mX4_comparison) (mY mX4_comparison) ∈ TB := tbm (List.mem_append_left _ (by decide +kernel)) rfl
theorem tokX4_inBrackets : TOK mX4_inBrackets := TOK.of tkX4_inBrackets
set_option maxRecDepth 20000 in
theorem okX4_inBrackets : OKm mX4_inBrackets := ⟨tm 701 rfl, tm 5 rfl, ⟨by decide, by decide⟩, by decide⟩
set_option maxRecDepth 20000 in
theorem inX4_inBrackets : Cond.instanceMethod (mY mX4_inBrackets) ∈ TB := tm 700 rfl
set_option maxRecDepth 20000 in
theorem seX4_inBrackets : Cond.selects (mY mX4_inBrackets).cls (mY mX4_inBrackets) (mY mX4_inBrackets) ∈ TB := tbm (List.mem_append_left _ (by decide +kernel)) rfl
theorem tokX4_sum : TOK mX4_sum := TOK.of tkX4_sum
set_option maxRecDepth 20000 in
theorem okX4_sum : OKm mX4_sum := ⟨tm 689 rfl, tm 5 rfl, ⟨by decide, by decide⟩, by decide⟩
set_option maxRecDepth 20000 in
theorem inX4_sum : Cond.instanceMethod (mY mX4_sum) ∈ TB := tm 688 rfl
set_option maxRecDepth 20000 in
theorem seX4_sum : Cond.selects (mY mX4_sum).cls (mY mX4_sum) (mY mX4_sum) ∈ TB := tbm (List.mem_append_left _ (by decide +kernel)) rfl
theorem tokX4_term : TOK mX4_term := TOK.of tkX4_term
set_option maxRecDepth 20000 in
theorem okX4_term : OKm mX4_term := ⟨tm 693 rfl, tm 5 rfl, ⟨by decide, by decide⟩, by decide⟩
set_option maxRecDepth 20000 in
theorem inX4_term : Cond.instanceMethod (mY mX4_term) ∈ TB := tm 692 rfl
set_option maxRecDepth 20000 in
theorem seX4_term : Cond.selects (mY mX4_term).cls (mY mX4_term) (mY mX4_term) ∈ TB := tbm (List.mem_append_left _ (by decide +kernel)) rfl
theorem tokX4_part : TOK mX4_part := TOK.of tkX4_part
set_option maxRecDepth 20000 in
theorem okX4_part : OKm mX4_part := ⟨tm 697 rfl, tm 5 rfl, ⟨by decide, by decide⟩, by decide⟩
set_option maxRecDepth 20000 in
theorem inX4_part : Cond.instanceMethod (mY mX4_part) ∈ TB := tm 696 rfl
set_option maxRecDepth 20000 in
theorem seX4_part : Cond.selects (mY mX4_part).cls (mY mX4_part) (mY mX4_part) ∈ TB := tbm (List.mem_append_left _ (by decide +kernel)) rfl
theorem tokX4_lawWord : TOK mX4_lawWord := TOK.of tkX4_lawWord
set_option maxRecDepth 20000 in
theorem okX4_lawWord : OKm mX4_lawWord := ⟨tm 737 rfl, tm 5 rfl, ⟨by decide, by decide⟩, by decide⟩
set_option maxRecDepth 20000 in
theorem inX4_lawWord : Cond.instanceMethod (mY mX4_lawWord) ∈ TB := tm 736 rfl
set_option maxRecDepth 20000 in
theorem seX4_lawWord : Cond.selects (mY mX4_lawWord).cls (mY mX4_lawWord) (mY mX4_lawWord) ∈ TB := tbm (List.mem_append_left _ (by decide +kernel)) rfl
theorem tokX4_orderWord : TOK mX4_orderWord := TOK.of tkX4_orderWord
set_option maxRecDepth 20000 in
theorem okX4_orderWord : OKm mX4_orderWord := ⟨tm 729 rfl, tm 5 rfl, ⟨by decide, by decide⟩, by decide⟩
set_option maxRecDepth 20000 in
theorem inX4_orderWord : Cond.instanceMethod (mY mX4_orderWord) ∈ TB := tm 728 rfl
set_option maxRecDepth 20000 in
theorem seX4_orderWord : Cond.selects (mY mX4_orderWord).cls (mY mX4_orderWord) (mY mX4_orderWord) ∈ TB := tbm (List.mem_append_left _ (by decide +kernel)) rfl
theorem tokX4_numberedWord : TOK mX4_numberedWord := TOK.of tkX4_numberedWord
set_option maxRecDepth 20000 in
theorem okX4_numberedWord : OKm mX4_numberedWord := ⟨tm 733 rfl, tm 5 rfl, ⟨by decide, by decide⟩, by decide⟩
set_option maxRecDepth 20000 in
theorem inX4_numberedWord : Cond.instanceMethod (mY mX4_numberedWord) ∈ TB := tm 732 rfl
set_option maxRecDepth 20000 in
theorem seX4_numberedWord : Cond.selects (mY mX4_numberedWord).cls (mY mX4_numberedWord) (mY mX4_numberedWord) ∈ TB := tbm (List.mem_append_left _ (by decide +kernel)) rfl
theorem tokX5_init : TOK mX5_init := TOK.of tkX5_init
set_option maxRecDepth 20000 in
theorem okX5_init : OKm mX5_init := ⟨tm 290 rfl, tm 8 rfl, ⟨by decide, by decide⟩, by decide⟩
set_option maxRecDepth 20000 in
theorem inX5_init : Cond.instanceMethod (mY mX5_init) ∈ TB := tm 289 rfl
theorem tokX5_run : TOK mX5_run := TOK.of tkX5_run
set_option maxRecDepth 20000 in
theorem okX5_run : OKm mX5_run := ⟨tm 772 rfl, tm 8 rfl, ⟨by decide, by decide⟩, by decide⟩
set_option maxRecDepth 20000 in
theorem inX5_run : Cond.instanceMethod (mY mX5_run) ∈ TB := tm 770 rfl
set_option maxRecDepth 20000 in
theorem seX5_run : Cond.selects (mY mX5_run).cls (mY mX5_run) (mY mX5_run) ∈ TB := tm 771 rfl
theorem tokX5_runOnce : TOK mX5_runOnce := TOK.of tkX5_runOnce
set_option maxRecDepth 20000 in
theorem okX5_runOnce : OKm mX5_runOnce := ⟨tm 776 rfl, tm 8 rfl, ⟨by decide, by decide⟩, by decide⟩
set_option maxRecDepth 20000 in
theorem inX5_runOnce : Cond.instanceMethod (mY mX5_runOnce) ∈ TB := tm 775 rfl
set_option maxRecDepth 20000 in
theorem seX5_runOnce : Cond.selects (mY mX5_runOnce).cls (mY mX5_runOnce) (mY mX5_runOnce) ∈ TB := tbm (List.mem_append_left _ (by decide +kernel)) rfl
theorem tokX5_lookRound : TOK mX5_lookRound := TOK.of tkX5_lookRound
set_option maxRecDepth 20000 in
theorem okX5_lookRound : OKm mX5_lookRound := ⟨tm 780 rfl, tm 8 rfl, ⟨by decide, by decide⟩, by decide⟩
set_option maxRecDepth 20000 in
theorem inX5_lookRound : Cond.instanceMethod (mY mX5_lookRound) ∈ TB := tm 779 rfl
set_option maxRecDepth 20000 in
theorem seX5_lookRound : Cond.selects (mY mX5_lookRound).cls (mY mX5_lookRound) (mY mX5_lookRound) ∈ TB := tbm (List.mem_append_left _ (by decide +kernel)) rfl
theorem tokX6_init : TOK mX6_init := TOK.of tkX6_init
set_option maxRecDepth 20000 in
theorem okX6_init : OKm mX6_init := ⟨tm 316 rfl, tm 9 rfl, ⟨by decide, by decide⟩, by decide⟩
set_option maxRecDepth 20000 in
theorem inX6_init : Cond.instanceMethod (mY mX6_init) ∈ TB := tm 315 rfl
theorem tokX6_begin : TOK mX6_begin := TOK.of tkX6_begin
set_option maxRecDepth 20000 in
theorem okX6_begin : OKm mX6_begin := ⟨tm 870 rfl, tm 9 rfl, ⟨by decide, by decide⟩, by decide⟩
set_option maxRecDepth 20000 in
theorem inX6_begin : Cond.instanceMethod (mY mX6_begin) ∈ TB := tm 868 rfl
set_option maxRecDepth 20000 in
theorem seX6_begin : Cond.selects (mY mX6_begin).cls (mY mX6_begin) (mY mX6_begin) ∈ TB := tm 869 rfl
theorem tokX6_tryLaw : TOK mX6_tryLaw := TOK.of tkX6_tryLaw
set_option maxRecDepth 20000 in
theorem okX6_tryLaw : OKm mX6_tryLaw := ⟨tm 1079 rfl, tm 9 rfl, ⟨by decide, by decide⟩, by decide⟩
set_option maxRecDepth 20000 in
theorem inX6_tryLaw : Cond.instanceMethod (mY mX6_tryLaw) ∈ TB := tm 1077 rfl
set_option maxRecDepth 20000 in
theorem seX6_tryLaw : Cond.selects (mY mX6_tryLaw).cls (mY mX6_tryLaw) (mY mX6_tryLaw) ∈ TB := tm 1078 rfl
theorem tokX6_tryArm : TOK mX6_tryArm := TOK.of tkX6_tryArm
set_option maxRecDepth 20000 in
theorem okX6_tryArm : OKm mX6_tryArm := ⟨tm 982 rfl, tm 9 rfl, ⟨by decide, by decide⟩, by decide⟩
set_option maxRecDepth 20000 in
theorem inX6_tryArm : Cond.instanceMethod (mY mX6_tryArm) ∈ TB := tm 981 rfl
set_option maxRecDepth 20000 in
theorem seX6_tryArm : Cond.selects (mY mX6_tryArm).cls (mY mX6_tryArm) (mY mX6_tryArm) ∈ TB := tbm (List.mem_append_left _ (by decide +kernel)) rfl
theorem tokX6_start : TOK mX6_start := TOK.of tkX6_start
set_option maxRecDepth 20000 in
theorem okX6_start : OKm mX6_start := ⟨tm 886 rfl, tm 9 rfl, ⟨by decide, by decide⟩, by decide⟩
set_option maxRecDepth 20000 in
theorem inX6_start : Cond.instanceMethod (mY mX6_start) ∈ TB := tm 885 rfl
set_option maxRecDepth 20000 in
theorem seX6_start : Cond.selects (mY mX6_start).cls (mY mX6_start) (mY mX6_start) ∈ TB := tbm (List.mem_append_left _ (by decide +kernel)) rfl
theorem tokX6_isAt : TOK mX6_isAt := TOK.of tkX6_isAt
set_option maxRecDepth 20000 in
theorem okX6_isAt : OKm mX6_isAt := ⟨tm 889 rfl, tm 9 rfl, ⟨by decide, by decide⟩, by decide⟩
set_option maxRecDepth 20000 in
theorem inX6_isAt : Cond.static (mY mX6_isAt) ∈ TB := tm 888 rfl
theorem tokX6_behind : TOK mX6_behind := TOK.of tkX6_behind
set_option maxRecDepth 20000 in
theorem okX6_behind : OKm mX6_behind := ⟨tm 893 rfl, tm 9 rfl, ⟨by decide, by decide⟩, by decide⟩
set_option maxRecDepth 20000 in
theorem inX6_behind : Cond.instanceMethod (mY mX6_behind) ∈ TB := tm 892 rfl
set_option maxRecDepth 20000 in
theorem seX6_behind : Cond.selects (mY mX6_behind).cls (mY mX6_behind) (mY mX6_behind) ∈ TB := tbm (List.mem_append_left _ (by decide +kernel)) rfl
theorem tokX6_find : TOK mX6_find := TOK.of tkX6_find
set_option maxRecDepth 20000 in
theorem okX6_find : OKm mX6_find := ⟨tm 882 rfl, tm 9 rfl, ⟨by decide, by decide⟩, by decide⟩
set_option maxRecDepth 20000 in
theorem inX6_find : Cond.instanceMethod (mY mX6_find) ∈ TB := tm 881 rfl
set_option maxRecDepth 20000 in
theorem seX6_find : Cond.selects (mY mX6_find).cls (mY mX6_find) (mY mX6_find) ∈ TB := tbm (List.mem_append_left _ (by decide +kernel)) rfl
theorem tokX6_findAll : TOK mX6_findAll := TOK.of tkX6_findAll
set_option maxRecDepth 20000 in
theorem okX6_findAll : OKm mX6_findAll := ⟨tm 927 rfl, tm 9 rfl, ⟨by decide, by decide⟩, by decide⟩
set_option maxRecDepth 20000 in
theorem inX6_findAll : Cond.instanceMethod (mY mX6_findAll) ∈ TB := tm 926 rfl
set_option maxRecDepth 20000 in
theorem seX6_findAll : Cond.selects (mY mX6_findAll).cls (mY mX6_findAll) (mY mX6_findAll) ∈ TB := tbm (List.mem_append_left _ (by decide +kernel)) rfl
theorem tokX6_wayLength : TOK mX6_wayLength := TOK.of tkX6_wayLength
set_option maxRecDepth 20000 in
theorem okX6_wayLength : OKm mX6_wayLength := ⟨tm 878 rfl, tm 9 rfl, ⟨by decide, by decide⟩, by decide⟩
set_option maxRecDepth 20000 in
theorem inX6_wayLength : Cond.instanceMethod (mY mX6_wayLength) ∈ TB := tm 876 rfl
set_option maxRecDepth 20000 in
theorem seX6_wayLength : Cond.selects (mY mX6_wayLength).cls (mY mX6_wayLength) (mY mX6_wayLength) ∈ TB := tm 877 rfl
theorem tokX6_wayGate : TOK mX6_wayGate := TOK.of tkX6_wayGate
set_option maxRecDepth 20000 in
theorem okX6_wayGate : OKm mX6_wayGate := ⟨tm 899 rfl, tm 9 rfl, ⟨by decide, by decide⟩, by decide⟩
set_option maxRecDepth 20000 in
theorem inX6_wayGate : Cond.instanceMethod (mY mX6_wayGate) ∈ TB := tm 897 rfl
set_option maxRecDepth 20000 in
theorem seX6_wayGate : Cond.selects (mY mX6_wayGate).cls (mY mX6_wayGate) (mY mX6_wayGate) ∈ TB := tm 898 rfl
theorem tokX6_manyBits : TOK mX6_manyBits := TOK.of tkX6_manyBits
set_option maxRecDepth 20000 in
theorem okX6_manyBits : OKm mX6_manyBits := ⟨tm 923 rfl, tm 9 rfl, ⟨by decide, by decide⟩, by decide⟩
set_option maxRecDepth 20000 in
theorem inX6_manyBits : Cond.instanceMethod (mY mX6_manyBits) ∈ TB := tm 921 rfl
set_option maxRecDepth 20000 in
theorem seX6_manyBits : Cond.selects (mY mX6_manyBits).cls (mY mX6_manyBits) (mY mX6_manyBits) ∈ TB := tm 922 rfl
theorem tokX6_parkBits : TOK mX6_parkBits := TOK.of tkX6_parkBits
set_option maxRecDepth 20000 in
theorem okX6_parkBits : OKm mX6_parkBits := ⟨tm 935 rfl, tm 9 rfl, ⟨by decide, by decide⟩, by decide⟩
set_option maxRecDepth 20000 in
theorem inX6_parkBits : Cond.instanceMethod (mY mX6_parkBits) ∈ TB := tm 933 rfl
set_option maxRecDepth 20000 in
theorem seX6_parkBits : Cond.selects (mY mX6_parkBits).cls (mY mX6_parkBits) (mY mX6_parkBits) ∈ TB := tm 934 rfl
theorem tokX6_leastToll : TOK mX6_leastToll := TOK.of tkX6_leastToll
set_option maxRecDepth 20000 in
theorem okX6_leastToll : OKm mX6_leastToll := ⟨tm 907 rfl, tm 9 rfl, ⟨by decide, by decide⟩, by decide⟩
set_option maxRecDepth 20000 in
theorem inX6_leastToll : Cond.instanceMethod (mY mX6_leastToll) ∈ TB := tm 905 rfl
set_option maxRecDepth 20000 in
theorem seX6_leastToll : Cond.selects (mY mX6_leastToll).cls (mY mX6_leastToll) (mY mX6_leastToll) ∈ TB := tm 906 rfl
theorem tokX6_cheapestUnsettled : TOK mX6_cheapestUnsettled := TOK.of tkX6_cheapestUnsettled
set_option maxRecDepth 20000 in
theorem okX6_cheapestUnsettled : OKm mX6_cheapestUnsettled := ⟨tm 911 rfl, tm 9 rfl, ⟨by decide, by decide⟩, by decide⟩
set_option maxRecDepth 20000 in
theorem inX6_cheapestUnsettled : Cond.instanceMethod (mY mX6_cheapestUnsettled) ∈ TB := tm 910 rfl
set_option maxRecDepth 20000 in
theorem seX6_cheapestUnsettled : Cond.selects (mY mX6_cheapestUnsettled).cls (mY mX6_cheapestUnsettled) (mY mX6_cheapestUnsettled) ∈ TB := tbm (List.mem_append_left _ (by decide +kernel)) rfl
theorem tokX6_payInto : TOK mX6_payInto := TOK.of tkX6_payInto
set_option maxRecDepth 20000 in
theorem okX6_payInto : OKm mX6_payInto := ⟨tm 915 rfl, tm 9 rfl, ⟨by decide, by decide⟩, by decide⟩
set_option maxRecDepth 20000 in
theorem inX6_payInto : Cond.instanceMethod (mY mX6_payInto) ∈ TB := tm 914 rfl
set_option maxRecDepth 20000 in
theorem seX6_payInto : Cond.selects (mY mX6_payInto).cls (mY mX6_payInto) (mY mX6_payInto) ∈ TB := tbm (List.mem_append_left _ (by decide +kernel)) rfl
theorem tokX6_flow : TOK mX6_flow := TOK.of tkX6_flow
set_option maxRecDepth 20000 in
theorem okX6_flow : OKm mX6_flow := ⟨tm 944 rfl, tm 9 rfl, ⟨by decide, by decide⟩, by decide⟩
set_option maxRecDepth 20000 in
theorem inX6_flow : Cond.instanceMethod (mY mX6_flow) ∈ TB := tm 942 rfl
set_option maxRecDepth 20000 in
theorem seX6_flow : Cond.selects (mY mX6_flow).cls (mY mX6_flow) (mY mX6_flow) ∈ TB := tm 943 rfl
theorem tokX6_flowFrom : TOK mX6_flowFrom := TOK.of tkX6_flowFrom
set_option maxRecDepth 20000 in
theorem okX6_flowFrom : OKm mX6_flowFrom := ⟨tm 951 rfl, tm 9 rfl, ⟨by decide, by decide⟩, by decide⟩
set_option maxRecDepth 20000 in
theorem inX6_flowFrom : Cond.instanceMethod (mY mX6_flowFrom) ∈ TB := tm 950 rfl
set_option maxRecDepth 20000 in
theorem seX6_flowFrom : Cond.selects (mY mX6_flowFrom).cls (mY mX6_flowFrom) (mY mX6_flowFrom) ∈ TB := tbm (List.mem_append_left _ (by decide +kernel)) rfl
theorem tokX6_flowed : TOK mX6_flowed := TOK.of tkX6_flowed
set_option maxRecDepth 20000 in
theorem okX6_flowed : OKm mX6_flowed := ⟨tm 956 rfl, tm 9 rfl, ⟨by decide, by decide⟩, by decide⟩
set_option maxRecDepth 20000 in
theorem inX6_flowed : Cond.instanceMethod (mY mX6_flowed) ∈ TB := tm 954 rfl
set_option maxRecDepth 20000 in
theorem seX6_flowed : Cond.selects (mY mX6_flowed).cls (mY mX6_flowed) (mY mX6_flowed) ∈ TB := tm 955 rfl
theorem tokX6_firstFix : TOK mX6_firstFix := TOK.of tkX6_firstFix
set_option maxRecDepth 20000 in
theorem okX6_firstFix : OKm mX6_firstFix := ⟨tm 978 rfl, tm 9 rfl, ⟨by decide, by decide⟩, by decide⟩
set_option maxRecDepth 20000 in
theorem inX6_firstFix : Cond.instanceMethod (mY mX6_firstFix) ∈ TB := tm 976 rfl
set_option maxRecDepth 20000 in
theorem seX6_firstFix : Cond.selects (mY mX6_firstFix).cls (mY mX6_firstFix) (mY mX6_firstFix) ∈ TB := tm 977 rfl
theorem tokX6_fewestShut : TOK mX6_fewestShut := TOK.of tkX6_fewestShut
set_option maxRecDepth 20000 in
theorem okX6_fewestShut : OKm mX6_fewestShut := ⟨tm 990 rfl, tm 9 rfl, ⟨by decide, by decide⟩, by decide⟩
set_option maxRecDepth 20000 in
theorem inX6_fewestShut : Cond.instanceMethod (mY mX6_fewestShut) ∈ TB := tm 988 rfl
set_option maxRecDepth 20000 in
theorem seX6_fewestShut : Cond.selects (mY mX6_fewestShut).cls (mY mX6_fewestShut) (mY mX6_fewestShut) ∈ TB := tm 989 rfl
theorem tokX6_shuts : TOK mX6_shuts := TOK.of tkX6_shuts
set_option maxRecDepth 20000 in
theorem okX6_shuts : OKm mX6_shuts := ⟨tm 1000 rfl, tm 9 rfl, ⟨by decide, by decide⟩, by decide⟩
set_option maxRecDepth 20000 in
theorem inX6_shuts : Cond.instanceMethod (mY mX6_shuts) ∈ TB := tm 999 rfl
set_option maxRecDepth 20000 in
theorem seX6_shuts : Cond.selects (mY mX6_shuts).cls (mY mX6_shuts) (mY mX6_shuts) ∈ TB := tbm (List.mem_append_left _ (by decide +kernel)) rfl
theorem tokX6_keepSteps : TOK mX6_keepSteps := TOK.of tkX6_keepSteps
set_option maxRecDepth 20000 in
theorem okX6_keepSteps : OKm mX6_keepSteps := ⟨tm 1009 rfl, tm 9 rfl, ⟨by decide, by decide⟩, by decide⟩
set_option maxRecDepth 20000 in
theorem inX6_keepSteps : Cond.instanceMethod (mY mX6_keepSteps) ∈ TB := tm 1007 rfl
set_option maxRecDepth 20000 in
theorem seX6_keepSteps : Cond.selects (mY mX6_keepSteps).cls (mY mX6_keepSteps) (mY mX6_keepSteps) ∈ TB := tm 1008 rfl
theorem tokX6_meetingPlace : TOK mX6_meetingPlace := TOK.of tkX6_meetingPlace
set_option maxRecDepth 20000 in
theorem okX6_meetingPlace : OKm mX6_meetingPlace := ⟨tm 1013 rfl, tm 9 rfl, ⟨by decide, by decide⟩, by decide⟩
set_option maxRecDepth 20000 in
theorem inX6_meetingPlace : Cond.instanceMethod (mY mX6_meetingPlace) ∈ TB := tm 1011 rfl
set_option maxRecDepth 20000 in
theorem seX6_meetingPlace : Cond.selects (mY mX6_meetingPlace).cls (mY mX6_meetingPlace) (mY mX6_meetingPlace) ∈ TB := tm 1012 rfl
theorem tokX6_longerSteps : TOK mX6_longerSteps := TOK.of tkX6_longerSteps
set_option maxRecDepth 20000 in
theorem okX6_longerSteps : OKm mX6_longerSteps := ⟨tm 1017 rfl, tm 9 rfl, ⟨by decide, by decide⟩, by decide⟩
set_option maxRecDepth 20000 in
theorem inX6_longerSteps : Cond.instanceMethod (mY mX6_longerSteps) ∈ TB := tm 1015 rfl
set_option maxRecDepth 20000 in
theorem seX6_longerSteps : Cond.selects (mY mX6_longerSteps).cls (mY mX6_longerSteps) (mY mX6_longerSteps) ∈ TB := tm 1016 rfl
theorem tokX7_init : TOK mX7_init := TOK.of tkX7_init
set_option maxRecDepth 20000 in
theorem okX7_init : OKm mX7_init := ⟨tm 33 rfl, tm 2 rfl, ⟨by decide, by decide⟩, by decide⟩
set_option maxRecDepth 20000 in
theorem inX7_init : Cond.instanceMethod (mY mX7_init) ∈ TB := tm 32 rfl
theorem tokX7_hasGate : TOK mX7_hasGate := TOK.of tkX7_hasGate
set_option maxRecDepth 20000 in
theorem okX7_hasGate : OKm mX7_hasGate := ⟨tm 473 rfl, tm 2 rfl, ⟨by decide, by decide⟩, by decide⟩
set_option maxRecDepth 20000 in
theorem inX7_hasGate : Cond.instanceMethod (mY mX7_hasGate) ∈ TB := tm 471 rfl
set_option maxRecDepth 20000 in
theorem seX7_hasGate : Cond.selects (mY mX7_hasGate).cls (mY mX7_hasGate) (mY mX7_hasGate) ∈ TB := tm 472 rfl
theorem tokX7_hasGoer : TOK mX7_hasGoer := TOK.of tkX7_hasGoer
set_option maxRecDepth 20000 in
theorem okX7_hasGoer : OKm mX7_hasGoer := ⟨tm 489 rfl, tm 2 rfl, ⟨by decide, by decide⟩, by decide⟩
set_option maxRecDepth 20000 in
theorem inX7_hasGoer : Cond.instanceMethod (mY mX7_hasGoer) ∈ TB := tm 487 rfl
set_option maxRecDepth 20000 in
theorem seX7_hasGoer : Cond.selects (mY mX7_hasGoer).cls (mY mX7_hasGoer) (mY mX7_hasGoer) ∈ TB := tm 488 rfl
theorem tokX7_hasLaw : TOK mX7_hasLaw := TOK.of tkX7_hasLaw
set_option maxRecDepth 20000 in
theorem okX7_hasLaw : OKm mX7_hasLaw := ⟨tm 518 rfl, tm 2 rfl, ⟨by decide, by decide⟩, by decide⟩
set_option maxRecDepth 20000 in
theorem inX7_hasLaw : Cond.instanceMethod (mY mX7_hasLaw) ∈ TB := tm 516 rfl
set_option maxRecDepth 20000 in
theorem seX7_hasLaw : Cond.selects (mY mX7_hasLaw).cls (mY mX7_hasLaw) (mY mX7_hasLaw) ∈ TB := tm 517 rfl
theorem tokX7_inForce : TOK mX7_inForce := TOK.of tkX7_inForce
set_option maxRecDepth 20000 in
theorem okX7_inForce : OKm mX7_inForce := ⟨tm 514 rfl, tm 2 rfl, ⟨by decide, by decide⟩, by decide⟩
set_option maxRecDepth 20000 in
theorem inX7_inForce : Cond.instanceMethod (mY mX7_inForce) ∈ TB := tm 512 rfl
set_option maxRecDepth 20000 in
theorem seX7_inForce : Cond.selects (mY mX7_inForce).cls (mY mX7_inForce) (mY mX7_inForce) ∈ TB := tm 513 rfl
theorem tokX7_addGate : TOK mX7_addGate := TOK.of tkX7_addGate
set_option maxRecDepth 20000 in
theorem okX7_addGate : OKm mX7_addGate := ⟨tm 451 rfl, tm 2 rfl, ⟨by decide, by decide⟩, by decide⟩
set_option maxRecDepth 20000 in
theorem inX7_addGate : Cond.instanceMethod (mY mX7_addGate) ∈ TB := tm 449 rfl
set_option maxRecDepth 20000 in
theorem seX7_addGate : Cond.selects (mY mX7_addGate).cls (mY mX7_addGate) (mY mX7_addGate) ∈ TB := tm 450 rfl
theorem tokX7_addGoer : TOK mX7_addGoer := TOK.of tkX7_addGoer
set_option maxRecDepth 20000 in
theorem okX7_addGoer : OKm mX7_addGoer := ⟨tm 481 rfl, tm 2 rfl, ⟨by decide, by decide⟩, by decide⟩
set_option maxRecDepth 20000 in
theorem inX7_addGoer : Cond.instanceMethod (mY mX7_addGoer) ∈ TB := tm 479 rfl
set_option maxRecDepth 20000 in
theorem seX7_addGoer : Cond.selects (mY mX7_addGoer).cls (mY mX7_addGoer) (mY mX7_addGoer) ∈ TB := tm 480 rfl
theorem tokX7_addSight : TOK mX7_addSight := TOK.of tkX7_addSight
set_option maxRecDepth 20000 in
theorem okX7_addSight : OKm mX7_addSight := ⟨tm 1028 rfl, tm 2 rfl, ⟨by decide, by decide⟩, by decide⟩
set_option maxRecDepth 20000 in
theorem inX7_addSight : Cond.instanceMethod (mY mX7_addSight) ∈ TB := tm 1026 rfl
set_option maxRecDepth 20000 in
theorem seX7_addSight : Cond.selects (mY mX7_addSight).cls (mY mX7_addSight) (mY mX7_addSight) ∈ TB := tm 1027 rfl
theorem tokX7_addLaw : TOK mX7_addLaw := TOK.of tkX7_addLaw
set_option maxRecDepth 20000 in
theorem okX7_addLaw : OKm mX7_addLaw := ⟨tm 754 rfl, tm 2 rfl, ⟨by decide, by decide⟩, by decide⟩
set_option maxRecDepth 20000 in
theorem inX7_addLaw : Cond.instanceMethod (mY mX7_addLaw) ∈ TB := tm 752 rfl
set_option maxRecDepth 20000 in
theorem seX7_addLaw : Cond.selects (mY mX7_addLaw).cls (mY mX7_addLaw) (mY mX7_addLaw) ∈ TB := tm 753 rfl
theorem tokX7_changeTerm : TOK mX7_changeTerm := TOK.of tkX7_changeTerm
set_option maxRecDepth 20000 in
theorem okX7_changeTerm : OKm mX7_changeTerm := ⟨tm 553 rfl, tm 2 rfl, ⟨by decide, by decide⟩, by decide⟩
set_option maxRecDepth 20000 in
theorem inX7_changeTerm : Cond.instanceMethod (mY mX7_changeTerm) ∈ TB := tm 551 rfl
set_option maxRecDepth 20000 in
theorem seX7_changeTerm : Cond.selects (mY mX7_changeTerm).cls (mY mX7_changeTerm) (mY mX7_changeTerm) ∈ TB := tm 552 rfl
theorem tokX7_allMany : TOK mX7_allMany := TOK.of tkX7_allMany
set_option maxRecDepth 20000 in
theorem okX7_allMany : OKm mX7_allMany := ⟨tm 1123 rfl, tm 2 rfl, ⟨by decide, by decide⟩, by decide⟩
set_option maxRecDepth 20000 in
theorem inX7_allMany : Cond.instanceMethod (mY mX7_allMany) ∈ TB := tm 1121 rfl
set_option maxRecDepth 20000 in
theorem seX7_allMany : Cond.selects (mY mX7_allMany).cls (mY mX7_allMany) (mY mX7_allMany) ∈ TB := tm 1122 rfl
theorem tokX7_copyFrom : TOK mX7_copyFrom := TOK.of tkX7_copyFrom
set_option maxRecDepth 20000 in
theorem okX7_copyFrom : OKm mX7_copyFrom := ⟨tm 767 rfl, tm 2 rfl, ⟨by decide, by decide⟩, by decide⟩
set_option maxRecDepth 20000 in
theorem inX7_copyFrom : Cond.instanceMethod (mY mX7_copyFrom) ∈ TB := tm 765 rfl
set_option maxRecDepth 20000 in
theorem seX7_copyFrom : Cond.selects (mY mX7_copyFrom).cls (mY mX7_copyFrom) (mY mX7_copyFrom) ∈ TB := tm 766 rfl
theorem tokX8_init : TOK mX8_init := TOK.of tkX8_init
set_option maxRecDepth 20000 in
theorem okX8_init : OKm mX8_init := ⟨tm 156 rfl, tm 3 rfl, ⟨by decide, by decide⟩, by decide⟩
set_option maxRecDepth 20000 in
theorem inX8_init : Cond.instanceMethod (mY mX8_init) ∈ TB := tm 155 rfl
theorem tokX8_take : TOK mX8_take := TOK.of tkX8_take
set_option maxRecDepth 20000 in
theorem okX8_take : OKm mX8_take := ⟨tm 561 rfl, tm 3 rfl, ⟨by decide, by decide⟩, by decide⟩
set_option maxRecDepth 20000 in
theorem inX8_take : Cond.instanceMethod (mY mX8_take) ∈ TB := tm 559 rfl
set_option maxRecDepth 20000 in
theorem seX8_take : Cond.selects (mY mX8_take).cls (mY mX8_take) (mY mX8_take) ∈ TB := tm 560 rfl
theorem tokX8_takeFour : TOK mX8_takeFour := TOK.of tkX8_takeFour
set_option maxRecDepth 20000 in
theorem okX8_takeFour : OKm mX8_takeFour := ⟨tm 565 rfl, tm 3 rfl, ⟨by decide, by decide⟩, by decide⟩
set_option maxRecDepth 20000 in
theorem inX8_takeFour : Cond.instanceMethod (mY mX8_takeFour) ∈ TB := tm 564 rfl
set_option maxRecDepth 20000 in
theorem seX8_takeFour : Cond.selects (mY mX8_takeFour).cls (mY mX8_takeFour) (mY mX8_takeFour) ∈ TB := tbm (List.mem_append_left _ (by decide +kernel)) rfl
theorem tokX8_shorten : TOK mX8_shorten := TOK.of tkX8_shorten
set_option maxRecDepth 20000 in
theorem okX8_shorten : OKm mX8_shorten := ⟨tm 573 rfl, tm 3 rfl, ⟨by decide, by decide⟩, by decide⟩
set_option maxRecDepth 20000 in
theorem inX8_shorten : Cond.instanceMethod (mY mX8_shorten) ∈ TB := tm 571 rfl
set_option maxRecDepth 20000 in
theorem seX8_shorten : Cond.selects (mY mX8_shorten).cls (mY mX8_shorten) (mY mX8_shorten) ∈ TB := tm 572 rfl
theorem tokX8_clear : TOK mX8_clear := TOK.of tkX8_clear
set_option maxRecDepth 20000 in
theorem okX8_clear : OKm mX8_clear := ⟨tm 585 rfl, tm 3 rfl, ⟨by decide, by decide⟩, by decide⟩
set_option maxRecDepth 20000 in
theorem inX8_clear : Cond.instanceMethod (mY mX8_clear) ∈ TB := tm 583 rfl
set_option maxRecDepth 20000 in
theorem seX8_clear : Cond.selects (mY mX8_clear).cls (mY mX8_clear) (mY mX8_clear) ∈ TB := tm 584 rfl
theorem tokX8_byteAt : TOK mX8_byteAt := TOK.of tkX8_byteAt
set_option maxRecDepth 20000 in
theorem okX8_byteAt : OKm mX8_byteAt := ⟨tm 581 rfl, tm 3 rfl, ⟨by decide, by decide⟩, by decide⟩
set_option maxRecDepth 20000 in
theorem inX8_byteAt : Cond.instanceMethod (mY mX8_byteAt) ∈ TB := tm 579 rfl
set_option maxRecDepth 20000 in
theorem seX8_byteAt : Cond.selects (mY mX8_byteAt).cls (mY mX8_byteAt) (mY mX8_byteAt) ∈ TB := tm 580 rfl
theorem tokX9_init : TOK mX9_init := TOK.of tkX9_init
set_option maxRecDepth 20000 in
theorem okX9_init : OKm mX9_init := ⟨tm 194 rfl, tm 6 rfl, ⟨by decide, by decide⟩, by decide⟩
set_option maxRecDepth 20000 in
theorem inX9_init : Cond.instanceMethod (mY mX9_init) ∈ TB := tm 193 rfl
theorem tokX9_copy : TOK mX9_copy := TOK.of tkX9_copy
set_option maxRecDepth 20000 in
theorem okX9_copy : OKm mX9_copy := ⟨tm 745 rfl, tm 6 rfl, ⟨by decide, by decide⟩, by decide⟩
set_option maxRecDepth 20000 in
theorem inX9_copy : Cond.instanceMethod (mY mX9_copy) ∈ TB := tm 743 rfl
set_option maxRecDepth 20000 in
theorem seX9_copy : Cond.selects (mY mX9_copy).cls (mY mX9_copy) (mY mX9_copy) ∈ TB := tm 744 rfl
theorem tokX9_clear : TOK mX9_clear := TOK.of tkX9_clear
set_option maxRecDepth 20000 in
theorem okX9_clear : OKm mX9_clear := ⟨tm 673 rfl, tm 6 rfl, ⟨by decide, by decide⟩, by decide⟩
set_option maxRecDepth 20000 in
theorem inX9_clear : Cond.instanceMethod (mY mX9_clear) ∈ TB := tm 671 rfl
set_option maxRecDepth 20000 in
theorem seX9_clear : Cond.selects (mY mX9_clear).cls (mY mX9_clear) (mY mX9_clear) ∈ TB := tm 672 rfl
theorem tokX9_add : TOK mX9_add := TOK.of tkX9_add
set_option maxRecDepth 20000 in
theorem okX9_add : OKm mX9_add := ⟨tm 717 rfl, tm 6 rfl, ⟨by decide, by decide⟩, by decide⟩
set_option maxRecDepth 20000 in
theorem inX9_add : Cond.instanceMethod (mY mX9_add) ∈ TB := tm 715 rfl
set_option maxRecDepth 20000 in
theorem seX9_add : Cond.selects (mY mX9_add).cls (mY mX9_add) (mY mX9_add) ∈ TB := tm 716 rfl
theorem tokX9_aim : TOK mX9_aim := TOK.of tkX9_aim
set_option maxRecDepth 20000 in
theorem okX9_aim : OKm mX9_aim := ⟨tm 721 rfl, tm 6 rfl, ⟨by decide, by decide⟩, by decide⟩
set_option maxRecDepth 20000 in
theorem inX9_aim : Cond.instanceMethod (mY mX9_aim) ∈ TB := tm 719 rfl
set_option maxRecDepth 20000 in
theorem seX9_aim : Cond.selects (mY mX9_aim).cls (mY mX9_aim) (mY mX9_aim) ∈ TB := tm 720 rfl
theorem tokX9_has : TOK mX9_has := TOK.of tkX9_has
set_option maxRecDepth 20000 in
theorem okX9_has : OKm mX9_has := ⟨tm 522 rfl, tm 6 rfl, ⟨by decide, by decide⟩, by decide⟩
set_option maxRecDepth 20000 in
theorem inX9_has : Cond.instanceMethod (mY mX9_has) ∈ TB := tm 520 rfl
set_option maxRecDepth 20000 in
theorem seX9_has : Cond.selects (mY mX9_has).cls (mY mX9_has) (mY mX9_has) ∈ TB := tm 521 rfl
theorem tokX9_reckon : TOK mX9_reckon := TOK.of tkX9_reckon
set_option maxRecDepth 20000 in
theorem okX9_reckon : OKm mX9_reckon := ⟨tm 526 rfl, tm 6 rfl, ⟨by decide, by decide⟩, by decide⟩
set_option maxRecDepth 20000 in
theorem inX9_reckon : Cond.instanceMethod (mY mX9_reckon) ∈ TB := tm 524 rfl
set_option maxRecDepth 20000 in
theorem seX9_reckon : Cond.selects (mY mX9_reckon).cls (mY mX9_reckon) (mY mX9_reckon) ∈ TB := tm 525 rfl
theorem tokX9_join : TOK mX9_join := TOK.of tkX9_join
set_option maxRecDepth 20000 in
theorem okX9_join : OKm mX9_join := ⟨tm 534 rfl, tm 6 rfl, ⟨by decide, by decide⟩, by decide⟩
set_option maxRecDepth 20000 in
theorem inX9_join : Cond.static (mY mX9_join) ∈ TB := tm 533 rfl
theorem tokX10_init : TOK mX10_init := TOK.of tkX10_init
set_option maxRecDepth 20000 in
theorem okX10_init : OKm mX10_init := ⟨tm 25 rfl, tm 1 rfl, ⟨by decide, by decide⟩, by decide⟩
set_option maxRecDepth 20000 in
theorem inX10_init : Cond.instanceMethod (mY mX10_init) ∈ TB := tm 24 rfl
theorem tokX10_gate : TOK mX10_gate := TOK.of tkX10_gate
set_option maxRecDepth 20000 in
theorem okX10_gate : OKm mX10_gate := ⟨tm 447 rfl, tm 1 rfl, ⟨by decide, by decide⟩, by decide⟩
set_option maxRecDepth 20000 in
theorem inX10_gate : Cond.instanceMethod (mY mX10_gate) ∈ TB := tm 445 rfl
set_option maxRecDepth 20000 in
theorem seX10_gate : Cond.selects (mY mX10_gate).cls (mY mX10_gate) (mY mX10_gate) ∈ TB := tm 446 rfl
theorem tokX10_at : TOK mX10_at := TOK.of tkX10_at
set_option maxRecDepth 20000 in
theorem okX10_at : OKm mX10_at := ⟨tm 469 rfl, tm 1 rfl, ⟨by decide, by decide⟩, by decide⟩
set_option maxRecDepth 20000 in
theorem inX10_at : Cond.instanceMethod (mY mX10_at) ∈ TB := tm 467 rfl
set_option maxRecDepth 20000 in
theorem seX10_at : Cond.selects (mY mX10_at).cls (mY mX10_at) (mY mX10_at) ∈ TB := tm 468 rfl
theorem tokX10_goer : TOK mX10_goer := TOK.of tkX10_goer
set_option maxRecDepth 20000 in
theorem okX10_goer : OKm mX10_goer := ⟨tm 477 rfl, tm 1 rfl, ⟨by decide, by decide⟩, by decide⟩
set_option maxRecDepth 20000 in
theorem inX10_goer : Cond.instanceMethod (mY mX10_goer) ∈ TB := tm 475 rfl
set_option maxRecDepth 20000 in
theorem seX10_goer : Cond.selects (mY mX10_goer).cls (mY mX10_goer) (mY mX10_goer) ∈ TB := tm 476 rfl
theorem tokX10_of : TOK mX10_of := TOK.of tkX10_of
set_option maxRecDepth 20000 in
theorem okX10_of : OKm mX10_of := ⟨tm 485 rfl, tm 1 rfl, ⟨by decide, by decide⟩, by decide⟩
set_option maxRecDepth 20000 in
theorem inX10_of : Cond.instanceMethod (mY mX10_of) ∈ TB := tm 483 rfl
set_option maxRecDepth 20000 in
theorem seX10_of : Cond.selects (mY mX10_of).cls (mY mX10_of) (mY mX10_of) ∈ TB := tm 484 rfl
theorem tokX10_asks : TOK mX10_asks := TOK.of tkX10_asks
set_option maxRecDepth 20000 in
theorem okX10_asks : OKm mX10_asks := ⟨tm 542 rfl, tm 1 rfl, ⟨by decide, by decide⟩, by decide⟩
set_option maxRecDepth 20000 in
theorem inX10_asks : Cond.instanceMethod (mY mX10_asks) ∈ TB := tm 540 rfl
set_option maxRecDepth 20000 in
theorem seX10_asks : Cond.selects (mY mX10_asks).cls (mY mX10_asks) (mY mX10_asks) ∈ TB := tm 541 rfl
theorem tokX10_terms : TOK mX10_terms := TOK.of tkX10_terms
set_option maxRecDepth 20000 in
theorem okX10_terms : OKm mX10_terms := ⟨tm 549 rfl, tm 1 rfl, ⟨by decide, by decide⟩, by decide⟩
set_option maxRecDepth 20000 in
theorem inX10_terms : Cond.instanceMethod (mY mX10_terms) ∈ TB := tm 547 rfl
set_option maxRecDepth 20000 in
theorem seX10_terms : Cond.selects (mY mX10_terms).cls (mY mX10_terms) (mY mX10_terms) ∈ TB := tm 548 rfl
theorem tokX10_feed : TOK mX10_feed := TOK.of tkX10_feed
set_option maxRecDepth 20000 in
theorem okX10_feed : OKm mX10_feed := ⟨tm 557 rfl, tm 1 rfl, ⟨by decide, by decide⟩, by decide⟩
set_option maxRecDepth 20000 in
theorem inX10_feed : Cond.instanceMethod (mY mX10_feed) ∈ TB := tm 555 rfl
set_option maxRecDepth 20000 in
theorem seX10_feed : Cond.selects (mY mX10_feed).cls (mY mX10_feed) (mY mX10_feed) ∈ TB := tm 556 rfl
theorem tokX10_end : TOK mX10_end := TOK.of tkX10_end
set_option maxRecDepth 20000 in
theorem okX10_end : OKm mX10_end := ⟨tm 569 rfl, tm 1 rfl, ⟨by decide, by decide⟩, by decide⟩
set_option maxRecDepth 20000 in
theorem inX10_end : Cond.instanceMethod (mY mX10_end) ∈ TB := tm 567 rfl
set_option maxRecDepth 20000 in
theorem seX10_end : Cond.selects (mY mX10_end).cls (mY mX10_end) (mY mX10_end) ∈ TB := tm 568 rfl
theorem tokX10_row : TOK mX10_row := TOK.of tkX10_row
set_option maxRecDepth 20000 in
theorem okX10_row : OKm mX10_row := ⟨tm 577 rfl, tm 1 rfl, ⟨by decide, by decide⟩, by decide⟩
set_option maxRecDepth 20000 in
theorem inX10_row : Cond.instanceMethod (mY mX10_row) ∈ TB := tm 575 rfl
set_option maxRecDepth 20000 in
theorem seX10_row : Cond.selects (mY mX10_row).cls (mY mX10_row) (mY mX10_row) ∈ TB := tm 576 rfl
theorem tokX10_rust : TOK mX10_rust := TOK.of tkX10_rust
set_option maxRecDepth 20000 in
theorem okX10_rust : OKm mX10_rust := ⟨tm 589 rfl, tm 1 rfl, ⟨by decide, by decide⟩, by decide⟩
set_option maxRecDepth 20000 in
theorem inX10_rust : Cond.instanceMethod (mY mX10_rust) ∈ TB := tm 587 rfl
set_option maxRecDepth 20000 in
theorem seX10_rust : Cond.selects (mY mX10_rust).cls (mY mX10_rust) (mY mX10_rust) ∈ TB := tm 588 rfl
theorem tokX10_law : TOK mX10_law := TOK.of tkX10_law
set_option maxRecDepth 20000 in
theorem okX10_law : OKm mX10_law := ⟨tm 593 rfl, tm 1 rfl, ⟨by decide, by decide⟩, by decide⟩
set_option maxRecDepth 20000 in
theorem inX10_law : Cond.instanceMethod (mY mX10_law) ∈ TB := tm 591 rfl
set_option maxRecDepth 20000 in
theorem seX10_law : Cond.selects (mY mX10_law).cls (mY mX10_law) (mY mX10_law) ∈ TB := tm 592 rfl
theorem tokX10_orders : TOK mX10_orders := TOK.of tkX10_orders
set_option maxRecDepth 20000 in
theorem okX10_orders : OKm mX10_orders := ⟨tm 759 rfl, tm 1 rfl, ⟨by decide, by decide⟩, by decide⟩
set_option maxRecDepth 20000 in
theorem inX10_orders : Cond.instanceMethod (mY mX10_orders) ∈ TB := tm 757 rfl
set_option maxRecDepth 20000 in
theorem seX10_orders : Cond.selects (mY mX10_orders).cls (mY mX10_orders) (mY mX10_orders) ∈ TB := tm 758 rfl
theorem tokX10_fault : TOK mX10_fault := TOK.of tkX10_fault
set_option maxRecDepth 20000 in
theorem okX10_fault : OKm mX10_fault := ⟨tm 821 rfl, tm 1 rfl, ⟨by decide, by decide⟩, by decide⟩
set_option maxRecDepth 20000 in
theorem inX10_fault : Cond.instanceMethod (mY mX10_fault) ∈ TB := tm 819 rfl
set_option maxRecDepth 20000 in
theorem seX10_fault : Cond.selects (mY mX10_fault).cls (mY mX10_fault) (mY mX10_fault) ∈ TB := tm 820 rfl
theorem tokX10_stopped : TOK mX10_stopped := TOK.of tkX10_stopped
set_option maxRecDepth 20000 in
theorem okX10_stopped : OKm mX10_stopped := ⟨tm 825 rfl, tm 1 rfl, ⟨by decide, by decide⟩, by decide⟩
set_option maxRecDepth 20000 in
theorem inX10_stopped : Cond.instanceMethod (mY mX10_stopped) ∈ TB := tm 823 rfl
set_option maxRecDepth 20000 in
theorem seX10_stopped : Cond.selects (mY mX10_stopped).cls (mY mX10_stopped) (mY mX10_stopped) ∈ TB := tm 824 rfl
theorem tokX10_force : TOK mX10_force := TOK.of tkX10_force
set_option maxRecDepth 20000 in
theorem okX10_force : OKm mX10_force := ⟨tm 829 rfl, tm 1 rfl, ⟨by decide, by decide⟩, by decide⟩
set_option maxRecDepth 20000 in
theorem inX10_force : Cond.instanceMethod (mY mX10_force) ∈ TB := tm 827 rfl
set_option maxRecDepth 20000 in
theorem seX10_force : Cond.selects (mY mX10_force).cls (mY mX10_force) (mY mX10_force) ∈ TB := tm 828 rfl
theorem tokX10_go : TOK mX10_go := TOK.of tkX10_go
set_option maxRecDepth 20000 in
theorem okX10_go : OKm mX10_go := ⟨tm 834 rfl, tm 1 rfl, ⟨by decide, by decide⟩, by decide⟩
set_option maxRecDepth 20000 in
theorem inX10_go : Cond.instanceMethod (mY mX10_go) ∈ TB := tm 832 rfl
set_option maxRecDepth 20000 in
theorem seX10_go : Cond.selects (mY mX10_go).cls (mY mX10_go) (mY mX10_go) ∈ TB := tm 833 rfl
theorem tokX10_latch : TOK mX10_latch := TOK.of tkX10_latch
set_option maxRecDepth 20000 in
theorem okX10_latch : OKm mX10_latch := ⟨tm 839 rfl, tm 1 rfl, ⟨by decide, by decide⟩, by decide⟩
set_option maxRecDepth 20000 in
theorem inX10_latch : Cond.instanceMethod (mY mX10_latch) ∈ TB := tm 837 rfl
set_option maxRecDepth 20000 in
theorem seX10_latch : Cond.selects (mY mX10_latch).cls (mY mX10_latch) (mY mX10_latch) ∈ TB := tm 838 rfl
theorem tokX10_set : TOK mX10_set := TOK.of tkX10_set
set_option maxRecDepth 20000 in
theorem okX10_set : OKm mX10_set := ⟨tm 844 rfl, tm 1 rfl, ⟨by decide, by decide⟩, by decide⟩
set_option maxRecDepth 20000 in
theorem inX10_set : Cond.instanceMethod (mY mX10_set) ∈ TB := tm 842 rfl
set_option maxRecDepth 20000 in
theorem seX10_set : Cond.selects (mY mX10_set).cls (mY mX10_set) (mY mX10_set) ∈ TB := tm 843 rfl
theorem tokX10_pass : TOK mX10_pass := TOK.of tkX10_pass
set_option maxRecDepth 20000 in
theorem okX10_pass : OKm mX10_pass := ⟨tm 849 rfl, tm 1 rfl, ⟨by decide, by decide⟩, by decide⟩
set_option maxRecDepth 20000 in
theorem inX10_pass : Cond.instanceMethod (mY mX10_pass) ∈ TB := tm 847 rfl
set_option maxRecDepth 20000 in
theorem seX10_pass : Cond.selects (mY mX10_pass).cls (mY mX10_pass) (mY mX10_pass) ∈ TB := tm 848 rfl
theorem tokX10_undo : TOK mX10_undo := TOK.of tkX10_undo
set_option maxRecDepth 20000 in
theorem okX10_undo : OKm mX10_undo := ⟨tm 854 rfl, tm 1 rfl, ⟨by decide, by decide⟩, by decide⟩
set_option maxRecDepth 20000 in
theorem inX10_undo : Cond.instanceMethod (mY mX10_undo) ∈ TB := tm 852 rfl
set_option maxRecDepth 20000 in
theorem seX10_undo : Cond.selects (mY mX10_undo).cls (mY mX10_undo) (mY mX10_undo) ∈ TB := tm 853 rfl
theorem tokX10_way : TOK mX10_way := TOK.of tkX10_way
set_option maxRecDepth 20000 in
theorem okX10_way : OKm mX10_way := ⟨tm 862 rfl, tm 1 rfl, ⟨by decide, by decide⟩, by decide⟩
set_option maxRecDepth 20000 in
theorem inX10_way : Cond.instanceMethod (mY mX10_way) ∈ TB := tm 860 rfl
set_option maxRecDepth 20000 in
theorem seX10_way : Cond.selects (mY mX10_way).cls (mY mX10_way) (mY mX10_way) ∈ TB := tm 861 rfl
theorem tokX10_cheap : TOK mX10_cheap := TOK.of tkX10_cheap
set_option maxRecDepth 20000 in
theorem okX10_cheap : OKm mX10_cheap := ⟨tm 903 rfl, tm 1 rfl, ⟨by decide, by decide⟩, by decide⟩
set_option maxRecDepth 20000 in
theorem inX10_cheap : Cond.instanceMethod (mY mX10_cheap) ∈ TB := tm 901 rfl
set_option maxRecDepth 20000 in
theorem seX10_cheap : Cond.selects (mY mX10_cheap).cls (mY mX10_cheap) (mY mX10_cheap) ∈ TB := tm 902 rfl
theorem tokX10_manys : TOK mX10_manys := TOK.of tkX10_manys
set_option maxRecDepth 20000 in
theorem okX10_manys : OKm mX10_manys := ⟨tm 919 rfl, tm 1 rfl, ⟨by decide, by decide⟩, by decide⟩
set_option maxRecDepth 20000 in
theorem inX10_manys : Cond.instanceMethod (mY mX10_manys) ∈ TB := tm 917 rfl
set_option maxRecDepth 20000 in
theorem seX10_manys : Cond.selects (mY mX10_manys).cls (mY mX10_manys) (mY mX10_manys) ∈ TB := tm 918 rfl
theorem tokX10_reach : TOK mX10_reach := TOK.of tkX10_reach
set_option maxRecDepth 20000 in
theorem okX10_reach : OKm mX10_reach := ⟨tm 931 rfl, tm 1 rfl, ⟨by decide, by decide⟩, by decide⟩
set_option maxRecDepth 20000 in
theorem inX10_reach : Cond.instanceMethod (mY mX10_reach) ∈ TB := tm 929 rfl
set_option maxRecDepth 20000 in
theorem seX10_reach : Cond.selects (mY mX10_reach).cls (mY mX10_reach) (mY mX10_reach) ∈ TB := tm 930 rfl
theorem tokX10_ways : TOK mX10_ways := TOK.of tkX10_ways
set_option maxRecDepth 20000 in
theorem okX10_ways : OKm mX10_ways := ⟨tm 939 rfl, tm 1 rfl, ⟨by decide, by decide⟩, by decide⟩
set_option maxRecDepth 20000 in
theorem inX10_ways : Cond.instanceMethod (mY mX10_ways) ∈ TB := tm 937 rfl
set_option maxRecDepth 20000 in
theorem seX10_ways : Cond.selects (mY mX10_ways).cls (mY mX10_ways) (mY mX10_ways) ∈ TB := tm 938 rfl
theorem tokX10_likely : TOK mX10_likely := TOK.of tkX10_likely
set_option maxRecDepth 20000 in
theorem okX10_likely : OKm mX10_likely := ⟨tm 960 rfl, tm 1 rfl, ⟨by decide, by decide⟩, by decide⟩
set_option maxRecDepth 20000 in
theorem inX10_likely : Cond.instanceMethod (mY mX10_likely) ∈ TB := tm 958 rfl
set_option maxRecDepth 20000 in
theorem seX10_likely : Cond.selects (mY mX10_likely).cls (mY mX10_likely) (mY mX10_likely) ∈ TB := tm 959 rfl
theorem tokX10_again : TOK mX10_again := TOK.of tkX10_again
set_option maxRecDepth 20000 in
theorem okX10_again : OKm mX10_again := ⟨tm 965 rfl, tm 1 rfl, ⟨by decide, by decide⟩, by decide⟩
set_option maxRecDepth 20000 in
theorem inX10_again : Cond.instanceMethod (mY mX10_again) ∈ TB := tm 963 rfl
set_option maxRecDepth 20000 in
theorem seX10_again : Cond.selects (mY mX10_again).cls (mY mX10_again) (mY mX10_again) ∈ TB := tm 964 rfl
theorem tokX10_fixed : TOK mX10_fixed := TOK.of tkX10_fixed
set_option maxRecDepth 20000 in
theorem okX10_fixed : OKm mX10_fixed := ⟨tm 974 rfl, tm 1 rfl, ⟨by decide, by decide⟩, by decide⟩
set_option maxRecDepth 20000 in
theorem inX10_fixed : Cond.instanceMethod (mY mX10_fixed) ∈ TB := tm 972 rfl
set_option maxRecDepth 20000 in
theorem seX10_fixed : Cond.selects (mY mX10_fixed).cls (mY mX10_fixed) (mY mX10_fixed) ∈ TB := tm 973 rfl
theorem tokX10_cut : TOK mX10_cut := TOK.of tkX10_cut
set_option maxRecDepth 20000 in
theorem okX10_cut : OKm mX10_cut := ⟨tm 986 rfl, tm 1 rfl, ⟨by decide, by decide⟩, by decide⟩
set_option maxRecDepth 20000 in
theorem inX10_cut : Cond.instanceMethod (mY mX10_cut) ∈ TB := tm 984 rfl
set_option maxRecDepth 20000 in
theorem seX10_cut : Cond.selects (mY mX10_cut).cls (mY mX10_cut) (mY mX10_cut) ∈ TB := tm 985 rfl
theorem tokX10_meet : TOK mX10_meet := TOK.of tkX10_meet
set_option maxRecDepth 20000 in
theorem okX10_meet : OKm mX10_meet := ⟨tm 1005 rfl, tm 1 rfl, ⟨by decide, by decide⟩, by decide⟩
set_option maxRecDepth 20000 in
theorem inX10_meet : Cond.instanceMethod (mY mX10_meet) ∈ TB := tm 1003 rfl
set_option maxRecDepth 20000 in
theorem seX10_meet : Cond.selects (mY mX10_meet).cls (mY mX10_meet) (mY mX10_meet) ∈ TB := tm 1004 rfl
theorem tokX10_seen : TOK mX10_seen := TOK.of tkX10_seen
set_option maxRecDepth 20000 in
theorem okX10_seen : OKm mX10_seen := ⟨tm 1024 rfl, tm 1 rfl, ⟨by decide, by decide⟩, by decide⟩
set_option maxRecDepth 20000 in
theorem inX10_seen : Cond.instanceMethod (mY mX10_seen) ∈ TB := tm 1022 rfl
set_option maxRecDepth 20000 in
theorem seX10_seen : Cond.selects (mY mX10_seen).cls (mY mX10_seen) (mY mX10_seen) ∈ TB := tm 1023 rfl
theorem tokX10_forget : TOK mX10_forget := TOK.of tkX10_forget
set_option maxRecDepth 20000 in
theorem okX10_forget : OKm mX10_forget := ⟨tm 1032 rfl, tm 1 rfl, ⟨by decide, by decide⟩, by decide⟩
set_option maxRecDepth 20000 in
theorem inX10_forget : Cond.instanceMethod (mY mX10_forget) ∈ TB := tm 1030 rfl
set_option maxRecDepth 20000 in
theorem seX10_forget : Cond.selects (mY mX10_forget).cls (mY mX10_forget) (mY mX10_forget) ∈ TB := tm 1031 rfl
theorem tokX10_kinds : TOK mX10_kinds := TOK.of tkX10_kinds
set_option maxRecDepth 20000 in
theorem okX10_kinds : OKm mX10_kinds := ⟨tm 1036 rfl, tm 1 rfl, ⟨by decide, by decide⟩, by decide⟩
set_option maxRecDepth 20000 in
theorem inX10_kinds : Cond.instanceMethod (mY mX10_kinds) ∈ TB := tm 1034 rfl
set_option maxRecDepth 20000 in
theorem seX10_kinds : Cond.selects (mY mX10_kinds).cls (mY mX10_kinds) (mY mX10_kinds) ∈ TB := tm 1035 rfl
theorem tokX10_ask : TOK mX10_ask := TOK.of tkX10_ask
set_option maxRecDepth 20000 in
theorem okX10_ask : OKm mX10_ask := ⟨tm 1050 rfl, tm 1 rfl, ⟨by decide, by decide⟩, by decide⟩
set_option maxRecDepth 20000 in
theorem inX10_ask : Cond.instanceMethod (mY mX10_ask) ∈ TB := tm 1048 rfl
set_option maxRecDepth 20000 in
theorem seX10_ask : Cond.selects (mY mX10_ask).cls (mY mX10_ask) (mY mX10_ask) ∈ TB := tm 1049 rfl
theorem tokX10_few : TOK mX10_few := TOK.of tkX10_few
set_option maxRecDepth 20000 in
theorem okX10_few : OKm mX10_few := ⟨tm 1064 rfl, tm 1 rfl, ⟨by decide, by decide⟩, by decide⟩
set_option maxRecDepth 20000 in
theorem inX10_few : Cond.instanceMethod (mY mX10_few) ∈ TB := tm 1062 rfl
set_option maxRecDepth 20000 in
theorem seX10_few : Cond.selects (mY mX10_few).cls (mY mX10_few) (mY mX10_few) ∈ TB := tm 1063 rfl
theorem tokX10_compare : TOK mX10_compare := TOK.of tkX10_compare
set_option maxRecDepth 20000 in
theorem okX10_compare : OKm mX10_compare := ⟨tm 1075 rfl, tm 1 rfl, ⟨by decide, by decide⟩, by decide⟩
set_option maxRecDepth 20000 in
theorem inX10_compare : Cond.instanceMethod (mY mX10_compare) ∈ TB := tm 1073 rfl
set_option maxRecDepth 20000 in
theorem seX10_compare : Cond.selects (mY mX10_compare).cls (mY mX10_compare) (mY mX10_compare) ∈ TB := tm 1074 rfl
theorem tokX10_days : TOK mX10_days := TOK.of tkX10_days
set_option maxRecDepth 20000 in
theorem okX10_days : OKm mX10_days := ⟨tm 1083 rfl, tm 1 rfl, ⟨by decide, by decide⟩, by decide⟩
set_option maxRecDepth 20000 in
theorem inX10_days : Cond.instanceMethod (mY mX10_days) ∈ TB := tm 1081 rfl
set_option maxRecDepth 20000 in
theorem seX10_days : Cond.selects (mY mX10_days).cls (mY mX10_days) (mY mX10_days) ∈ TB := tm 1082 rfl
theorem tokX10_drawn : TOK mX10_drawn := TOK.of tkX10_drawn
set_option maxRecDepth 20000 in
theorem okX10_drawn : OKm mX10_drawn := ⟨tm 1102 rfl, tm 1 rfl, ⟨by decide, by decide⟩, by decide⟩
set_option maxRecDepth 20000 in
theorem inX10_drawn : Cond.instanceMethod (mY mX10_drawn) ∈ TB := tm 1100 rfl
set_option maxRecDepth 20000 in
theorem seX10_drawn : Cond.selects (mY mX10_drawn).cls (mY mX10_drawn) (mY mX10_drawn) ∈ TB := tm 1101 rfl
theorem tokX10_image : TOK mX10_image := TOK.of tkX10_image
set_option maxRecDepth 20000 in
theorem okX10_image : OKm mX10_image := ⟨tm 1110 rfl, tm 1 rfl, ⟨by decide, by decide⟩, by decide⟩
set_option maxRecDepth 20000 in
theorem inX10_image : Cond.instanceMethod (mY mX10_image) ∈ TB := tm 1108 rfl
set_option maxRecDepth 20000 in
theorem seX10_image : Cond.selects (mY mX10_image).cls (mY mX10_image) (mY mX10_image) ∈ TB := tm 1109 rfl
theorem tokX10_back : TOK mX10_back := TOK.of tkX10_back
set_option maxRecDepth 20000 in
theorem okX10_back : OKm mX10_back := ⟨tm 1115 rfl, tm 1 rfl, ⟨by decide, by decide⟩, by decide⟩
set_option maxRecDepth 20000 in
theorem inX10_back : Cond.instanceMethod (mY mX10_back) ∈ TB := tm 1113 rfl
set_option maxRecDepth 20000 in
theorem seX10_back : Cond.selects (mY mX10_back).cls (mY mX10_back) (mY mX10_back) ∈ TB := tm 1114 rfl
theorem tokX10_count : TOK mX10_count := TOK.of tkX10_count
set_option maxRecDepth 20000 in
theorem okX10_count : OKm mX10_count := ⟨tm 1119 rfl, tm 1 rfl, ⟨by decide, by decide⟩, by decide⟩
set_option maxRecDepth 20000 in
theorem inX10_count : Cond.instanceMethod (mY mX10_count) ∈ TB := tm 1117 rfl
set_option maxRecDepth 20000 in
theorem seX10_count : Cond.selects (mY mX10_count).cls (mY mX10_count) (mY mX10_count) ∈ TB := tm 1118 rfl
theorem tokX10_status : TOK mX10_status := TOK.of tkX10_status
set_option maxRecDepth 20000 in
theorem okX10_status : OKm mX10_status := ⟨tm 1127 rfl, tm 1 rfl, ⟨by decide, by decide⟩, by decide⟩
set_option maxRecDepth 20000 in
theorem inX10_status : Cond.instanceMethod (mY mX10_status) ∈ TB := tm 1125 rfl
set_option maxRecDepth 20000 in
theorem seX10_status : Cond.selects (mY mX10_status).cls (mY mX10_status) (mY mX10_status) ∈ TB := tm 1126 rfl
theorem tokX10_told : TOK mX10_told := TOK.of tkX10_told
set_option maxRecDepth 20000 in
theorem okX10_told : OKm mX10_told := ⟨tm 462 rfl, tm 1 rfl, ⟨by decide, by decide⟩, by decide⟩
set_option maxRecDepth 20000 in
theorem inX10_told : Cond.instanceMethod (mY mX10_told) ∈ TB := tm 461 rfl
set_option maxRecDepth 20000 in
theorem seX10_told : Cond.selects (mY mX10_told).cls (mY mX10_told) (mY mX10_told) ∈ TB := tbm (List.mem_append_left _ (by decide +kernel)) rfl
theorem tokX10_toldAnew : TOK mX10_toldAnew := TOK.of tkX10_toldAnew
set_option maxRecDepth 20000 in
theorem okX10_toldAnew : OKm mX10_toldAnew := ⟨tm 458 rfl, tm 1 rfl, ⟨by decide, by decide⟩, by decide⟩
set_option maxRecDepth 20000 in
theorem inX10_toldAnew : Cond.instanceMethod (mY mX10_toldAnew) ∈ TB := tm 457 rfl
set_option maxRecDepth 20000 in
theorem seX10_toldAnew : Cond.selects (mY mX10_toldAnew).cls (mY mX10_toldAnew) (mY mX10_toldAnew) ∈ TB := tbm (List.mem_append_left _ (by decide +kernel)) rfl
theorem tokX10_readTape : TOK mX10_readTape := TOK.of tkX10_readTape
set_option maxRecDepth 20000 in
theorem okX10_readTape : OKm mX10_readTape := ⟨tm 597 rfl, tm 1 rfl, ⟨by decide, by decide⟩, by decide⟩
set_option maxRecDepth 20000 in
theorem inX10_readTape : Cond.instanceMethod (mY mX10_readTape) ∈ TB := tm 596 rfl
set_option maxRecDepth 20000 in
theorem seX10_readTape : Cond.selects (mY mX10_readTape).cls (mY mX10_readTape) (mY mX10_readTape) ∈ TB := tbm (List.mem_append_left _ (by decide +kernel)) rfl
theorem tokX10_canSeek : TOK mX10_canSeek := TOK.of tkX10_canSeek
set_option maxRecDepth 20000 in
theorem okX10_canSeek : OKm mX10_canSeek := ⟨tm 866 rfl, tm 1 rfl, ⟨by decide, by decide⟩, by decide⟩
set_option maxRecDepth 20000 in
theorem inX10_canSeek : Cond.instanceMethod (mY mX10_canSeek) ∈ TB := tm 865 rfl
set_option maxRecDepth 20000 in
theorem seX10_canSeek : Cond.selects (mY mX10_canSeek).cls (mY mX10_canSeek) (mY mX10_canSeek) ∈ TB := tbm (List.mem_append_left _ (by decide +kernel)) rfl
theorem tokX10_within : TOK mX10_within := TOK.of tkX10_within
set_option maxRecDepth 20000 in
theorem okX10_within : OKm mX10_within := ⟨tm 454 rfl, tm 1 rfl, ⟨by decide, by decide⟩, by decide⟩
set_option maxRecDepth 20000 in
theorem inX10_within : Cond.static (mY mX10_within) ∈ TB := tm 453 rfl
theorem tokX11_lies : TOK mX11_lies := TOK.of tkX11_lies
set_option maxRecDepth 20000 in
theorem okX11_lies : OKm mX11_lies := ⟨tm 1300 rfl, tm 12 rfl, ⟨by decide, by decide⟩, by decide⟩
set_option maxRecDepth 20000 in
theorem inX11_lies : Cond.static (mY mX11_lies) ∈ TB := tm 1299 rfl
theorem tokX11_lesser : TOK mX11_lesser := TOK.of tkX11_lesser
set_option maxRecDepth 20000 in
theorem okX11_lesser : OKm mX11_lesser := ⟨tm 1608 rfl, tm 12 rfl, ⟨by decide, by decide⟩, by decide⟩
set_option maxRecDepth 20000 in
theorem inX11_lesser : Cond.static (mY mX11_lesser) ∈ TB := tm 1607 rfl
theorem tokX11_greater : TOK mX11_greater := TOK.of tkX11_greater
set_option maxRecDepth 20000 in
theorem okX11_greater : OKm mX11_greater := ⟨tm 1448 rfl, tm 12 rfl, ⟨by decide, by decide⟩, by decide⟩
set_option maxRecDepth 20000 in
theorem inX11_greater : Cond.static (mY mX11_greater) ∈ TB := tm 1447 rfl
theorem tokX11_refuses : TOK mX11_refuses := TOK.of tkX11_refuses
set_option maxRecDepth 20000 in
theorem okX11_refuses : OKm mX11_refuses := ⟨tm 1304 rfl, tm 12 rfl, ⟨by decide, by decide⟩, by decide⟩
set_option maxRecDepth 20000 in
theorem inX11_refuses : Cond.instanceMethod (mY mX11_refuses) ∈ TB := tm 1303 rfl
set_option maxRecDepth 20000 in
theorem seX11_refuses : Cond.selects (mY mX11_refuses).cls (mY mX11_refuses) (mY mX11_refuses) ∈ TB := tbm (List.mem_append_left _ (by decide +kernel)) rfl
theorem tokX11_good : TOK mX11_good := TOK.of tkX11_good
set_option maxRecDepth 20000 in
theorem okX11_good : OKm mX11_good := ⟨tm 1308 rfl, tm 12 rfl, ⟨by decide, by decide⟩, by decide⟩
set_option maxRecDepth 20000 in
theorem inX11_good : Cond.instanceMethod (mY mX11_good) ∈ TB := tm 1307 rfl
set_option maxRecDepth 20000 in
theorem seX11_good : Cond.selects (mY mX11_good).cls (mY mX11_good) (mY mX11_good) ∈ TB := tbm (List.mem_append_left _ (by decide +kernel)) rfl
theorem tokX11_settled : TOK mX11_settled := TOK.of tkX11_settled
set_option maxRecDepth 20000 in
theorem okX11_settled : OKm mX11_settled := ⟨tm 1316 rfl, tm 12 rfl, ⟨by decide, by decide⟩, by decide⟩
set_option maxRecDepth 20000 in
theorem inX11_settled : Cond.instanceMethod (mY mX11_settled) ∈ TB := tm 1315 rfl
set_option maxRecDepth 20000 in
theorem seX11_settled : Cond.selects (mY mX11_settled).cls (mY mX11_settled) (mY mX11_settled) ∈ TB := tbm (List.mem_append_left _ (by decide +kernel)) rfl
theorem tokX11_isIn : TOK mX11_isIn := TOK.of tkX11_isIn
set_option maxRecDepth 20000 in
theorem okX11_isIn : OKm mX11_isIn := ⟨tm 1686 rfl, tm 12 rfl, ⟨by decide, by decide⟩, by decide⟩
set_option maxRecDepth 20000 in
theorem inX11_isIn : Cond.static (mY mX11_isIn) ∈ TB := tm 1685 rfl
theorem tokX11_ones : TOK mX11_ones := TOK.of tkX11_ones
set_option maxRecDepth 20000 in
theorem okX11_ones : OKm mX11_ones := ⟨tm 1743 rfl, tm 12 rfl, ⟨by decide, by decide⟩, by decide⟩
set_option maxRecDepth 20000 in
theorem inX11_ones : Cond.static (mY mX11_ones) ∈ TB := tm 1742 rfl
theorem tokX11_isPark : TOK mX11_isPark := TOK.of tkX11_isPark
set_option maxRecDepth 20000 in
theorem okX11_isPark : OKm mX11_isPark := ⟨tm 1326 rfl, tm 12 rfl, ⟨by decide, by decide⟩, by decide⟩
set_option maxRecDepth 20000 in
theorem inX11_isPark : Cond.static (mY mX11_isPark) ∈ TB := tm 1325 rfl
theorem tokX11_isMany : TOK mX11_isMany := TOK.of tkX11_isMany
set_option maxRecDepth 20000 in
theorem okX11_isMany : OKm mX11_isMany := ⟨tm 1352 rfl, tm 12 rfl, ⟨by decide, by decide⟩, by decide⟩
set_option maxRecDepth 20000 in
theorem inX11_isMany : Cond.static (mY mX11_isMany) ∈ TB := tm 1351 rfl
theorem tokX11_isArm : TOK mX11_isArm := TOK.of tkX11_isArm
set_option maxRecDepth 20000 in
theorem okX11_isArm : OKm mX11_isArm := ⟨tm 1329 rfl, tm 12 rfl, ⟨by decide, by decide⟩, by decide⟩
set_option maxRecDepth 20000 in
theorem inX11_isArm : Cond.static (mY mX11_isArm) ∈ TB := tm 1328 rfl
set_option maxRecDepth 20000 in
theorem okX11_init : OKm mX11_init := ⟨tm 1132 rfl, tm 12 rfl, ⟨by decide, by decide⟩, by decide⟩
set_option maxRecDepth 20000 in
theorem inX11_init : Cond.instanceMethod (mY mX11_init) ∈ TB := tm 1131 rfl
theorem tokX11_laysAside : TOK mX11_laysAside := TOK.of tkX11_laysAside
set_option maxRecDepth 20000 in
theorem okX11_laysAside : OKm mX11_laysAside := ⟨tm 1793 rfl, tm 12 rfl, ⟨by decide, by decide⟩, by decide⟩
set_option maxRecDepth 20000 in
theorem inX11_laysAside : Cond.instanceMethod (mY mX11_laysAside) ∈ TB := tm 1792 rfl
set_option maxRecDepth 20000 in
theorem seX11_laysAside : Cond.selects (mY mX11_laysAside).cls (mY mX11_laysAside) (mY mX11_laysAside) ∈ TB := tbm (List.mem_append_left _ (by decide +kernel)) rfl
theorem tokX11_takesBack : TOK mX11_takesBack := TOK.of tkX11_takesBack
set_option maxRecDepth 20000 in
theorem okX11_takesBack : OKm mX11_takesBack := ⟨tm 1813 rfl, tm 12 rfl, ⟨by decide, by decide⟩, by decide⟩
set_option maxRecDepth 20000 in
theorem inX11_takesBack : Cond.instanceMethod (mY mX11_takesBack) ∈ TB := tm 1812 rfl
set_option maxRecDepth 20000 in
theorem seX11_takesBack : Cond.selects (mY mX11_takesBack).cls (mY mX11_takesBack) (mY mX11_takesBack) ∈ TB := tbm (List.mem_append_left _ (by decide +kernel)) rfl
theorem tokX11_image : TOK mX11_image := TOK.of tkX11_image
set_option maxRecDepth 20000 in
theorem okX11_image : OKm mX11_image := ⟨tm 1297 rfl, tm 12 rfl, ⟨by decide, by decide⟩, by decide⟩
set_option maxRecDepth 20000 in
theorem inX11_image : Cond.instanceMethod (mY mX11_image) ∈ TB := tm 1295 rfl
set_option maxRecDepth 20000 in
theorem seX11_image : Cond.selects (mY mX11_image).cls (mY mX11_image) (mY mX11_image) ∈ TB := tm 1296 rfl
end WORDS
