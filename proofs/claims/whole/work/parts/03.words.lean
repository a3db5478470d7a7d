theorem ini_Lw : (.initialized R_Lw : Cond) ∈ gT := gT_in (gT_1 (i := 0) rfl) rfl
theorem ini_Bt : (.initialized R_Bt : Cond) ∈ gT := gT_in (gT_1 (i := 1) rfl) rfl
theorem ini_Fi : (.initialized R_Fi : Cond) ∈ gT := gT_in (gT_1 (i := 2) rfl) rfl
theorem ini_Na : (.initialized R_Na : Cond) ∈ gT := gT_in (gT_1 (i := 3) rfl) rfl
theorem ini_De : (.initialized R_De : Cond) ∈ gT := gT_in (gT_1 (i := 4) rfl) rfl
theorem ini_Te : (.initialized R_Te : Cond) ∈ gT := gT_in (gT_1 (i := 5) rfl) rfl
theorem ini_Mo : (.initialized R_Mo : Cond) ∈ gT := gT_in (gT_1 (i := 6) rfl) rfl
theorem ini_En : (.initialized R_En : Cond) ∈ gT := gT_in (gT_1 (i := 7) rfl) rfl
theorem ini_La : (.initialized R_La : Cond) ∈ gT := gT_in (gT_1 (i := 8) rfl) rfl
theorem ini_Ma : (.initialized R_Ma : Cond) ∈ gT := gT_in (gT_1 (i := 9) rfl) rfl
theorem ini_JL : (.initialized R_JL : Cond) ∈ gT := gT_in (gT_1 (i := 10) rfl) rfl
theorem ini_JI : (.initialized R_JI : Cond) ∈ gT := gT_in (gT_1 (i := 11) rfl) rfl
theorem ini_St : (.initialized R_St : Cond) ∈ gT := gT_in (gT_1 (i := 12) rfl) rfl
theorem ini_SL : (.initialized R_SL : Cond) ∈ gT := gT_in (gT_1 (i := 13) rfl) rfl
theorem ini_Pr : (.initialized R_Pr : Cond) ∈ gT := gT_in (gT_1 (i := 14) rfl) rfl
theorem ini_SU : (.initialized R_SU : Cond) ∈ gT := gT_in (gT_1 (i := 15) rfl) rfl
theorem cl_Lw_7 : (.classLink R_Lw 7 R_Bt : Cond) ∈ gT := gT_in (gT_1 (i := 16) rfl) rfl
theorem nst_Bt : (.instantiable R_Bt 7 : Cond) ∈ gT := gT_in (gT_1 (i := 17) rfl) rfl
theorem ml_Lw_9 : (.methodLink R_Lw 9 y_Bt_init : Cond) ∈ gT := gT_in (gT_1 (i := 18) rfl) rfl
theorem im_Bt_init : (.instanceMethod y_Bt_init : Cond) ∈ gT := gT_in (gT_1 (i := 19) rfl) rfl
theorem cod_Bt_init : (.code y_Bt_init b_Bt_init 1 none : Cond) ∈ gT := gT_in (gT_1 (i := 20) rfl) rfl
theorem ml_Bt_1 : (.methodLink R_Bt 1 y_Ob_init : Cond) ∈ gT := gT_in (gT_1 (i := 21) rfl) rfl
theorem im_Ob_init : (.instanceMethod y_Ob_init : Cond) ∈ gT := gT_in (gT_1 (i := 22) rfl) rfl
theorem cod_Ob_init : (.code y_Ob_init b_Ob_init 1 none : Cond) ∈ gT := gT_in (gT_1 (i := 23) rfl) rfl
theorem cl_Bt_7 : (.classLink R_Bt 7 R_Fi : Cond) ∈ gT := gT_in (gT_1 (i := 24) rfl) rfl
theorem nst_Fi : (.instantiable R_Fi 3 : Cond) ∈ gT := gT_in (gT_1 (i := 25) rfl) rfl
theorem mln_Bt_9 : (.methodLinkNest R_Bt 9 y_Fi_init R_Bt : Cond) ∈ tables_1 := gT_1 (i := 26) rfl
theorem im_Fi_init : (.instanceMethod y_Fi_init : Cond) ∈ gT := gT_in (gT_1 (i := 27) rfl) rfl
theorem cod_Fi_init : (.code y_Fi_init b_Fi_init 1 none : Cond) ∈ gT := gT_in (gT_1 (i := 28) rfl) rfl
theorem ml_Fi_1 : (.methodLink R_Fi 1 y_Ob_init : Cond) ∈ gT := gT_in (gT_1 (i := 29) rfl) rfl
theorem cl_Fi_7 : (.classLink R_Fi 7 R_Na : Cond) ∈ gT := gT_in (gT_1 (i := 30) rfl) rfl
theorem nst_Na : (.instantiable R_Na 2 : Cond) ∈ gT := gT_in (gT_1 (i := 31) rfl) rfl
theorem mln_Fi_9 : (.methodLinkNest R_Fi 9 y_Na_init R_Bt : Cond) ∈ tables_1 := gT_1 (i := 32) rfl
theorem im_Na_init : (.instanceMethod y_Na_init : Cond) ∈ gT := gT_in (gT_1 (i := 33) rfl) rfl
theorem cod_Na_init : (.code y_Na_init b_Na_init 1 none : Cond) ∈ gT := gT_in (gT_1 (i := 34) rfl) rfl
theorem ml_Na_1 : (.methodLink R_Na 1 y_Ob_init : Cond) ∈ gT := gT_in (gT_1 (i := 35) rfl) rfl
theorem fl_Na_9 : (.fieldLink R_Na 9 R_Na "words" "[J" : Cond) ∈ gT := gT_in (gT_1 (i := 36) rfl) rfl
theorem fl_Na_13 : (.fieldLink R_Na 13 R_Na "used" "I" : Cond) ∈ gT := gT_in (gT_1 (i := 37) rfl) rfl
theorem ac_long : (.arrayClass .long : Cond) ∈ gT := gT_in (gT_1 (i := 43) rfl) rfl
theorem fl_Fi_10 : (.fieldLink R_Fi 10 R_Fi "rest" "LBinaryText$Natural;" : Cond) ∈ gT := gT_in (gT_1 (i := 44) rfl) rfl
theorem fl_Fi_16 : (.fieldLink R_Fi 16 R_Fi "above" "LBinaryText$Natural;" : Cond) ∈ gT := gT_in (gT_1 (i := 45) rfl) rfl
theorem fl_Fi_19 : (.fieldLink R_Fi 19 R_Fi "whole" "LBinaryText$Natural;" : Cond) ∈ gT := gT_in (gT_1 (i := 46) rfl) rfl
theorem cl_Bt_16 : (.classLink R_Bt 16 R_De : Cond) ∈ gT := gT_in (gT_1 (i := 54) rfl) rfl
theorem nst_De : (.instantiable R_De 4 : Cond) ∈ gT := gT_in (gT_1 (i := 55) rfl) rfl
theorem mln_Bt_18 : (.methodLinkNest R_Bt 18 y_De_init R_Bt : Cond) ∈ tables_1 := gT_1 (i := 56) rfl
theorem im_De_init : (.instanceMethod y_De_init : Cond) ∈ gT := gT_in (gT_1 (i := 57) rfl) rfl
theorem cod_De_init : (.code y_De_init b_De_init 1 none : Cond) ∈ gT := gT_in (gT_1 (i := 58) rfl) rfl
theorem ml_De_1 : (.methodLink R_De 1 y_Ob_init : Cond) ∈ gT := gT_in (gT_1 (i := 59) rfl) rfl
theorem fl_De_9 : (.fieldLink R_De 9 R_De "row" "[C" : Cond) ∈ gT := gT_in (gT_1 (i := 60) rfl) rfl
theorem fl_De_13 : (.fieldLink R_De 13 R_De "count" "I" : Cond) ∈ gT := gT_in (gT_1 (i := 61) rfl) rfl
theorem fl_De_17 : (.fieldLink R_De 17 R_De "d" "J" : Cond) ∈ gT := gT_in (gT_1 (i := 62) rfl) rfl
theorem fln_Bt_64 : (.fieldLinkNest R_Bt 64 R_De "d" "J" R_Bt : Cond) ∈ tables_1 := gT_1 (i := 63) rfl
theorem fl_De_21 : (.fieldLink R_De 21 R_De "t" "I" : Cond) ∈ gT := gT_in (gT_1 (i := 64) rfl) rfl
theorem fln_Bt_68 : (.fieldLinkNest R_Bt 68 R_De "t" "I" R_Bt : Cond) ∈ tables_1 := gT_1 (i := 65) rfl
theorem ac_char : (.arrayClass .char : Cond) ∈ gT := gT_in (gT_1 (i := 75) rfl) rfl
theorem cl_Bt_23 : (.classLink R_Bt 23 R_Te : Cond) ∈ gT := gT_in (gT_1 (i := 76) rfl) rfl
theorem nst_Te : (.instantiable R_Te 2 : Cond) ∈ gT := gT_in (gT_1 (i := 77) rfl) rfl
theorem mln_Bt_25 : (.methodLinkNest R_Bt 25 y_Te_init R_Bt : Cond) ∈ tables_1 := gT_1 (i := 78) rfl
theorem im_Te_init : (.instanceMethod y_Te_init : Cond) ∈ gT := gT_in (gT_1 (i := 79) rfl) rfl
theorem cod_Te_init : (.code y_Te_init b_Te_init 1 none : Cond) ∈ gT := gT_in (gT_1 (i := 80) rfl) rfl
theorem ml_Te_1 : (.methodLink R_Te 1 y_Ob_init : Cond) ∈ gT := gT_in (gT_1 (i := 81) rfl) rfl
theorem fl_Te_9 : (.fieldLink R_Te 9 R_Te "row" "[C" : Cond) ∈ gT := gT_in (gT_1 (i := 82) rfl) rfl
theorem fl_Te_13 : (.fieldLink R_Te 13 R_Te "used" "I" : Cond) ∈ gT := gT_in (gT_1 (i := 83) rfl) rfl
theorem fln_Bt_84 : (.fieldLinkNest R_Bt 84 R_Te "used" "I" R_Bt : Cond) ∈ tables_1 := gT_1 (i := 84) rfl
theorem fl_Bt_10 : (.fieldLink R_Bt 10 R_Bt "finder" "LBinaryText$Finder;" : Cond) ∈ gT := gT_in (gT_1 (i := 90) rfl) rfl
theorem fl_Bt_19 : (.fieldLink R_Bt 19 R_Bt "decimal" "LBinaryText$Decimal;" : Cond) ∈ gT := gT_in (gT_1 (i := 91) rfl) rfl
theorem fl_Bt_26 : (.fieldLink R_Bt 26 R_Bt "text" "LBinaryText$TextRow;" : Cond) ∈ gT := gT_in (gT_1 (i := 92) rfl) rfl
theorem fl_Bt_30 : (.fieldLink R_Bt 30 R_Bt "low" "I" : Cond) ∈ gT := gT_in (gT_1 (i := 93) rfl) rfl
theorem fl_Bt_34 : (.fieldLink R_Bt 34 R_Bt "high" "I" : Cond) ∈ gT := gT_in (gT_1 (i := 94) rfl) rfl
theorem fl_Bt_37 : (.fieldLink R_Bt 37 R_Bt "kind" "I" : Cond) ∈ gT := gT_in (gT_1 (i := 95) rfl) rfl
theorem fl_Bt_40 : (.fieldLink R_Bt 40 R_Bt "minus" "Z" : Cond) ∈ gT := gT_in (gT_1 (i := 96) rfl) rfl
theorem ml_Lw_13 : (.methodLink R_Lw 13 y_Bt_bounds : Cond) ∈ gT := gT_in (gT_1 (i := 112) rfl) rfl
theorem im_Bt_bounds : (.instanceMethod y_Bt_bounds : Cond) ∈ gT := gT_in (gT_1 (i := 113) rfl) rfl
theorem sel_Bt_bounds : (.selects R_Bt y_Bt_bounds y_Bt_bounds : Cond) ∈ gT := gT_in (gT_1 (i := 114) rfl) rfl
theorem cod_Bt_bounds : (.code y_Bt_bounds b_Bt_bounds 3 (some .boolean) : Cond) ∈ gT := gT_in (gT_1 (i := 115) rfl) rfl
theorem ml_Lw_20 : (.methodLink R_Lw 20 y_Bt_wide : Cond) ∈ gT := gT_in (gT_1 (i := 116) rfl) rfl
theorem im_Bt_wide : (.instanceMethod y_Bt_wide : Cond) ∈ gT := gT_in (gT_1 (i := 117) rfl) rfl
theorem sel_Bt_wide : (.selects R_Bt y_Bt_wide y_Bt_wide : Cond) ∈ gT := gT_in (gT_1 (i := 118) rfl) rfl
theorem cod_Bt_wide : (.code y_Bt_wide b_Bt_wide 3 (some .int) : Cond) ∈ gT := gT_in (gT_1 (i := 119) rfl) rfl
theorem fl_Bt_44 : (.fieldLink R_Bt 44 R_La "WIDE" "LBinaryText$Layout;" : Cond) ∈ gT := gT_in (gT_1 (i := 120) rfl) rfl
theorem ls_La_WIDE : (.laysStatic R_La "WIDE" "LBinaryText$Layout;" : Cond) ∈ tables_1 := gT_1 (i := 121) rfl
theorem ml_Bt_50 : (.methodLink R_Bt 50 y_Bt_printDecimal : Cond) ∈ gT := gT_in (gT_1 (i := 122) rfl) rfl
theorem pri_Bt_printDecimal : (.privateMethod y_Bt_printDecimal : Cond) ∈ tables_1 := gT_1 (i := 123) rfl
theorem im_Bt_printDecimal : (.instanceMethod y_Bt_printDecimal : Cond) ∈ gT := gT_in (gT_1 (i := 124) rfl) rfl
theorem cod_Bt_printDecimal : (.code y_Bt_printDecimal b_Bt_printDecimal 4 (some .int) : Cond) ∈ gT := gT_in (gT_1 (i := 125) rfl) rfl
theorem ml_Bt_71 : (.methodLink R_Bt 71 y_Bt_take : Cond) ∈ gT := gT_in (gT_1 (i := 126) rfl) rfl
theorem pri_Bt_take : (.privateMethod y_Bt_take : Cond) ∈ tables_1 := gT_1 (i := 127) rfl
theorem im_Bt_take : (.instanceMethod y_Bt_take : Cond) ∈ gT := gT_in (gT_1 (i := 128) rfl) rfl
theorem cod_Bt_take : (.code y_Bt_take b_Bt_take 10 none : Cond) ∈ gT := gT_in (gT_1 (i := 129) rfl) rfl
theorem ml_Bt_92 : (.methodLink R_Bt 92 y_La_exponentOf : Cond) ∈ gT := gT_in (gT_1 (i := 130) rfl) rfl
theorem im_La_exponentOf : (.instanceMethod y_La_exponentOf : Cond) ∈ gT := gT_in (gT_1 (i := 131) rfl) rfl
theorem sel_La_exponentOf : (.selects R_La y_La_exponentOf y_La_exponentOf : Cond) ∈ gT := gT_in (gT_1 (i := 132) rfl) rfl
theorem cod_La_exponentOf : (.code y_La_exponentOf b_La_exponentOf 3 (some .int) : Cond) ∈ gT := gT_in (gT_1 (i := 133) rfl) rfl
theorem ml_Bt_96 : (.methodLink R_Bt 96 y_La_fractionOf : Cond) ∈ gT := gT_in (gT_1 (i := 134) rfl) rfl
theorem im_La_fractionOf : (.instanceMethod y_La_fractionOf : Cond) ∈ gT := gT_in (gT_1 (i := 135) rfl) rfl
theorem sel_La_fractionOf : (.selects R_La y_La_fractionOf y_La_fractionOf : Cond) ∈ gT := gT_in (gT_1 (i := 136) rfl) rfl
theorem cod_La_fractionOf : (.code y_La_fractionOf b_La_fractionOf 3 (some .long) : Cond) ∈ gT := gT_in (gT_1 (i := 137) rfl) rfl
theorem ml_La_42 : (.methodLink R_La 42 y_La_hiddenOne : Cond) ∈ gT := gT_in (gT_1 (i := 138) rfl) rfl
theorem im_La_hiddenOne : (.instanceMethod y_La_hiddenOne : Cond) ∈ gT := gT_in (gT_1 (i := 139) rfl) rfl
theorem sel_La_hiddenOne : (.selects R_La y_La_hiddenOne y_La_hiddenOne : Cond) ∈ gT := gT_in (gT_1 (i := 140) rfl) rfl
theorem cod_La_hiddenOne : (.code y_La_hiddenOne b_La_hiddenOne 1 (some .long) : Cond) ∈ gT := gT_in (gT_1 (i := 141) rfl) rfl
theorem ml_Bt_100 : (.methodLink R_Bt 100 y_Bt_kindOf : Cond) ∈ gT := gT_in (gT_1 (i := 142) rfl) rfl
theorem sta_Bt_kindOf : (.static y_Bt_kindOf : Cond) ∈ gT := gT_in (gT_1 (i := 143) rfl) rfl
theorem cod_Bt_kindOf : (.code y_Bt_kindOf b_Bt_kindOf 4 (some .int) : Cond) ∈ gT := gT_in (gT_1 (i := 144) rfl) rfl
theorem ml_Bt_104 : (.methodLink R_Bt 104 y_La_signOf : Cond) ∈ gT := gT_in (gT_1 (i := 145) rfl) rfl
theorem im_La_signOf : (.instanceMethod y_La_signOf : Cond) ∈ gT := gT_in (gT_1 (i := 146) rfl) rfl
theorem sel_La_signOf : (.selects R_La y_La_signOf y_La_signOf : Cond) ∈ gT := gT_in (gT_1 (i := 147) rfl) rfl
theorem cod_La_signOf : (.code y_La_signOf b_La_signOf 3 (some .boolean) : Cond) ∈ gT := gT_in (gT_1 (i := 148) rfl) rfl
theorem ml_Bt_108 : (.methodLink R_Bt 108 y_La_hiddenOne : Cond) ∈ gT := gT_in (gT_1 (i := 149) rfl) rfl
theorem ml_Bt_112 : (.methodLink R_Bt 112 y_La_powerOf : Cond) ∈ gT := gT_in (gT_1 (i := 150) rfl) rfl
theorem im_La_powerOf : (.instanceMethod y_La_powerOf : Cond) ∈ gT := gT_in (gT_1 (i := 151) rfl) rfl
theorem sel_La_powerOf : (.selects R_La y_La_powerOf y_La_powerOf : Cond) ∈ gT := gT_in (gT_1 (i := 152) rfl) rfl
theorem cod_La_powerOf : (.code y_La_powerOf b_La_powerOf 2 (some .int) : Cond) ∈ gT := gT_in (gT_1 (i := 153) rfl) rfl
theorem ml_La_56 : (.methodLink R_La 56 y_La_binaryExponentOf : Cond) ∈ gT := gT_in (gT_1 (i := 154) rfl) rfl
theorem im_La_binaryExponentOf : (.instanceMethod y_La_binaryExponentOf : Cond) ∈ gT := gT_in (gT_1 (i := 155) rfl) rfl
theorem sel_La_binaryExponentOf : (.selects R_La y_La_binaryExponentOf y_La_binaryExponentOf : Cond) ∈ gT := gT_in (gT_1 (i := 156) rfl) rfl
theorem cod_La_binaryExponentOf : (.code y_La_binaryExponentOf b_La_binaryExponentOf 2 (some .int) : Cond) ∈ gT := gT_in (gT_1 (i := 157) rfl) rfl
theorem ml_La_50 : (.methodLink R_La 50 y_Ma_max : Cond) ∈ gT := gT_in (gT_1 (i := 158) rfl) rfl
theorem sta_Ma_max : (.static y_Ma_max : Cond) ∈ gT := gT_in (gT_1 (i := 159) rfl) rfl
theorem cod_Ma_max : (.code y_Ma_max b_Ma_max 2 (some .int) : Cond) ∈ gT := gT_in (gT_1 (i := 160) rfl) rfl
theorem ml_Bt_115 : (.methodLink R_Bt 115 y_Fi_find : Cond) ∈ gT := gT_in (gT_1 (i := 161) rfl) rfl
theorem im_Fi_find : (.instanceMethod y_Fi_find : Cond) ∈ gT := gT_in (gT_1 (i := 162) rfl) rfl
theorem sel_Fi_find : (.selects R_Fi y_Fi_find y_Fi_find : Cond) ∈ gT := gT_in (gT_1 (i := 163) rfl) rfl
theorem cod_Fi_find : (.code y_Fi_find b_Fi_find 13 none : Cond) ∈ gT := gT_in (gT_1 (i := 164) rfl) rfl
theorem ml_Fi_22 : (.methodLink R_Fi 22 y_Fi_highestPlace : Cond) ∈ gT := gT_in (gT_1 (i := 165) rfl) rfl
theorem sta_Fi_highestPlace : (.static y_Fi_highestPlace : Cond) ∈ gT := gT_in (gT_1 (i := 166) rfl) rfl
theorem cod_Fi_highestPlace : (.code y_Fi_highestPlace b_Fi_highestPlace 4 (some .int) : Cond) ∈ gT := gT_in (gT_1 (i := 167) rfl) rfl
theorem ml_Fi_64 : (.methodLink R_Fi 64 y_JL_numberOfLeadingZeros : Cond) ∈ gT := gT_in (gT_1 (i := 168) rfl) rfl
theorem sta_JL_numberOfLeadingZeros : (.static y_JL_numberOfLeadingZeros : Cond) ∈ gT := gT_in (gT_1 (i := 169) rfl) rfl
theorem cod_JL_numberOfLeadingZeros : (.code y_JL_numberOfLeadingZeros b_JL_numberOfLeadingZeros 3 (some .int) : Cond) ∈ gT := gT_in (gT_1 (i := 170) rfl) rfl
theorem ml_JL_308 : (.methodLink R_JL 308 y_JI_numberOfLeadingZeros : Cond) ∈ gT := gT_in (gT_1 (i := 171) rfl) rfl
theorem sta_JI_numberOfLeadingZeros : (.static y_JI_numberOfLeadingZeros : Cond) ∈ gT := gT_in (gT_1 (i := 172) rfl) rfl
theorem cod_JI_numberOfLeadingZeros : (.code y_JI_numberOfLeadingZeros b_JI_numberOfLeadingZeros 2 (some .int) : Cond) ∈ gT := gT_in (gT_1 (i := 173) rfl) rfl
theorem ko_JI_264 : (.constant R_JI 264 (65536) : Cond) ∈ gT := gT_in (gT_1 (i := 174) rfl) rfl
theorem ko_Fi_70 : (.constant R_Fi 70 (315653) : Cond) ∈ gT := gT_in (gT_1 (i := 175) rfl) rfl
theorem ml_Fi_26 : (.methodLink R_Fi 26 y_Fi_scale : Cond) ∈ gT := gT_in (gT_1 (i := 176) rfl) rfl
theorem pri_Fi_scale : (.privateMethod y_Fi_scale : Cond) ∈ tables_1 := gT_1 (i := 177) rfl
theorem im_Fi_scale : (.instanceMethod y_Fi_scale : Cond) ∈ gT := gT_in (gT_1 (i := 178) rfl) rfl
theorem cod_Fi_scale : (.code y_Fi_scale b_Fi_scale 6 none : Cond) ∈ gT := gT_in (gT_1 (i := 179) rfl) rfl
theorem kl_Fi_71 : (.constantLong R_Fi 71 (2) : Cond) ∈ gT := gT_in (gT_1 (i := 180) rfl) rfl
theorem ml_Fi_73 : (.methodLink R_Fi 73 y_Na_become : Cond) ∈ gT := gT_in (gT_1 (i := 181) rfl) rfl
theorem im_Na_become : (.instanceMethod y_Na_become : Cond) ∈ gT := gT_in (gT_1 (i := 182) rfl) rfl
theorem sel_Na_become : (.selects R_Na y_Na_become y_Na_become : Cond) ∈ gT := gT_in (gT_1 (i := 183) rfl) rfl
theorem cod_Na_become : (.code y_Na_become b_Na_become 6 none : Cond) ∈ gT := gT_in (gT_1 (i := 184) rfl) rfl
theorem kl_Na_17 : (.constantLong R_Na 17 (4294967295) : Cond) ∈ gT := gT_in (gT_1 (i := 185) rfl) rfl
theorem ml_Fi_76 : (.methodLink R_Fi 76 y_Na_timesFives : Cond) ∈ gT := gT_in (gT_1 (i := 186) rfl) rfl
theorem im_Na_timesFives : (.instanceMethod y_Na_timesFives : Cond) ∈ gT := gT_in (gT_1 (i := 187) rfl) rfl
theorem sel_Na_timesFives : (.selects R_Na y_Na_timesFives y_Na_timesFives : Cond) ∈ gT := gT_in (gT_1 (i := 188) rfl) rfl
theorem cod_Na_timesFives : (.code y_Na_timesFives b_Na_timesFives 3 none : Cond) ∈ gT := gT_in (gT_1 (i := 189) rfl) rfl
theorem ml_Na_19 : (.methodLink R_Na 19 y_Ma_min : Cond) ∈ gT := gT_in (gT_1 (i := 190) rfl) rfl
theorem sta_Ma_min : (.static y_Ma_min : Cond) ∈ gT := gT_in (gT_1 (i := 191) rfl) rfl
theorem cod_Ma_min : (.code y_Ma_min b_Ma_min 2 (some .int) : Cond) ∈ gT := gT_in (gT_1 (i := 192) rfl) rfl
theorem ml_Na_25 : (.methodLink R_Na 25 y_Na_smallPowerOfFive : Cond) ∈ gT := gT_in (gT_1 (i := 193) rfl) rfl
theorem sta_Na_smallPowerOfFive : (.static y_Na_smallPowerOfFive : Cond) ∈ gT := gT_in (gT_1 (i := 194) rfl) rfl
theorem cod_Na_smallPowerOfFive : (.code y_Na_smallPowerOfFive b_Na_smallPowerOfFive 4 (some .long) : Cond) ∈ gT := gT_in (gT_1 (i := 195) rfl) rfl
theorem kl_Na_33 : (.constantLong R_Na 33 (5) : Cond) ∈ gT := gT_in (gT_1 (i := 196) rfl) rfl
theorem ml_Na_29 : (.methodLink R_Na 29 y_Na_times : Cond) ∈ gT := gT_in (gT_1 (i := 197) rfl) rfl
theorem im_Na_times : (.instanceMethod y_Na_times : Cond) ∈ gT := gT_in (gT_1 (i := 198) rfl) rfl
theorem sel_Na_times : (.selects R_Na y_Na_times y_Na_times : Cond) ∈ gT := gT_in (gT_1 (i := 199) rfl) rfl
theorem cod_Na_times : (.code y_Na_times b_Na_times 8 none : Cond) ∈ gT := gT_in (gT_1 (i := 200) rfl) rfl
theorem ml_Fi_80 : (.methodLink R_Fi 80 y_Na_timesTwos : Cond) ∈ gT := gT_in (gT_1 (i := 201) rfl) rfl
theorem im_Na_timesTwos : (.instanceMethod y_Na_timesTwos : Cond) ∈ gT := gT_in (gT_1 (i := 202) rfl) rfl
theorem sel_Na_timesTwos : (.selects R_Na y_Na_timesTwos y_Na_timesTwos : Cond) ∈ gT := gT_in (gT_1 (i := 203) rfl) rfl
theorem cod_Na_timesTwos : (.code y_Na_timesTwos b_Na_timesTwos 3 none : Cond) ∈ gT := gT_in (gT_1 (i := 204) rfl) rfl
theorem ml_Fi_30 : (.methodLink R_Fi 30 y_Na_compareWith : Cond) ∈ gT := gT_in (gT_1 (i := 205) rfl) rfl
theorem im_Na_compareWith : (.instanceMethod y_Na_compareWith : Cond) ∈ gT := gT_in (gT_1 (i := 206) rfl) rfl
theorem sel_Na_compareWith : (.selects R_Na y_Na_compareWith y_Na_compareWith : Cond) ∈ gT := gT_in (gT_1 (i := 207) rfl) rfl
theorem cod_Na_compareWith : (.code y_Na_compareWith b_Na_compareWith 4 (some .int) : Cond) ∈ gT := gT_in (gT_1 (i := 208) rfl) rfl
theorem ml_Na_35 : (.methodLink R_Na 35 y_Ma_max : Cond) ∈ gT := gT_in (gT_1 (i := 209) rfl) rfl
theorem ml_Fi_34 : (.methodLink R_Fi 34 y_Fi_tenfold : Cond) ∈ gT := gT_in (gT_1 (i := 210) rfl) rfl
theorem pri_Fi_tenfold : (.privateMethod y_Fi_tenfold : Cond) ∈ tables_1 := gT_1 (i := 211) rfl
theorem im_Fi_tenfold : (.instanceMethod y_Fi_tenfold : Cond) ∈ gT := gT_in (gT_1 (i := 212) rfl) rfl
theorem cod_Fi_tenfold : (.code y_Fi_tenfold b_Fi_tenfold 1 none : Cond) ∈ gT := gT_in (gT_1 (i := 213) rfl) rfl
theorem kl_Fi_41 : (.constantLong R_Fi 41 (10) : Cond) ∈ gT := gT_in (gT_1 (i := 214) rfl) rfl
theorem ml_Fi_83 : (.methodLink R_Fi 83 y_Na_times : Cond) ∈ gT := gT_in (gT_1 (i := 215) rfl) rfl
theorem ml_Fi_37 : (.methodLink R_Fi 37 y_Fi_takeDigit : Cond) ∈ gT := gT_in (gT_1 (i := 216) rfl) rfl
theorem pri_Fi_takeDigit : (.privateMethod y_Fi_takeDigit : Cond) ∈ tables_1 := gT_1 (i := 217) rfl
theorem im_Fi_takeDigit : (.instanceMethod y_Fi_takeDigit : Cond) ∈ gT := gT_in (gT_1 (i := 218) rfl) rfl
theorem cod_Fi_takeDigit : (.code y_Fi_takeDigit b_Fi_takeDigit 2 (some .int) : Cond) ∈ gT := gT_in (gT_1 (i := 219) rfl) rfl
theorem ml_Fi_86 : (.methodLink R_Fi 86 y_Na_subtract : Cond) ∈ gT := gT_in (gT_1 (i := 220) rfl) rfl
theorem im_Na_subtract : (.instanceMethod y_Na_subtract : Cond) ∈ gT := gT_in (gT_1 (i := 221) rfl) rfl
theorem sel_Na_subtract : (.selects R_Na y_Na_subtract y_Na_subtract : Cond) ∈ gT := gT_in (gT_1 (i := 222) rfl) rfl
theorem cod_Na_subtract : (.code y_Na_subtract b_Na_subtract 7 none : Cond) ∈ gT := gT_in (gT_1 (i := 223) rfl) rfl
theorem ml_Fi_43 : (.methodLink R_Fi 43 y_Fi_compareDown : Cond) ∈ gT := gT_in (gT_1 (i := 224) rfl) rfl
theorem pri_Fi_compareDown : (.privateMethod y_Fi_compareDown : Cond) ∈ tables_1 := gT_1 (i := 225) rfl
theorem im_Fi_compareDown : (.instanceMethod y_Fi_compareDown : Cond) ∈ gT := gT_in (gT_1 (i := 226) rfl) rfl
theorem cod_Fi_compareDown : (.code y_Fi_compareDown b_Fi_compareDown 2 (some .int) : Cond) ∈ gT := gT_in (gT_1 (i := 227) rfl) rfl
theorem ml_Fi_90 : (.methodLink R_Fi 90 y_Na_compareSum : Cond) ∈ gT := gT_in (gT_1 (i := 228) rfl) rfl
theorem sta_Na_compareSum : (.static y_Na_compareSum : Cond) ∈ gT := gT_in (gT_1 (i := 229) rfl) rfl
theorem cod_Na_compareSum : (.code y_Na_compareSum b_Na_compareSum 11 (some .int) : Cond) ∈ gT := gT_in (gT_1 (i := 230) rfl) rfl
theorem ml_Fi_47 : (.methodLink R_Fi 47 y_Fi_isWithin : Cond) ∈ gT := gT_in (gT_1 (i := 231) rfl) rfl
theorem sta_Fi_isWithin : (.static y_Fi_isWithin : Cond) ∈ gT := gT_in (gT_1 (i := 232) rfl) rfl
theorem cod_Fi_isWithin : (.code y_Fi_isWithin b_Fi_isWithin 2 (some .boolean) : Cond) ∈ gT := gT_in (gT_1 (i := 233) rfl) rfl
theorem ml_Fi_51 : (.methodLink R_Fi 51 y_Fi_compareUp : Cond) ∈ gT := gT_in (gT_1 (i := 234) rfl) rfl
theorem pri_Fi_compareUp : (.privateMethod y_Fi_compareUp : Cond) ∈ tables_1 := gT_1 (i := 235) rfl
theorem im_Fi_compareUp : (.instanceMethod y_Fi_compareUp : Cond) ∈ gT := gT_in (gT_1 (i := 236) rfl) rfl
theorem cod_Fi_compareUp : (.code y_Fi_compareUp b_Fi_compareUp 1 (some .int) : Cond) ∈ gT := gT_in (gT_1 (i := 237) rfl) rfl
theorem ml_Fi_54 : (.methodLink R_Fi 54 y_Fi_isUpNearer : Cond) ∈ gT := gT_in (gT_1 (i := 238) rfl) rfl
theorem pri_Fi_isUpNearer : (.privateMethod y_Fi_isUpNearer : Cond) ∈ tables_1 := gT_1 (i := 239) rfl
theorem im_Fi_isUpNearer : (.instanceMethod y_Fi_isUpNearer : Cond) ∈ gT := gT_in (gT_2 (i := 0) rfl) rfl
theorem cod_Fi_isUpNearer : (.code y_Fi_isUpNearer b_Fi_isUpNearer 4 (some .boolean) : Cond) ∈ gT := gT_in (gT_2 (i := 1) rfl) rfl
theorem ml_Fi_58 : (.methodLink R_Fi 58 y_De_become : Cond) ∈ gT := gT_in (gT_2 (i := 2) rfl) rfl
theorem im_De_become : (.instanceMethod y_De_become : Cond) ∈ gT := gT_in (gT_2 (i := 3) rfl) rfl
theorem sel_De_become : (.selects R_De y_De_become y_De_become : Cond) ∈ gT := gT_in (gT_2 (i := 4) rfl) rfl
theorem cod_De_become : (.code y_De_become b_De_become 5 none : Cond) ∈ gT := gT_in (gT_2 (i := 5) rfl) rfl
theorem kl_De_24 : (.constantLong R_De 24 (10) : Cond) ∈ gT := gT_in (gT_2 (i := 6) rfl) rfl
theorem ml_De_26 : (.methodLink R_De 26 y_De_spread : Cond) ∈ gT := gT_in (gT_2 (i := 7) rfl) rfl
theorem pri_De_spread : (.privateMethod y_De_spread : Cond) ∈ tables_1 := gT_2 (i := 8) rfl
theorem im_De_spread : (.instanceMethod y_De_spread : Cond) ∈ gT := gT_in (gT_2 (i := 9) rfl) rfl
theorem cod_De_spread : (.code y_De_spread b_De_spread 3 none : Cond) ∈ gT := gT_in (gT_2 (i := 10) rfl) rfl
theorem kl_De_29 : (.constantLong R_De 29 (48) : Cond) ∈ gT := gT_in (gT_2 (i := 11) rfl) rfl
theorem ml_Bt_119 : (.methodLink R_Bt 119 y_De_clear : Cond) ∈ gT := gT_in (gT_2 (i := 12) rfl) rfl
theorem im_De_clear : (.instanceMethod y_De_clear : Cond) ∈ gT := gT_in (gT_2 (i := 13) rfl) rfl
theorem sel_De_clear : (.selects R_De y_De_clear y_De_clear : Cond) ∈ gT := gT_in (gT_2 (i := 14) rfl) rfl
theorem cod_De_clear : (.code y_De_clear b_De_clear 1 none : Cond) ∈ gT := gT_in (gT_2 (i := 15) rfl) rfl
theorem ml_Bt_122 : (.methodLink R_Bt 122 y_Te_clear : Cond) ∈ gT := gT_in (gT_2 (i := 16) rfl) rfl
theorem im_Te_clear : (.instanceMethod y_Te_clear : Cond) ∈ gT := gT_in (gT_2 (i := 17) rfl) rfl
theorem sel_Te_clear : (.selects R_Te y_Te_clear y_Te_clear : Cond) ∈ gT := gT_in (gT_2 (i := 18) rfl) rfl
theorem cod_Te_clear : (.code y_Te_clear b_Te_clear 1 none : Cond) ∈ gT := gT_in (gT_2 (i := 19) rfl) rfl
theorem ml_Bt_123 : (.methodLink R_Bt 123 y_Te_put : Cond) ∈ gT := gT_in (gT_2 (i := 20) rfl) rfl
theorem im_Te_put : (.instanceMethod y_Te_put : Cond) ∈ gT := gT_in (gT_2 (i := 21) rfl) rfl
theorem sel_Te_put : (.selects R_Te y_Te_put y_Te_put : Cond) ∈ gT := gT_in (gT_2 (i := 22) rfl) rfl
theorem cod_Te_put : (.code y_Te_put b_Te_put 2 none : Cond) ∈ gT := gT_in (gT_2 (i := 23) rfl) rfl
theorem ml_Bt_75 : (.methodLink R_Bt 75 y_Bt_putDecimal : Cond) ∈ gT := gT_in (gT_2 (i := 24) rfl) rfl
theorem pri_Bt_putDecimal : (.privateMethod y_Bt_putDecimal : Cond) ∈ tables_1 := gT_2 (i := 25) rfl
theorem im_Bt_putDecimal : (.instanceMethod y_Bt_putDecimal : Cond) ∈ gT := gT_in (gT_2 (i := 26) rfl) rfl
theorem cod_Bt_putDecimal : (.code y_Bt_putDecimal b_Bt_putDecimal 2 none : Cond) ∈ gT := gT_in (gT_2 (i := 27) rfl) rfl
theorem ml_Bt_137 : (.methodLink R_Bt 137 y_De_firstPlace : Cond) ∈ gT := gT_in (gT_2 (i := 28) rfl) rfl
theorem im_De_firstPlace : (.instanceMethod y_De_firstPlace : Cond) ∈ gT := gT_in (gT_2 (i := 29) rfl) rfl
theorem sel_De_firstPlace : (.selects R_De y_De_firstPlace y_De_firstPlace : Cond) ∈ gT := gT_in (gT_2 (i := 30) rfl) rfl
theorem cod_De_firstPlace : (.code y_De_firstPlace b_De_firstPlace 1 (some .int) : Cond) ∈ gT := gT_in (gT_2 (i := 31) rfl) rfl
theorem ml_Bt_141 : (.methodLink R_Bt 141 y_Ma_max : Cond) ∈ gT := gT_in (gT_2 (i := 32) rfl) rfl
theorem ml_Bt_147 : (.methodLink R_Bt 147 y_Bt_putPlaces : Cond) ∈ gT := gT_in (gT_2 (i := 33) rfl) rfl
theorem pri_Bt_putPlaces : (.privateMethod y_Bt_putPlaces : Cond) ∈ tables_1 := gT_2 (i := 34) rfl
theorem im_Bt_putPlaces : (.instanceMethod y_Bt_putPlaces : Cond) ∈ gT := gT_in (gT_2 (i := 35) rfl) rfl
theorem cod_Bt_putPlaces : (.code y_Bt_putPlaces b_Bt_putPlaces 4 none : Cond) ∈ gT := gT_in (gT_2 (i := 36) rfl) rfl
theorem ml_Bt_158 : (.methodLink R_Bt 158 y_De_digitAt : Cond) ∈ gT := gT_in (gT_2 (i := 37) rfl) rfl
theorem im_De_digitAt : (.instanceMethod y_De_digitAt : Cond) ∈ gT := gT_in (gT_2 (i := 38) rfl) rfl
theorem sel_De_digitAt : (.selects R_De y_De_digitAt y_De_digitAt : Cond) ∈ gT := gT_in (gT_2 (i := 39) rfl) rfl
theorem cod_De_digitAt : (.code y_De_digitAt b_De_digitAt 3 (some .char) : Cond) ∈ gT := gT_in (gT_2 (i := 40) rfl) rfl
theorem ml_Bt_151 : (.methodLink R_Bt 151 y_Ma_min : Cond) ∈ gT := gT_in (gT_2 (i := 41) rfl) rfl
theorem ml_Bt_154 : (.methodLink R_Bt 154 y_Te_putWhole : Cond) ∈ gT := gT_in (gT_2 (i := 42) rfl) rfl
theorem im_Te_putWhole : (.instanceMethod y_Te_putWhole : Cond) ∈ gT := gT_in (gT_2 (i := 43) rfl) rfl
theorem sel_Te_putWhole : (.selects R_Te y_Te_putWhole y_Te_putWhole : Cond) ∈ gT := gT_in (gT_2 (i := 44) rfl) rfl
theorem cod_Te_putWhole : (.code y_Te_putWhole b_Te_putWhole 4 none : Cond) ∈ gT := gT_in (gT_2 (i := 45) rfl) rfl
theorem ml_Te_27 : (.methodLink R_Te 27 y_Te_put : Cond) ∈ gT := gT_in (gT_2 (i := 46) rfl) rfl
theorem ml_Te_31 : (.methodLink R_Te 31 y_Ma_abs : Cond) ∈ gT := gT_in (gT_2 (i := 47) rfl) rfl
theorem sta_Ma_abs : (.static y_Ma_abs : Cond) ∈ gT := gT_in (gT_2 (i := 48) rfl) rfl
theorem cod_Ma_abs : (.code y_Ma_abs b_Ma_abs 1 (some .int) : Cond) ∈ gT := gT_in (gT_2 (i := 49) rfl) rfl
theorem sr_Bt_78 : (.stringRef R_Bt 78 "0.0" : Cond) ∈ tables_1 := gT_2 (i := 50) rfl
theorem ml_Bt_80 : (.methodLink R_Bt 80 y_Bt_putNamed : Cond) ∈ gT := gT_in (gT_2 (i := 51) rfl) rfl
theorem pri_Bt_putNamed : (.privateMethod y_Bt_putNamed : Cond) ∈ tables_1 := gT_2 (i := 52) rfl
theorem im_Bt_putNamed : (.instanceMethod y_Bt_putNamed : Cond) ∈ gT := gT_in (gT_2 (i := 53) rfl) rfl
theorem cod_Bt_putNamed : (.code y_Bt_putNamed b_Bt_putNamed 2 none : Cond) ∈ gT := gT_in (gT_2 (i := 54) rfl) rfl
theorem sr_Bt_130 : (.stringRef R_Bt 130 "NaN" : Cond) ∈ tables_1 := gT_2 (i := 55) rfl
theorem ml_Bt_132 : (.methodLink R_Bt 132 y_Te_putAll : Cond) ∈ gT := gT_in (gT_2 (i := 56) rfl) rfl
theorem im_Te_putAll : (.instanceMethod y_Te_putAll : Cond) ∈ gT := gT_in (gT_2 (i := 57) rfl) rfl
theorem sel_Te_putAll : (.selects R_Te y_Te_putAll y_Te_putAll : Cond) ∈ gT := gT_in (gT_2 (i := 58) rfl) rfl
theorem cod_Te_putAll : (.code y_Te_putAll b_Te_putAll 3 none : Cond) ∈ gT := gT_in (gT_2 (i := 59) rfl) rfl
theorem ml_Te_17 : (.methodLink R_Te 17 y_St_length : Cond) ∈ gT := gT_in (gT_2 (i := 60) rfl) rfl
theorem im_St_length : (.instanceMethod y_St_length : Cond) ∈ gT := gT_in (gT_2 (i := 61) rfl) rfl
theorem sel_St_length : (.selects R_St y_St_length y_St_length : Cond) ∈ gT := gT_in (gT_2 (i := 62) rfl) rfl
theorem cod_St_length : (.code y_St_length b_St_length 1 (some .int) : Cond) ∈ gT := gT_in (gT_2 (i := 63) rfl) rfl
theorem ml_St_335 : (.methodLink R_St 335 y_St_coder : Cond) ∈ gT := gT_in (gT_2 (i := 64) rfl) rfl
theorem im_St_coder : (.instanceMethod y_St_coder : Cond) ∈ gT := gT_in (gT_2 (i := 65) rfl) rfl
theorem sel_St_coder : (.selects R_St y_St_coder y_St_coder : Cond) ∈ gT := gT_in (gT_2 (i := 66) rfl) rfl
theorem cod_St_coder : (.code y_St_coder b_St_coder 1 (some .byte) : Cond) ∈ gT := gT_in (gT_2 (i := 67) rfl) rfl
theorem fl_St_38 : (.fieldLink R_St 38 R_St "COMPACT_STRINGS" "Z" : Cond) ∈ gT := gT_in (gT_2 (i := 68) rfl) rfl
theorem ls_St_COMPACT_STRINGS : (.laysStatic R_St "COMPACT_STRINGS" "Z" : Cond) ∈ tables_1 := gT_2 (i := 69) rfl
theorem ml_Te_23 : (.methodLink R_Te 23 y_St_charAt : Cond) ∈ gT := gT_in (gT_2 (i := 70) rfl) rfl
theorem im_St_charAt : (.instanceMethod y_St_charAt : Cond) ∈ gT := gT_in (gT_2 (i := 71) rfl) rfl
theorem sel_St_charAt : (.selects R_St y_St_charAt y_St_charAt : Cond) ∈ gT := gT_in (gT_2 (i := 72) rfl) rfl
theorem cod_St_charAt : (.code y_St_charAt b_St_charAt 2 (some .char) : Cond) ∈ gT := gT_in (gT_2 (i := 73) rfl) rfl
theorem ml_St_492 : (.methodLink R_St 492 y_St_isLatin1 : Cond) ∈ gT := gT_in (gT_2 (i := 74) rfl) rfl
theorem im_St_isLatin1 : (.instanceMethod y_St_isLatin1 : Cond) ∈ gT := gT_in (gT_2 (i := 75) rfl) rfl
theorem sel_St_isLatin1 : (.selects R_St y_St_isLatin1 y_St_isLatin1 : Cond) ∈ gT := gT_in (gT_2 (i := 76) rfl) rfl
theorem cod_St_isLatin1 : (.code y_St_isLatin1 b_St_isLatin1 1 (some .boolean) : Cond) ∈ gT := gT_in (gT_2 (i := 77) rfl) rfl
theorem ml_St_495 : (.methodLink R_St 495 y_SL_charAt : Cond) ∈ gT := gT_in (gT_2 (i := 78) rfl) rfl
theorem sta_SL_charAt : (.static y_SL_charAt : Cond) ∈ gT := gT_in (gT_2 (i := 79) rfl) rfl
theorem cod_SL_charAt : (.code y_SL_charAt b_SL_charAt 2 (some .char) : Cond) ∈ gT := gT_in (gT_2 (i := 80) rfl) rfl
theorem ml_SL_9 : (.methodLink R_SL 9 y_St_checkIndex : Cond) ∈ gT := gT_in (gT_2 (i := 81) rfl) rfl
theorem sta_St_checkIndex : (.static y_St_checkIndex : Cond) ∈ gT := gT_in (gT_2 (i := 82) rfl) rfl
theorem cod_St_checkIndex : (.code y_St_checkIndex b_St_checkIndex 2 none : Cond) ∈ gT := gT_in (gT_2 (i := 83) rfl) rfl
theorem fl_St_1053 : (.fieldLink R_St 1053 R_Pr "SIOOBE_FORMATTER" "Ljava/util/function/BiFunction;" : Cond) ∈ gT := gT_in (gT_2 (i := 84) rfl) rfl
theorem ls_Pr_SIOOBE_FORMATTER : (.laysStatic R_Pr "SIOOBE_FORMATTER" "Ljava/util/function/BiFunction;" : Cond) ∈ tables_1 := gT_2 (i := 85) rfl
theorem ml_St_1059 : (.methodLink R_St 1059 y_Pr_checkIndex : Cond) ∈ gT := gT_in (gT_2 (i := 86) rfl) rfl
theorem sta_Pr_checkIndex : (.static y_Pr_checkIndex : Cond) ∈ gT := gT_in (gT_2 (i := 87) rfl) rfl
theorem cod_Pr_checkIndex : (.code y_Pr_checkIndex b_Pr_checkIndex 3 (some .int) : Cond) ∈ gT := gT_in (gT_2 (i := 88) rfl) rfl
theorem ml_St_498 : (.methodLink R_St 498 y_SU_charAt : Cond) ∈ gT := gT_in (gT_2 (i := 89) rfl) rfl
theorem sta_SU_charAt : (.static y_SU_charAt : Cond) ∈ gT := gT_in (gT_2 (i := 90) rfl) rfl
theorem cod_SU_charAt : (.code y_SU_charAt b_SU_charAt 2 (some .char) : Cond) ∈ gT := gT_in (gT_2 (i := 91) rfl) rfl
theorem ml_SU_67 : (.methodLink R_SU 67 y_SU_checkIndex : Cond) ∈ gT := gT_in (gT_2 (i := 92) rfl) rfl
theorem sta_SU_checkIndex : (.static y_SU_checkIndex : Cond) ∈ gT := gT_in (gT_2 (i := 93) rfl) rfl
theorem cod_SU_checkIndex : (.code y_SU_checkIndex b_SU_checkIndex 2 none : Cond) ∈ gT := gT_in (gT_2 (i := 94) rfl) rfl
theorem ml_SU_48 : (.methodLink R_SU 48 y_SU_length : Cond) ∈ gT := gT_in (gT_2 (i := 95) rfl) rfl
theorem sta_SU_length : (.static y_SU_length : Cond) ∈ gT := gT_in (gT_2 (i := 96) rfl) rfl
theorem cod_SU_length : (.code y_SU_length b_SU_length 1 (some .int) : Cond) ∈ gT := gT_in (gT_2 (i := 97) rfl) rfl
theorem ml_SU_414 : (.methodLink R_SU 414 y_St_checkIndex : Cond) ∈ gT := gT_in (gT_2 (i := 98) rfl) rfl
theorem ml_SU_71 : (.methodLink R_SU 71 y_SU_getChar : Cond) ∈ gT := gT_in (gT_2 (i := 99) rfl) rfl
theorem sta_SU_getChar : (.static y_SU_getChar : Cond) ∈ gT := gT_in (gT_2 (i := 100) rfl) rfl
theorem cod_SU_getChar : (.code y_SU_getChar b_SU_getChar 2 (some .char) : Cond) ∈ gT := gT_in (gT_2 (i := 101) rfl) rfl
theorem fl_SU_44 : (.fieldLink R_SU 44 R_SU "$assertionsDisabled" "Z" : Cond) ∈ gT := gT_in (gT_2 (i := 102) rfl) rfl
theorem ls_SU_assertionsDisabled : (.laysStatic R_SU "$assertionsDisabled" "Z" : Cond) ∈ tables_1 := gT_2 (i := 103) rfl
theorem fl_SU_59 : (.fieldLink R_SU 59 R_SU "HI_BYTE_SHIFT" "I" : Cond) ∈ gT := gT_in (gT_2 (i := 104) rfl) rfl
theorem ls_SU_HI_BYTE_SHIFT : (.laysStatic R_SU "HI_BYTE_SHIFT" "I" : Cond) ∈ tables_1 := gT_2 (i := 105) rfl
theorem fl_SU_63 : (.fieldLink R_SU 63 R_SU "LO_BYTE_SHIFT" "I" : Cond) ∈ gT := gT_in (gT_2 (i := 106) rfl) rfl
theorem ls_SU_LO_BYTE_SHIFT : (.laysStatic R_SU "LO_BYTE_SHIFT" "I" : Cond) ∈ tables_1 := gT_2 (i := 107) rfl
theorem sr_Bt_135 : (.stringRef R_Bt 135 "Infinity" : Cond) ∈ tables_1 := gT_2 (i := 108) rfl
theorem ac_byte : (.arrayClass .byte : Cond) ∈ gT := gT_in (gT_2 (i := 109) rfl) rfl
theorem ml_Lw_25 : (.methodLink R_Lw 25 y_Bt_narrow : Cond) ∈ gT := gT_in (gT_2 (i := 110) rfl) rfl
theorem im_Bt_narrow : (.instanceMethod y_Bt_narrow : Cond) ∈ gT := gT_in (gT_2 (i := 111) rfl) rfl
theorem sel_Bt_narrow : (.selects R_Bt y_Bt_narrow y_Bt_narrow : Cond) ∈ gT := gT_in (gT_2 (i := 112) rfl) rfl
theorem cod_Bt_narrow : (.code y_Bt_narrow b_Bt_narrow 2 (some .int) : Cond) ∈ gT := gT_in (gT_2 (i := 113) rfl) rfl
theorem fl_Bt_54 : (.fieldLink R_Bt 54 R_La "NARROW" "LBinaryText$Layout;" : Cond) ∈ gT := gT_in (gT_2 (i := 114) rfl) rfl
theorem ls_La_NARROW : (.laysStatic R_La "NARROW" "LBinaryText$Layout;" : Cond) ∈ tables_1 := gT_2 (i := 115) rfl
theorem ml_Lw_30 : (.methodLink R_Lw 30 y_Bt_wideHex : Cond) ∈ gT := gT_in (gT_2 (i := 116) rfl) rfl
theorem im_Bt_wideHex : (.instanceMethod y_Bt_wideHex : Cond) ∈ gT := gT_in (gT_2 (i := 117) rfl) rfl
theorem sel_Bt_wideHex : (.selects R_Bt y_Bt_wideHex y_Bt_wideHex : Cond) ∈ gT := gT_in (gT_2 (i := 118) rfl) rfl
theorem cod_Bt_wideHex : (.code y_Bt_wideHex b_Bt_wideHex 3 (some .int) : Cond) ∈ gT := gT_in (gT_2 (i := 119) rfl) rfl
theorem ml_Bt_57 : (.methodLink R_Bt 57 y_Bt_printHex : Cond) ∈ gT := gT_in (gT_2 (i := 120) rfl) rfl
theorem pri_Bt_printHex : (.privateMethod y_Bt_printHex : Cond) ∈ tables_1 := gT_2 (i := 121) rfl
theorem im_Bt_printHex : (.instanceMethod y_Bt_printHex : Cond) ∈ gT := gT_in (gT_2 (i := 122) rfl) rfl
theorem cod_Bt_printHex : (.code y_Bt_printHex b_Bt_printHex 4 (some .int) : Cond) ∈ gT := gT_in (gT_2 (i := 123) rfl) rfl
theorem ml_Bt_87 : (.methodLink R_Bt 87 y_Bt_putHex : Cond) ∈ gT := gT_in (gT_2 (i := 124) rfl) rfl
theorem pri_Bt_putHex : (.privateMethod y_Bt_putHex : Cond) ∈ tables_1 := gT_2 (i := 125) rfl
theorem im_Bt_putHex : (.instanceMethod y_Bt_putHex : Cond) ∈ gT := gT_in (gT_2 (i := 126) rfl) rfl
theorem cod_Bt_putHex : (.code y_Bt_putHex b_Bt_putHex 5 none : Cond) ∈ gT := gT_in (gT_2 (i := 127) rfl) rfl
theorem sr_Bt_162 : (.stringRef R_Bt 162 "0x0." : Cond) ∈ tables_1 := gT_2 (i := 128) rfl
theorem sr_Bt_164 : (.stringRef R_Bt 164 "0x1." : Cond) ∈ tables_1 := gT_2 (i := 129) rfl
theorem ml_Bt_166 : (.methodLink R_Bt 166 y_La_hexFractionOf : Cond) ∈ gT := gT_in (gT_2 (i := 130) rfl) rfl
theorem im_La_hexFractionOf : (.instanceMethod y_La_hexFractionOf : Cond) ∈ gT := gT_in (gT_2 (i := 131) rfl) rfl
theorem sel_La_hexFractionOf : (.selects R_La y_La_hexFractionOf y_La_hexFractionOf : Cond) ∈ gT := gT_in (gT_2 (i := 132) rfl) rfl
theorem cod_La_hexFractionOf : (.code y_La_hexFractionOf b_La_hexFractionOf 3 (some .long) : Cond) ∈ gT := gT_in (gT_2 (i := 133) rfl) rfl
theorem ml_La_46 : (.methodLink R_La 46 y_La_fractionOf : Cond) ∈ gT := gT_in (gT_2 (i := 134) rfl) rfl
theorem ml_Bt_172 : (.methodLink R_Bt 172 y_Te_putHexPlaces : Cond) ∈ gT := gT_in (gT_2 (i := 135) rfl) rfl
theorem im_Te_putHexPlaces : (.instanceMethod y_Te_putHexPlaces : Cond) ∈ gT := gT_in (gT_2 (i := 136) rfl) rfl
theorem sel_Te_putHexPlaces : (.selects R_Te y_Te_putHexPlaces y_Te_putHexPlaces : Cond) ∈ gT := gT_in (gT_2 (i := 137) rfl) rfl
theorem cod_Te_putHexPlaces : (.code y_Te_putHexPlaces b_Te_putHexPlaces 6 none : Cond) ∈ gT := gT_in (gT_2 (i := 138) rfl) rfl
theorem kl_Te_37 : (.constantLong R_Te 37 (15) : Cond) ∈ gT := gT_in (gT_2 (i := 139) rfl) rfl
theorem ml_Te_39 : (.methodLink R_Te 39 y_Te_hexDigit : Cond) ∈ gT := gT_in (gT_2 (i := 140) rfl) rfl
theorem sta_Te_hexDigit : (.static y_Te_hexDigit : Cond) ∈ gT := gT_in (gT_2 (i := 141) rfl) rfl
theorem cod_Te_hexDigit : (.code y_Te_hexDigit b_Te_hexDigit 1 (some .char) : Cond) ∈ gT := gT_in (gT_2 (i := 142) rfl) rfl
theorem ml_Bt_176 : (.methodLink R_Bt 176 y_La_binaryExponentOf : Cond) ∈ gT := gT_in (gT_2 (i := 143) rfl) rfl
theorem sr_Bt_90 : (.stringRef R_Bt 90 "0x0.0p0" : Cond) ∈ tables_1 := gT_2 (i := 144) rfl
theorem ml_Lw_34 : (.methodLink R_Lw 34 y_Bt_narrowHex : Cond) ∈ gT := gT_in (gT_2 (i := 145) rfl) rfl
theorem im_Bt_narrowHex : (.instanceMethod y_Bt_narrowHex : Cond) ∈ gT := gT_in (gT_2 (i := 146) rfl) rfl
theorem sel_Bt_narrowHex : (.selects R_Bt y_Bt_narrowHex y_Bt_narrowHex : Cond) ∈ gT := gT_in (gT_2 (i := 147) rfl) rfl
theorem cod_Bt_narrowHex : (.code y_Bt_narrowHex b_Bt_narrowHex 2 (some .int) : Cond) ∈ gT := gT_in (gT_2 (i := 148) rfl) rfl
theorem ml_Lw_38 : (.methodLink R_Lw 38 y_Bt_characterAt : Cond) ∈ gT := gT_in (gT_2 (i := 149) rfl) rfl
theorem im_Bt_characterAt : (.instanceMethod y_Bt_characterAt : Cond) ∈ gT := gT_in (gT_2 (i := 150) rfl) rfl
theorem sel_Bt_characterAt : (.selects R_Bt y_Bt_characterAt y_Bt_characterAt : Cond) ∈ gT := gT_in (gT_2 (i := 151) rfl) rfl
theorem cod_Bt_characterAt : (.code y_Bt_characterAt b_Bt_characterAt 2 (some .int) : Cond) ∈ gT := gT_in (gT_2 (i := 152) rfl) rfl
theorem ml_Bt_60 : (.methodLink R_Bt 60 y_Te_codeAt : Cond) ∈ gT := gT_in (gT_2 (i := 153) rfl) rfl
theorem im_Te_codeAt : (.instanceMethod y_Te_codeAt : Cond) ∈ gT := gT_in (gT_2 (i := 154) rfl) rfl
theorem sel_Te_codeAt : (.selects R_Te y_Te_codeAt y_Te_codeAt : Cond) ∈ gT := gT_in (gT_2 (i := 155) rfl) rfl
theorem cod_Te_codeAt : (.code y_Te_codeAt b_Te_codeAt 2 (some .int) : Cond) ∈ gT := gT_in (gT_2 (i := 156) rfl) rfl
theorem ml_Lw_42 : (.methodLink R_Lw 42 y_Bt_kind : Cond) ∈ gT := gT_in (gT_2 (i := 157) rfl) rfl
theorem im_Bt_kind : (.instanceMethod y_Bt_kind : Cond) ∈ gT := gT_in (gT_2 (i := 158) rfl) rfl
theorem sel_Bt_kind : (.selects R_Bt y_Bt_kind y_Bt_kind : Cond) ∈ gT := gT_in (gT_2 (i := 159) rfl) rfl
theorem cod_Bt_kind : (.code y_Bt_kind b_Bt_kind 1 (some .int) : Cond) ∈ gT := gT_in (gT_2 (i := 160) rfl) rfl
theorem ml_Lw_47 : (.methodLink R_Lw 47 y_Bt_minus : Cond) ∈ gT := gT_in (gT_2 (i := 161) rfl) rfl
theorem im_Bt_minus : (.instanceMethod y_Bt_minus : Cond) ∈ gT := gT_in (gT_2 (i := 162) rfl) rfl
theorem sel_Bt_minus : (.selects R_Bt y_Bt_minus y_Bt_minus : Cond) ∈ gT := gT_in (gT_2 (i := 163) rfl) rfl
theorem cod_Bt_minus : (.code y_Bt_minus b_Bt_minus 1 (some .boolean) : Cond) ∈ gT := gT_in (gT_2 (i := 164) rfl) rfl
theorem ml_Lw_52 : (.methodLink R_Lw 52 y_Bt_digits : Cond) ∈ gT := gT_in (gT_2 (i := 165) rfl) rfl
theorem im_Bt_digits : (.instanceMethod y_Bt_digits : Cond) ∈ gT := gT_in (gT_2 (i := 166) rfl) rfl
theorem sel_Bt_digits : (.selects R_Bt y_Bt_digits y_Bt_digits : Cond) ∈ gT := gT_in (gT_2 (i := 167) rfl) rfl
theorem cod_Bt_digits : (.code y_Bt_digits b_Bt_digits 1 (some .long) : Cond) ∈ gT := gT_in (gT_2 (i := 168) rfl) rfl
theorem ml_Lw_57 : (.methodLink R_Lw 57 y_Bt_tens : Cond) ∈ gT := gT_in (gT_2 (i := 169) rfl) rfl
theorem im_Bt_tens : (.instanceMethod y_Bt_tens : Cond) ∈ gT := gT_in (gT_2 (i := 170) rfl) rfl
theorem sel_Bt_tens : (.selects R_Bt y_Bt_tens y_Bt_tens : Cond) ∈ gT := gT_in (gT_2 (i := 171) rfl) rfl
theorem cod_Bt_tens : (.code y_Bt_tens b_Bt_tens 1 (some .int) : Cond) ∈ gT := gT_in (gT_2 (i := 172) rfl) rfl
theorem cl_Lw_10 : (.classLink R_Lw 10 R_Mo : Cond) ∈ gT := gT_in (gT_2 (i := 173) rfl) rfl
theorem nst_Mo : (.instantiable R_Mo 19 : Cond) ∈ gT := gT_in (gT_2 (i := 174) rfl) rfl
theorem ml_Lw_12 : (.methodLink R_Lw 12 y_Mo_init : Cond) ∈ gT := gT_in (gT_2 (i := 175) rfl) rfl
theorem im_Mo_init : (.instanceMethod y_Mo_init : Cond) ∈ gT := gT_in (gT_2 (i := 176) rfl) rfl
theorem cod_Mo_init : (.code y_Mo_init b_Mo_init 1 none : Cond) ∈ gT := gT_in (gT_2 (i := 177) rfl) rfl
theorem ml_Mo_1 : (.methodLink R_Mo 1 y_Ob_init : Cond) ∈ gT := gT_in (gT_2 (i := 178) rfl) rfl
theorem fl_Mo_48 : (.fieldLink R_Mo 48 R_Mo "thrown" "I" : Cond) ∈ gT := gT_in (gT_2 (i := 179) rfl) rfl
theorem fl_Mo_7 : (.fieldLink R_Mo 7 R_Mo "low" "I" : Cond) ∈ gT := gT_in (gT_2 (i := 180) rfl) rfl
theorem fl_Mo_13 : (.fieldLink R_Mo 13 R_Mo "high" "I" : Cond) ∈ gT := gT_in (gT_2 (i := 181) rfl) rfl
theorem fl_Mo_67 : (.fieldLink R_Mo 67 R_Mo "printed" "Z" : Cond) ∈ gT := gT_in (gT_2 (i := 182) rfl) rfl
theorem fl_Mo_51 : (.fieldLink R_Mo 51 R_Mo "isWide" "Z" : Cond) ∈ gT := gT_in (gT_2 (i := 183) rfl) rfl
theorem fl_Mo_55 : (.fieldLink R_Mo 55 R_Mo "latest" "J" : Cond) ∈ gT := gT_in (gT_2 (i := 184) rfl) rfl
theorem fl_Mo_140 : (.fieldLink R_Mo 140 R_Mo "length" "I" : Cond) ∈ gT := gT_in (gT_2 (i := 185) rfl) rfl
theorem fl_Mo_16 : (.fieldLink R_Mo 16 R_Mo "text" "[I" : Cond) ∈ gT := gT_in (gT_2 (i := 186) rfl) rfl
theorem fl_Mo_20 : (.fieldLink R_Mo 20 R_Mo "unit" "[J" : Cond) ∈ gT := gT_in (gT_2 (i := 187) rfl) rfl
theorem fl_Mo_24 : (.fieldLink R_Mo 24 R_Mo "row" "[J" : Cond) ∈ gT := gT_in (gT_2 (i := 188) rfl) rfl
theorem fl_Mo_27 : (.fieldLink R_Mo 27 R_Mo "number" "[I" : Cond) ∈ gT := gT_in (gT_2 (i := 189) rfl) rfl
theorem fl_Mo_30 : (.fieldLink R_Mo 30 R_Mo "below" "[I" : Cond) ∈ gT := gT_in (gT_2 (i := 190) rfl) rfl
theorem fl_Mo_33 : (.fieldLink R_Mo 33 R_Mo "above" "[I" : Cond) ∈ gT := gT_in (gT_2 (i := 191) rfl) rfl
theorem fl_Mo_36 : (.fieldLink R_Mo 36 R_Mo "tried" "[I" : Cond) ∈ gT := gT_in (gT_2 (i := 192) rfl) rfl
theorem fl_Mo_39 : (.fieldLink R_Mo 39 R_Mo "best" "[I" : Cond) ∈ gT := gT_in (gT_2 (i := 193) rfl) rfl
theorem fl_Mo_42 : (.fieldLink R_Mo 42 R_Mo "far" "[I" : Cond) ∈ gT := gT_in (gT_2 (i := 194) rfl) rfl
theorem fl_Mo_45 : (.fieldLink R_Mo 45 R_Mo "bestFar" "[I" : Cond) ∈ gT := gT_in (gT_2 (i := 195) rfl) rfl
theorem fl_Mo_96 : (.fieldLink R_Mo 96 R_Mo "behind" "I" : Cond) ∈ gT := gT_in (gT_2 (i := 196) rfl) rfl
theorem fl_Mo_99 : (.fieldLink R_Mo 99 R_Mo "isEven" "Z" : Cond) ∈ gT := gT_in (gT_2 (i := 197) rfl) rfl
theorem ac_int : (.arrayClass .int : Cond) ∈ gT := gT_in (gT_2 (i := 237) rfl) rfl
theorem ml_Lw_17 : (.methodLink R_Lw 17 y_Mo_bounds : Cond) ∈ gT := gT_in (gT_2 (i := 238) rfl) rfl
theorem im_Mo_bounds : (.instanceMethod y_Mo_bounds : Cond) ∈ gT := gT_in (gT_2 (i := 239) rfl) rfl
theorem sel_Mo_bounds : (.selects R_Mo y_Mo_bounds y_Mo_bounds : Cond) ∈ gT := gT_in (gT_3 (i := 0) rfl) rfl
theorem cod_Mo_bounds : (.code y_Mo_bounds b_Mo_bounds 3 (some .boolean) : Cond) ∈ gT := gT_in (gT_3 (i := 1) rfl) rfl
theorem ml_Lw_51 : (.methodLink R_Lw 51 y_Mo_minus : Cond) ∈ gT := gT_in (gT_3 (i := 2) rfl) rfl
theorem im_Mo_minus : (.instanceMethod y_Mo_minus : Cond) ∈ gT := gT_in (gT_3 (i := 3) rfl) rfl
theorem sel_Mo_minus : (.selects R_Mo y_Mo_minus y_Mo_minus : Cond) ∈ gT := gT_in (gT_3 (i := 4) rfl) rfl
theorem cod_Mo_minus : (.code y_Mo_minus b_Mo_minus 1 (some .boolean) : Cond) ∈ gT := gT_in (gT_3 (i := 5) rfl) rfl
theorem ml_Lw_46 : (.methodLink R_Lw 46 y_Mo_kind : Cond) ∈ gT := gT_in (gT_3 (i := 6) rfl) rfl
theorem im_Mo_kind : (.instanceMethod y_Mo_kind : Cond) ∈ gT := gT_in (gT_3 (i := 7) rfl) rfl
theorem sel_Mo_kind : (.selects R_Mo y_Mo_kind y_Mo_kind : Cond) ∈ gT := gT_in (gT_3 (i := 8) rfl) rfl
theorem cod_Mo_kind : (.code y_Mo_kind b_Mo_kind 1 (some .int) : Cond) ∈ gT := gT_in (gT_3 (i := 9) rfl) rfl
theorem ml_Mo_70 : (.methodLink R_Mo 70 y_Mo_isLast : Cond) ∈ gT := gT_in (gT_3 (i := 10) rfl) rfl
theorem pri_Mo_isLast : (.privateMethod y_Mo_isLast : Cond) ∈ tables_1 := gT_3 (i := 11) rfl
theorem im_Mo_isLast : (.instanceMethod y_Mo_isLast : Cond) ∈ gT := gT_in (gT_3 (i := 12) rfl) rfl
theorem cod_Mo_isLast : (.code y_Mo_isLast b_Mo_isLast 1 (some .boolean) : Cond) ∈ gT := gT_in (gT_3 (i := 13) rfl) rfl
theorem ml_Mo_63 : (.methodLink R_Mo 63 y_Mo_exponent : Cond) ∈ gT := gT_in (gT_3 (i := 14) rfl) rfl
theorem pri_Mo_exponent : (.privateMethod y_Mo_exponent : Cond) ∈ tables_1 := gT_3 (i := 15) rfl
theorem im_Mo_exponent : (.instanceMethod y_Mo_exponent : Cond) ∈ gT := gT_in (gT_3 (i := 16) rfl) rfl
theorem cod_Mo_exponent : (.code y_Mo_exponent b_Mo_exponent 1 (some .int) : Cond) ∈ gT := gT_in (gT_3 (i := 17) rfl) rfl
theorem ml_Mo_74 : (.methodLink R_Mo 74 y_Mo_fraction : Cond) ∈ gT := gT_in (gT_3 (i := 18) rfl) rfl
theorem pri_Mo_fraction : (.privateMethod y_Mo_fraction : Cond) ∈ tables_1 := gT_3 (i := 19) rfl
theorem im_Mo_fraction : (.instanceMethod y_Mo_fraction : Cond) ∈ gT := gT_in (gT_3 (i := 20) rfl) rfl
theorem cod_Mo_fraction : (.code y_Mo_fraction b_Mo_fraction 1 (some .long) : Cond) ∈ gT := gT_in (gT_3 (i := 21) rfl) rfl
theorem kl_Mo_59 : (.constantLong R_Mo 59 (4503599627370495) : Cond) ∈ gT := gT_in (gT_3 (i := 22) rfl) rfl
theorem kl_Mo_61 : (.constantLong R_Mo 61 (8388607) : Cond) ∈ gT := gT_in (gT_3 (i := 23) rfl) rfl
theorem ml_Lw_56 : (.methodLink R_Lw 56 y_Mo_digits : Cond) ∈ gT := gT_in (gT_3 (i := 24) rfl) rfl
theorem im_Mo_digits : (.instanceMethod y_Mo_digits : Cond) ∈ gT := gT_in (gT_3 (i := 25) rfl) rfl
theorem sel_Mo_digits : (.selects R_Mo y_Mo_digits y_Mo_digits : Cond) ∈ gT := gT_in (gT_3 (i := 26) rfl) rfl
theorem cod_Mo_digits : (.code y_Mo_digits b_Mo_digits 4 (some .long) : Cond) ∈ gT := gT_in (gT_3 (i := 27) rfl) rfl
theorem ml_Mo_132 : (.methodLink R_Mo 132 y_Mo_kind : Cond) ∈ gT := gT_in (gT_3 (i := 28) rfl) rfl
theorem ml_Mo_135 : (.methodLink R_Mo 135 y_Mo_search : Cond) ∈ gT := gT_in (gT_3 (i := 29) rfl) rfl
theorem pri_Mo_search : (.privateMethod y_Mo_search : Cond) ∈ tables_1 := gT_3 (i := 30) rfl
theorem im_Mo_search : (.instanceMethod y_Mo_search : Cond) ∈ gT := gT_in (gT_3 (i := 31) rfl) rfl
theorem cod_Mo_search : (.code y_Mo_search b_Mo_search 9 none : Cond) ∈ gT := gT_in (gT_3 (i := 32) rfl) rfl
theorem ml_Mo_116 : (.methodLink R_Mo 116 y_Mo_spread : Cond) ∈ gT := gT_in (gT_3 (i := 33) rfl) rfl
theorem pri_Mo_spread : (.privateMethod y_Mo_spread : Cond) ∈ tables_1 := gT_3 (i := 34) rfl
theorem im_Mo_spread : (.instanceMethod y_Mo_spread : Cond) ∈ gT := gT_in (gT_3 (i := 35) rfl) rfl
theorem cod_Mo_spread : (.code y_Mo_spread b_Mo_spread 9 none : Cond) ∈ gT := gT_in (gT_3 (i := 36) rfl) rfl
theorem kl_Mo_80 : (.constantLong R_Mo 80 (4503599627370496) : Cond) ∈ gT := gT_in (gT_3 (i := 37) rfl) rfl
theorem kl_Mo_82 : (.constantLong R_Mo 82 (8388608) : Cond) ∈ gT := gT_in (gT_3 (i := 38) rfl) rfl
theorem kl_Mo_84 : (.constantLong R_Mo 84 (1000) : Cond) ∈ gT := gT_in (gT_3 (i := 39) rfl) rfl
theorem kl_Mo_86 : (.constantLong R_Mo 86 (2) : Cond) ∈ gT := gT_in (gT_3 (i := 40) rfl) rfl
theorem ml_Mo_88 : (.methodLink R_Mo 88 y_Mo_timesUnit : Cond) ∈ gT := gT_in (gT_3 (i := 41) rfl) rfl
theorem pri_Mo_timesUnit : (.privateMethod y_Mo_timesUnit : Cond) ∈ tables_1 := gT_3 (i := 42) rfl
theorem im_Mo_timesUnit : (.instanceMethod y_Mo_timesUnit : Cond) ∈ gT := gT_in (gT_3 (i := 43) rfl) rfl
theorem cod_Mo_timesUnit : (.code y_Mo_timesUnit b_Mo_timesUnit 8 none : Cond) ∈ gT := gT_in (gT_3 (i := 44) rfl) rfl
theorem kl_Mo_78 : (.constantLong R_Mo 78 (1000000000) : Cond) ∈ gT := gT_in (gT_3 (i := 45) rfl) rfl
theorem kl_Mo_92 : (.constantLong R_Mo 92 (244140625) : Cond) ∈ gT := gT_in (gT_3 (i := 46) rfl) rfl
theorem kl_Mo_94 : (.constantLong R_Mo 94 (5) : Cond) ∈ gT := gT_in (gT_3 (i := 47) rfl) rfl
theorem kl_Mo_102 : (.constantLong R_Mo 102 (4) : Cond) ∈ gT := gT_in (gT_3 (i := 48) rfl) rfl
theorem ml_Mo_104 : (.methodLink R_Mo 104 y_Mo_write : Cond) ∈ gT := gT_in (gT_3 (i := 49) rfl) rfl
theorem pri_Mo_write : (.privateMethod y_Mo_write : Cond) ∈ tables_1 := gT_3 (i := 50) rfl
theorem im_Mo_write : (.instanceMethod y_Mo_write : Cond) ∈ gT := gT_in (gT_3 (i := 51) rfl) rfl
theorem cod_Mo_write : (.code y_Mo_write b_Mo_write 13 none : Cond) ∈ gT := gT_in (gT_3 (i := 52) rfl) rfl
theorem ml_Mo_112 : (.methodLink R_Mo 112 y_Mo_top : Cond) ∈ gT := gT_in (gT_3 (i := 53) rfl) rfl
theorem sta_Mo_top : (.static y_Mo_top : Cond) ∈ gT := gT_in (gT_3 (i := 54) rfl) rfl
theorem cod_Mo_top : (.code y_Mo_top b_Mo_top 2 (some .int) : Cond) ∈ gT := gT_in (gT_3 (i := 55) rfl) rfl
theorem ml_Mo_119 : (.methodLink R_Mo 119 y_Mo_pick : Cond) ∈ gT := gT_in (gT_3 (i := 56) rfl) rfl
theorem pri_Mo_pick : (.privateMethod y_Mo_pick : Cond) ∈ tables_1 := gT_3 (i := 57) rfl
theorem im_Mo_pick : (.instanceMethod y_Mo_pick : Cond) ∈ gT := gT_in (gT_3 (i := 58) rfl) rfl
theorem cod_Mo_pick : (.code y_Mo_pick b_Mo_pick 4 none : Cond) ∈ gT := gT_in (gT_3 (i := 59) rfl) rfl
theorem ml_Mo_123 : (.methodLink R_Mo 123 y_Mo_readsBack : Cond) ∈ gT := gT_in (gT_3 (i := 60) rfl) rfl
theorem pri_Mo_readsBack : (.privateMethod y_Mo_readsBack : Cond) ∈ tables_1 := gT_3 (i := 61) rfl
theorem im_Mo_readsBack : (.instanceMethod y_Mo_readsBack : Cond) ∈ gT := gT_in (gT_3 (i := 62) rfl) rfl
theorem cod_Mo_readsBack : (.code y_Mo_readsBack b_Mo_readsBack 3 (some .boolean) : Cond) ∈ gT := gT_in (gT_3 (i := 63) rfl) rfl
theorem ml_Mo_108 : (.methodLink R_Mo 108 y_Mo_compare : Cond) ∈ gT := gT_in (gT_3 (i := 64) rfl) rfl
theorem sta_Mo_compare : (.static y_Mo_compare : Cond) ∈ gT := gT_in (gT_3 (i := 65) rfl) rfl
theorem cod_Mo_compare : (.code y_Mo_compare b_Mo_compare 3 (some .int) : Cond) ∈ gT := gT_in (gT_3 (i := 66) rfl) rfl
theorem ml_Mo_126 : (.methodLink R_Mo 126 y_Mo_bottom : Cond) ∈ gT := gT_in (gT_3 (i := 67) rfl) rfl
theorem sta_Mo_bottom : (.static y_Mo_bottom : Cond) ∈ gT := gT_in (gT_3 (i := 68) rfl) rfl
theorem cod_Mo_bottom : (.code y_Mo_bottom b_Mo_bottom 2 (some .int) : Cond) ∈ gT := gT_in (gT_3 (i := 69) rfl) rfl
theorem ml_Mo_129 : (.methodLink R_Mo 129 y_Mo_measure : Cond) ∈ gT := gT_in (gT_3 (i := 70) rfl) rfl
theorem pri_Mo_measure : (.privateMethod y_Mo_measure : Cond) ∈ tables_1 := gT_3 (i := 71) rfl
theorem im_Mo_measure : (.instanceMethod y_Mo_measure : Cond) ∈ gT := gT_in (gT_3 (i := 72) rfl) rfl
theorem cod_Mo_measure : (.code y_Mo_measure b_Mo_measure 5 none : Cond) ∈ gT := gT_in (gT_3 (i := 73) rfl) rfl
theorem kl_Mo_138 : (.constantLong R_Mo 138 (10) : Cond) ∈ gT := gT_in (gT_3 (i := 74) rfl) rfl
theorem ml_Lw_60 : (.methodLink R_Lw 60 y_Mo_tens : Cond) ∈ gT := gT_in (gT_3 (i := 75) rfl) rfl
theorem im_Mo_tens : (.instanceMethod y_Mo_tens : Cond) ∈ gT := gT_in (gT_3 (i := 76) rfl) rfl
theorem sel_Mo_tens : (.selects R_Mo y_Mo_tens y_Mo_tens : Cond) ∈ gT := gT_in (gT_3 (i := 77) rfl) rfl
theorem cod_Mo_tens : (.code y_Mo_tens b_Mo_tens 1 (some .int) : Cond) ∈ gT := gT_in (gT_3 (i := 78) rfl) rfl
theorem ml_Lw_24 : (.methodLink R_Lw 24 y_Mo_wide : Cond) ∈ gT := gT_in (gT_3 (i := 79) rfl) rfl
theorem im_Mo_wide : (.instanceMethod y_Mo_wide : Cond) ∈ gT := gT_in (gT_3 (i := 80) rfl) rfl
theorem sel_Mo_wide : (.selects R_Mo y_Mo_wide y_Mo_wide : Cond) ∈ gT := gT_in (gT_3 (i := 81) rfl) rfl
theorem cod_Mo_wide : (.code y_Mo_wide b_Mo_wide 3 (some .int) : Cond) ∈ gT := gT_in (gT_3 (i := 82) rfl) rfl
theorem ml_Mo_157 : (.methodLink R_Mo 157 y_Mo_print : Cond) ∈ gT := gT_in (gT_3 (i := 83) rfl) rfl
theorem pri_Mo_print : (.privateMethod y_Mo_print : Cond) ∈ tables_1 := gT_3 (i := 84) rfl
theorem im_Mo_print : (.instanceMethod y_Mo_print : Cond) ∈ gT := gT_in (gT_3 (i := 85) rfl) rfl
theorem cod_Mo_print : (.code y_Mo_print b_Mo_print 12 (some .int) : Cond) ∈ gT := gT_in (gT_3 (i := 86) rfl) rfl
theorem ml_Mo_150 : (.methodLink R_Mo 150 y_Mo_putOther : Cond) ∈ gT := gT_in (gT_3 (i := 87) rfl) rfl
theorem pri_Mo_putOther : (.privateMethod y_Mo_putOther : Cond) ∈ tables_1 := gT_3 (i := 88) rfl
theorem im_Mo_putOther : (.instanceMethod y_Mo_putOther : Cond) ∈ gT := gT_in (gT_3 (i := 89) rfl) rfl
theorem cod_Mo_putOther : (.code y_Mo_putOther b_Mo_putOther 3 (some .boolean) : Cond) ∈ gT := gT_in (gT_3 (i := 90) rfl) rfl
theorem ml_Mo_147 : (.methodLink R_Mo 147 y_Mo_minus : Cond) ∈ gT := gT_in (gT_3 (i := 91) rfl) rfl
theorem ml_Mo_143 : (.methodLink R_Mo 143 y_Mo_put : Cond) ∈ gT := gT_in (gT_3 (i := 92) rfl) rfl
theorem pri_Mo_put : (.privateMethod y_Mo_put : Cond) ∈ tables_1 := gT_3 (i := 93) rfl
theorem im_Mo_put : (.instanceMethod y_Mo_put : Cond) ∈ gT := gT_in (gT_3 (i := 94) rfl) rfl
theorem cod_Mo_put : (.code y_Mo_put b_Mo_put 2 none : Cond) ∈ gT := gT_in (gT_3 (i := 95) rfl) rfl
theorem ml_Mo_154 : (.methodLink R_Mo 154 y_Mo_putNumber : Cond) ∈ gT := gT_in (gT_3 (i := 96) rfl) rfl
theorem pri_Mo_putNumber : (.privateMethod y_Mo_putNumber : Cond) ∈ tables_1 := gT_3 (i := 97) rfl
theorem im_Mo_putNumber : (.instanceMethod y_Mo_putNumber : Cond) ∈ gT := gT_in (gT_3 (i := 98) rfl) rfl
theorem cod_Mo_putNumber : (.code y_Mo_putNumber b_Mo_putNumber 4 none : Cond) ∈ gT := gT_in (gT_3 (i := 99) rfl) rfl
theorem ml_Lw_29 : (.methodLink R_Lw 29 y_Mo_narrow : Cond) ∈ gT := gT_in (gT_3 (i := 100) rfl) rfl
theorem im_Mo_narrow : (.instanceMethod y_Mo_narrow : Cond) ∈ gT := gT_in (gT_3 (i := 101) rfl) rfl
theorem sel_Mo_narrow : (.selects R_Mo y_Mo_narrow y_Mo_narrow : Cond) ∈ gT := gT_in (gT_3 (i := 102) rfl) rfl
theorem cod_Mo_narrow : (.code y_Mo_narrow b_Mo_narrow 2 (some .int) : Cond) ∈ gT := gT_in (gT_3 (i := 103) rfl) rfl
theorem ml_Lw_33 : (.methodLink R_Lw 33 y_Mo_wideHex : Cond) ∈ gT := gT_in (gT_3 (i := 104) rfl) rfl
theorem im_Mo_wideHex : (.instanceMethod y_Mo_wideHex : Cond) ∈ gT := gT_in (gT_3 (i := 105) rfl) rfl
theorem sel_Mo_wideHex : (.selects R_Mo y_Mo_wideHex y_Mo_wideHex : Cond) ∈ gT := gT_in (gT_3 (i := 106) rfl) rfl
theorem cod_Mo_wideHex : (.code y_Mo_wideHex b_Mo_wideHex 3 (some .int) : Cond) ∈ gT := gT_in (gT_3 (i := 107) rfl) rfl
theorem ml_Mo_161 : (.methodLink R_Mo 161 y_Mo_printHex : Cond) ∈ gT := gT_in (gT_3 (i := 108) rfl) rfl
theorem pri_Mo_printHex : (.privateMethod y_Mo_printHex : Cond) ∈ tables_1 := gT_3 (i := 109) rfl
theorem im_Mo_printHex : (.instanceMethod y_Mo_printHex : Cond) ∈ gT := gT_in (gT_3 (i := 110) rfl) rfl
theorem cod_Mo_printHex : (.code y_Mo_printHex b_Mo_printHex 10 (some .int) : Cond) ∈ gT := gT_in (gT_3 (i := 111) rfl) rfl
theorem ml_Lw_37 : (.methodLink R_Lw 37 y_Mo_narrowHex : Cond) ∈ gT := gT_in (gT_3 (i := 112) rfl) rfl
theorem im_Mo_narrowHex : (.instanceMethod y_Mo_narrowHex : Cond) ∈ gT := gT_in (gT_3 (i := 113) rfl) rfl
theorem sel_Mo_narrowHex : (.selects R_Mo y_Mo_narrowHex y_Mo_narrowHex : Cond) ∈ gT := gT_in (gT_3 (i := 114) rfl) rfl
theorem cod_Mo_narrowHex : (.code y_Mo_narrowHex b_Mo_narrowHex 2 (some .int) : Cond) ∈ gT := gT_in (gT_3 (i := 115) rfl) rfl
theorem ml_Lw_41 : (.methodLink R_Lw 41 y_Mo_characterAt : Cond) ∈ gT := gT_in (gT_3 (i := 116) rfl) rfl
theorem im_Mo_characterAt : (.instanceMethod y_Mo_characterAt : Cond) ∈ gT := gT_in (gT_3 (i := 117) rfl) rfl
theorem sel_Mo_characterAt : (.selects R_Mo y_Mo_characterAt y_Mo_characterAt : Cond) ∈ gT := gT_in (gT_3 (i := 118) rfl) rfl
theorem cod_Mo_characterAt : (.code y_Mo_characterAt b_Mo_characterAt 2 (some .int) : Cond) ∈ gT := gT_in (gT_3 (i := 119) rfl) rfl
theorem kl_Lw_18 : (.constantLong R_Lw 18 (4294967295) : Cond) ∈ gT := gT_in (gT_3 (i := 120) rfl) rfl
theorem fl_La_29 : (.fieldLink R_La 29 R_La "fractionBits" "I" : Cond) ∈ gT := gT_in (gT_3 (i := 121) rfl) rfl
theorem fl_La_33 : (.fieldLink R_La 33 R_La "topExponent" "I" : Cond) ∈ gT := gT_in (gT_3 (i := 122) rfl) rfl
theorem fl_Bt_127 : (.fieldLink R_Bt 127 R_La "topExponent" "I" : Cond) ∈ gT := gT_in (gT_3 (i := 123) rfl) rfl
theorem fl_La_36 : (.fieldLink R_La 36 R_La "bias" "I" : Cond) ∈ gT := gT_in (gT_3 (i := 124) rfl) rfl
theorem fl_St_9 : (.fieldLink R_St 9 R_St "value" "[B" : Cond) ∈ gT := gT_in (gT_3 (i := 125) rfl) rfl
theorem fl_St_15 : (.fieldLink R_St 15 R_St "coder" "B" : Cond) ∈ gT := gT_in (gT_3 (i := 126) rfl) rfl
theorem fl_La_39 : (.fieldLink R_La 39 R_La "hexPlaces" "I" : Cond) ∈ gT := gT_in (gT_3 (i := 127) rfl) rfl
theorem fl_Bt_169 : (.fieldLink R_Bt 169 R_La "hexPlaces" "I" : Cond) ∈ gT := gT_in (gT_3 (i := 128) rfl) rfl
theorem sel_Bt_printDecimal : (.selects R_Bt y_Bt_printDecimal y_Bt_printDecimal : Cond) ∈ gT := gT_sel (q := (y_Bt_printDecimal, 7)) (List.mem_append_left _ (List.mem_of_getElem? (i := 0) rfl))
theorem sel_Bt_take : (.selects R_Bt y_Bt_take y_Bt_take : Cond) ∈ gT := gT_sel (q := (y_Bt_take, 7)) (List.mem_append_left _ (List.mem_of_getElem? (i := 1) rfl))
theorem sel_Fi_scale : (.selects R_Fi y_Fi_scale y_Fi_scale : Cond) ∈ gT := gT_sel (q := (y_Fi_scale, 3)) (List.mem_append_left _ (List.mem_of_getElem? (i := 2) rfl))
theorem sel_Fi_tenfold : (.selects R_Fi y_Fi_tenfold y_Fi_tenfold : Cond) ∈ gT := gT_sel (q := (y_Fi_tenfold, 3)) (List.mem_append_left _ (List.mem_of_getElem? (i := 3) rfl))
theorem sel_Fi_takeDigit : (.selects R_Fi y_Fi_takeDigit y_Fi_takeDigit : Cond) ∈ gT := gT_sel (q := (y_Fi_takeDigit, 3)) (List.mem_append_left _ (List.mem_of_getElem? (i := 4) rfl))
theorem sel_Fi_compareDown : (.selects R_Fi y_Fi_compareDown y_Fi_compareDown : Cond) ∈ gT := gT_sel (q := (y_Fi_compareDown, 3)) (List.mem_append_left _ (List.mem_of_getElem? (i := 5) rfl))
theorem sel_Fi_compareUp : (.selects R_Fi y_Fi_compareUp y_Fi_compareUp : Cond) ∈ gT := gT_sel (q := (y_Fi_compareUp, 3)) (List.mem_append_left _ (List.mem_of_getElem? (i := 6) rfl))
theorem sel_Fi_isUpNearer : (.selects R_Fi y_Fi_isUpNearer y_Fi_isUpNearer : Cond) ∈ gT := gT_sel (q := (y_Fi_isUpNearer, 3)) (List.mem_append_left _ (List.mem_of_getElem? (i := 7) rfl))
theorem sel_De_spread : (.selects R_De y_De_spread y_De_spread : Cond) ∈ gT := gT_sel (q := (y_De_spread, 4)) (List.mem_append_left _ (List.mem_of_getElem? (i := 8) rfl))
theorem sel_Bt_putDecimal : (.selects R_Bt y_Bt_putDecimal y_Bt_putDecimal : Cond) ∈ gT := gT_sel (q := (y_Bt_putDecimal, 7)) (List.mem_append_left _ (List.mem_of_getElem? (i := 9) rfl))
theorem sel_Bt_putPlaces : (.selects R_Bt y_Bt_putPlaces y_Bt_putPlaces : Cond) ∈ gT := gT_sel (q := (y_Bt_putPlaces, 7)) (List.mem_append_left _ (List.mem_of_getElem? (i := 10) rfl))
theorem sel_Bt_putNamed : (.selects R_Bt y_Bt_putNamed y_Bt_putNamed : Cond) ∈ gT := gT_sel (q := (y_Bt_putNamed, 7)) (List.mem_append_left _ (List.mem_of_getElem? (i := 11) rfl))
theorem sel_Bt_printHex : (.selects R_Bt y_Bt_printHex y_Bt_printHex : Cond) ∈ gT := gT_sel (q := (y_Bt_printHex, 7)) (List.mem_append_left _ (List.mem_of_getElem? (i := 12) rfl))
theorem sel_Bt_putHex : (.selects R_Bt y_Bt_putHex y_Bt_putHex : Cond) ∈ gT := gT_sel (q := (y_Bt_putHex, 7)) (List.mem_append_left _ (List.mem_of_getElem? (i := 13) rfl))
theorem sel_Mo_isLast : (.selects R_Mo y_Mo_isLast y_Mo_isLast : Cond) ∈ gT := gT_sel (q := (y_Mo_isLast, 19)) (List.mem_append_left _ (List.mem_of_getElem? (i := 14) rfl))
theorem sel_Mo_exponent : (.selects R_Mo y_Mo_exponent y_Mo_exponent : Cond) ∈ gT := gT_sel (q := (y_Mo_exponent, 19)) (List.mem_append_left _ (List.mem_of_getElem? (i := 15) rfl))
theorem sel_Mo_fraction : (.selects R_Mo y_Mo_fraction y_Mo_fraction : Cond) ∈ gT := gT_sel (q := (y_Mo_fraction, 19)) (List.mem_append_right _ (List.mem_of_getElem? (i := 0) rfl))
theorem sel_Mo_search : (.selects R_Mo y_Mo_search y_Mo_search : Cond) ∈ gT := gT_sel (q := (y_Mo_search, 19)) (List.mem_append_right _ (List.mem_of_getElem? (i := 1) rfl))
theorem sel_Mo_spread : (.selects R_Mo y_Mo_spread y_Mo_spread : Cond) ∈ gT := gT_sel (q := (y_Mo_spread, 19)) (List.mem_append_right _ (List.mem_of_getElem? (i := 2) rfl))
theorem sel_Mo_timesUnit : (.selects R_Mo y_Mo_timesUnit y_Mo_timesUnit : Cond) ∈ gT := gT_sel (q := (y_Mo_timesUnit, 19)) (List.mem_append_right _ (List.mem_of_getElem? (i := 3) rfl))
theorem sel_Mo_write : (.selects R_Mo y_Mo_write y_Mo_write : Cond) ∈ gT := gT_sel (q := (y_Mo_write, 19)) (List.mem_append_right _ (List.mem_of_getElem? (i := 4) rfl))
theorem sel_Mo_pick : (.selects R_Mo y_Mo_pick y_Mo_pick : Cond) ∈ gT := gT_sel (q := (y_Mo_pick, 19)) (List.mem_append_right _ (List.mem_of_getElem? (i := 5) rfl))
theorem sel_Mo_readsBack : (.selects R_Mo y_Mo_readsBack y_Mo_readsBack : Cond) ∈ gT := gT_sel (q := (y_Mo_readsBack, 19)) (List.mem_append_right _ (List.mem_of_getElem? (i := 6) rfl))
theorem sel_Mo_measure : (.selects R_Mo y_Mo_measure y_Mo_measure : Cond) ∈ gT := gT_sel (q := (y_Mo_measure, 19)) (List.mem_append_right _ (List.mem_of_getElem? (i := 7) rfl))
theorem sel_Mo_print : (.selects R_Mo y_Mo_print y_Mo_print : Cond) ∈ gT := gT_sel (q := (y_Mo_print, 19)) (List.mem_append_right _ (List.mem_of_getElem? (i := 8) rfl))
theorem sel_Mo_putOther : (.selects R_Mo y_Mo_putOther y_Mo_putOther : Cond) ∈ gT := gT_sel (q := (y_Mo_putOther, 19)) (List.mem_append_right _ (List.mem_of_getElem? (i := 9) rfl))
theorem sel_Mo_put : (.selects R_Mo y_Mo_put y_Mo_put : Cond) ∈ gT := gT_sel (q := (y_Mo_put, 19)) (List.mem_append_right _ (List.mem_of_getElem? (i := 10) rfl))
theorem sel_Mo_putNumber : (.selects R_Mo y_Mo_putNumber y_Mo_putNumber : Cond) ∈ gT := gT_sel (q := (y_Mo_putNumber, 19)) (List.mem_append_right _ (List.mem_of_getElem? (i := 11) rfl))
theorem sel_Mo_printHex : (.selects R_Mo y_Mo_printHex y_Mo_printHex : Cond) ∈ gT := gT_sel (q := (y_Mo_printHex, 19)) (List.mem_append_right _ (List.mem_of_getElem? (i := 12) rfl))
theorem i_De : ∀ w ∈ u_ws R_De F_De 4, w ∈ gT := by decide +kernel
theorem i_Fi : ∀ w ∈ u_ws R_Fi F_Fi 3, w ∈ gT := by decide +kernel
theorem i_Na : ∀ w ∈ u_ws R_Na F_Na 2, w ∈ gT := by decide +kernel
theorem i_Te : ∀ w ∈ u_ws R_Te F_Te 2, w ∈ gT := by decide +kernel
theorem i_Bt : ∀ w ∈ u_ws R_Bt F_Bt 7, w ∈ gT := by decide +kernel
theorem i_Mo : ∀ w ∈ u_ws R_Mo F_Mo 19, w ∈ gT := by decide +kernel
