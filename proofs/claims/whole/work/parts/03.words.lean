/-! the words: the good ones of the tables; each by its place -/
def wsL_law : List Cond := lw_tbl.filter goodWord
theorem wsL_good : ∀ w ∈ wsL_law, (w.onTables && w.keeps) = true ∨ ∃ ty, w = .arrayClass ty := fun w h => good_of_word (List.mem_filter.mp h).2
theorem wsL_law_in : ∀ w ∈ wsL_law, w ∈ lw_tbl := fun w h => (List.mem_filter.mp h).1
theorem wt_1 {w : Cond} (h : w ∈ tables_1_1) (g : goodWord w = true) : w ∈ wsL_law := List.mem_filter.mpr ⟨List.mem_append_right _ (List.mem_append_left _ h), g⟩
theorem wt_2 {w : Cond} (h : w ∈ tables_1_2) (g : goodWord w = true) : w ∈ wsL_law := List.mem_filter.mpr ⟨List.mem_append_right _ (List.mem_append_right _ (List.mem_append_left _ h)), g⟩
theorem wt_3 {w : Cond} (h : w ∈ tables_1_3) (g : goodWord w = true) : w ∈ wsL_law := List.mem_filter.mpr ⟨List.mem_append_right _ (List.mem_append_right _ (List.mem_append_right _ h)), g⟩
theorem wt_s {y : MethodName} {n : Nat} (h : (y, n) ∈ lw_privs) (g : goodWord (Cond.selects y.cls y y) = true) : Cond.selects y.cls y y ∈ wsL_law := List.mem_filter.mpr ⟨List.mem_append_left _ (List.mem_map.mpr ⟨(y, n), h, rfl⟩), g⟩
theorem cl_RL_7 : Cond.classLink RL 7 RX2 ∈ wsL_law := wt_1 (List.mem_of_getElem? (i := 5) rfl) rfl
theorem ia_RX2 : Cond.instantiable RX2 10 ∈ wsL_law := wt_1 (List.mem_of_getElem? (i := 6) rfl) rfl
theorem in_RX2 : Cond.initialized RX2 ∈ wsL_law := wt_1 (List.mem_of_getElem? (i := 1) rfl) rfl
theorem cl_RL_10 : Cond.classLink RL 10 RX3 ∈ wsL_law := wt_2 (List.mem_of_getElem? (i := 59) rfl) rfl
theorem ia_RX3 : Cond.instantiable RX3 29 ∈ wsL_law := wt_2 (List.mem_of_getElem? (i := 60) rfl) rfl
theorem in_RX3 : Cond.initialized RX3 ∈ wsL_law := wt_1 (List.mem_of_getElem? (i := 2) rfl) rfl
theorem ml_RL_9 : Cond.methodLink RL 9 yX2_init ∈ wsL_law := wt_1 (List.mem_of_getElem? (i := 7) rfl) rfl
theorem im_yX2_init : Cond.instanceMethod yX2_init ∈ wsL_law := wt_1 (List.mem_of_getElem? (i := 8) rfl) rfl
theorem cd_yX2_init : Cond.code yX2_init cX2_init 1 none ∈ wsL_law := wt_1 (List.mem_of_getElem? (i := 9) rfl) rfl
theorem ml_RX2_1 : Cond.methodLink RX2 1 objectInit ∈ wsL_law := wt_1 (List.mem_of_getElem? (i := 10) rfl) rfl
theorem im_objectInit : Cond.instanceMethod objectInit ∈ wsL_law := wt_1 (List.mem_of_getElem? (i := 11) rfl) rfl
theorem cd_objectInit : Cond.code objectInit ⟨#[0xb1]⟩ 1 none ∈ wsL_law := wt_1 (List.mem_of_getElem? (i := 12) rfl) rfl
theorem cl_RX2_9 : Cond.classLink RX2 9 RX1 ∈ wsL_law := wt_1 (List.mem_of_getElem? (i := 13) rfl) rfl
theorem fl_RX2_11 : Cond.fieldLink RX2 11 "PostHall" "messages" "[LPostHall$Message;" ∈ wsL_law := wt_1 (List.mem_of_getElem? (i := 17) rfl) rfl
theorem cl_RX2_15 : Cond.classLink RX2 15 RX0 ∈ wsL_law := wt_1 (List.mem_of_getElem? (i := 15) rfl) rfl
theorem fl_RX2_17 : Cond.fieldLink RX2 17 "PostHall" "counters" "[LPostHall$Counter;" ∈ wsL_law := wt_1 (List.mem_of_getElem? (i := 18) rfl) rfl
theorem fl_RX2_21 : Cond.fieldLink RX2 21 "PostHall" "firstFallen" "I" ∈ wsL_law := wt_1 (List.mem_of_getElem? (i := 26) rfl) rfl
theorem ml_RL_12 : Cond.methodLink RL 12 yX3_init ∈ wsL_law := wt_2 (List.mem_of_getElem? (i := 61) rfl) rfl
theorem im_yX3_init : Cond.instanceMethod yX3_init ∈ wsL_law := wt_2 (List.mem_of_getElem? (i := 62) rfl) rfl
theorem cd_yX3_init : Cond.code yX3_init cX3_init 1 none ∈ wsL_law := wt_2 (List.mem_of_getElem? (i := 63) rfl) rfl
theorem ml_RX3_1 : Cond.methodLink RX3 1 objectInit ∈ wsL_law := wt_2 (List.mem_of_getElem? (i := 64) rfl) rfl
theorem ac_int : Cond.arrayClass .int ∈ wsL_law := wt_1 (List.mem_of_getElem? (i := 92) rfl) rfl
theorem fl_RX3_7 : Cond.fieldLink RX3 7 "PostHallModel" "base" "[I" ∈ wsL_law := wt_2 (List.mem_of_getElem? (i := 66) rfl) rfl
theorem fl_RX3_13 : Cond.fieldLink RX3 13 "PostHallModel" "depth" "[I" ∈ wsL_law := wt_2 (List.mem_of_getElem? (i := 67) rfl) rfl
theorem fl_RX3_16 : Cond.fieldLink RX3 16 "PostHallModel" "stamp" "[I" ∈ wsL_law := wt_2 (List.mem_of_getElem? (i := 68) rfl) rfl
theorem fl_RX3_19 : Cond.fieldLink RX3 19 "PostHallModel" "size" "[I" ∈ wsL_law := wt_2 (List.mem_of_getElem? (i := 69) rfl) rfl
theorem fl_RX3_22 : Cond.fieldLink RX3 22 "PostHallModel" "item" "[I" ∈ wsL_law := wt_2 (List.mem_of_getElem? (i := 70) rfl) rfl
theorem ac_boolean : Cond.arrayClass .boolean ∈ wsL_law := wt_2 (List.mem_of_getElem? (i := 153) rfl) rfl
theorem fl_RX3_25 : Cond.fieldLink RX3 25 "PostHallModel" "isSet" "[Z" ∈ wsL_law := wt_2 (List.mem_of_getElem? (i := 71) rfl) rfl
theorem fl_RX3_29 : Cond.fieldLink RX3 29 "PostHallModel" "isShut" "[Z" ∈ wsL_law := wt_2 (List.mem_of_getElem? (i := 72) rfl) rfl
theorem fl_RX3_32 : Cond.fieldLink RX3 32 "PostHallModel" "isPatient" "[Z" ∈ wsL_law := wt_2 (List.mem_of_getElem? (i := 73) rfl) rfl
theorem fl_RX3_35 : Cond.fieldLink RX3 35 "PostHallModel" "asksBase" "[I" ∈ wsL_law := wt_2 (List.mem_of_getElem? (i := 74) rfl) rfl
theorem fl_RX3_38 : Cond.fieldLink RX3 38 "PostHallModel" "asksDepth" "[I" ∈ wsL_law := wt_2 (List.mem_of_getElem? (i := 75) rfl) rfl
theorem fl_RX3_41 : Cond.fieldLink RX3 41 "PostHallModel" "wantsBase" "[I" ∈ wsL_law := wt_2 (List.mem_of_getElem? (i := 76) rfl) rfl
theorem fl_RX3_44 : Cond.fieldLink RX3 44 "PostHallModel" "wantsDepth" "[I" ∈ wsL_law := wt_2 (List.mem_of_getElem? (i := 77) rfl) rfl
theorem fl_RX3_47 : Cond.fieldLink RX3 47 "PostHallModel" "job" "[I" ∈ wsL_law := wt_2 (List.mem_of_getElem? (i := 78) rfl) rfl
theorem fl_RX3_50 : Cond.fieldLink RX3 50 "PostHallModel" "number" "[I" ∈ wsL_law := wt_2 (List.mem_of_getElem? (i := 79) rfl) rfl
theorem fl_RX3_53 : Cond.fieldLink RX3 53 "PostHallModel" "own" "[I" ∈ wsL_law := wt_2 (List.mem_of_getElem? (i := 80) rfl) rfl
theorem fl_RX3_56 : Cond.fieldLink RX3 56 "PostHallModel" "met" "[I" ∈ wsL_law := wt_2 (List.mem_of_getElem? (i := 81) rfl) rfl
theorem fl_RX3_59 : Cond.fieldLink RX3 59 "PostHallModel" "fell" "[I" ∈ wsL_law := wt_2 (List.mem_of_getElem? (i := 82) rfl) rfl
theorem fl_RX3_62 : Cond.fieldLink RX3 62 "PostHallModel" "message" "[I" ∈ wsL_law := wt_2 (List.mem_of_getElem? (i := 90) rfl) rfl
theorem fl_RX3_65 : Cond.fieldLink RX3 65 "PostHallModel" "next" "[I" ∈ wsL_law := wt_2 (List.mem_of_getElem? (i := 91) rfl) rfl
theorem fl_RX3_68 : Cond.fieldLink RX3 68 "PostHallModel" "meets" "[I" ∈ wsL_law := wt_2 (List.mem_of_getElem? (i := 92) rfl) rfl
theorem fl_RX3_71 : Cond.fieldLink RX3 71 "PostHallModel" "place" "[I" ∈ wsL_law := wt_2 (List.mem_of_getElem? (i := 93) rfl) rfl
theorem ml_RL_13 : Cond.methodLink RL 13 yX2_slip ∈ wsL_law := wt_1 (List.mem_of_getElem? (i := 48) rfl) rfl
theorem im_yX2_slip : Cond.instanceMethod yX2_slip ∈ wsL_law := wt_1 (List.mem_of_getElem? (i := 49) rfl) rfl
theorem se_yX2_slip : Cond.selects RX2 yX2_slip yX2_slip ∈ wsL_law := wt_1 (List.mem_of_getElem? (i := 50) rfl) rfl
theorem cd_yX2_slip : Cond.code yX2_slip cX2_slip 3 (some .int) ∈ wsL_law := wt_1 (List.mem_of_getElem? (i := 51) rfl) rfl
theorem ml_RX2_25 : Cond.methodLink RX2 25 yX2_enter ∈ wsL_law := wt_1 (List.mem_of_getElem? (i := 52) rfl) rfl
theorem im_yX2_enter : Cond.instanceMethod yX2_enter ∈ wsL_law := wt_1 (List.mem_of_getElem? (i := 54) rfl) rfl
theorem se_yX2_enter : Cond.selects RX2 yX2_enter yX2_enter ∈ wsL_law := wt_s (y := yX2_enter) (n := 10) (List.mem_append_left _ (List.mem_of_getElem? (i := 0) rfl)) rfl
theorem cd_yX2_enter : Cond.code yX2_enter cX2_enter 6 (some .int) ∈ wsL_law := wt_1 (List.mem_of_getElem? (i := 55) rfl) rfl
theorem fl_RX2_130 : Cond.fieldLink RX2 130 "PostHall" "messageCount" "I" ∈ wsL_law := wt_1 (List.mem_of_getElem? (i := 19) rfl) rfl
theorem ia_RX1 : Cond.instantiable RX1 6 ∈ wsL_law := wt_1 (List.mem_of_getElem? (i := 56) rfl) rfl
theorem in_RX1 : Cond.initialized RX1 ∈ wsL_law := wt_1 (List.mem_of_getElem? (i := 3) rfl) rfl
theorem fl_RX2_59 : Cond.fieldLink RX2 59 "PostHall$Message" "stamp" "I" ∈ wsL_law := wt_1 (List.mem_of_getElem? (i := 78) rfl) rfl
theorem fl_RX2_135 : Cond.fieldLink RX2 135 "PostHall$Message" "number" "I" ∈ wsL_law := wt_1 (List.mem_of_getElem? (i := 69) rfl) rfl
theorem ml_RX2_133 : Cond.methodLink RX2 133 yX1_init ∈ wsL_law := wt_1 (List.mem_of_getElem? (i := 57) rfl) rfl
theorem im_yX1_init : Cond.instanceMethod yX1_init ∈ wsL_law := wt_1 (List.mem_of_getElem? (i := 58) rfl) rfl
theorem cd_yX1_init : Cond.code yX1_init cX1_init 5 none ∈ wsL_law := wt_1 (List.mem_of_getElem? (i := 59) rfl) rfl
theorem ml_RX1_3 : Cond.methodLink RX1 3 objectInit ∈ wsL_law := wt_1 (List.mem_of_getElem? (i := 60) rfl) rfl
theorem fl_RX1_9 : Cond.fieldLink RX1 9 "PostHall$Message" "number" "I" ∈ wsL_law := wt_1 (List.mem_of_getElem? (i := 68) rfl) rfl
theorem fl_RX1_15 : Cond.fieldLink RX1 15 "PostHall$Message" "base" "I" ∈ wsL_law := wt_1 (List.mem_of_getElem? (i := 70) rfl) rfl
theorem fl_RX1_18 : Cond.fieldLink RX1 18 "PostHall$Message" "depth" "I" ∈ wsL_law := wt_1 (List.mem_of_getElem? (i := 72) rfl) rfl
theorem fl_RX1_25 : Cond.fieldLink RX1 25 "PostHall$Message" "figures" "Z" ∈ wsL_law := wt_1 (List.mem_of_getElem? (i := 74) rfl) rfl
theorem fl_RX1_29 : Cond.fieldLink RX1 29 "PostHall$Message" "places" "[I" ∈ wsL_law := wt_1 (List.mem_of_getElem? (i := 76) rfl) rfl
theorem st_yX2_isOfFigures : Cond.static yX2_isOfFigures ∈ wsL_law := wt_1 (List.mem_of_getElem? (i := 62) rfl) rfl
theorem cd_yX2_isOfFigures : Cond.code yX2_isOfFigures cX2_isOfFigures 2 (some .boolean) ∈ wsL_law := wt_1 (List.mem_of_getElem? (i := 63) rfl) rfl
theorem ml_RX1_33 : Cond.methodLink RX1 33 yX1_fill ∈ wsL_law := wt_1 (List.mem_of_getElem? (i := 64) rfl) rfl
theorem im_yX1_fill : Cond.instanceMethod yX1_fill ∈ wsL_law := wt_1 (List.mem_of_getElem? (i := 65) rfl) rfl
theorem se_yX1_fill : Cond.selects RX1 yX1_fill yX1_fill ∈ wsL_law := wt_1 (List.mem_of_getElem? (i := 66) rfl) rfl
theorem cd_yX1_fill : Cond.code yX1_fill cX1_fill 3 none ∈ wsL_law := wt_1 (List.mem_of_getElem? (i := 67) rfl) rfl
theorem ml_RL_17 : Cond.methodLink RL 17 yX3_slip ∈ wsL_law := wt_2 (List.mem_of_getElem? (i := 154) rfl) rfl
theorem im_yX3_slip : Cond.instanceMethod yX3_slip ∈ wsL_law := wt_2 (List.mem_of_getElem? (i := 155) rfl) rfl
theorem se_yX3_slip : Cond.selects RX3 yX3_slip yX3_slip ∈ wsL_law := wt_2 (List.mem_of_getElem? (i := 156) rfl) rfl
theorem cd_yX3_slip : Cond.code yX3_slip cX3_slip 4 (some .int) ∈ wsL_law := wt_2 (List.mem_of_getElem? (i := 157) rfl) rfl
theorem fl_RX3_74 : Cond.fieldLink RX3 74 "PostHallModel" "messages" "I" ∈ wsL_law := wt_2 (List.mem_of_getElem? (i := 65) rfl) rfl
theorem ml_RX3_78 : Cond.methodLink RX3 78 yX3_in ∈ wsL_law := wt_2 (List.mem_of_getElem? (i := 158) rfl) rfl
theorem st_yX3_in : Cond.static yX3_in ∈ wsL_law := wt_2 (List.mem_of_getElem? (i := 159) rfl) rfl
theorem cd_yX3_in : Cond.code yX3_in cX3_in 3 (some .boolean) ∈ wsL_law := wt_2 (List.mem_of_getElem? (i := 160) rfl) rfl
theorem ml_RX3_93 : Cond.methodLink RX3 93 yX3_kept ∈ wsL_law := wt_2 (List.mem_of_getElem? (i := 161) rfl) rfl
theorem im_yX3_kept : Cond.instanceMethod yX3_kept ∈ wsL_law := wt_2 (List.mem_of_getElem? (i := 163) rfl) rfl
theorem se_yX3_kept : Cond.selects RX3 yX3_kept yX3_kept ∈ wsL_law := wt_s (y := yX3_kept) (n := 29) (List.mem_append_left _ (List.mem_of_getElem? (i := 10) rfl)) rfl
theorem cd_yX3_kept : Cond.code yX3_kept cX3_kept 6 (some .int) ∈ wsL_law := wt_2 (List.mem_of_getElem? (i := 164) rfl) rfl
theorem ml_RL_18 : Cond.methodLink RL 18 yX2_bundle ∈ wsL_law := wt_1 (List.mem_of_getElem? (i := 93) rfl) rfl
theorem im_yX2_bundle : Cond.instanceMethod yX2_bundle ∈ wsL_law := wt_1 (List.mem_of_getElem? (i := 94) rfl) rfl
theorem se_yX2_bundle : Cond.selects RX2 yX2_bundle yX2_bundle ∈ wsL_law := wt_1 (List.mem_of_getElem? (i := 95) rfl) rfl
theorem cd_yX2_bundle : Cond.code yX2_bundle cX2_bundle 4 (some .int) ∈ wsL_law := wt_1 (List.mem_of_getElem? (i := 96) rfl) rfl
theorem ml_RX2_29 : Cond.methodLink RX2 29 yX2_isKind ∈ wsL_law := wt_1 (List.mem_of_getElem? (i := 97) rfl) rfl
theorem st_yX2_isKind : Cond.static yX2_isKind ∈ wsL_law := wt_1 (List.mem_of_getElem? (i := 98) rfl) rfl
theorem cd_yX2_isKind : Cond.code yX2_isKind cX2_isKind 3 (some .boolean) ∈ wsL_law := wt_1 (List.mem_of_getElem? (i := 99) rfl) rfl
theorem ml_RL_22 : Cond.methodLink RL 22 yX3_bundle ∈ wsL_law := wt_2 (List.mem_of_getElem? (i := 165) rfl) rfl
theorem im_yX3_bundle : Cond.instanceMethod yX3_bundle ∈ wsL_law := wt_2 (List.mem_of_getElem? (i := 166) rfl) rfl
theorem se_yX3_bundle : Cond.selects RX3 yX3_bundle yX3_bundle ∈ wsL_law := wt_2 (List.mem_of_getElem? (i := 167) rfl) rfl
theorem cd_yX3_bundle : Cond.code yX3_bundle cX3_bundle 4 (some .int) ∈ wsL_law := wt_2 (List.mem_of_getElem? (i := 168) rfl) rfl
theorem ml_RL_23 : Cond.methodLink RL 23 yX2_place ∈ wsL_law := wt_1 (List.mem_of_getElem? (i := 100) rfl) rfl
theorem im_yX2_place : Cond.instanceMethod yX2_place ∈ wsL_law := wt_1 (List.mem_of_getElem? (i := 101) rfl) rfl
theorem se_yX2_place : Cond.selects RX2 yX2_place yX2_place ∈ wsL_law := wt_1 (List.mem_of_getElem? (i := 102) rfl) rfl
theorem cd_yX2_place : Cond.code yX2_place cX2_place 6 (some .int) ∈ wsL_law := wt_1 (List.mem_of_getElem? (i := 103) rfl) rfl
theorem fl_RX2_45 : Cond.fieldLink RX2 45 "PostHall$Message" "places" "[I" ∈ wsL_law := wt_1 (List.mem_of_getElem? (i := 77) rfl) rfl
theorem ml_RX2_33 : Cond.methodLink RX2 33 yX2_messageAt ∈ wsL_law := wt_1 (List.mem_of_getElem? (i := 104) rfl) rfl
theorem im_yX2_messageAt : Cond.instanceMethod yX2_messageAt ∈ wsL_law := wt_1 (List.mem_of_getElem? (i := 106) rfl) rfl
theorem se_yX2_messageAt : Cond.selects RX2 yX2_messageAt yX2_messageAt ∈ wsL_law := wt_s (y := yX2_messageAt) (n := 10) (List.mem_append_left _ (List.mem_of_getElem? (i := 1) rfl)) rfl
theorem cd_yX2_messageAt : Cond.code yX2_messageAt cX2_messageAt 2 (some (.object "PostHall$Message")) ∈ wsL_law := wt_1 (List.mem_of_getElem? (i := 107) rfl) rfl
theorem ml_RX2_37 : Cond.methodLink RX2 37 yX1_hasMessagePlace ∈ wsL_law := wt_1 (List.mem_of_getElem? (i := 108) rfl) rfl
theorem im_yX1_hasMessagePlace : Cond.instanceMethod yX1_hasMessagePlace ∈ wsL_law := wt_1 (List.mem_of_getElem? (i := 109) rfl) rfl
theorem se_yX1_hasMessagePlace : Cond.selects RX1 yX1_hasMessagePlace yX1_hasMessagePlace ∈ wsL_law := wt_1 (List.mem_of_getElem? (i := 110) rfl) rfl
theorem cd_yX1_hasMessagePlace : Cond.code yX1_hasMessagePlace cX1_hasMessagePlace 2 (some .boolean) ∈ wsL_law := wt_1 (List.mem_of_getElem? (i := 111) rfl) rfl
theorem ml_RX2_41 : Cond.methodLink RX2 41 yX1_holds ∈ wsL_law := wt_1 (List.mem_of_getElem? (i := 112) rfl) rfl
theorem im_yX1_holds : Cond.instanceMethod yX1_holds ∈ wsL_law := wt_1 (List.mem_of_getElem? (i := 113) rfl) rfl
theorem se_yX1_holds : Cond.selects RX1 yX1_holds yX1_holds ∈ wsL_law := wt_1 (List.mem_of_getElem? (i := 114) rfl) rfl
theorem cd_yX1_holds : Cond.code yX1_holds cX1_holds 2 (some .boolean) ∈ wsL_law := wt_1 (List.mem_of_getElem? (i := 115) rfl) rfl
theorem ml_RX1_40 : Cond.methodLink RX1 40 yX1_fits ∈ wsL_law := wt_1 (List.mem_of_getElem? (i := 116) rfl) rfl
theorem im_yX1_fits : Cond.instanceMethod yX1_fits ∈ wsL_law := wt_1 (List.mem_of_getElem? (i := 117) rfl) rfl
theorem se_yX1_fits : Cond.selects RX1 yX1_fits yX1_fits ∈ wsL_law := wt_1 (List.mem_of_getElem? (i := 118) rfl) rfl
theorem cd_yX1_fits : Cond.code yX1_fits cX1_fits 3 (some .boolean) ∈ wsL_law := wt_1 (List.mem_of_getElem? (i := 119) rfl) rfl
theorem st_yX2_passesFor : Cond.static yX2_passesFor ∈ wsL_law := wt_1 (List.mem_of_getElem? (i := 121) rfl) rfl
theorem cd_yX2_passesFor : Cond.code yX2_passesFor cX2_passesFor 2 (some .boolean) ∈ wsL_law := wt_1 (List.mem_of_getElem? (i := 122) rfl) rfl
theorem ml_RL_26 : Cond.methodLink RL 26 yX3_place ∈ wsL_law := wt_2 (List.mem_of_getElem? (i := 169) rfl) rfl
theorem im_yX3_place : Cond.instanceMethod yX3_place ∈ wsL_law := wt_2 (List.mem_of_getElem? (i := 170) rfl) rfl
theorem se_yX3_place : Cond.selects RX3 yX3_place yX3_place ∈ wsL_law := wt_2 (List.mem_of_getElem? (i := 171) rfl) rfl
theorem cd_yX3_place : Cond.code yX3_place cX3_place 4 (some .int) ∈ wsL_law := wt_2 (List.mem_of_getElem? (i := 172) rfl) rfl
theorem ml_RX3_97 : Cond.methodLink RX3 97 yX3_isMessage ∈ wsL_law := wt_2 (List.mem_of_getElem? (i := 173) rfl) rfl
theorem im_yX3_isMessage : Cond.instanceMethod yX3_isMessage ∈ wsL_law := wt_2 (List.mem_of_getElem? (i := 175) rfl) rfl
theorem se_yX3_isMessage : Cond.selects RX3 yX3_isMessage yX3_isMessage ∈ wsL_law := wt_s (y := yX3_isMessage) (n := 29) (List.mem_append_left _ (List.mem_of_getElem? (i := 11) rfl)) rfl
theorem cd_yX3_isMessage : Cond.code yX3_isMessage cX3_isMessage 2 (some .boolean) ∈ wsL_law := wt_2 (List.mem_of_getElem? (i := 176) rfl) rfl
theorem ml_RX3_100 : Cond.methodLink RX3 100 yX3_isBundle ∈ wsL_law := wt_2 (List.mem_of_getElem? (i := 177) rfl) rfl
theorem im_yX3_isBundle : Cond.instanceMethod yX3_isBundle ∈ wsL_law := wt_2 (List.mem_of_getElem? (i := 179) rfl) rfl
theorem se_yX3_isBundle : Cond.selects RX3 yX3_isBundle yX3_isBundle ∈ wsL_law := wt_s (y := yX3_isBundle) (n := 29) (List.mem_append_left _ (List.mem_of_getElem? (i := 12) rfl)) rfl
theorem cd_yX3_isBundle : Cond.code yX3_isBundle cX3_isBundle 2 (some .boolean) ∈ wsL_law := wt_2 (List.mem_of_getElem? (i := 180) rfl) rfl
theorem ml_RX3_86 : Cond.methodLink RX3 86 yX3_isFigures ∈ wsL_law := wt_2 (List.mem_of_getElem? (i := 181) rfl) rfl
theorem im_yX3_isFigures : Cond.instanceMethod yX3_isFigures ∈ wsL_law := wt_2 (List.mem_of_getElem? (i := 183) rfl) rfl
theorem se_yX3_isFigures : Cond.selects RX3 yX3_isFigures yX3_isFigures ∈ wsL_law := wt_s (y := yX3_isFigures) (n := 29) (List.mem_append_left _ (List.mem_of_getElem? (i := 13) rfl)) rfl
theorem cd_yX3_isFigures : Cond.code yX3_isFigures cX3_isFigures 2 (some .boolean) ∈ wsL_law := wt_2 (List.mem_of_getElem? (i := 184) rfl) rfl
theorem ml_RX3_103 : Cond.methodLink RX3 103 yX3_holds ∈ wsL_law := wt_2 (List.mem_of_getElem? (i := 185) rfl) rfl
theorem im_yX3_holds : Cond.instanceMethod yX3_holds ∈ wsL_law := wt_2 (List.mem_of_getElem? (i := 187) rfl) rfl
theorem se_yX3_holds : Cond.selects RX3 yX3_holds yX3_holds ∈ wsL_law := wt_s (y := yX3_holds) (n := 29) (List.mem_append_left _ (List.mem_of_getElem? (i := 14) rfl)) rfl
theorem cd_yX3_holds : Cond.code yX3_holds cX3_holds 3 (some .boolean) ∈ wsL_law := wt_2 (List.mem_of_getElem? (i := 188) rfl) rfl
theorem ml_RX3_90 : Cond.methodLink RX3 90 yX3_isOf ∈ wsL_law := wt_2 (List.mem_of_getElem? (i := 189) rfl) rfl
theorem im_yX3_isOf : Cond.instanceMethod yX3_isOf ∈ wsL_law := wt_2 (List.mem_of_getElem? (i := 191) rfl) rfl
theorem se_yX3_isOf : Cond.selects RX3 yX3_isOf yX3_isOf ∈ wsL_law := wt_s (y := yX3_isOf) (n := 29) (List.mem_append_left _ (List.mem_of_getElem? (i := 15) rfl)) rfl
theorem cd_yX3_isOf : Cond.code yX3_isOf cX3_isOf 4 (some .boolean) ∈ wsL_law := wt_2 (List.mem_of_getElem? (i := 192) rfl) rfl
theorem ml_RX3_82 : Cond.methodLink RX3 82 yX3_passes ∈ wsL_law := wt_2 (List.mem_of_getElem? (i := 193) rfl) rfl
theorem st_yX3_passes : Cond.static yX3_passes ∈ wsL_law := wt_2 (List.mem_of_getElem? (i := 194) rfl) rfl
theorem cd_yX3_passes : Cond.code yX3_passes cX3_passes 2 (some .boolean) ∈ wsL_law := wt_2 (List.mem_of_getElem? (i := 195) rfl) rfl
theorem ml_RL_27 : Cond.methodLink RL 27 yX2_placed ∈ wsL_law := wt_1 (List.mem_of_getElem? (i := 123) rfl) rfl
theorem im_yX2_placed : Cond.instanceMethod yX2_placed ∈ wsL_law := wt_1 (List.mem_of_getElem? (i := 124) rfl) rfl
theorem se_yX2_placed : Cond.selects RX2 yX2_placed yX2_placed ∈ wsL_law := wt_1 (List.mem_of_getElem? (i := 125) rfl) rfl
theorem cd_yX2_placed : Cond.code yX2_placed cX2_placed 4 (some .int) ∈ wsL_law := wt_1 (List.mem_of_getElem? (i := 126) rfl) rfl
theorem ml_RL_30 : Cond.methodLink RL 30 yX3_placed ∈ wsL_law := wt_2 (List.mem_of_getElem? (i := 196) rfl) rfl
theorem im_yX3_placed : Cond.instanceMethod yX3_placed ∈ wsL_law := wt_2 (List.mem_of_getElem? (i := 197) rfl) rfl
theorem se_yX3_placed : Cond.selects RX3 yX3_placed yX3_placed ∈ wsL_law := wt_2 (List.mem_of_getElem? (i := 198) rfl) rfl
theorem cd_yX3_placed : Cond.code yX3_placed cX3_placed 3 (some .int) ∈ wsL_law := wt_2 (List.mem_of_getElem? (i := 199) rfl) rfl
theorem ml_RL_31 : Cond.methodLink RL 31 yX2_figure ∈ wsL_law := wt_1 (List.mem_of_getElem? (i := 127) rfl) rfl
theorem im_yX2_figure : Cond.instanceMethod yX2_figure ∈ wsL_law := wt_1 (List.mem_of_getElem? (i := 128) rfl) rfl
theorem se_yX2_figure : Cond.selects RX2 yX2_figure yX2_figure ∈ wsL_law := wt_1 (List.mem_of_getElem? (i := 129) rfl) rfl
theorem cd_yX2_figure : Cond.code yX2_figure cX2_figure 5 (some .int) ∈ wsL_law := wt_1 (List.mem_of_getElem? (i := 130) rfl) rfl
theorem ml_RX2_49 : Cond.methodLink RX2 49 yX1_hasNumber ∈ wsL_law := wt_1 (List.mem_of_getElem? (i := 131) rfl) rfl
theorem im_yX1_hasNumber : Cond.instanceMethod yX1_hasNumber ∈ wsL_law := wt_1 (List.mem_of_getElem? (i := 132) rfl) rfl
theorem se_yX1_hasNumber : Cond.selects RX1 yX1_hasNumber yX1_hasNumber ∈ wsL_law := wt_1 (List.mem_of_getElem? (i := 133) rfl) rfl
theorem cd_yX1_hasNumber : Cond.code yX1_hasNumber cX1_hasNumber 2 (some .boolean) ∈ wsL_law := wt_1 (List.mem_of_getElem? (i := 134) rfl) rfl
theorem ml_RX2_52 : Cond.methodLink RX2 52 yX1_lowestBits ∈ wsL_law := wt_1 (List.mem_of_getElem? (i := 135) rfl) rfl
theorem im_yX1_lowestBits : Cond.instanceMethod yX1_lowestBits ∈ wsL_law := wt_1 (List.mem_of_getElem? (i := 136) rfl) rfl
theorem se_yX1_lowestBits : Cond.selects RX1 yX1_lowestBits yX1_lowestBits ∈ wsL_law := wt_1 (List.mem_of_getElem? (i := 137) rfl) rfl
theorem cd_yX1_lowestBits : Cond.code yX1_lowestBits cX1_lowestBits 2 (some .int) ∈ wsL_law := wt_1 (List.mem_of_getElem? (i := 138) rfl) rfl
theorem ml_RL_34 : Cond.methodLink RL 34 yX3_figure ∈ wsL_law := wt_2 (List.mem_of_getElem? (i := 200) rfl) rfl
theorem im_yX3_figure : Cond.instanceMethod yX3_figure ∈ wsL_law := wt_2 (List.mem_of_getElem? (i := 201) rfl) rfl
theorem se_yX3_figure : Cond.selects RX3 yX3_figure yX3_figure ∈ wsL_law := wt_2 (List.mem_of_getElem? (i := 202) rfl) rfl
theorem cd_yX3_figure : Cond.code yX3_figure cX3_figure 4 (some .int) ∈ wsL_law := wt_2 (List.mem_of_getElem? (i := 203) rfl) rfl
theorem ml_RX3_107 : Cond.methodLink RX3 107 yX3_cut ∈ wsL_law := wt_2 (List.mem_of_getElem? (i := 204) rfl) rfl
theorem st_yX3_cut : Cond.static yX3_cut ∈ wsL_law := wt_2 (List.mem_of_getElem? (i := 205) rfl) rfl
theorem cd_yX3_cut : Cond.code yX3_cut cX3_cut 2 (some .int) ∈ wsL_law := wt_2 (List.mem_of_getElem? (i := 206) rfl) rfl
theorem co_RX3_106 : Cond.constant RX3 106 (65535) ∈ wsL_law := wt_2 (List.mem_of_getElem? (i := 207) rfl) rfl
theorem ml_RL_35 : Cond.methodLink RL 35 yX2_number ∈ wsL_law := wt_1 (List.mem_of_getElem? (i := 139) rfl) rfl
theorem im_yX2_number : Cond.instanceMethod yX2_number ∈ wsL_law := wt_1 (List.mem_of_getElem? (i := 140) rfl) rfl
theorem se_yX2_number : Cond.selects RX2 yX2_number yX2_number ∈ wsL_law := wt_1 (List.mem_of_getElem? (i := 141) rfl) rfl
theorem cd_yX2_number : Cond.code yX2_number cX2_number 4 (some .int) ∈ wsL_law := wt_1 (List.mem_of_getElem? (i := 142) rfl) rfl
theorem fl_RX2_56 : Cond.fieldLink RX2 56 "PostHall$Message" "depth" "I" ∈ wsL_law := wt_1 (List.mem_of_getElem? (i := 73) rfl) rfl
theorem ml_RL_38 : Cond.methodLink RL 38 yX3_number ∈ wsL_law := wt_2 (List.mem_of_getElem? (i := 208) rfl) rfl
theorem im_yX3_number : Cond.instanceMethod yX3_number ∈ wsL_law := wt_2 (List.mem_of_getElem? (i := 209) rfl) rfl
theorem se_yX3_number : Cond.selects RX3 yX3_number yX3_number ∈ wsL_law := wt_2 (List.mem_of_getElem? (i := 210) rfl) rfl
theorem cd_yX3_number : Cond.code yX3_number cX3_number 3 (some .int) ∈ wsL_law := wt_2 (List.mem_of_getElem? (i := 211) rfl) rfl
theorem ml_RL_39 : Cond.methodLink RL 39 yX2_is ∈ wsL_law := wt_1 (List.mem_of_getElem? (i := 143) rfl) rfl
theorem im_yX2_is : Cond.instanceMethod yX2_is ∈ wsL_law := wt_1 (List.mem_of_getElem? (i := 144) rfl) rfl
theorem se_yX2_is : Cond.selects RX2 yX2_is yX2_is ∈ wsL_law := wt_1 (List.mem_of_getElem? (i := 145) rfl) rfl
theorem cd_yX2_is : Cond.code yX2_is cX2_is 5 (some .int) ∈ wsL_law := wt_1 (List.mem_of_getElem? (i := 146) rfl) rfl
theorem ml_RX2_62 : Cond.methodLink RX2 62 yX1_fits ∈ wsL_law := wt_1 (List.mem_of_getElem? (i := 147) rfl) rfl
theorem ml_RX2_65 : Cond.methodLink RX2 65 yX2_asInt ∈ wsL_law := wt_1 (List.mem_of_getElem? (i := 148) rfl) rfl
theorem st_yX2_asInt : Cond.static yX2_asInt ∈ wsL_law := wt_1 (List.mem_of_getElem? (i := 149) rfl) rfl
theorem cd_yX2_asInt : Cond.code yX2_asInt cX2_asInt 1 (some .int) ∈ wsL_law := wt_1 (List.mem_of_getElem? (i := 150) rfl) rfl
theorem ml_RL_42 : Cond.methodLink RL 42 yX3_is ∈ wsL_law := wt_2 (List.mem_of_getElem? (i := 212) rfl) rfl
theorem im_yX3_is : Cond.instanceMethod yX3_is ∈ wsL_law := wt_2 (List.mem_of_getElem? (i := 213) rfl) rfl
theorem se_yX3_is : Cond.selects RX3 yX3_is yX3_is ∈ wsL_law := wt_2 (List.mem_of_getElem? (i := 214) rfl) rfl
theorem cd_yX3_is : Cond.code yX3_is cX3_is 4 (some .int) ∈ wsL_law := wt_2 (List.mem_of_getElem? (i := 215) rfl) rfl
theorem ml_RX3_111 : Cond.methodLink RX3 111 yX3_isView ∈ wsL_law := wt_2 (List.mem_of_getElem? (i := 216) rfl) rfl
theorem st_yX3_isView : Cond.static yX3_isView ∈ wsL_law := wt_2 (List.mem_of_getElem? (i := 217) rfl) rfl
theorem cd_yX3_isView : Cond.code yX3_isView cX3_isView 2 (some .boolean) ∈ wsL_law := wt_2 (List.mem_of_getElem? (i := 218) rfl) rfl
theorem ml_RL_43 : Cond.methodLink RL 43 yX2_about ∈ wsL_law := wt_1 (List.mem_of_getElem? (i := 151) rfl) rfl
theorem im_yX2_about : Cond.instanceMethod yX2_about ∈ wsL_law := wt_1 (List.mem_of_getElem? (i := 152) rfl) rfl
theorem se_yX2_about : Cond.selects RX2 yX2_about yX2_about ∈ wsL_law := wt_1 (List.mem_of_getElem? (i := 153) rfl) rfl
theorem cd_yX2_about : Cond.code yX2_about cX2_about 4 (some .int) ∈ wsL_law := wt_1 (List.mem_of_getElem? (i := 154) rfl) rfl
theorem fl_RX2_69 : Cond.fieldLink RX2 69 "PostHall$Message" "base" "I" ∈ wsL_law := wt_1 (List.mem_of_getElem? (i := 71) rfl) rfl
theorem ml_RL_46 : Cond.methodLink RL 46 yX3_about ∈ wsL_law := wt_2 (List.mem_of_getElem? (i := 219) rfl) rfl
theorem im_yX3_about : Cond.instanceMethod yX3_about ∈ wsL_law := wt_2 (List.mem_of_getElem? (i := 220) rfl) rfl
theorem se_yX3_about : Cond.selects RX3 yX3_about yX3_about ∈ wsL_law := wt_2 (List.mem_of_getElem? (i := 221) rfl) rfl
theorem cd_yX3_about : Cond.code yX3_about cX3_about 3 (some .int) ∈ wsL_law := wt_2 (List.mem_of_getElem? (i := 222) rfl) rfl
theorem ml_RL_47 : Cond.methodLink RL 47 yX2_counter ∈ wsL_law := wt_1 (List.mem_of_getElem? (i := 155) rfl) rfl
theorem im_yX2_counter : Cond.instanceMethod yX2_counter ∈ wsL_law := wt_1 (List.mem_of_getElem? (i := 156) rfl) rfl
theorem se_yX2_counter : Cond.selects RX2 yX2_counter yX2_counter ∈ wsL_law := wt_1 (List.mem_of_getElem? (i := 157) rfl) rfl
theorem cd_yX2_counter : Cond.code yX2_counter cX2_counter 7 (some .int) ∈ wsL_law := wt_1 (List.mem_of_getElem? (i := 158) rfl) rfl
theorem ia_RX0 : Cond.instantiable RX0 12 ∈ wsL_law := wt_1 (List.mem_of_getElem? (i := 159) rfl) rfl
theorem in_RX0 : Cond.initialized RX0 ∈ wsL_law := wt_1 (List.mem_of_getElem? (i := 4) rfl) rfl
theorem fl_RX2_75 : Cond.fieldLink RX2 75 "PostHall" "setCount" "I" ∈ wsL_law := wt_1 (List.mem_of_getElem? (i := 20) rfl) rfl
theorem ml_RX2_72 : Cond.methodLink RX2 72 yX0_init ∈ wsL_law := wt_1 (List.mem_of_getElem? (i := 160) rfl) rfl
theorem im_yX0_init : Cond.instanceMethod yX0_init ∈ wsL_law := wt_1 (List.mem_of_getElem? (i := 161) rfl) rfl
theorem cd_yX0_init : Cond.code yX0_init cX0_init 2 none ∈ wsL_law := wt_1 (List.mem_of_getElem? (i := 162) rfl) rfl
theorem ml_RX0_3 : Cond.methodLink RX0 3 objectInit ∈ wsL_law := wt_1 (List.mem_of_getElem? (i := 163) rfl) rfl
theorem fl_RX0_9 : Cond.fieldLink RX0 9 "PostHall$Counter" "at" "I" ∈ wsL_law := wt_1 (List.mem_of_getElem? (i := 164) rfl) rfl
theorem ml_RX2_78 : Cond.methodLink RX2 78 yX0_setAnew ∈ wsL_law := wt_1 (List.mem_of_getElem? (i := 211) rfl) rfl
theorem im_yX0_setAnew : Cond.instanceMethod yX0_setAnew ∈ wsL_law := wt_1 (List.mem_of_getElem? (i := 212) rfl) rfl
theorem se_yX0_setAnew : Cond.selects RX0 yX0_setAnew yX0_setAnew ∈ wsL_law := wt_1 (List.mem_of_getElem? (i := 213) rfl) rfl
theorem cd_yX0_setAnew : Cond.code yX0_setAnew cX0_setAnew 5 none ∈ wsL_law := wt_1 (List.mem_of_getElem? (i := 214) rfl) rfl
theorem fl_RX0_15 : Cond.fieldLink RX0 15 "PostHall$Counter" "asksBase" "I" ∈ wsL_law := wt_1 (List.mem_of_getElem? (i := 166) rfl) rfl
theorem fl_RX0_18 : Cond.fieldLink RX0 18 "PostHall$Counter" "asksDepth" "I" ∈ wsL_law := wt_1 (List.mem_of_getElem? (i := 167) rfl) rfl
theorem fl_RX0_21 : Cond.fieldLink RX0 21 "PostHall$Counter" "wantsBase" "I" ∈ wsL_law := wt_1 (List.mem_of_getElem? (i := 168) rfl) rfl
theorem fl_RX0_24 : Cond.fieldLink RX0 24 "PostHall$Counter" "wantsDepth" "I" ∈ wsL_law := wt_1 (List.mem_of_getElem? (i := 170) rfl) rfl
theorem fl_RX0_27 : Cond.fieldLink RX0 27 "PostHall$Counter" "job" "I" ∈ wsL_law := wt_1 (List.mem_of_getElem? (i := 172) rfl) rfl
theorem fl_RX0_30 : Cond.fieldLink RX0 30 "PostHall$Counter" "number" "I" ∈ wsL_law := wt_1 (List.mem_of_getElem? (i := 174) rfl) rfl
theorem fl_RX0_33 : Cond.fieldLink RX0 33 "PostHall$Counter" "own" "I" ∈ wsL_law := wt_1 (List.mem_of_getElem? (i := 176) rfl) rfl
theorem fl_RX0_36 : Cond.fieldLink RX0 36 "PostHall$Counter" "patient" "Z" ∈ wsL_law := wt_1 (List.mem_of_getElem? (i := 178) rfl) rfl
theorem fl_RX0_40 : Cond.fieldLink RX0 40 "PostHall$Counter" "shut" "Z" ∈ wsL_law := wt_1 (List.mem_of_getElem? (i := 180) rfl) rfl
theorem fl_RX0_43 : Cond.fieldLink RX0 43 "PostHall$Counter" "met" "I" ∈ wsL_law := wt_1 (List.mem_of_getElem? (i := 182) rfl) rfl
theorem fl_RX0_46 : Cond.fieldLink RX0 46 "PostHall$Counter" "fell" "I" ∈ wsL_law := wt_1 (List.mem_of_getElem? (i := 184) rfl) rfl
theorem ml_RL_51 : Cond.methodLink RL 51 yX3_counter ∈ wsL_law := wt_2 (List.mem_of_getElem? (i := 223) rfl) rfl
theorem im_yX3_counter : Cond.instanceMethod yX3_counter ∈ wsL_law := wt_2 (List.mem_of_getElem? (i := 224) rfl) rfl
theorem se_yX3_counter : Cond.selects RX3 yX3_counter yX3_counter ∈ wsL_law := wt_2 (List.mem_of_getElem? (i := 225) rfl) rfl
theorem cd_yX3_counter : Cond.code yX3_counter cX3_counter 6 (some .int) ∈ wsL_law := wt_2 (List.mem_of_getElem? (i := 226) rfl) rfl
theorem ml_RL_52 : Cond.methodLink RL 52 yX2_job ∈ wsL_law := wt_1 (List.mem_of_getElem? (i := 215) rfl) rfl
theorem im_yX2_job : Cond.instanceMethod yX2_job ∈ wsL_law := wt_1 (List.mem_of_getElem? (i := 216) rfl) rfl
theorem se_yX2_job : Cond.selects RX2 yX2_job yX2_job ∈ wsL_law := wt_1 (List.mem_of_getElem? (i := 217) rfl) rfl
theorem cd_yX2_job : Cond.code yX2_job cX2_job 7 (some .int) ∈ wsL_law := wt_1 (List.mem_of_getElem? (i := 218) rfl) rfl
theorem fl_RX2_89 : Cond.fieldLink RX2 89 "PostHall$Counter" "job" "I" ∈ wsL_law := wt_1 (List.mem_of_getElem? (i := 173) rfl) rfl
theorem fl_RX2_92 : Cond.fieldLink RX2 92 "PostHall$Counter" "number" "I" ∈ wsL_law := wt_1 (List.mem_of_getElem? (i := 175) rfl) rfl
theorem fl_RX2_95 : Cond.fieldLink RX2 95 "PostHall$Counter" "own" "I" ∈ wsL_law := wt_1 (List.mem_of_getElem? (i := 177) rfl) rfl
theorem fl_RX2_98 : Cond.fieldLink RX2 98 "PostHall$Counter" "patient" "Z" ∈ wsL_law := wt_1 (List.mem_of_getElem? (i := 179) rfl) rfl
theorem ml_RX2_82 : Cond.methodLink RX2 82 yX2_counterAt ∈ wsL_law := wt_1 (List.mem_of_getElem? (i := 219) rfl) rfl
theorem im_yX2_counterAt : Cond.instanceMethod yX2_counterAt ∈ wsL_law := wt_1 (List.mem_of_getElem? (i := 221) rfl) rfl
theorem se_yX2_counterAt : Cond.selects RX2 yX2_counterAt yX2_counterAt ∈ wsL_law := wt_s (y := yX2_counterAt) (n := 10) (List.mem_append_left _ (List.mem_of_getElem? (i := 2) rfl)) rfl
theorem cd_yX2_counterAt : Cond.code yX2_counterAt cX2_counterAt 2 (some (.object "PostHall$Counter")) ∈ wsL_law := wt_1 (List.mem_of_getElem? (i := 222) rfl) rfl
theorem ml_RX2_86 : Cond.methodLink RX2 86 yX0_canDo ∈ wsL_law := wt_1 (List.mem_of_getElem? (i := 223) rfl) rfl
theorem im_yX0_canDo : Cond.instanceMethod yX0_canDo ∈ wsL_law := wt_1 (List.mem_of_getElem? (i := 224) rfl) rfl
theorem se_yX0_canDo : Cond.selects RX0 yX0_canDo yX0_canDo ∈ wsL_law := wt_1 (List.mem_of_getElem? (i := 225) rfl) rfl
theorem cd_yX0_canDo : Cond.code yX0_canDo cX0_canDo 2 (some .boolean) ∈ wsL_law := wt_1 (List.mem_of_getElem? (i := 226) rfl) rfl
theorem ml_RL_55 : Cond.methodLink RL 55 yX3_job ∈ wsL_law := wt_2 (List.mem_of_getElem? (i := 227) rfl) rfl
theorem im_yX3_job : Cond.instanceMethod yX3_job ∈ wsL_law := wt_2 (List.mem_of_getElem? (i := 228) rfl) rfl
theorem se_yX3_job : Cond.selects RX3 yX3_job yX3_job ∈ wsL_law := wt_2 (List.mem_of_getElem? (i := 229) rfl) rfl
theorem cd_yX3_job : Cond.code yX3_job cX3_job 6 (some .int) ∈ wsL_law := wt_2 (List.mem_of_getElem? (i := 230) rfl) rfl
theorem ml_RX3_114 : Cond.methodLink RX3 114 yX3_isCounter ∈ wsL_law := wt_2 (List.mem_of_getElem? (i := 231) rfl) rfl
theorem im_yX3_isCounter : Cond.instanceMethod yX3_isCounter ∈ wsL_law := wt_2 (List.mem_of_getElem? (i := 233) rfl) rfl
theorem se_yX3_isCounter : Cond.selects RX3 yX3_isCounter yX3_isCounter ∈ wsL_law := wt_s (y := yX3_isCounter) (n := 29) (List.mem_append_right _ (List.mem_of_getElem? (i := 0) rfl)) rfl
theorem cd_yX3_isCounter : Cond.code yX3_isCounter cX3_isCounter 2 (some .boolean) ∈ wsL_law := wt_2 (List.mem_of_getElem? (i := 234) rfl) rfl
theorem ml_RL_56 : Cond.methodLink RL 56 yX2_shut ∈ wsL_law := wt_1 (List.mem_of_getElem? (i := 228) rfl) rfl
theorem im_yX2_shut : Cond.instanceMethod yX2_shut ∈ wsL_law := wt_1 (List.mem_of_getElem? (i := 229) rfl) rfl
theorem se_yX2_shut : Cond.selects RX2 yX2_shut yX2_shut ∈ wsL_law := wt_1 (List.mem_of_getElem? (i := 230) rfl) rfl
theorem cd_yX2_shut : Cond.code yX2_shut cX2_shut 5 (some .int) ∈ wsL_law := wt_1 (List.mem_of_getElem? (i := 231) rfl) rfl
theorem fl_RX2_102 : Cond.fieldLink RX2 102 "PostHall$Counter" "shut" "Z" ∈ wsL_law := wt_1 (List.mem_of_getElem? (i := 181) rfl) rfl
theorem ml_RL_60 : Cond.methodLink RL 60 yX3_shut ∈ wsL_law := wt_2 (List.mem_of_getElem? (i := 235) rfl) rfl
theorem im_yX3_shut : Cond.instanceMethod yX3_shut ∈ wsL_law := wt_2 (List.mem_of_getElem? (i := 236) rfl) rfl
theorem se_yX3_shut : Cond.selects RX3 yX3_shut yX3_shut ∈ wsL_law := wt_2 (List.mem_of_getElem? (i := 237) rfl) rfl
theorem cd_yX3_shut : Cond.code yX3_shut cX3_shut 4 (some .int) ∈ wsL_law := wt_2 (List.mem_of_getElem? (i := 238) rfl) rfl
theorem ml_RL_61 : Cond.methodLink RL 61 yX2_send ∈ wsL_law := wt_1 (List.mem_of_getElem? (i := 232) rfl) rfl
theorem im_yX2_send : Cond.instanceMethod yX2_send ∈ wsL_law := wt_1 (List.mem_of_getElem? (i := 233) rfl) rfl
theorem se_yX2_send : Cond.selects RX2 yX2_send yX2_send ∈ wsL_law := wt_1 (List.mem_of_getElem? (i := 234) rfl) rfl
theorem cd_yX2_send : Cond.code yX2_send cX2_send 4 (some .int) ∈ wsL_law := wt_1 (List.mem_of_getElem? (i := 235) rfl) rfl
theorem fl_RX2_105 : Cond.fieldLink RX2 105 "PostHall" "sendCount" "I" ∈ wsL_law := wt_1 (List.mem_of_getElem? (i := 21) rfl) rfl
theorem fl_RX2_108 : Cond.fieldLink RX2 108 "PostHall" "meetings" "I" ∈ wsL_law := wt_1 (List.mem_of_getElem? (i := 22) rfl) rfl
theorem fl_RX2_111 : Cond.fieldLink RX2 111 "PostHall" "done" "I" ∈ wsL_law := wt_1 (List.mem_of_getElem? (i := 23) rfl) rfl
theorem fl_RX2_114 : Cond.fieldLink RX2 114 "PostHall" "lost" "I" ∈ wsL_law := wt_1 (List.mem_of_getElem? (i := 24) rfl) rfl
theorem fl_RX2_117 : Cond.fieldLink RX2 117 "PostHall" "fallen" "I" ∈ wsL_law := wt_1 (List.mem_of_getElem? (i := 25) rfl) rfl
theorem ml_RX2_120 : Cond.methodLink RX2 120 yX2_carry ∈ wsL_law := wt_1 (List.mem_of_getElem? (i := 236) rfl) rfl
theorem im_yX2_carry : Cond.instanceMethod yX2_carry ∈ wsL_law := wt_1 (List.mem_of_getElem? (i := 238) rfl) rfl
theorem se_yX2_carry : Cond.selects RX2 yX2_carry yX2_carry ∈ wsL_law := wt_s (y := yX2_carry) (n := 10) (List.mem_append_left _ (List.mem_of_getElem? (i := 3) rfl)) rfl
theorem cd_yX2_carry : Cond.code yX2_carry cX2_carry 6 (some .int) ∈ wsL_law := wt_1 (List.mem_of_getElem? (i := 239) rfl) rfl
theorem ml_RX2_136 : Cond.methodLink RX2 136 yX0_asksFor ∈ wsL_law := wt_2 (List.mem_of_getElem? (i := 0) rfl) rfl
theorem im_yX0_asksFor : Cond.instanceMethod yX0_asksFor ∈ wsL_law := wt_2 (List.mem_of_getElem? (i := 1) rfl) rfl
theorem se_yX0_asksFor : Cond.selects RX0 yX0_asksFor yX0_asksFor ∈ wsL_law := wt_2 (List.mem_of_getElem? (i := 2) rfl) rfl
theorem cd_yX0_asksFor : Cond.code yX0_asksFor cX0_asksFor 2 (some .boolean) ∈ wsL_law := wt_2 (List.mem_of_getElem? (i := 3) rfl) rfl
theorem ml_RX0_49 : Cond.methodLink RX0 49 yX1_fits ∈ wsL_law := wt_2 (List.mem_of_getElem? (i := 4) rfl) rfl
theorem ml_RX2_139 : Cond.methodLink RX2 139 yX2_meet ∈ wsL_law := wt_2 (List.mem_of_getElem? (i := 5) rfl) rfl
theorem im_yX2_meet : Cond.instanceMethod yX2_meet ∈ wsL_law := wt_2 (List.mem_of_getElem? (i := 7) rfl) rfl
theorem se_yX2_meet : Cond.selects RX2 yX2_meet yX2_meet ∈ wsL_law := wt_s (y := yX2_meet) (n := 10) (List.mem_append_left _ (List.mem_of_getElem? (i := 4) rfl)) rfl
theorem cd_yX2_meet : Cond.code yX2_meet cX2_meet 4 (some .int) ∈ wsL_law := wt_2 (List.mem_of_getElem? (i := 8) rfl) rfl
theorem fl_RX2_124 : Cond.fieldLink RX2 124 "PostHall$Counter" "met" "I" ∈ wsL_law := wt_1 (List.mem_of_getElem? (i := 183) rfl) rfl
theorem ml_RX2_143 : Cond.methodLink RX2 143 yX0_takes ∈ wsL_law := wt_2 (List.mem_of_getElem? (i := 9) rfl) rfl
theorem im_yX0_takes : Cond.instanceMethod yX0_takes ∈ wsL_law := wt_2 (List.mem_of_getElem? (i := 10) rfl) rfl
theorem se_yX0_takes : Cond.selects RX0 yX0_takes yX0_takes ∈ wsL_law := wt_2 (List.mem_of_getElem? (i := 11) rfl) rfl
theorem cd_yX0_takes : Cond.code yX0_takes cX0_takes 2 (some .boolean) ∈ wsL_law := wt_2 (List.mem_of_getElem? (i := 12) rfl) rfl
theorem ml_RX2_146 : Cond.methodLink RX2 146 yX2_work ∈ wsL_law := wt_2 (List.mem_of_getElem? (i := 13) rfl) rfl
theorem im_yX2_work : Cond.instanceMethod yX2_work ∈ wsL_law := wt_2 (List.mem_of_getElem? (i := 15) rfl) rfl
theorem se_yX2_work : Cond.selects RX2 yX2_work yX2_work ∈ wsL_law := wt_s (y := yX2_work) (n := 10) (List.mem_append_left _ (List.mem_of_getElem? (i := 5) rfl)) rfl
theorem ml_RX2_149 : Cond.methodLink RX2 149 yX2_noteFall ∈ wsL_law := wt_2 (List.mem_of_getElem? (i := 43) rfl) rfl
theorem im_yX2_noteFall : Cond.instanceMethod yX2_noteFall ∈ wsL_law := wt_2 (List.mem_of_getElem? (i := 45) rfl) rfl
theorem se_yX2_noteFall : Cond.selects RX2 yX2_noteFall yX2_noteFall ∈ wsL_law := wt_s (y := yX2_noteFall) (n := 10) (List.mem_append_left _ (List.mem_of_getElem? (i := 9) rfl)) rfl
theorem cd_yX2_noteFall : Cond.code yX2_noteFall cX2_noteFall 2 none ∈ wsL_law := wt_2 (List.mem_of_getElem? (i := 46) rfl) rfl
theorem fl_RX2_127 : Cond.fieldLink RX2 127 "PostHall$Counter" "fell" "I" ∈ wsL_law := wt_1 (List.mem_of_getElem? (i := 185) rfl) rfl
theorem fl_RX2_153 : Cond.fieldLink RX2 153 "PostHall$Counter" "at" "I" ∈ wsL_law := wt_1 (List.mem_of_getElem? (i := 165) rfl) rfl
theorem cd_yX2_open : Cond.code yX2_open cX2_open 4 (some .int) ∈ wsL_law := wt_2 (List.mem_of_getElem? (i := 35) rfl) rfl
theorem ml_RX2_187 : Cond.methodLink RX2 187 yX2_failureOf ∈ wsL_law := wt_2 (List.mem_of_getElem? (i := 36) rfl) rfl
theorem st_yX2_failureOf : Cond.static yX2_failureOf ∈ wsL_law := wt_2 (List.mem_of_getElem? (i := 37) rfl) rfl
theorem cd_yX2_failureOf : Cond.code yX2_failureOf cX2_failureOf 1 (some .int) ∈ wsL_law := wt_2 (List.mem_of_getElem? (i := 38) rfl) rfl
theorem cd_yX2_spread : Cond.code yX2_spread cX2_spread 6 (some .int) ∈ wsL_law := wt_2 (List.mem_of_getElem? (i := 42) rfl) rfl
theorem cd_yX2_work : Cond.code yX2_work cX2_work 3 (some .int) ∈ wsL_law := wt_2 (List.mem_of_getElem? (i := 16) rfl) rfl
theorem ml_RX2_156 : Cond.methodLink RX2 156 yX1_weight ∈ wsL_law := wt_2 (List.mem_of_getElem? (i := 17) rfl) rfl
theorem im_yX1_weight : Cond.instanceMethod yX1_weight ∈ wsL_law := wt_2 (List.mem_of_getElem? (i := 18) rfl) rfl
theorem se_yX1_weight : Cond.selects RX1 yX1_weight yX1_weight ∈ wsL_law := wt_2 (List.mem_of_getElem? (i := 19) rfl) rfl
theorem cd_yX1_weight : Cond.code yX1_weight cX1_weight 1 (some .int) ∈ wsL_law := wt_2 (List.mem_of_getElem? (i := 20) rfl) rfl
theorem ml_RX2_160 : Cond.methodLink RX2 160 yX2_mark ∈ wsL_law := wt_2 (List.mem_of_getElem? (i := 21) rfl) rfl
theorem st_yX2_mark : Cond.static yX2_mark ∈ wsL_law := wt_2 (List.mem_of_getElem? (i := 22) rfl) rfl
theorem cd_yX2_mark : Cond.code yX2_mark cX2_mark 2 (some .int) ∈ wsL_law := wt_2 (List.mem_of_getElem? (i := 23) rfl) rfl
theorem fl_RX2_175 : Cond.fieldLink RX2 175 "PostHall$Message" "figures" "Z" ∈ wsL_law := wt_1 (List.mem_of_getElem? (i := 75) rfl) rfl
theorem ml_RX2_172 : Cond.methodLink RX2 172 yX2_markedStamp ∈ wsL_law := wt_2 (List.mem_of_getElem? (i := 24) rfl) rfl
theorem st_yX2_markedStamp : Cond.static yX2_markedStamp ∈ wsL_law := wt_2 (List.mem_of_getElem? (i := 25) rfl) rfl
theorem cd_yX2_markedStamp : Cond.code yX2_markedStamp cX2_markedStamp 2 (some .int) ∈ wsL_law := wt_2 (List.mem_of_getElem? (i := 26) rfl) rfl
theorem fl_RX2_181 : Cond.fieldLink RX2 181 "PostHall$Counter" "wantsBase" "I" ∈ wsL_law := wt_1 (List.mem_of_getElem? (i := 169) rfl) rfl
theorem ml_RX2_178 : Cond.methodLink RX2 178 yX1_fill ∈ wsL_law := wt_2 (List.mem_of_getElem? (i := 27) rfl) rfl
theorem ml_RX2_163 : Cond.methodLink RX2 163 yX2_lay ∈ wsL_law := wt_2 (List.mem_of_getElem? (i := 28) rfl) rfl
theorem im_yX2_lay : Cond.instanceMethod yX2_lay ∈ wsL_law := wt_2 (List.mem_of_getElem? (i := 30) rfl) rfl
theorem se_yX2_lay : Cond.selects RX2 yX2_lay yX2_lay ∈ wsL_law := wt_s (y := yX2_lay) (n := 10) (List.mem_append_left _ (List.mem_of_getElem? (i := 6) rfl)) rfl
theorem cd_yX2_lay : Cond.code yX2_lay cX2_lay 4 (some .int) ∈ wsL_law := wt_2 (List.mem_of_getElem? (i := 31) rfl) rfl
theorem fl_RX2_184 : Cond.fieldLink RX2 184 "PostHall$Counter" "wantsDepth" "I" ∈ wsL_law := wt_1 (List.mem_of_getElem? (i := 171) rfl) rfl
theorem ml_RX2_166 : Cond.methodLink RX2 166 yX2_open ∈ wsL_law := wt_2 (List.mem_of_getElem? (i := 32) rfl) rfl
theorem im_yX2_open : Cond.instanceMethod yX2_open ∈ wsL_law := wt_2 (List.mem_of_getElem? (i := 34) rfl) rfl
theorem se_yX2_open : Cond.selects RX2 yX2_open yX2_open ∈ wsL_law := wt_s (y := yX2_open) (n := 10) (List.mem_append_left _ (List.mem_of_getElem? (i := 7) rfl)) rfl
theorem ml_RX2_169 : Cond.methodLink RX2 169 yX2_spread ∈ wsL_law := wt_2 (List.mem_of_getElem? (i := 39) rfl) rfl
theorem im_yX2_spread : Cond.instanceMethod yX2_spread ∈ wsL_law := wt_2 (List.mem_of_getElem? (i := 41) rfl) rfl
theorem se_yX2_spread : Cond.selects RX2 yX2_spread yX2_spread ∈ wsL_law := wt_s (y := yX2_spread) (n := 10) (List.mem_append_left _ (List.mem_of_getElem? (i := 8) rfl)) rfl
theorem ml_RL_64 : Cond.methodLink RL 64 yX3_send ∈ wsL_law := wt_2 (List.mem_of_getElem? (i := 239) rfl) rfl
theorem im_yX3_send : Cond.instanceMethod yX3_send ∈ wsL_law := wt_3 (List.mem_of_getElem? (i := 0) rfl) rfl
theorem se_yX3_send : Cond.selects RX3 yX3_send yX3_send ∈ wsL_law := wt_3 (List.mem_of_getElem? (i := 1) rfl) rfl
theorem cd_yX3_send : Cond.code yX3_send cX3_send 4 (some .int) ∈ wsL_law := wt_3 (List.mem_of_getElem? (i := 2) rfl) rfl
theorem fl_RX3_158 : Cond.fieldLink RX3 158 "PostHallModel" "sends" "I" ∈ wsL_law := wt_2 (List.mem_of_getElem? (i := 83) rfl) rfl
theorem fl_RX3_148 : Cond.fieldLink RX3 148 "PostHallModel" "meetings" "I" ∈ wsL_law := wt_2 (List.mem_of_getElem? (i := 84) rfl) rfl
theorem fl_RX3_133 : Cond.fieldLink RX3 133 "PostHallModel" "done" "I" ∈ wsL_law := wt_2 (List.mem_of_getElem? (i := 85) rfl) rfl
theorem fl_RX3_145 : Cond.fieldLink RX3 145 "PostHallModel" "lost" "I" ∈ wsL_law := wt_2 (List.mem_of_getElem? (i := 86) rfl) rfl
theorem fl_RX3_136 : Cond.fieldLink RX3 136 "PostHallModel" "failed" "I" ∈ wsL_law := wt_2 (List.mem_of_getElem? (i := 87) rfl) rfl
theorem fl_RX3_139 : Cond.fieldLink RX3 139 "PostHallModel" "first" "I" ∈ wsL_law := wt_2 (List.mem_of_getElem? (i := 88) rfl) rfl
theorem fl_RX3_117 : Cond.fieldLink RX3 117 "PostHallModel" "top" "I" ∈ wsL_law := wt_2 (List.mem_of_getElem? (i := 89) rfl) rfl
theorem ml_RX3_120 : Cond.methodLink RX3 120 yX3_begin ∈ wsL_law := wt_3 (List.mem_of_getElem? (i := 3) rfl) rfl
theorem im_yX3_begin : Cond.instanceMethod yX3_begin ∈ wsL_law := wt_3 (List.mem_of_getElem? (i := 5) rfl) rfl
theorem se_yX3_begin : Cond.selects RX3 yX3_begin yX3_begin ∈ wsL_law := wt_s (y := yX3_begin) (n := 29) (List.mem_append_right _ (List.mem_of_getElem? (i := 1) rfl)) rfl
theorem cd_yX3_begin : Cond.code yX3_begin cX3_begin 3 none ∈ wsL_law := wt_3 (List.mem_of_getElem? (i := 6) rfl) rfl
theorem ml_RX3_161 : Cond.methodLink RX3 161 yX3_step ∈ wsL_law := wt_3 (List.mem_of_getElem? (i := 7) rfl) rfl
theorem im_yX3_step : Cond.instanceMethod yX3_step ∈ wsL_law := wt_3 (List.mem_of_getElem? (i := 9) rfl) rfl
theorem se_yX3_step : Cond.selects RX3 yX3_step yX3_step ∈ wsL_law := wt_s (y := yX3_step) (n := 29) (List.mem_append_right _ (List.mem_of_getElem? (i := 2) rfl)) rfl
theorem cd_yX3_step : Cond.code yX3_step cX3_step 4 (some .int) ∈ wsL_law := wt_3 (List.mem_of_getElem? (i := 10) rfl) rfl
theorem ml_RX3_142 : Cond.methodLink RX3 142 yX3_meeting ∈ wsL_law := wt_3 (List.mem_of_getElem? (i := 11) rfl) rfl
theorem im_yX3_meeting : Cond.instanceMethod yX3_meeting ∈ wsL_law := wt_3 (List.mem_of_getElem? (i := 13) rfl) rfl
theorem se_yX3_meeting : Cond.selects RX3 yX3_meeting yX3_meeting ∈ wsL_law := wt_s (y := yX3_meeting) (n := 29) (List.mem_append_right _ (List.mem_of_getElem? (i := 3) rfl)) rfl
theorem cd_yX3_meeting : Cond.code yX3_meeting cX3_meeting 4 (some .int) ∈ wsL_law := wt_3 (List.mem_of_getElem? (i := 14) rfl) rfl
theorem ml_RX3_151 : Cond.methodLink RX3 151 yX3_works ∈ wsL_law := wt_3 (List.mem_of_getElem? (i := 15) rfl) rfl
theorem im_yX3_works : Cond.instanceMethod yX3_works ∈ wsL_law := wt_3 (List.mem_of_getElem? (i := 17) rfl) rfl
theorem se_yX3_works : Cond.selects RX3 yX3_works yX3_works ∈ wsL_law := wt_s (y := yX3_works) (n := 29) (List.mem_append_right _ (List.mem_of_getElem? (i := 4) rfl)) rfl
theorem cd_yX3_works : Cond.code yX3_works cX3_works 4 (some .int) ∈ wsL_law := wt_3 (List.mem_of_getElem? (i := 18) rfl) rfl
theorem ml_RX3_124 : Cond.methodLink RX3 124 yX3_mark ∈ wsL_law := wt_3 (List.mem_of_getElem? (i := 19) rfl) rfl
theorem im_yX3_mark : Cond.instanceMethod yX3_mark ∈ wsL_law := wt_3 (List.mem_of_getElem? (i := 21) rfl) rfl
theorem se_yX3_mark : Cond.selects RX3 yX3_mark yX3_mark ∈ wsL_law := wt_s (y := yX3_mark) (n := 29) (List.mem_append_right _ (List.mem_of_getElem? (i := 5) rfl)) rfl
theorem cd_yX3_mark : Cond.code yX3_mark cX3_mark 4 (some .int) ∈ wsL_law := wt_3 (List.mem_of_getElem? (i := 22) rfl) rfl
theorem ml_RX3_127 : Cond.methodLink RX3 127 yX3_lay ∈ wsL_law := wt_3 (List.mem_of_getElem? (i := 23) rfl) rfl
theorem im_yX3_lay : Cond.instanceMethod yX3_lay ∈ wsL_law := wt_3 (List.mem_of_getElem? (i := 25) rfl) rfl
theorem se_yX3_lay : Cond.selects RX3 yX3_lay yX3_lay ∈ wsL_law := wt_s (y := yX3_lay) (n := 29) (List.mem_append_right _ (List.mem_of_getElem? (i := 6) rfl)) rfl
theorem cd_yX3_lay : Cond.code yX3_lay cX3_lay 4 (some .int) ∈ wsL_law := wt_3 (List.mem_of_getElem? (i := 26) rfl) rfl
theorem ml_RX3_130 : Cond.methodLink RX3 130 yX3_spreads ∈ wsL_law := wt_3 (List.mem_of_getElem? (i := 27) rfl) rfl
theorem im_yX3_spreads : Cond.instanceMethod yX3_spreads ∈ wsL_law := wt_3 (List.mem_of_getElem? (i := 29) rfl) rfl
theorem se_yX3_spreads : Cond.selects RX3 yX3_spreads yX3_spreads ∈ wsL_law := wt_s (y := yX3_spreads) (n := 29) (List.mem_append_right _ (List.mem_of_getElem? (i := 7) rfl)) rfl
theorem cd_yX3_spreads : Cond.code yX3_spreads cX3_spreads 5 (some .boolean) ∈ wsL_law := wt_3 (List.mem_of_getElem? (i := 30) rfl) rfl
theorem ml_RX3_155 : Cond.methodLink RX3 155 yX3_over ∈ wsL_law := wt_3 (List.mem_of_getElem? (i := 31) rfl) rfl
theorem im_yX3_over : Cond.instanceMethod yX3_over ∈ wsL_law := wt_3 (List.mem_of_getElem? (i := 33) rfl) rfl
theorem se_yX3_over : Cond.selects RX3 yX3_over yX3_over ∈ wsL_law := wt_s (y := yX3_over) (n := 29) (List.mem_append_right _ (List.mem_of_getElem? (i := 8) rfl)) rfl
theorem cd_yX3_over : Cond.code yX3_over cX3_over 4 (some .int) ∈ wsL_law := wt_3 (List.mem_of_getElem? (i := 34) rfl) rfl
theorem ml_RX3_165 : Cond.methodLink RX3 165 yX3_back ∈ wsL_law := wt_3 (List.mem_of_getElem? (i := 35) rfl) rfl
theorem im_yX3_back : Cond.instanceMethod yX3_back ∈ wsL_law := wt_3 (List.mem_of_getElem? (i := 37) rfl) rfl
theorem se_yX3_back : Cond.selects RX3 yX3_back yX3_back ∈ wsL_law := wt_s (y := yX3_back) (n := 29) (List.mem_append_right _ (List.mem_of_getElem? (i := 9) rfl)) rfl
theorem cd_yX3_back : Cond.code yX3_back cX3_back 3 (some .int) ∈ wsL_law := wt_3 (List.mem_of_getElem? (i := 38) rfl) rfl
theorem ml_RL_65 : Cond.methodLink RL 65 yX2_told ∈ wsL_law := wt_2 (List.mem_of_getElem? (i := 47) rfl) rfl
theorem im_yX2_told : Cond.instanceMethod yX2_told ∈ wsL_law := wt_2 (List.mem_of_getElem? (i := 48) rfl) rfl
theorem se_yX2_told : Cond.selects RX2 yX2_told yX2_told ∈ wsL_law := wt_2 (List.mem_of_getElem? (i := 49) rfl) rfl
theorem cd_yX2_told : Cond.code yX2_told cX2_told 2 (some .int) ∈ wsL_law := wt_2 (List.mem_of_getElem? (i := 50) rfl) rfl
theorem ml_RL_69 : Cond.methodLink RL 69 yX3_told ∈ wsL_law := wt_3 (List.mem_of_getElem? (i := 39) rfl) rfl
theorem im_yX3_told : Cond.instanceMethod yX3_told ∈ wsL_law := wt_3 (List.mem_of_getElem? (i := 40) rfl) rfl
theorem se_yX3_told : Cond.selects RX3 yX3_told yX3_told ∈ wsL_law := wt_3 (List.mem_of_getElem? (i := 41) rfl) rfl
theorem cd_yX3_told : Cond.code yX3_told cX3_told 2 (some .int) ∈ wsL_law := wt_3 (List.mem_of_getElem? (i := 42) rfl) rfl
theorem ml_RL_70 : Cond.methodLink RL 70 yX2_of ∈ wsL_law := wt_2 (List.mem_of_getElem? (i := 51) rfl) rfl
theorem im_yX2_of : Cond.instanceMethod yX2_of ∈ wsL_law := wt_2 (List.mem_of_getElem? (i := 52) rfl) rfl
theorem se_yX2_of : Cond.selects RX2 yX2_of yX2_of ∈ wsL_law := wt_2 (List.mem_of_getElem? (i := 53) rfl) rfl
theorem cd_yX2_of : Cond.code yX2_of cX2_of 4 (some .int) ∈ wsL_law := wt_2 (List.mem_of_getElem? (i := 54) rfl) rfl
theorem ml_RL_73 : Cond.methodLink RL 73 yX3_of ∈ wsL_law := wt_3 (List.mem_of_getElem? (i := 43) rfl) rfl
theorem im_yX3_of : Cond.instanceMethod yX3_of ∈ wsL_law := wt_3 (List.mem_of_getElem? (i := 44) rfl) rfl
theorem se_yX3_of : Cond.selects RX3 yX3_of yX3_of ∈ wsL_law := wt_3 (List.mem_of_getElem? (i := 45) rfl) rfl
theorem cd_yX3_of : Cond.code yX3_of cX3_of 3 (some .int) ∈ wsL_law := wt_3 (List.mem_of_getElem? (i := 46) rfl) rfl
theorem ml_RL_74 : Cond.methodLink RL 74 yX2_count ∈ wsL_law := wt_2 (List.mem_of_getElem? (i := 55) rfl) rfl
theorem im_yX2_count : Cond.instanceMethod yX2_count ∈ wsL_law := wt_2 (List.mem_of_getElem? (i := 56) rfl) rfl
theorem se_yX2_count : Cond.selects RX2 yX2_count yX2_count ∈ wsL_law := wt_2 (List.mem_of_getElem? (i := 57) rfl) rfl
theorem cd_yX2_count : Cond.code yX2_count cX2_count 2 (some .int) ∈ wsL_law := wt_2 (List.mem_of_getElem? (i := 58) rfl) rfl
theorem ml_RL_77 : Cond.methodLink RL 77 yX3_count ∈ wsL_law := wt_3 (List.mem_of_getElem? (i := 47) rfl) rfl
theorem im_yX3_count : Cond.instanceMethod yX3_count ∈ wsL_law := wt_3 (List.mem_of_getElem? (i := 48) rfl) rfl
theorem se_yX3_count : Cond.selects RX3 yX3_count yX3_count ∈ wsL_law := wt_3 (List.mem_of_getElem? (i := 49) rfl) rfl
theorem cd_yX3_count : Cond.code yX3_count cX3_count 4 (some .int) ∈ wsL_law := wt_3 (List.mem_of_getElem? (i := 50) rfl) rfl
theorem uw_X0 : u_ws RX0 TX0 12 = [.laysFinal RX0 "PostHall$Counter" "at" "I", .lays RX0 "PostHall$Counter" "asksBase" "I", .lays RX0 "PostHall$Counter" "asksDepth" "I", .lays RX0 "PostHall$Counter" "wantsBase" "I", .lays RX0 "PostHall$Counter" "wantsDepth" "I", .lays RX0 "PostHall$Counter" "job" "I", .lays RX0 "PostHall$Counter" "number" "I", .lays RX0 "PostHall$Counter" "own" "I", .lays RX0 "PostHall$Counter" "patient" "Z", .lays RX0 "PostHall$Counter" "shut" "Z", .lays RX0 "PostHall$Counter" "met" "I", .lays RX0 "PostHall$Counter" "fell" "I"] := by decide +kernel
theorem inlX0 : ∀ w ∈ u_ws RX0 TX0 12, w ∈ wsL_law := by
  rw [uw_X0]
  exact List.forall_mem_cons.mpr ⟨wt_1 (List.mem_of_getElem? (i := 186) rfl) rfl, List.forall_mem_cons.mpr ⟨wt_1 (List.mem_of_getElem? (i := 188) rfl) rfl, List.forall_mem_cons.mpr ⟨wt_1 (List.mem_of_getElem? (i := 190) rfl) rfl, List.forall_mem_cons.mpr ⟨wt_1 (List.mem_of_getElem? (i := 192) rfl) rfl, List.forall_mem_cons.mpr ⟨wt_1 (List.mem_of_getElem? (i := 194) rfl) rfl, List.forall_mem_cons.mpr ⟨wt_1 (List.mem_of_getElem? (i := 196) rfl) rfl, List.forall_mem_cons.mpr ⟨wt_1 (List.mem_of_getElem? (i := 198) rfl) rfl, List.forall_mem_cons.mpr ⟨wt_1 (List.mem_of_getElem? (i := 200) rfl) rfl, List.forall_mem_cons.mpr ⟨wt_1 (List.mem_of_getElem? (i := 202) rfl) rfl, List.forall_mem_cons.mpr ⟨wt_1 (List.mem_of_getElem? (i := 204) rfl) rfl, List.forall_mem_cons.mpr ⟨wt_1 (List.mem_of_getElem? (i := 206) rfl) rfl, List.forall_mem_cons.mpr ⟨wt_1 (List.mem_of_getElem? (i := 208) rfl) rfl, fun _ h => absurd h List.not_mem_nil⟩⟩⟩⟩⟩⟩⟩⟩⟩⟩⟩⟩
theorem uw_X1 : u_ws RX1 TX1 6 = [.laysFinal RX1 "PostHall$Message" "number" "I", .laysFinal RX1 "PostHall$Message" "base" "I", .laysFinal RX1 "PostHall$Message" "depth" "I", .laysFinal RX1 "PostHall$Message" "figures" "Z", .laysFinal RX1 "PostHall$Message" "places" "[I", .lays RX1 "PostHall$Message" "stamp" "I"] := by decide +kernel
theorem inlX1 : ∀ w ∈ u_ws RX1 TX1 6, w ∈ wsL_law := by
  rw [uw_X1]
  exact List.forall_mem_cons.mpr ⟨wt_1 (List.mem_of_getElem? (i := 79) rfl) rfl, List.forall_mem_cons.mpr ⟨wt_1 (List.mem_of_getElem? (i := 81) rfl) rfl, List.forall_mem_cons.mpr ⟨wt_1 (List.mem_of_getElem? (i := 83) rfl) rfl, List.forall_mem_cons.mpr ⟨wt_1 (List.mem_of_getElem? (i := 85) rfl) rfl, List.forall_mem_cons.mpr ⟨wt_1 (List.mem_of_getElem? (i := 87) rfl) rfl, List.forall_mem_cons.mpr ⟨wt_1 (List.mem_of_getElem? (i := 89) rfl) rfl, fun _ h => absurd h List.not_mem_nil⟩⟩⟩⟩⟩⟩
theorem uw_X2 : u_ws RX2 TX2 10 = [.laysFinal RX2 "PostHall" "messages" "[LPostHall$Message;", .laysFinal RX2 "PostHall" "counters" "[LPostHall$Counter;", .lays RX2 "PostHall" "messageCount" "I", .lays RX2 "PostHall" "setCount" "I", .lays RX2 "PostHall" "sendCount" "I", .lays RX2 "PostHall" "meetings" "I", .lays RX2 "PostHall" "done" "I", .lays RX2 "PostHall" "lost" "I", .lays RX2 "PostHall" "fallen" "I", .lays RX2 "PostHall" "firstFallen" "I"] := by decide +kernel
theorem inlX2 : ∀ w ∈ u_ws RX2 TX2 10, w ∈ wsL_law := by
  rw [uw_X2]
  exact List.forall_mem_cons.mpr ⟨wt_1 (List.mem_of_getElem? (i := 27) rfl) rfl, List.forall_mem_cons.mpr ⟨wt_1 (List.mem_of_getElem? (i := 29) rfl) rfl, List.forall_mem_cons.mpr ⟨wt_1 (List.mem_of_getElem? (i := 31) rfl) rfl, List.forall_mem_cons.mpr ⟨wt_1 (List.mem_of_getElem? (i := 33) rfl) rfl, List.forall_mem_cons.mpr ⟨wt_1 (List.mem_of_getElem? (i := 35) rfl) rfl, List.forall_mem_cons.mpr ⟨wt_1 (List.mem_of_getElem? (i := 37) rfl) rfl, List.forall_mem_cons.mpr ⟨wt_1 (List.mem_of_getElem? (i := 39) rfl) rfl, List.forall_mem_cons.mpr ⟨wt_1 (List.mem_of_getElem? (i := 41) rfl) rfl, List.forall_mem_cons.mpr ⟨wt_1 (List.mem_of_getElem? (i := 43) rfl) rfl, List.forall_mem_cons.mpr ⟨wt_1 (List.mem_of_getElem? (i := 45) rfl) rfl, fun _ h => absurd h List.not_mem_nil⟩⟩⟩⟩⟩⟩⟩⟩⟩⟩
theorem uw_X3 : u_ws RX3 TX3 29 = [.lays RX3 "PostHallModel" "messages" "I", .laysFinal RX3 "PostHallModel" "base" "[I", .laysFinal RX3 "PostHallModel" "depth" "[I", .laysFinal RX3 "PostHallModel" "stamp" "[I", .laysFinal RX3 "PostHallModel" "size" "[I", .laysFinal RX3 "PostHallModel" "item" "[I", .laysFinal RX3 "PostHallModel" "isSet" "[Z", .laysFinal RX3 "PostHallModel" "isShut" "[Z", .laysFinal RX3 "PostHallModel" "isPatient" "[Z", .laysFinal RX3 "PostHallModel" "asksBase" "[I", .laysFinal RX3 "PostHallModel" "asksDepth" "[I", .laysFinal RX3 "PostHallModel" "wantsBase" "[I", .laysFinal RX3 "PostHallModel" "wantsDepth" "[I", .laysFinal RX3 "PostHallModel" "job" "[I", .laysFinal RX3 "PostHallModel" "number" "[I", .laysFinal RX3 "PostHallModel" "own" "[I", .laysFinal RX3 "PostHallModel" "met" "[I", .laysFinal RX3 "PostHallModel" "fell" "[I", .lays RX3 "PostHallModel" "sends" "I", .lays RX3 "PostHallModel" "meetings" "I", .lays RX3 "PostHallModel" "done" "I", .lays RX3 "PostHallModel" "lost" "I", .lays RX3 "PostHallModel" "failed" "I", .lays RX3 "PostHallModel" "first" "I", .lays RX3 "PostHallModel" "top" "I", .laysFinal RX3 "PostHallModel" "message" "[I", .laysFinal RX3 "PostHallModel" "next" "[I", .laysFinal RX3 "PostHallModel" "meets" "[I", .laysFinal RX3 "PostHallModel" "place" "[I"] := by decide +kernel
theorem inlX3 : ∀ w ∈ u_ws RX3 TX3 29, w ∈ wsL_law := by
  rw [uw_X3]
  exact List.forall_mem_cons.mpr ⟨wt_2 (List.mem_of_getElem? (i := 94) rfl) rfl, List.forall_mem_cons.mpr ⟨wt_2 (List.mem_of_getElem? (i := 96) rfl) rfl, List.forall_mem_cons.mpr ⟨wt_2 (List.mem_of_getElem? (i := 98) rfl) rfl, List.forall_mem_cons.mpr ⟨wt_2 (List.mem_of_getElem? (i := 100) rfl) rfl, List.forall_mem_cons.mpr ⟨wt_2 (List.mem_of_getElem? (i := 102) rfl) rfl, List.forall_mem_cons.mpr ⟨wt_2 (List.mem_of_getElem? (i := 104) rfl) rfl, List.forall_mem_cons.mpr ⟨wt_2 (List.mem_of_getElem? (i := 106) rfl) rfl, List.forall_mem_cons.mpr ⟨wt_2 (List.mem_of_getElem? (i := 108) rfl) rfl, List.forall_mem_cons.mpr ⟨wt_2 (List.mem_of_getElem? (i := 110) rfl) rfl, List.forall_mem_cons.mpr ⟨wt_2 (List.mem_of_getElem? (i := 112) rfl) rfl, List.forall_mem_cons.mpr ⟨wt_2 (List.mem_of_getElem? (i := 114) rfl) rfl, List.forall_mem_cons.mpr ⟨wt_2 (List.mem_of_getElem? (i := 116) rfl) rfl, List.forall_mem_cons.mpr ⟨wt_2 (List.mem_of_getElem? (i := 118) rfl) rfl, List.forall_mem_cons.mpr ⟨wt_2 (List.mem_of_getElem? (i := 120) rfl) rfl, List.forall_mem_cons.mpr ⟨wt_2 (List.mem_of_getElem? (i := 122) rfl) rfl, List.forall_mem_cons.mpr ⟨wt_2 (List.mem_of_getElem? (i := 124) rfl) rfl, List.forall_mem_cons.mpr ⟨wt_2 (List.mem_of_getElem? (i := 126) rfl) rfl, List.forall_mem_cons.mpr ⟨wt_2 (List.mem_of_getElem? (i := 128) rfl) rfl, List.forall_mem_cons.mpr ⟨wt_2 (List.mem_of_getElem? (i := 130) rfl) rfl, List.forall_mem_cons.mpr ⟨wt_2 (List.mem_of_getElem? (i := 132) rfl) rfl, List.forall_mem_cons.mpr ⟨wt_2 (List.mem_of_getElem? (i := 134) rfl) rfl, List.forall_mem_cons.mpr ⟨wt_2 (List.mem_of_getElem? (i := 136) rfl) rfl, List.forall_mem_cons.mpr ⟨wt_2 (List.mem_of_getElem? (i := 138) rfl) rfl, List.forall_mem_cons.mpr ⟨wt_2 (List.mem_of_getElem? (i := 140) rfl) rfl, List.forall_mem_cons.mpr ⟨wt_2 (List.mem_of_getElem? (i := 142) rfl) rfl, List.forall_mem_cons.mpr ⟨wt_2 (List.mem_of_getElem? (i := 144) rfl) rfl, List.forall_mem_cons.mpr ⟨wt_2 (List.mem_of_getElem? (i := 146) rfl) rfl, List.forall_mem_cons.mpr ⟨wt_2 (List.mem_of_getElem? (i := 148) rfl) rfl, List.forall_mem_cons.mpr ⟨wt_2 (List.mem_of_getElem? (i := 150) rfl) rfl, fun _ h => absurd h List.not_mem_nil⟩⟩⟩⟩⟩⟩⟩⟩⟩⟩⟩⟩⟩⟩⟩⟩⟩⟩⟩⟩⟩⟩⟩⟩⟩⟩⟩⟩⟩
