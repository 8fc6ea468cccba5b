theorem am_allapp {α : Type} {p : α → Bool} {a b : List α} (ha : a.all p = true) (hb : b.all p = true) : (a ++ b).all p = true := by rw [List.all_append, ha, hb]; rfl
set_option maxRecDepth 100000 in
theorem ck_tT_init_c0 : tT_init_c0.all (am_okE tT_init) = true := by decide +kernel
set_option maxRecDepth 100000 in
theorem ck_tT_init_c1 : tT_init_c1.all (am_okE tT_init) = true := by decide +kernel
theorem ck_tT_init : tT_init.2.2.2.2.2.all (am_okE tT_init) = true := am_allapp ck_tT_init_c0 (ck_tT_init_c1)
set_option maxRecDepth 100000 in
theorem cm_tT_init : am_okM tT_init (62, 47, 61, 0, 0) = true := by decide +kernel
set_option maxRecDepth 100000 in
theorem ck_tF_init : tF_init.2.2.2.2.2.all (am_okE tF_init) = true := by decide +kernel
set_option maxRecDepth 100000 in
theorem cm_tF_init : am_okM tF_init (74, 48, 73, 0, 0) = true := by decide +kernel
set_option maxRecDepth 100000 in
theorem ck_tW_init : tW_init.2.2.2.2.2.all (am_okE tW_init) = true := by decide +kernel
set_option maxRecDepth 100000 in
theorem cm_tW_init : am_okM tW_init (91, 49, 90, 0, 0) = true := by decide +kernel
set_option maxRecDepth 100000 in
theorem ck_tB_init : tB_init.2.2.2.2.2.all (am_okE tB_init) = true := by decide +kernel
set_option maxRecDepth 100000 in
theorem cm_tB_init : am_okM tB_init (106, 50, 105, 0, 0) = true := by decide +kernel
set_option maxRecDepth 100000 in
theorem ck_tU_init : tU_init.2.2.2.2.2.all (am_okE tU_init) = true := by decide +kernel
set_option maxRecDepth 100000 in
theorem cm_tU_init : am_okM tU_init (132, 51, 131, 0, 0) = true := by decide +kernel
set_option maxRecDepth 100000 in
theorem ck_tR_init : tR_init.2.2.2.2.2.all (am_okE tR_init) = true := by decide +kernel
set_option maxRecDepth 100000 in
theorem cm_tR_init : am_okM tR_init (152, 52, 151, 0, 0) = true := by decide +kernel
set_option maxRecDepth 100000 in
theorem ck_tJ_fillI : tJ_fillI.2.2.2.2.2.all (am_okE tJ_fillI) = true := by decide +kernel
set_option maxRecDepth 100000 in
theorem cm_tJ_fillI : am_okM tJ_fillI (187, 53, 186, 0, 1) = true := by decide +kernel
set_option maxRecDepth 100000 in
theorem ck_tT_rest : tT_rest.2.2.2.2.2.all (am_okE tT_rest) = true := by decide +kernel
set_option maxRecDepth 100000 in
theorem cm_tT_rest : am_okM tT_rest (234, 47, 232, 233, 0) = true := by decide +kernel
set_option maxRecDepth 100000 in
theorem ck_tT_play : tT_play.2.2.2.2.2.all (am_okE tT_play) = true := by decide +kernel
set_option maxRecDepth 100000 in
theorem cm_tT_play : am_okM tT_play (238, 47, 236, 237, 0) = true := by decide +kernel
set_option maxRecDepth 100000 in
theorem ck_tT_added : tT_added.2.2.2.2.2.all (am_okE tT_added) = true := by decide +kernel
set_option maxRecDepth 100000 in
theorem cm_tT_added : am_okM tT_added (242, 47, 241, 0, 0) = true := by decide +kernel
set_option maxRecDepth 100000 in
theorem ck_tP_init : tP_init.2.2.2.2.2.all (am_okE tP_init) = true := by decide +kernel
set_option maxRecDepth 100000 in
theorem cm_tP_init : am_okM tP_init (246, 55, 245, 0, 0) = true := by decide +kernel
set_option maxRecDepth 100000 in
theorem ck_tT_rested : tT_rested.2.2.2.2.2.all (am_okE tT_rested) = true := by decide +kernel
set_option maxRecDepth 100000 in
theorem cm_tT_rested : am_okM tT_rested (264, 47, 262, 263, 0) = true := by decide +kernel
set_option maxRecDepth 100000 in
theorem ck_tT_isOdds : tT_isOdds.2.2.2.2.2.all (am_okE tT_isOdds) = true := by decide +kernel
set_option maxRecDepth 100000 in
theorem cm_tT_isOdds : am_okM tT_isOdds (267, 47, 266, 0, 1) = true := by decide +kernel
set_option maxRecDepth 100000 in
theorem ck_tT_echo : tT_echo.2.2.2.2.2.all (am_okE tT_echo) = true := by decide +kernel
set_option maxRecDepth 100000 in
theorem cm_tT_echo : am_okM tT_echo (271, 47, 269, 270, 0) = true := by decide +kernel
set_option maxRecDepth 100000 in
theorem ck_tT_flat : tT_flat.2.2.2.2.2.all (am_okE tT_flat) = true := by decide +kernel
set_option maxRecDepth 100000 in
theorem cm_tT_flat : am_okM tT_flat (275, 47, 273, 274, 0) = true := by decide +kernel
set_option maxRecDepth 100000 in
theorem ck_tT_told : tT_told.2.2.2.2.2.all (am_okE tT_told) = true := by decide +kernel
set_option maxRecDepth 100000 in
theorem cm_tT_told : am_okM tT_told (279, 47, 277, 278, 0) = true := by decide +kernel
set_option maxRecDepth 100000 in
theorem ck_tT_playAt : tT_playAt.2.2.2.2.2.all (am_okE tT_playAt) = true := by decide +kernel
set_option maxRecDepth 100000 in
theorem cm_tT_playAt : am_okM tT_playAt (283, 47, 282, 1, 0) = true := by decide +kernel
set_option maxRecDepth 100000 in
theorem ck_tP_least : tP_least.2.2.2.2.2.all (am_okE tP_least) = true := by decide +kernel
set_option maxRecDepth 100000 in
theorem cm_tP_least : am_okM tP_least (287, 55, 285, 286, 0) = true := by decide +kernel
set_option maxRecDepth 100000 in
theorem ck_tJ_min : tJ_min.2.2.2.2.2.all (am_okE tJ_min) = true := by decide +kernel
set_option maxRecDepth 100000 in
theorem cm_tJ_min : am_okM tJ_min (290, 56, 289, 0, 1) = true := by decide +kernel
set_option maxRecDepth 100000 in
theorem ck_tP_greatest : tP_greatest.2.2.2.2.2.all (am_okE tP_greatest) = true := by decide +kernel
set_option maxRecDepth 100000 in
theorem cm_tP_greatest : am_okM tP_greatest (294, 55, 292, 293, 0) = true := by decide +kernel
set_option maxRecDepth 100000 in
theorem ck_tJ_max : tJ_max.2.2.2.2.2.all (am_okE tJ_max) = true := by decide +kernel
set_option maxRecDepth 100000 in
theorem cm_tJ_max : am_okM tJ_max (297, 56, 296, 0, 1) = true := by decide +kernel
set_option maxRecDepth 100000 in
theorem ck_tT_mark : tT_mark.2.2.2.2.2.all (am_okE tT_mark) = true := by decide +kernel
set_option maxRecDepth 100000 in
theorem cm_tT_mark : am_okM tT_mark (301, 47, 299, 300, 0) = true := by decide +kernel
set_option maxRecDepth 100000 in
theorem ck_tP_isOf : tP_isOf.2.2.2.2.2.all (am_okE tP_isOf) = true := by decide +kernel
set_option maxRecDepth 100000 in
theorem cm_tP_isOf : am_okM tP_isOf (305, 55, 303, 304, 0) = true := by decide +kernel
set_option maxRecDepth 100000 in
theorem ck_tT_refuse : tT_refuse.2.2.2.2.2.all (am_okE tT_refuse) = true := by decide +kernel
set_option maxRecDepth 100000 in
theorem cm_tT_refuse : am_okM tT_refuse (309, 47, 308, 2, 0) = true := by decide +kernel
set_option maxRecDepth 100000 in
theorem ck_tT_odds : tT_odds.2.2.2.2.2.all (am_okE tT_odds) = true := by decide +kernel
set_option maxRecDepth 100000 in
theorem cm_tT_odds : am_okM tT_odds (313, 47, 311, 312, 0) = true := by decide +kernel
set_option maxRecDepth 100000 in
theorem ck_tP_readable : tP_readable.2.2.2.2.2.all (am_okE tP_readable) = true := by decide +kernel
set_option maxRecDepth 100000 in
theorem cm_tP_readable : am_okM tP_readable (317, 55, 315, 316, 0) = true := by decide +kernel
set_option maxRecDepth 100000 in
theorem ck_tT_change : tT_change.2.2.2.2.2.all (am_okE tT_change) = true := by decide +kernel
set_option maxRecDepth 100000 in
theorem cm_tT_change : am_okM tT_change (321, 47, 319, 320, 0) = true := by decide +kernel
set_option maxRecDepth 100000 in
theorem ck_tP_become : tP_become.2.2.2.2.2.all (am_okE tP_become) = true := by decide +kernel
set_option maxRecDepth 100000 in
theorem cm_tP_become : am_okM tP_become (325, 55, 323, 324, 0) = true := by decide +kernel
set_option maxRecDepth 100000 in
theorem ck_tT_mean : tT_mean.2.2.2.2.2.all (am_okE tT_mean) = true := by decide +kernel
set_option maxRecDepth 100000 in
theorem cm_tT_mean : am_okM tT_mean (330, 47, 328, 329, 0) = true := by decide +kernel
set_option maxRecDepth 100000 in
theorem ck_tP_sum : tP_sum.2.2.2.2.2.all (am_okE tP_sum) = true := by decide +kernel
set_option maxRecDepth 100000 in
theorem cm_tP_sum : am_okM tP_sum (334, 55, 332, 333, 0) = true := by decide +kernel
set_option maxRecDepth 100000 in
theorem ck_tT_row : tT_row.2.2.2.2.2.all (am_okE tT_row) = true := by decide +kernel
set_option maxRecDepth 100000 in
theorem cm_tT_row : am_okM tT_row (338, 47, 336, 337, 0) = true := by decide +kernel
set_option maxRecDepth 100000 in
theorem ck_tT_rowAt : tT_rowAt.2.2.2.2.2.all (am_okE tT_rowAt) = true := by decide +kernel
set_option maxRecDepth 100000 in
theorem cm_tT_rowAt : am_okM tT_rowAt (342, 47, 341, 3, 0) = true := by decide +kernel
set_option maxRecDepth 100000 in
theorem ck_tW_become : tW_become.2.2.2.2.2.all (am_okE tW_become) = true := by decide +kernel
set_option maxRecDepth 100000 in
theorem cm_tW_become : am_okM tW_become (346, 49, 344, 345, 0) = true := by decide +kernel
set_option maxRecDepth 100000 in
theorem ck_tT_lay : tT_lay.2.2.2.2.2.all (am_okE tT_lay) = true := by decide +kernel
set_option maxRecDepth 100000 in
theorem cm_tT_lay : am_okM tT_lay (351, 47, 349, 350, 0) = true := by decide +kernel
set_option maxRecDepth 100000 in
theorem ck_tW_isMissing : tW_isMissing.2.2.2.2.2.all (am_okE tW_isMissing) = true := by decide +kernel
set_option maxRecDepth 100000 in
theorem cm_tW_isMissing : am_okM tW_isMissing (355, 49, 353, 354, 0) = true := by decide +kernel
set_option maxRecDepth 100000 in
theorem ck_tT_tear : tT_tear.2.2.2.2.2.all (am_okE tT_tear) = true := by decide +kernel
set_option maxRecDepth 100000 in
theorem cm_tT_tear : am_okM tT_tear (359, 47, 357, 358, 0) = true := by decide +kernel
set_option maxRecDepth 100000 in
theorem ck_tT_copy : tT_copy.2.2.2.2.2.all (am_okE tT_copy) = true := by decide +kernel
set_option maxRecDepth 100000 in
theorem cm_tT_copy : am_okM tT_copy (363, 47, 361, 362, 0) = true := by decide +kernel
set_option maxRecDepth 100000 in
theorem ck_tW_holds : tW_holds.2.2.2.2.2.all (am_okE tW_holds) = true := by decide +kernel
set_option maxRecDepth 100000 in
theorem cm_tW_holds : am_okM tW_holds (367, 49, 365, 366, 0) = true := by decide +kernel
set_option maxRecDepth 100000 in
theorem ck_tT_leads : tT_leads.2.2.2.2.2.all (am_okE tT_leads) = true := by decide +kernel
set_option maxRecDepth 100000 in
theorem cm_tT_leads : am_okM tT_leads (374, 47, 372, 373, 0) = true := by decide +kernel
set_option maxRecDepth 100000 in
theorem ck_tT_isRest : tT_isRest.2.2.2.2.2.all (am_okE tT_isRest) = true := by decide +kernel
set_option maxRecDepth 100000 in
theorem cm_tT_isRest : am_okM tT_isRest (378, 47, 377, 4, 0) = true := by decide +kernel
set_option maxRecDepth 100000 in
theorem ck_tT_refusalOf : tT_refusalOf.2.2.2.2.2.all (am_okE tT_refusalOf) = true := by decide +kernel
set_option maxRecDepth 100000 in
theorem cm_tT_refusalOf : am_okM tT_refusalOf (382, 47, 381, 5, 0) = true := by decide +kernel
set_option maxRecDepth 100000 in
theorem ck_tT_isFit : tT_isFit.2.2.2.2.2.all (am_okE tT_isFit) = true := by decide +kernel
set_option maxRecDepth 100000 in
theorem cm_tT_isFit : am_okM tT_isFit (386, 47, 385, 6, 0) = true := by decide +kernel
set_option maxRecDepth 100000 in
theorem ck_tT_hangsOnPurse : tT_hangsOnPurse.2.2.2.2.2.all (am_okE tT_hangsOnPurse) = true := by decide +kernel
set_option maxRecDepth 100000 in
theorem cm_tT_hangsOnPurse : am_okM tT_hangsOnPurse (390, 47, 389, 7, 0) = true := by decide +kernel
set_option maxRecDepth 100000 in
theorem ck_tT_roundOf : tT_roundOf.2.2.2.2.2.all (am_okE tT_roundOf) = true := by decide +kernel
set_option maxRecDepth 100000 in
theorem cm_tT_roundOf : am_okM tT_roundOf (394, 47, 393, 8, 0) = true := by decide +kernel
set_option maxRecDepth 100000 in
theorem ck_tR_begin : tR_begin.2.2.2.2.2.all (am_okE tR_begin) = true := by decide +kernel
set_option maxRecDepth 100000 in
theorem cm_tR_begin : am_okM tR_begin (398, 52, 396, 397, 0) = true := by decide +kernel
set_option maxRecDepth 100000 in
theorem ck_tJ_fillJ : tJ_fillJ.2.2.2.2.2.all (am_okE tJ_fillJ) = true := by decide +kernel
set_option maxRecDepth 100000 in
theorem cm_tJ_fillJ : am_okM tJ_fillJ (401, 53, 400, 0, 1) = true := by decide +kernel
set_option maxRecDepth 100000 in
theorem ck_tR_follow_c0 : tR_follow_c0.all (am_okE tR_follow) = true := by decide +kernel
set_option maxRecDepth 100000 in
theorem ck_tR_follow_c1 : tR_follow_c1.all (am_okE tR_follow) = true := by decide +kernel
theorem ck_tR_follow : tR_follow.2.2.2.2.2.all (am_okE tR_follow) = true := am_allapp ck_tR_follow_c0 (ck_tR_follow_c1)
set_option maxRecDepth 100000 in
theorem cm_tR_follow : am_okM tR_follow (405, 52, 403, 404, 0) = true := by decide +kernel
set_option maxRecDepth 100000 in
theorem ck_tR_chance : tR_chance.2.2.2.2.2.all (am_okE tR_chance) = true := by decide +kernel
set_option maxRecDepth 100000 in
theorem cm_tR_chance : am_okM tR_chance (409, 52, 407, 408, 0) = true := by decide +kernel
set_option maxRecDepth 100000 in
theorem ck_tR_step : tR_step.2.2.2.2.2.all (am_okE tR_step) = true := by decide +kernel
set_option maxRecDepth 100000 in
theorem cm_tR_step : am_okM tR_step (413, 52, 412, 9, 0) = true := by decide +kernel
set_option maxRecDepth 100000 in
theorem ck_tF_tell : tF_tell.2.2.2.2.2.all (am_okE tF_tell) = true := by decide +kernel
set_option maxRecDepth 100000 in
theorem cm_tF_tell : am_okM tF_tell (418, 48, 416, 417, 0) = true := by decide +kernel
set_option maxRecDepth 100000 in
theorem ck_tJ_abs : tJ_abs.2.2.2.2.2.all (am_okE tJ_abs) = true := by decide +kernel
set_option maxRecDepth 100000 in
theorem cm_tJ_abs : am_okM tJ_abs (421, 56, 420, 0, 1) = true := by decide +kernel
set_option maxRecDepth 100000 in
theorem ck_tF_commonDivisor : tF_commonDivisor.2.2.2.2.2.all (am_okE tF_commonDivisor) = true := by decide +kernel
set_option maxRecDepth 100000 in
theorem cm_tF_commonDivisor : am_okM tF_commonDivisor (424, 48, 423, 0, 1) = true := by decide +kernel
set_option maxRecDepth 100000 in
theorem ck_tT_share : tT_share.2.2.2.2.2.all (am_okE tT_share) = true := by decide +kernel
set_option maxRecDepth 100000 in
theorem cm_tT_share : am_okM tT_share (428, 47, 426, 427, 0) = true := by decide +kernel
set_option maxRecDepth 100000 in
theorem ck_tR_settles : tR_settles.2.2.2.2.2.all (am_okE tR_settles) = true := by decide +kernel
set_option maxRecDepth 100000 in
theorem cm_tR_settles : am_okM tR_settles (432, 52, 430, 431, 0) = true := by decide +kernel
set_option maxRecDepth 100000 in
theorem ck_tR_weightOf : tR_weightOf.2.2.2.2.2.all (am_okE tR_weightOf) = true := by decide +kernel
set_option maxRecDepth 100000 in
theorem cm_tR_weightOf : am_okM tR_weightOf (436, 52, 435, 10, 0) = true := by decide +kernel
set_option maxRecDepth 100000 in
theorem ck_tT_gain : tT_gain.2.2.2.2.2.all (am_okE tT_gain) = true := by decide +kernel
set_option maxRecDepth 100000 in
theorem cm_tT_gain : am_okM tT_gain (440, 47, 438, 439, 0) = true := by decide +kernel
set_option maxRecDepth 100000 in
theorem ck_tT_tellGain : tT_tellGain.2.2.2.2.2.all (am_okE tT_tellGain) = true := by decide +kernel
