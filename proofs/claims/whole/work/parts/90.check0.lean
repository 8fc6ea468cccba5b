theorem am_allapp {α : Type} {p : α → Bool} {a b : List α} (ha : a.all p = true) (hb : b.all p = true) : (a ++ b).all p = true := by rw [List.all_append, ha, hb]; rfl
set_option maxRecDepth 100000 in
theorem ck_tT_init_c0 : tT_init_c0.all (am_okE tT_init) = true := by decide +kernel
set_option maxRecDepth 100000 in
theorem ck_tT_init_c1 : tT_init_c1.all (am_okE tT_init) = true := by decide +kernel
theorem ck_tT_init : tT_init.2.2.2.2.2.all (am_okE tT_init) = true := am_allapp ck_tT_init_c0 (ck_tT_init_c1)
set_option maxRecDepth 100000 in
theorem cm_tT_init : am_okM tT_init (63, 48, 62, 0, 0) = true := by decide +kernel
set_option maxRecDepth 100000 in
theorem ck_tF_init : tF_init.2.2.2.2.2.all (am_okE tF_init) = true := by decide +kernel
set_option maxRecDepth 100000 in
theorem cm_tF_init : am_okM tF_init (75, 49, 74, 0, 0) = true := by decide +kernel
set_option maxRecDepth 100000 in
theorem ck_tW_init : tW_init.2.2.2.2.2.all (am_okE tW_init) = true := by decide +kernel
set_option maxRecDepth 100000 in
theorem cm_tW_init : am_okM tW_init (92, 50, 91, 0, 0) = true := by decide +kernel
set_option maxRecDepth 100000 in
theorem ck_tB_init : tB_init.2.2.2.2.2.all (am_okE tB_init) = true := by decide +kernel
set_option maxRecDepth 100000 in
theorem cm_tB_init : am_okM tB_init (107, 51, 106, 0, 0) = true := by decide +kernel
set_option maxRecDepth 100000 in
theorem ck_tU_init : tU_init.2.2.2.2.2.all (am_okE tU_init) = true := by decide +kernel
set_option maxRecDepth 100000 in
theorem cm_tU_init : am_okM tU_init (133, 52, 132, 0, 0) = true := by decide +kernel
set_option maxRecDepth 100000 in
theorem ck_tR_init : tR_init.2.2.2.2.2.all (am_okE tR_init) = true := by decide +kernel
set_option maxRecDepth 100000 in
theorem cm_tR_init : am_okM tR_init (153, 53, 152, 0, 0) = true := by decide +kernel
set_option maxRecDepth 100000 in
theorem ck_tJ_fillI : tJ_fillI.2.2.2.2.2.all (am_okE tJ_fillI) = true := by decide +kernel
set_option maxRecDepth 100000 in
theorem cm_tJ_fillI : am_okM tJ_fillI (188, 54, 187, 0, 1) = true := by decide +kernel
set_option maxRecDepth 100000 in
theorem ck_tT_rest : tT_rest.2.2.2.2.2.all (am_okE tT_rest) = true := by decide +kernel
set_option maxRecDepth 100000 in
theorem cm_tT_rest : am_okM tT_rest (235, 48, 233, 234, 0) = true := by decide +kernel
set_option maxRecDepth 100000 in
theorem ck_tT_play : tT_play.2.2.2.2.2.all (am_okE tT_play) = true := by decide +kernel
set_option maxRecDepth 100000 in
theorem cm_tT_play : am_okM tT_play (239, 48, 237, 238, 0) = true := by decide +kernel
set_option maxRecDepth 100000 in
theorem ck_tT_added : tT_added.2.2.2.2.2.all (am_okE tT_added) = true := by decide +kernel
set_option maxRecDepth 100000 in
theorem cm_tT_added : am_okM tT_added (243, 48, 242, 0, 0) = true := by decide +kernel
set_option maxRecDepth 100000 in
theorem ck_tP_init : tP_init.2.2.2.2.2.all (am_okE tP_init) = true := by decide +kernel
set_option maxRecDepth 100000 in
theorem cm_tP_init : am_okM tP_init (247, 56, 246, 0, 0) = true := by decide +kernel
set_option maxRecDepth 100000 in
theorem ck_tT_rested : tT_rested.2.2.2.2.2.all (am_okE tT_rested) = true := by decide +kernel
set_option maxRecDepth 100000 in
theorem cm_tT_rested : am_okM tT_rested (265, 48, 263, 264, 0) = true := by decide +kernel
set_option maxRecDepth 100000 in
theorem ck_tT_isOdds : tT_isOdds.2.2.2.2.2.all (am_okE tT_isOdds) = true := by decide +kernel
set_option maxRecDepth 100000 in
theorem cm_tT_isOdds : am_okM tT_isOdds (268, 48, 267, 0, 1) = true := by decide +kernel
set_option maxRecDepth 100000 in
theorem ck_tT_echo : tT_echo.2.2.2.2.2.all (am_okE tT_echo) = true := by decide +kernel
set_option maxRecDepth 100000 in
theorem cm_tT_echo : am_okM tT_echo (272, 48, 270, 271, 0) = true := by decide +kernel
set_option maxRecDepth 100000 in
theorem ck_tT_flat : tT_flat.2.2.2.2.2.all (am_okE tT_flat) = true := by decide +kernel
set_option maxRecDepth 100000 in
theorem cm_tT_flat : am_okM tT_flat (276, 48, 274, 275, 0) = true := by decide +kernel
set_option maxRecDepth 100000 in
theorem ck_tT_told : tT_told.2.2.2.2.2.all (am_okE tT_told) = true := by decide +kernel
set_option maxRecDepth 100000 in
theorem cm_tT_told : am_okM tT_told (280, 48, 278, 279, 0) = true := by decide +kernel
set_option maxRecDepth 100000 in
theorem ck_tT_playAt : tT_playAt.2.2.2.2.2.all (am_okE tT_playAt) = true := by decide +kernel
set_option maxRecDepth 100000 in
theorem cm_tT_playAt : am_okM tT_playAt (284, 48, 283, 1, 0) = true := by decide +kernel
set_option maxRecDepth 100000 in
theorem ck_tP_least : tP_least.2.2.2.2.2.all (am_okE tP_least) = true := by decide +kernel
set_option maxRecDepth 100000 in
theorem cm_tP_least : am_okM tP_least (288, 56, 286, 287, 0) = true := by decide +kernel
set_option maxRecDepth 100000 in
theorem ck_tJ_min : tJ_min.2.2.2.2.2.all (am_okE tJ_min) = true := by decide +kernel
set_option maxRecDepth 100000 in
theorem cm_tJ_min : am_okM tJ_min (291, 57, 290, 0, 1) = true := by decide +kernel
set_option maxRecDepth 100000 in
theorem ck_tP_greatest : tP_greatest.2.2.2.2.2.all (am_okE tP_greatest) = true := by decide +kernel
set_option maxRecDepth 100000 in
theorem cm_tP_greatest : am_okM tP_greatest (295, 56, 293, 294, 0) = true := by decide +kernel
set_option maxRecDepth 100000 in
theorem ck_tJ_max : tJ_max.2.2.2.2.2.all (am_okE tJ_max) = true := by decide +kernel
set_option maxRecDepth 100000 in
theorem cm_tJ_max : am_okM tJ_max (298, 57, 297, 0, 1) = true := by decide +kernel
set_option maxRecDepth 100000 in
theorem ck_tT_mark : tT_mark.2.2.2.2.2.all (am_okE tT_mark) = true := by decide +kernel
set_option maxRecDepth 100000 in
theorem cm_tT_mark : am_okM tT_mark (302, 48, 300, 301, 0) = true := by decide +kernel
set_option maxRecDepth 100000 in
theorem ck_tP_isOf : tP_isOf.2.2.2.2.2.all (am_okE tP_isOf) = true := by decide +kernel
set_option maxRecDepth 100000 in
theorem cm_tP_isOf : am_okM tP_isOf (306, 56, 304, 305, 0) = true := by decide +kernel
set_option maxRecDepth 100000 in
theorem ck_tT_refuse : tT_refuse.2.2.2.2.2.all (am_okE tT_refuse) = true := by decide +kernel
set_option maxRecDepth 100000 in
theorem cm_tT_refuse : am_okM tT_refuse (310, 48, 309, 2, 0) = true := by decide +kernel
set_option maxRecDepth 100000 in
theorem ck_tT_odds : tT_odds.2.2.2.2.2.all (am_okE tT_odds) = true := by decide +kernel
set_option maxRecDepth 100000 in
theorem cm_tT_odds : am_okM tT_odds (314, 48, 312, 313, 0) = true := by decide +kernel
set_option maxRecDepth 100000 in
theorem ck_tP_readable : tP_readable.2.2.2.2.2.all (am_okE tP_readable) = true := by decide +kernel
set_option maxRecDepth 100000 in
theorem cm_tP_readable : am_okM tP_readable (318, 56, 316, 317, 0) = true := by decide +kernel
set_option maxRecDepth 100000 in
theorem ck_tT_change : tT_change.2.2.2.2.2.all (am_okE tT_change) = true := by decide +kernel
set_option maxRecDepth 100000 in
theorem cm_tT_change : am_okM tT_change (322, 48, 320, 321, 0) = true := by decide +kernel
set_option maxRecDepth 100000 in
theorem ck_tP_become : tP_become.2.2.2.2.2.all (am_okE tP_become) = true := by decide +kernel
set_option maxRecDepth 100000 in
theorem cm_tP_become : am_okM tP_become (326, 56, 324, 325, 0) = true := by decide +kernel
set_option maxRecDepth 100000 in
theorem ck_tT_mean : tT_mean.2.2.2.2.2.all (am_okE tT_mean) = true := by decide +kernel
set_option maxRecDepth 100000 in
theorem cm_tT_mean : am_okM tT_mean (331, 48, 329, 330, 0) = true := by decide +kernel
set_option maxRecDepth 100000 in
theorem ck_tP_sum : tP_sum.2.2.2.2.2.all (am_okE tP_sum) = true := by decide +kernel
set_option maxRecDepth 100000 in
theorem cm_tP_sum : am_okM tP_sum (335, 56, 333, 334, 0) = true := by decide +kernel
set_option maxRecDepth 100000 in
theorem ck_tT_row : tT_row.2.2.2.2.2.all (am_okE tT_row) = true := by decide +kernel
set_option maxRecDepth 100000 in
theorem cm_tT_row : am_okM tT_row (339, 48, 337, 338, 0) = true := by decide +kernel
set_option maxRecDepth 100000 in
theorem ck_tT_rowAt : tT_rowAt.2.2.2.2.2.all (am_okE tT_rowAt) = true := by decide +kernel
set_option maxRecDepth 100000 in
theorem cm_tT_rowAt : am_okM tT_rowAt (343, 48, 342, 3, 0) = true := by decide +kernel
set_option maxRecDepth 100000 in
theorem ck_tW_become : tW_become.2.2.2.2.2.all (am_okE tW_become) = true := by decide +kernel
set_option maxRecDepth 100000 in
theorem cm_tW_become : am_okM tW_become (347, 50, 345, 346, 0) = true := by decide +kernel
set_option maxRecDepth 100000 in
theorem ck_tT_lay : tT_lay.2.2.2.2.2.all (am_okE tT_lay) = true := by decide +kernel
set_option maxRecDepth 100000 in
theorem cm_tT_lay : am_okM tT_lay (352, 48, 350, 351, 0) = true := by decide +kernel
set_option maxRecDepth 100000 in
theorem ck_tW_isMissing : tW_isMissing.2.2.2.2.2.all (am_okE tW_isMissing) = true := by decide +kernel
set_option maxRecDepth 100000 in
theorem cm_tW_isMissing : am_okM tW_isMissing (356, 50, 354, 355, 0) = true := by decide +kernel
set_option maxRecDepth 100000 in
theorem ck_tT_tear : tT_tear.2.2.2.2.2.all (am_okE tT_tear) = true := by decide +kernel
set_option maxRecDepth 100000 in
theorem cm_tT_tear : am_okM tT_tear (360, 48, 358, 359, 0) = true := by decide +kernel
set_option maxRecDepth 100000 in
theorem ck_tT_copy : tT_copy.2.2.2.2.2.all (am_okE tT_copy) = true := by decide +kernel
set_option maxRecDepth 100000 in
theorem cm_tT_copy : am_okM tT_copy (364, 48, 362, 363, 0) = true := by decide +kernel
set_option maxRecDepth 100000 in
theorem ck_tW_holds : tW_holds.2.2.2.2.2.all (am_okE tW_holds) = true := by decide +kernel
set_option maxRecDepth 100000 in
theorem cm_tW_holds : am_okM tW_holds (368, 50, 366, 367, 0) = true := by decide +kernel
set_option maxRecDepth 100000 in
theorem ck_tT_leads : tT_leads.2.2.2.2.2.all (am_okE tT_leads) = true := by decide +kernel
set_option maxRecDepth 100000 in
theorem cm_tT_leads : am_okM tT_leads (375, 48, 373, 374, 0) = true := by decide +kernel
set_option maxRecDepth 100000 in
theorem ck_tT_isRest : tT_isRest.2.2.2.2.2.all (am_okE tT_isRest) = true := by decide +kernel
set_option maxRecDepth 100000 in
theorem cm_tT_isRest : am_okM tT_isRest (379, 48, 378, 4, 0) = true := by decide +kernel
set_option maxRecDepth 100000 in
theorem ck_tT_refusalOf : tT_refusalOf.2.2.2.2.2.all (am_okE tT_refusalOf) = true := by decide +kernel
set_option maxRecDepth 100000 in
theorem cm_tT_refusalOf : am_okM tT_refusalOf (383, 48, 382, 5, 0) = true := by decide +kernel
set_option maxRecDepth 100000 in
theorem ck_tT_isFit : tT_isFit.2.2.2.2.2.all (am_okE tT_isFit) = true := by decide +kernel
set_option maxRecDepth 100000 in
theorem cm_tT_isFit : am_okM tT_isFit (387, 48, 386, 6, 0) = true := by decide +kernel
set_option maxRecDepth 100000 in
theorem ck_tT_hangsOnPurse : tT_hangsOnPurse.2.2.2.2.2.all (am_okE tT_hangsOnPurse) = true := by decide +kernel
set_option maxRecDepth 100000 in
theorem cm_tT_hangsOnPurse : am_okM tT_hangsOnPurse (391, 48, 390, 7, 0) = true := by decide +kernel
set_option maxRecDepth 100000 in
theorem ck_tT_roundOf : tT_roundOf.2.2.2.2.2.all (am_okE tT_roundOf) = true := by decide +kernel
set_option maxRecDepth 100000 in
theorem cm_tT_roundOf : am_okM tT_roundOf (395, 48, 394, 8, 0) = true := by decide +kernel
set_option maxRecDepth 100000 in
theorem ck_tR_begin : tR_begin.2.2.2.2.2.all (am_okE tR_begin) = true := by decide +kernel
set_option maxRecDepth 100000 in
theorem cm_tR_begin : am_okM tR_begin (399, 53, 397, 398, 0) = true := by decide +kernel
set_option maxRecDepth 100000 in
theorem ck_tJ_fillJ : tJ_fillJ.2.2.2.2.2.all (am_okE tJ_fillJ) = true := by decide +kernel
set_option maxRecDepth 100000 in
theorem cm_tJ_fillJ : am_okM tJ_fillJ (402, 54, 401, 0, 1) = true := by decide +kernel
set_option maxRecDepth 100000 in
theorem ck_tR_follow_c0 : tR_follow_c0.all (am_okE tR_follow) = true := by decide +kernel
set_option maxRecDepth 100000 in
theorem ck_tR_follow_c1 : tR_follow_c1.all (am_okE tR_follow) = true := by decide +kernel
theorem ck_tR_follow : tR_follow.2.2.2.2.2.all (am_okE tR_follow) = true := am_allapp ck_tR_follow_c0 (ck_tR_follow_c1)
set_option maxRecDepth 100000 in
theorem cm_tR_follow : am_okM tR_follow (406, 53, 404, 405, 0) = true := by decide +kernel
set_option maxRecDepth 100000 in
theorem ck_tR_chance : tR_chance.2.2.2.2.2.all (am_okE tR_chance) = true := by decide +kernel
set_option maxRecDepth 100000 in
theorem cm_tR_chance : am_okM tR_chance (410, 53, 408, 409, 0) = true := by decide +kernel
set_option maxRecDepth 100000 in
theorem ck_tR_step : tR_step.2.2.2.2.2.all (am_okE tR_step) = true := by decide +kernel
set_option maxRecDepth 100000 in
theorem cm_tR_step : am_okM tR_step (414, 53, 413, 9, 0) = true := by decide +kernel
set_option maxRecDepth 100000 in
theorem ck_tF_tell : tF_tell.2.2.2.2.2.all (am_okE tF_tell) = true := by decide +kernel
set_option maxRecDepth 100000 in
theorem cm_tF_tell : am_okM tF_tell (419, 49, 417, 418, 0) = true := by decide +kernel
set_option maxRecDepth 100000 in
theorem ck_tJ_abs : tJ_abs.2.2.2.2.2.all (am_okE tJ_abs) = true := by decide +kernel
set_option maxRecDepth 100000 in
theorem cm_tJ_abs : am_okM tJ_abs (422, 57, 421, 0, 1) = true := by decide +kernel
set_option maxRecDepth 100000 in
theorem ck_tF_commonDivisor : tF_commonDivisor.2.2.2.2.2.all (am_okE tF_commonDivisor) = true := by decide +kernel
set_option maxRecDepth 100000 in
theorem cm_tF_commonDivisor : am_okM tF_commonDivisor (425, 49, 424, 0, 1) = true := by decide +kernel
set_option maxRecDepth 100000 in
theorem ck_tT_share : tT_share.2.2.2.2.2.all (am_okE tT_share) = true := by decide +kernel
set_option maxRecDepth 100000 in
theorem cm_tT_share : am_okM tT_share (429, 48, 427, 428, 0) = true := by decide +kernel
set_option maxRecDepth 100000 in
theorem ck_tR_settles : tR_settles.2.2.2.2.2.all (am_okE tR_settles) = true := by decide +kernel
set_option maxRecDepth 100000 in
theorem cm_tR_settles : am_okM tR_settles (433, 53, 431, 432, 0) = true := by decide +kernel
set_option maxRecDepth 100000 in
theorem ck_tR_weightOf : tR_weightOf.2.2.2.2.2.all (am_okE tR_weightOf) = true := by decide +kernel
set_option maxRecDepth 100000 in
theorem cm_tR_weightOf : am_okM tR_weightOf (437, 53, 436, 10, 0) = true := by decide +kernel
set_option maxRecDepth 100000 in
theorem ck_tT_gain : tT_gain.2.2.2.2.2.all (am_okE tT_gain) = true := by decide +kernel
set_option maxRecDepth 100000 in
theorem cm_tT_gain : am_okM tT_gain (441, 48, 439, 440, 0) = true := by decide +kernel
set_option maxRecDepth 100000 in
theorem ck_tT_tellGain : tT_tellGain.2.2.2.2.2.all (am_okE tT_tellGain) = true := by decide +kernel
