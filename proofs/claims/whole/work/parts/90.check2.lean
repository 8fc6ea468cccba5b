set_option maxRecDepth 100000 in
theorem ck_tM_init_c1 : tM_init_c1.all (am_okE tM_init) = true := by decide +kernel
theorem ck_tM_init : tM_init.2.2.2.2.2.all (am_okE tM_init) = true := am_allapp ck_tM_init_c0 (ck_tM_init_c1)
set_option maxRecDepth 100000 in
theorem cm_tM_init : am_okM tM_init (632, 55, 631, 0, 0) = true := by decide +kernel
set_option maxRecDepth 100000 in
theorem ck_tM_rest : tM_rest.2.2.2.2.2.all (am_okE tM_rest) = true := by decide +kernel
set_option maxRecDepth 100000 in
theorem cm_tM_rest : am_okM tM_rest (725, 55, 723, 724, 0) = true := by decide +kernel
set_option maxRecDepth 100000 in
theorem ck_tM_in : tM_in.2.2.2.2.2.all (am_okE tM_in) = true := by decide +kernel
set_option maxRecDepth 100000 in
theorem cm_tM_in : am_okM tM_in (728, 55, 727, 0, 1) = true := by decide +kernel
set_option maxRecDepth 100000 in
theorem ck_tM_play : tM_play.2.2.2.2.2.all (am_okE tM_play) = true := by decide +kernel
set_option maxRecDepth 100000 in
theorem cm_tM_play : am_okM tM_play (732, 55, 730, 731, 0) = true := by decide +kernel
set_option maxRecDepth 100000 in
theorem ck_tM_put_c0 : tM_put_c0.all (am_okE tM_put) = true := by decide +kernel
set_option maxRecDepth 100000 in
theorem ck_tM_put_c1 : tM_put_c1.all (am_okE tM_put) = true := by decide +kernel
theorem ck_tM_put : tM_put.2.2.2.2.2.all (am_okE tM_put) = true := am_allapp ck_tM_put_c0 (ck_tM_put_c1)
set_option maxRecDepth 100000 in
theorem cm_tM_put : am_okM tM_put (736, 55, 735, 25, 0) = true := by decide +kernel
set_option maxRecDepth 100000 in
theorem ck_tM_rested : tM_rested.2.2.2.2.2.all (am_okE tM_rested) = true := by decide +kernel
set_option maxRecDepth 100000 in
theorem cm_tM_rested : am_okM tM_rested (740, 55, 738, 739, 0) = true := by decide +kernel
set_option maxRecDepth 100000 in
theorem ck_tM_isOdds : tM_isOdds.2.2.2.2.2.all (am_okE tM_isOdds) = true := by decide +kernel
set_option maxRecDepth 100000 in
theorem cm_tM_isOdds : am_okM tM_isOdds (743, 55, 742, 0, 1) = true := by decide +kernel
set_option maxRecDepth 100000 in
theorem ck_tM_echo : tM_echo.2.2.2.2.2.all (am_okE tM_echo) = true := by decide +kernel
set_option maxRecDepth 100000 in
theorem cm_tM_echo : am_okM tM_echo (747, 55, 745, 746, 0) = true := by decide +kernel
set_option maxRecDepth 100000 in
theorem ck_tM_flat : tM_flat.2.2.2.2.2.all (am_okE tM_flat) = true := by decide +kernel
set_option maxRecDepth 100000 in
theorem cm_tM_flat : am_okM tM_flat (751, 55, 749, 750, 0) = true := by decide +kernel
set_option maxRecDepth 100000 in
theorem ck_tM_told : tM_told.2.2.2.2.2.all (am_okE tM_told) = true := by decide +kernel
set_option maxRecDepth 100000 in
theorem cm_tM_told : am_okM tM_told (755, 55, 753, 754, 0) = true := by decide +kernel
set_option maxRecDepth 100000 in
theorem ck_tM_isPlay : tM_isPlay.2.2.2.2.2.all (am_okE tM_isPlay) = true := by decide +kernel
set_option maxRecDepth 100000 in
theorem cm_tM_isPlay : am_okM tM_isPlay (759, 55, 758, 26, 0) = true := by decide +kernel
set_option maxRecDepth 100000 in
theorem ck_tM_tells : tM_tells.2.2.2.2.2.all (am_okE tM_tells) = true := by decide +kernel
set_option maxRecDepth 100000 in
theorem cm_tM_tells : am_okM tM_tells (763, 55, 762, 27, 0) = true := by decide +kernel
set_option maxRecDepth 100000 in
theorem ck_tM_many : tM_many.2.2.2.2.2.all (am_okE tM_many) = true := by decide +kernel
set_option maxRecDepth 100000 in
theorem cm_tM_many : am_okM tM_many (767, 55, 766, 28, 0) = true := by decide +kernel
set_option maxRecDepth 100000 in
theorem ck_tM_mark_c0 : tM_mark_c0.all (am_okE tM_mark) = true := by decide +kernel
set_option maxRecDepth 100000 in
theorem ck_tM_mark_c1 : tM_mark_c1.all (am_okE tM_mark) = true := by decide +kernel
theorem ck_tM_mark : tM_mark.2.2.2.2.2.all (am_okE tM_mark) = true := am_allapp ck_tM_mark_c0 (ck_tM_mark_c1)
set_option maxRecDepth 100000 in
theorem cm_tM_mark : am_okM tM_mark (771, 55, 769, 770, 0) = true := by decide +kernel
set_option maxRecDepth 100000 in
theorem ck_tM_meets : tM_meets.2.2.2.2.2.all (am_okE tM_meets) = true := by decide +kernel
set_option maxRecDepth 100000 in
theorem cm_tM_meets : am_okM tM_meets (775, 55, 774, 29, 0) = true := by decide +kernel
set_option maxRecDepth 100000 in
theorem ck_tM_odds : tM_odds.2.2.2.2.2.all (am_okE tM_odds) = true := by decide +kernel
set_option maxRecDepth 100000 in
theorem cm_tM_odds : am_okM tM_odds (779, 55, 777, 778, 0) = true := by decide +kernel
set_option maxRecDepth 100000 in
theorem ck_tM_change_c0 : tM_change_c0.all (am_okE tM_change) = true := by decide +kernel
set_option maxRecDepth 100000 in
theorem ck_tM_change_c1 : tM_change_c1.all (am_okE tM_change) = true := by decide +kernel
theorem ck_tM_change : tM_change.2.2.2.2.2.all (am_okE tM_change) = true := am_allapp ck_tM_change_c0 (ck_tM_change_c1)
set_option maxRecDepth 100000 in
theorem cm_tM_change : am_okM tM_change (783, 55, 781, 782, 0) = true := by decide +kernel
set_option maxRecDepth 100000 in
theorem ck_tM_mean : tM_mean.2.2.2.2.2.all (am_okE tM_mean) = true := by decide +kernel
set_option maxRecDepth 100000 in
theorem cm_tM_mean : am_okM tM_mean (787, 55, 785, 786, 0) = true := by decide +kernel
set_option maxRecDepth 100000 in
theorem ck_tM_row : tM_row.2.2.2.2.2.all (am_okE tM_row) = true := by decide +kernel
set_option maxRecDepth 100000 in
theorem cm_tM_row : am_okM tM_row (791, 55, 789, 790, 0) = true := by decide +kernel
set_option maxRecDepth 100000 in
theorem ck_tM_isRow : tM_isRow.2.2.2.2.2.all (am_okE tM_isRow) = true := by decide +kernel
set_option maxRecDepth 100000 in
theorem cm_tM_isRow : am_okM tM_isRow (794, 55, 793, 0, 1) = true := by decide +kernel
set_option maxRecDepth 100000 in
theorem ck_tM_lay : tM_lay.2.2.2.2.2.all (am_okE tM_lay) = true := by decide +kernel
set_option maxRecDepth 100000 in
theorem cm_tM_lay : am_okM tM_lay (798, 55, 796, 797, 0) = true := by decide +kernel
set_option maxRecDepth 100000 in
theorem ck_tM_looked : tM_looked.2.2.2.2.2.all (am_okE tM_looked) = true := by decide +kernel
set_option maxRecDepth 100000 in
theorem cm_tM_looked : am_okM tM_looked (802, 55, 801, 30, 0) = true := by decide +kernel
set_option maxRecDepth 100000 in
theorem ck_tM_tear : tM_tear.2.2.2.2.2.all (am_okE tM_tear) = true := by decide +kernel
set_option maxRecDepth 100000 in
theorem cm_tM_tear : am_okM tM_tear (806, 55, 804, 805, 0) = true := by decide +kernel
set_option maxRecDepth 100000 in
theorem ck_tM_copy_c0 : tM_copy_c0.all (am_okE tM_copy) = true := by decide +kernel
set_option maxRecDepth 100000 in
theorem ck_tM_copy_c1 : tM_copy_c1.all (am_okE tM_copy) = true := by decide +kernel
theorem ck_tM_copy : tM_copy.2.2.2.2.2.all (am_okE tM_copy) = true := am_allapp ck_tM_copy_c0 (ck_tM_copy_c1)
set_option maxRecDepth 100000 in
theorem cm_tM_copy : am_okM tM_copy (810, 55, 808, 809, 0) = true := by decide +kernel
set_option maxRecDepth 100000 in
theorem ck_tM_leads : tM_leads.2.2.2.2.2.all (am_okE tM_leads) = true := by decide +kernel
set_option maxRecDepth 100000 in
theorem cm_tM_leads : am_okM tM_leads (814, 55, 812, 813, 0) = true := by decide +kernel
set_option maxRecDepth 100000 in
theorem ck_tM_askedFor : tM_askedFor.2.2.2.2.2.all (am_okE tM_askedFor) = true := by decide +kernel
set_option maxRecDepth 100000 in
theorem cm_tM_askedFor : am_okM tM_askedFor (818, 55, 817, 31, 0) = true := by decide +kernel
set_option maxRecDepth 100000 in
theorem ck_tM_isFit : tM_isFit.2.2.2.2.2.all (am_okE tM_isFit) = true := by decide +kernel
set_option maxRecDepth 100000 in
theorem cm_tM_isFit : am_okM tM_isFit (822, 55, 821, 32, 0) = true := by decide +kernel
set_option maxRecDepth 100000 in
theorem ck_tM_setTurn : tM_setTurn.2.2.2.2.2.all (am_okE tM_setTurn) = true := by decide +kernel
set_option maxRecDepth 100000 in
theorem cm_tM_setTurn : am_okM tM_setTurn (827, 55, 826, 33, 0) = true := by decide +kernel
set_option maxRecDepth 100000 in
theorem ck_tM_setRound_c0 : tM_setRound_c0.all (am_okE tM_setRound) = true := by decide +kernel
set_option maxRecDepth 100000 in
theorem ck_tM_setRound_c1 : tM_setRound_c1.all (am_okE tM_setRound) = true := by decide +kernel
theorem ck_tM_setRound : tM_setRound.2.2.2.2.2.all (am_okE tM_setRound) = true := am_allapp ck_tM_setRound_c0 (ck_tM_setRound_c1)
set_option maxRecDepth 100000 in
theorem cm_tM_setRound : am_okM tM_setRound (831, 55, 830, 34, 0) = true := by decide +kernel
set_option maxRecDepth 100000 in
theorem ck_tM_turn_c0 : tM_turn_c0.all (am_okE tM_turn) = true := by decide +kernel
set_option maxRecDepth 100000 in
theorem ck_tM_turn_c1 : tM_turn_c1.all (am_okE tM_turn) = true := by decide +kernel
theorem ck_tM_turn : tM_turn.2.2.2.2.2.all (am_okE tM_turn) = true := am_allapp ck_tM_turn_c0 (ck_tM_turn_c1)
set_option maxRecDepth 100000 in
theorem cm_tM_turn : am_okM tM_turn (835, 55, 834, 35, 0) = true := by decide +kernel
set_option maxRecDepth 100000 in
theorem ck_tM_q : tM_q.2.2.2.2.2.all (am_okE tM_q) = true := by decide +kernel
set_option maxRecDepth 100000 in
theorem cm_tM_q : am_okM tM_q (840, 55, 839, 36, 0) = true := by decide +kernel
set_option maxRecDepth 100000 in
theorem ck_tM_tell : tM_tell.2.2.2.2.2.all (am_okE tM_tell) = true := by decide +kernel
set_option maxRecDepth 100000 in
theorem cm_tM_tell : am_okM tM_tell (844, 55, 843, 37, 0) = true := by decide +kernel
set_option maxRecDepth 100000 in
theorem ck_tM_share : tM_share.2.2.2.2.2.all (am_okE tM_share) = true := by decide +kernel
set_option maxRecDepth 100000 in
theorem cm_tM_share : am_okM tM_share (848, 55, 846, 847, 0) = true := by decide +kernel
set_option maxRecDepth 100000 in
theorem ck_tM_settles_c0 : tM_settles_c0.all (am_okE tM_settles) = true := by decide +kernel
set_option maxRecDepth 100000 in
theorem ck_tM_settles_c1 : tM_settles_c1.all (am_okE tM_settles) = true := by decide +kernel
theorem ck_tM_settles : tM_settles.2.2.2.2.2.all (am_okE tM_settles) = true := am_allapp ck_tM_settles_c0 (ck_tM_settles_c1)
set_option maxRecDepth 100000 in
theorem cm_tM_settles : am_okM tM_settles (852, 55, 851, 38, 0) = true := by decide +kernel
set_option maxRecDepth 100000 in
theorem ck_tM_gain : tM_gain.2.2.2.2.2.all (am_okE tM_gain) = true := by decide +kernel
set_option maxRecDepth 100000 in
theorem cm_tM_gain : am_okM tM_gain (856, 55, 854, 855, 0) = true := by decide +kernel
set_option maxRecDepth 100000 in
theorem ck_tM_tellGain : tM_tellGain.2.2.2.2.2.all (am_okE tM_tellGain) = true := by decide +kernel
