set_option maxRecDepth 100000 in
theorem cm_tM_tellGain : am_okM tM_tellGain (860, 55, 859, 39, 0) = true := by decide +kernel
set_option maxRecDepth 100000 in
theorem ck_tM_hasGain_c0 : tM_hasGain_c0.all (am_okE tM_hasGain) = true := by decide +kernel
set_option maxRecDepth 100000 in
theorem ck_tM_hasGain_c1 : tM_hasGain_c1.all (am_okE tM_hasGain) = true := by decide +kernel
theorem ck_tM_hasGain : tM_hasGain.2.2.2.2.2.all (am_okE tM_hasGain) = true := am_allapp ck_tM_hasGain_c0 (ck_tM_hasGain_c1)
set_option maxRecDepth 100000 in
theorem cm_tM_hasGain : am_okM tM_hasGain (864, 55, 863, 40, 0) = true := by decide +kernel
set_option maxRecDepth 100000 in
theorem ck_tM_lot : tM_lot.2.2.2.2.2.all (am_okE tM_lot) = true := by decide +kernel
set_option maxRecDepth 100000 in
theorem cm_tM_lot : am_okM tM_lot (868, 55, 866, 867, 0) = true := by decide +kernel
set_option maxRecDepth 100000 in
theorem ck_tM_askedTwo : tM_askedTwo.2.2.2.2.2.all (am_okE tM_askedTwo) = true := by decide +kernel
set_option maxRecDepth 100000 in
theorem cm_tM_askedTwo : am_okM tM_askedTwo (872, 55, 871, 41, 0) = true := by decide +kernel
set_option maxRecDepth 100000 in
theorem ck_tM_setLot : tM_setLot.2.2.2.2.2.all (am_okE tM_setLot) = true := by decide +kernel
set_option maxRecDepth 100000 in
theorem cm_tM_setLot : am_okM tM_setLot (876, 55, 875, 42, 0) = true := by decide +kernel
set_option maxRecDepth 100000 in
theorem ck_tM_middle : tM_middle.2.2.2.2.2.all (am_okE tM_middle) = true := by decide +kernel
set_option maxRecDepth 100000 in
theorem cm_tM_middle : am_okM tM_middle (881, 55, 879, 880, 0) = true := by decide +kernel
set_option maxRecDepth 100000 in
theorem ck_tM_bestRow_c0 : tM_bestRow_c0.all (am_okE tM_bestRow) = true := by decide +kernel
set_option maxRecDepth 100000 in
theorem ck_tM_bestRow_c1 : tM_bestRow_c1.all (am_okE tM_bestRow) = true := by decide +kernel
set_option maxRecDepth 100000 in
theorem ck_tM_bestRow_c2 : tM_bestRow_c2.all (am_okE tM_bestRow) = true := by decide +kernel
theorem ck_tM_bestRow : tM_bestRow.2.2.2.2.2.all (am_okE tM_bestRow) = true := am_allapp ck_tM_bestRow_c0 (am_allapp ck_tM_bestRow_c1 (ck_tM_bestRow_c2))
set_option maxRecDepth 100000 in
theorem cm_tM_bestRow : am_okM tM_bestRow (885, 55, 883, 884, 0) = true := by decide +kernel
set_option maxRecDepth 100000 in
theorem ck_tM_isMore_c0 : tM_isMore_c0.all (am_okE tM_isMore) = true := by decide +kernel
set_option maxRecDepth 100000 in
theorem ck_tM_isMore_c1 : tM_isMore_c1.all (am_okE tM_isMore) = true := by decide +kernel
theorem ck_tM_isMore : tM_isMore.2.2.2.2.2.all (am_okE tM_isMore) = true := am_allapp ck_tM_isMore_c0 (ck_tM_isMore_c1)
set_option maxRecDepth 100000 in
theorem cm_tM_isMore : am_okM tM_isMore (889, 55, 888, 43, 0) = true := by decide +kernel
set_option maxRecDepth 100000 in
theorem ck_tM_floor : tM_floor.2.2.2.2.2.all (am_okE tM_floor) = true := by decide +kernel
set_option maxRecDepth 100000 in
theorem cm_tM_floor : am_okM tM_floor (892, 55, 891, 0, 1) = true := by decide +kernel
set_option maxRecDepth 100000 in
theorem ck_tM_bestChoice_c0 : tM_bestChoice_c0.all (am_okE tM_bestChoice) = true := by decide +kernel
set_option maxRecDepth 100000 in
theorem ck_tM_bestChoice_c1 : tM_bestChoice_c1.all (am_okE tM_bestChoice) = true := by decide +kernel
set_option maxRecDepth 100000 in
theorem ck_tM_bestChoice_c2 : tM_bestChoice_c2.all (am_okE tM_bestChoice) = true := by decide +kernel
theorem ck_tM_bestChoice : tM_bestChoice.2.2.2.2.2.all (am_okE tM_bestChoice) = true := am_allapp ck_tM_bestChoice_c0 (am_allapp ck_tM_bestChoice_c1 (ck_tM_bestChoice_c2))
set_option maxRecDepth 100000 in
theorem cm_tM_bestChoice : am_okM tM_bestChoice (896, 55, 894, 895, 0) = true := by decide +kernel
set_option maxRecDepth 100000 in
theorem ck_tM_choice : tM_choice.2.2.2.2.2.all (am_okE tM_choice) = true := by decide +kernel
set_option maxRecDepth 100000 in
theorem cm_tM_choice : am_okM tM_choice (900, 55, 898, 899, 0) = true := by decide +kernel
set_option maxRecDepth 100000 in
theorem ck_tM_paradoxes_c0 : tM_paradoxes_c0.all (am_okE tM_paradoxes) = true := by decide +kernel
set_option maxRecDepth 100000 in
theorem ck_tM_paradoxes_c1 : tM_paradoxes_c1.all (am_okE tM_paradoxes) = true := by decide +kernel
theorem ck_tM_paradoxes : tM_paradoxes.2.2.2.2.2.all (am_okE tM_paradoxes) = true := am_allapp ck_tM_paradoxes_c0 (ck_tM_paradoxes_c1)
set_option maxRecDepth 100000 in
theorem cm_tM_paradoxes : am_okM tM_paradoxes (904, 55, 902, 903, 0) = true := by decide +kernel
set_option maxRecDepth 100000 in
theorem ck_tM_loses : tM_loses.2.2.2.2.2.all (am_okE tM_loses) = true := by decide +kernel
set_option maxRecDepth 100000 in
theorem cm_tM_loses : am_okM tM_loses (908, 55, 907, 44, 0) = true := by decide +kernel
set_option maxRecDepth 100000 in
theorem ck_tM_after : tM_after.2.2.2.2.2.all (am_okE tM_after) = true := by decide +kernel
set_option maxRecDepth 100000 in
theorem cm_tM_after : am_okM tM_after (912, 55, 910, 911, 0) = true := by decide +kernel
set_option maxRecDepth 100000 in
theorem ck_tM_setPurses_c0 : tM_setPurses_c0.all (am_okE tM_setPurses) = true := by decide +kernel
set_option maxRecDepth 100000 in
theorem ck_tM_setPurses_c1 : tM_setPurses_c1.all (am_okE tM_setPurses) = true := by decide +kernel
theorem ck_tM_setPurses : tM_setPurses.2.2.2.2.2.all (am_okE tM_setPurses) = true := am_allapp ck_tM_setPurses_c0 (ck_tM_setPurses_c1)
set_option maxRecDepth 100000 in
theorem cm_tM_setPurses : am_okM tM_setPurses (916, 55, 915, 45, 0) = true := by decide +kernel
set_option maxRecDepth 100000 in
theorem ck_tM_restOf : tM_restOf.2.2.2.2.2.all (am_okE tM_restOf) = true := by decide +kernel
set_option maxRecDepth 100000 in
theorem cm_tM_restOf : am_okM tM_restOf (920, 55, 919, 46, 0) = true := by decide +kernel
set_option maxRecDepth 100000 in
theorem ck_tM_meanAfter : tM_meanAfter.2.2.2.2.2.all (am_okE tM_meanAfter) = true := by decide +kernel
set_option maxRecDepth 100000 in
theorem cm_tM_meanAfter : am_okM tM_meanAfter (924, 55, 922, 923, 0) = true := by decide +kernel
set_option maxRecDepth 100000 in
theorem ck_tM_ends_c0 : tM_ends_c0.all (am_okE tM_ends) = true := by decide +kernel
set_option maxRecDepth 100000 in
theorem ck_tM_ends_c1 : tM_ends_c1.all (am_okE tM_ends) = true := by decide +kernel
theorem ck_tM_ends : tM_ends.2.2.2.2.2.all (am_okE tM_ends) = true := am_allapp ck_tM_ends_c0 (ck_tM_ends_c1)
set_option maxRecDepth 100000 in
theorem cm_tM_ends : am_okM tM_ends (928, 55, 926, 927, 0) = true := by decide +kernel
set_option maxRecDepth 100000 in
theorem ck_tM_run_c0 : tM_run_c0.all (am_okE tM_run) = true := by decide +kernel
set_option maxRecDepth 100000 in
theorem ck_tM_run_c1 : tM_run_c1.all (am_okE tM_run) = true := by decide +kernel
theorem ck_tM_run : tM_run.2.2.2.2.2.all (am_okE tM_run) = true := am_allapp ck_tM_run_c0 (ck_tM_run_c1)
set_option maxRecDepth 100000 in
theorem cm_tM_run : am_okM tM_run (932, 55, 930, 931, 0) = true := by decide +kernel
set_option maxRecDepth 100000 in
theorem ck_tM_upper : tM_upper.2.2.2.2.2.all (am_okE tM_upper) = true := by decide +kernel
set_option maxRecDepth 100000 in
theorem cm_tM_upper : am_okM tM_upper (936, 55, 934, 935, 0) = true := by decide +kernel
set_option maxRecDepth 100000 in
theorem ck_tM_lower : tM_lower.2.2.2.2.2.all (am_okE tM_lower) = true := by decide +kernel
set_option maxRecDepth 100000 in
theorem cm_tM_lower : am_okM tM_lower (940, 55, 938, 939, 0) = true := by decide +kernel
set_option maxRecDepth 100000 in
theorem ck_tM_count_c0 : tM_count_c0.all (am_okE tM_count) = true := by decide +kernel
set_option maxRecDepth 100000 in
theorem ck_tM_count_c1 : tM_count_c1.all (am_okE tM_count) = true := by decide +kernel
theorem ck_tM_count : tM_count.2.2.2.2.2.all (am_okE tM_count) = true := am_allapp ck_tM_count_c0 (ck_tM_count_c1)
set_option maxRecDepth 100000 in
theorem cm_tM_count : am_okM tM_count (944, 55, 942, 943, 0) = true := by decide +kernel
set_option maxRecDepth 100000 in
theorem ck_tM_finding : tM_finding.2.2.2.2.2.all (am_okE tM_finding) = true := by decide +kernel
set_option maxRecDepth 100000 in
theorem cm_tM_finding : am_okM tM_finding (948, 55, 946, 947, 0) = true := by decide +kernel
set_option maxRecDepth 100000 in
theorem ck_tM_findings : tM_findings.2.2.2.2.2.all (am_okE tM_findings) = true := by decide +kernel
set_option maxRecDepth 100000 in
theorem cm_tM_findings : am_okM tM_findings (952, 55, 950, 951, 0) = true := by decide +kernel
set_option maxRecDepth 100000 in
theorem ck_tM_digest_c0 : tM_digest_c0.all (am_okE tM_digest) = true := by decide +kernel
set_option maxRecDepth 100000 in
theorem ck_tM_digest_c1 : tM_digest_c1.all (am_okE tM_digest) = true := by decide +kernel
