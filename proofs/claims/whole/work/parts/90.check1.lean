set_option maxRecDepth 100000 in
theorem cm_tT_tellGain : am_okM tT_tellGain (445, 48, 444, 11, 0) = true := by decide +kernel
set_option maxRecDepth 100000 in
theorem ck_tR_gainScale : tR_gainScale.2.2.2.2.2.all (am_okE tR_gainScale) = true := by decide +kernel
set_option maxRecDepth 100000 in
theorem cm_tR_gainScale : am_okM tR_gainScale (449, 53, 447, 448, 0) = true := by decide +kernel
set_option maxRecDepth 100000 in
theorem ck_tR_outcome : tR_outcome.2.2.2.2.2.all (am_okE tR_outcome) = true := by decide +kernel
set_option maxRecDepth 100000 in
theorem cm_tR_outcome : am_okM tR_outcome (453, 53, 451, 452, 0) = true := by decide +kernel
set_option maxRecDepth 100000 in
theorem ck_tT_lot : tT_lot.2.2.2.2.2.all (am_okE tT_lot) = true := by decide +kernel
set_option maxRecDepth 100000 in
theorem cm_tT_lot : am_okM tT_lot (457, 48, 455, 456, 0) = true := by decide +kernel
set_option maxRecDepth 100000 in
theorem ck_tT_roundOfLot : tT_roundOfLot.2.2.2.2.2.all (am_okE tT_roundOfLot) = true := by decide +kernel
set_option maxRecDepth 100000 in
theorem cm_tT_roundOfLot : am_okM tT_roundOfLot (461, 48, 460, 12, 0) = true := by decide +kernel
set_option maxRecDepth 100000 in
theorem ck_tT_middle : tT_middle.2.2.2.2.2.all (am_okE tT_middle) = true := by decide +kernel
set_option maxRecDepth 100000 in
theorem cm_tT_middle : am_okM tT_middle (465, 48, 463, 464, 0) = true := by decide +kernel
set_option maxRecDepth 100000 in
theorem ck_tT_bestRow : tT_bestRow.2.2.2.2.2.all (am_okE tT_bestRow) = true := by decide +kernel
set_option maxRecDepth 100000 in
theorem cm_tT_bestRow : am_okM tT_bestRow (469, 48, 467, 468, 0) = true := by decide +kernel
set_option maxRecDepth 100000 in
theorem ck_tT_tryRows : tT_tryRows.2.2.2.2.2.all (am_okE tT_tryRows) = true := by decide +kernel
set_option maxRecDepth 100000 in
theorem cm_tT_tryRows : am_okM tT_tryRows (473, 48, 472, 13, 0) = true := by decide +kernel
set_option maxRecDepth 100000 in
theorem ck_tB_offer : tB_offer.2.2.2.2.2.all (am_okE tB_offer) = true := by decide +kernel
set_option maxRecDepth 100000 in
theorem cm_tB_offer : am_okM tB_offer (477, 51, 475, 476, 0) = true := by decide +kernel
set_option maxRecDepth 100000 in
theorem ck_tB_isBelow : tB_isBelow.2.2.2.2.2.all (am_okE tB_isBelow) = true := by decide +kernel
set_option maxRecDepth 100000 in
theorem cm_tB_isBelow : am_okM tB_isBelow (482, 51, 481, 14, 0) = true := by decide +kernel
set_option maxRecDepth 100000 in
theorem ck_tJ_floorDiv : tJ_floorDiv.2.2.2.2.2.all (am_okE tJ_floorDiv) = true := by decide +kernel
set_option maxRecDepth 100000 in
theorem cm_tJ_floorDiv : am_okM tJ_floorDiv (485, 57, 484, 0, 1) = true := by decide +kernel
set_option maxRecDepth 100000 in
theorem ck_tT_tryRowsWith : tT_tryRowsWith.2.2.2.2.2.all (am_okE tT_tryRowsWith) = true := by decide +kernel
set_option maxRecDepth 100000 in
theorem cm_tT_tryRowsWith : am_okM tT_tryRowsWith (491, 48, 490, 15, 0) = true := by decide +kernel
set_option maxRecDepth 100000 in
theorem ck_tT_bestChoice : tT_bestChoice.2.2.2.2.2.all (am_okE tT_bestChoice) = true := by decide +kernel
set_option maxRecDepth 100000 in
theorem cm_tT_bestChoice : am_okM tT_bestChoice (495, 48, 493, 494, 0) = true := by decide +kernel
set_option maxRecDepth 100000 in
theorem ck_tT_tryChoices : tT_tryChoices.2.2.2.2.2.all (am_okE tT_tryChoices) = true := by decide +kernel
set_option maxRecDepth 100000 in
theorem cm_tT_tryChoices : am_okM tT_tryChoices (499, 48, 498, 16, 0) = true := by decide +kernel
set_option maxRecDepth 100000 in
theorem ck_tT_tryChoicesWith : tT_tryChoicesWith.2.2.2.2.2.all (am_okE tT_tryChoicesWith) = true := by decide +kernel
set_option maxRecDepth 100000 in
theorem cm_tT_tryChoicesWith : am_okM tT_tryChoicesWith (503, 48, 502, 17, 0) = true := by decide +kernel
set_option maxRecDepth 100000 in
theorem ck_tT_choice : tT_choice.2.2.2.2.2.all (am_okE tT_choice) = true := by decide +kernel
set_option maxRecDepth 100000 in
theorem cm_tT_choice : am_okM tT_choice (507, 48, 505, 506, 0) = true := by decide +kernel
set_option maxRecDepth 100000 in
theorem ck_tT_paradoxes : tT_paradoxes.2.2.2.2.2.all (am_okE tT_paradoxes) = true := by decide +kernel
set_option maxRecDepth 100000 in
theorem cm_tT_paradoxes : am_okM tT_paradoxes (511, 48, 509, 510, 0) = true := by decide +kernel
set_option maxRecDepth 100000 in
theorem ck_tT_losesAlone : tT_losesAlone.2.2.2.2.2.all (am_okE tT_losesAlone) = true := by decide +kernel
set_option maxRecDepth 100000 in
theorem cm_tT_losesAlone : am_okM tT_losesAlone (515, 48, 514, 18, 0) = true := by decide +kernel
set_option maxRecDepth 100000 in
theorem ck_tT_winByTurns : tT_winByTurns.2.2.2.2.2.all (am_okE tT_winByTurns) = true := by decide +kernel
set_option maxRecDepth 100000 in
theorem cm_tT_winByTurns : am_okM tT_winByTurns (519, 48, 518, 19, 0) = true := by decide +kernel
set_option maxRecDepth 100000 in
theorem ck_tT_after : tT_after.2.2.2.2.2.all (am_okE tT_after) = true := by decide +kernel
set_option maxRecDepth 100000 in
theorem cm_tT_after : am_okM tT_after (523, 48, 521, 522, 0) = true := by decide +kernel
set_option maxRecDepth 100000 in
theorem ck_tT_areTurns : tT_areTurns.2.2.2.2.2.all (am_okE tT_areTurns) = true := by decide +kernel
set_option maxRecDepth 100000 in
theorem cm_tT_areTurns : am_okM tT_areTurns (526, 48, 525, 0, 1) = true := by decide +kernel
set_option maxRecDepth 100000 in
theorem ck_tT_isFirstPurse : tT_isFirstPurse.2.2.2.2.2.all (am_okE tT_isFirstPurse) = true := by decide +kernel
set_option maxRecDepth 100000 in
theorem cm_tT_isFirstPurse : am_okM tT_isFirstPurse (529, 48, 528, 0, 1) = true := by decide +kernel
set_option maxRecDepth 100000 in
theorem ck_tT_isLaterPurse : tT_isLaterPurse.2.2.2.2.2.all (am_okE tT_isLaterPurse) = true := by decide +kernel
set_option maxRecDepth 100000 in
theorem cm_tT_isLaterPurse : am_okM tT_isLaterPurse (532, 48, 531, 0, 1) = true := by decide +kernel
set_option maxRecDepth 100000 in
theorem ck_tT_spread : tT_spread.2.2.2.2.2.all (am_okE tT_spread) = true := by decide +kernel
set_option maxRecDepth 100000 in
theorem cm_tT_spread : am_okM tT_spread (536, 48, 535, 20, 0) = true := by decide +kernel
set_option maxRecDepth 100000 in
theorem ck_tU_begin : tU_begin.2.2.2.2.2.all (am_okE tU_begin) = true := by decide +kernel
set_option maxRecDepth 100000 in
theorem cm_tU_begin : am_okM tU_begin (540, 52, 538, 539, 0) = true := by decide +kernel
set_option maxRecDepth 100000 in
theorem ck_tU_follow_c0 : tU_follow_c0.all (am_okE tU_follow) = true := by decide +kernel
set_option maxRecDepth 100000 in
theorem ck_tU_follow_c1 : tU_follow_c1.all (am_okE tU_follow) = true := by decide +kernel
theorem ck_tU_follow : tU_follow.2.2.2.2.2.all (am_okE tU_follow) = true := am_allapp ck_tU_follow_c0 (ck_tU_follow_c1)
set_option maxRecDepth 100000 in
theorem cm_tU_follow : am_okM tU_follow (545, 52, 543, 544, 0) = true := by decide +kernel
set_option maxRecDepth 100000 in
theorem ck_tJ_floorMod : tJ_floorMod.2.2.2.2.2.all (am_okE tJ_floorMod) = true := by decide +kernel
set_option maxRecDepth 100000 in
theorem cm_tJ_floorMod : am_okM tJ_floorMod (548, 57, 547, 0, 1) = true := by decide +kernel
set_option maxRecDepth 100000 in
theorem ck_tU_chanceOf : tU_chanceOf.2.2.2.2.2.all (am_okE tU_chanceOf) = true := by decide +kernel
set_option maxRecDepth 100000 in
theorem cm_tU_chanceOf : am_okM tU_chanceOf (553, 52, 551, 552, 0) = true := by decide +kernel
set_option maxRecDepth 100000 in
theorem ck_tT_meanAfter : tT_meanAfter.2.2.2.2.2.all (am_okE tT_meanAfter) = true := by decide +kernel
set_option maxRecDepth 100000 in
theorem cm_tT_meanAfter : am_okM tT_meanAfter (557, 48, 555, 556, 0) = true := by decide +kernel
set_option maxRecDepth 100000 in
theorem ck_tU_weighed : tU_weighed.2.2.2.2.2.all (am_okE tU_weighed) = true := by decide +kernel
set_option maxRecDepth 100000 in
theorem cm_tU_weighed : am_okM tU_weighed (561, 52, 559, 560, 0) = true := by decide +kernel
set_option maxRecDepth 100000 in
theorem ck_tT_ends_c0 : tT_ends_c0.all (am_okE tT_ends) = true := by decide +kernel
set_option maxRecDepth 100000 in
theorem ck_tT_ends_c1 : tT_ends_c1.all (am_okE tT_ends) = true := by decide +kernel
theorem ck_tT_ends : tT_ends.2.2.2.2.2.all (am_okE tT_ends) = true := am_allapp ck_tT_ends_c0 (ck_tT_ends_c1)
set_option maxRecDepth 100000 in
theorem cm_tT_ends : am_okM tT_ends (565, 48, 563, 564, 0) = true := by decide +kernel
set_option maxRecDepth 100000 in
theorem ck_tT_areEnds : tT_areEnds.2.2.2.2.2.all (am_okE tT_areEnds) = true := by decide +kernel
set_option maxRecDepth 100000 in
theorem cm_tT_areEnds : am_okM tT_areEnds (568, 48, 567, 0, 1) = true := by decide +kernel
set_option maxRecDepth 100000 in
theorem ck_tT_weightOfCut : tT_weightOfCut.2.2.2.2.2.all (am_okE tT_weightOfCut) = true := by decide +kernel
set_option maxRecDepth 100000 in
theorem cm_tT_weightOfCut : am_okM tT_weightOfCut (572, 48, 571, 21, 0) = true := by decide +kernel
set_option maxRecDepth 100000 in
theorem ck_tT_restOf : tT_restOf.2.2.2.2.2.all (am_okE tT_restOf) = true := by decide +kernel
set_option maxRecDepth 100000 in
theorem cm_tT_restOf : am_okM tT_restOf (576, 48, 575, 22, 0) = true := by decide +kernel
set_option maxRecDepth 100000 in
theorem ck_tT_run_c0 : tT_run_c0.all (am_okE tT_run) = true := by decide +kernel
set_option maxRecDepth 100000 in
theorem ck_tT_run_c1 : tT_run_c1.all (am_okE tT_run) = true := by decide +kernel
theorem ck_tT_run : tT_run.2.2.2.2.2.all (am_okE tT_run) = true := am_allapp ck_tT_run_c0 (ck_tT_run_c1)
set_option maxRecDepth 100000 in
theorem cm_tT_run : am_okM tT_run (581, 48, 579, 580, 0) = true := by decide +kernel
set_option maxRecDepth 100000 in
theorem ck_tT_upper : tT_upper.2.2.2.2.2.all (am_okE tT_upper) = true := by decide +kernel
set_option maxRecDepth 100000 in
theorem cm_tT_upper : am_okM tT_upper (586, 48, 584, 585, 0) = true := by decide +kernel
set_option maxRecDepth 100000 in
theorem ck_tT_lower : tT_lower.2.2.2.2.2.all (am_okE tT_lower) = true := by decide +kernel
set_option maxRecDepth 100000 in
theorem cm_tT_lower : am_okM tT_lower (590, 48, 588, 589, 0) = true := by decide +kernel
set_option maxRecDepth 100000 in
theorem ck_tT_count : tT_count.2.2.2.2.2.all (am_okE tT_count) = true := by decide +kernel
set_option maxRecDepth 100000 in
theorem cm_tT_count : am_okM tT_count (594, 48, 592, 593, 0) = true := by decide +kernel
set_option maxRecDepth 100000 in
theorem ck_tT_echoCount : tT_echoCount.2.2.2.2.2.all (am_okE tT_echoCount) = true := by decide +kernel
set_option maxRecDepth 100000 in
theorem cm_tT_echoCount : am_okM tT_echoCount (598, 48, 597, 23, 0) = true := by decide +kernel
set_option maxRecDepth 100000 in
theorem ck_tT_rowsThere : tT_rowsThere.2.2.2.2.2.all (am_okE tT_rowsThere) = true := by decide +kernel
set_option maxRecDepth 100000 in
theorem cm_tT_rowsThere : am_okM tT_rowsThere (602, 48, 601, 24, 0) = true := by decide +kernel
set_option maxRecDepth 100000 in
theorem ck_tT_finding : tT_finding.2.2.2.2.2.all (am_okE tT_finding) = true := by decide +kernel
set_option maxRecDepth 100000 in
theorem cm_tT_finding : am_okM tT_finding (606, 48, 604, 605, 0) = true := by decide +kernel
set_option maxRecDepth 100000 in
theorem ck_tT_findings : tT_findings.2.2.2.2.2.all (am_okE tT_findings) = true := by decide +kernel
set_option maxRecDepth 100000 in
theorem cm_tT_findings : am_okM tT_findings (610, 48, 608, 609, 0) = true := by decide +kernel
set_option maxRecDepth 100000 in
theorem ck_tT_digest : tT_digest.2.2.2.2.2.all (am_okE tT_digest) = true := by decide +kernel
set_option maxRecDepth 100000 in
theorem cm_tT_digest : am_okM tT_digest (614, 48, 612, 613, 0) = true := by decide +kernel
set_option maxRecDepth 100000 in
theorem ck_tP_digestedInto : tP_digestedInto.2.2.2.2.2.all (am_okE tP_digestedInto) = true := by decide +kernel
set_option maxRecDepth 100000 in
theorem cm_tP_digestedInto : am_okM tP_digestedInto (619, 56, 617, 618, 0) = true := by decide +kernel
set_option maxRecDepth 100000 in
theorem ck_tW_digestedInto : tW_digestedInto.2.2.2.2.2.all (am_okE tW_digestedInto) = true := by decide +kernel
set_option maxRecDepth 100000 in
theorem cm_tW_digestedInto : am_okM tW_digestedInto (626, 50, 624, 625, 0) = true := by decide +kernel
set_option maxRecDepth 100000 in
theorem ck_tM_init_c0 : tM_init_c0.all (am_okE tM_init) = true := by decide +kernel
