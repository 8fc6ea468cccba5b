theorem ck_tM_digest : tM_digest.2.2.2.2.2.all (am_okE tM_digest) = true := am_allapp ck_tM_digest_c0 (ck_tM_digest_c1)
set_option maxRecDepth 100000 in
theorem cm_tM_digest : am_okM tM_digest (956, 55, 954, 955, 0) = true := by decide +kernel
set_option maxRecDepth 100000 in
theorem ck_tL_law_c0 : tL_law_c0.all (am_okE tL_law) = true := by decide +kernel
set_option maxRecDepth 100000 in
theorem ck_tL_law_c1 : tL_law_c1.all (am_okE tL_law) = true := by decide +kernel
set_option maxRecDepth 100000 in
theorem ck_tL_law_c2 : tL_law_c2.all (am_okE tL_law) = true := by decide +kernel
set_option maxRecDepth 100000 in
theorem ck_tL_law_c3 : tL_law_c3.all (am_okE tL_law) = true := by decide +kernel
set_option maxRecDepth 100000 in
theorem ck_tL_law_c4 : tL_law_c4.all (am_okE tL_law) = true := by decide +kernel
set_option maxRecDepth 100000 in
theorem ck_tL_law_c5 : tL_law_c5.all (am_okE tL_law) = true := by decide +kernel
set_option maxRecDepth 100000 in
theorem ck_tL_law_c6 : tL_law_c6.all (am_okE tL_law) = true := by decide +kernel
set_option maxRecDepth 100000 in
theorem ck_tL_law_c7 : tL_law_c7.all (am_okE tL_law) = true := by decide +kernel
set_option maxRecDepth 100000 in
theorem ck_tL_law_c8 : tL_law_c8.all (am_okE tL_law) = true := by decide +kernel
set_option maxRecDepth 100000 in
theorem ck_tL_law_c9 : tL_law_c9.all (am_okE tL_law) = true := by decide +kernel
set_option maxRecDepth 100000 in
theorem ck_tL_law_c10 : tL_law_c10.all (am_okE tL_law) = true := by decide +kernel
set_option maxRecDepth 100000 in
theorem ck_tL_law_c11 : tL_law_c11.all (am_okE tL_law) = true := by decide +kernel
set_option maxRecDepth 100000 in
theorem ck_tL_law_c12 : tL_law_c12.all (am_okE tL_law) = true := by decide +kernel
set_option maxRecDepth 100000 in
theorem ck_tL_law_c13 : tL_law_c13.all (am_okE tL_law) = true := by decide +kernel
set_option maxRecDepth 100000 in
theorem ck_tL_law_c14 : tL_law_c14.all (am_okE tL_law) = true := by decide +kernel
theorem ck_tL_law : tL_law.2.2.2.2.2.all (am_okE tL_law) = true := am_allapp ck_tL_law_c0 (am_allapp ck_tL_law_c1 (am_allapp ck_tL_law_c2 (am_allapp ck_tL_law_c3 (am_allapp ck_tL_law_c4 (am_allapp ck_tL_law_c5 (am_allapp ck_tL_law_c6 (am_allapp ck_tL_law_c7 (am_allapp ck_tL_law_c8 (am_allapp ck_tL_law_c9 (am_allapp ck_tL_law_c10 (am_allapp ck_tL_law_c11 (am_allapp ck_tL_law_c12 (am_allapp ck_tL_law_c13 (ck_tL_law_c14))))))))))))))
