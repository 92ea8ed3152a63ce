set_option maxRecDepth 100000 in
theorem zq_e0 : (zq_c0.all (zq_ek zq_m0) && zq_ch zq_c0) = true := by decide +kernel
set_option maxRecDepth 100000 in
theorem zq_q0 : zq_mc zq_m0 = true := by decide +kernel
set_option maxRecDepth 100000 in
theorem zq_e1 : (zq_c1.all (zq_ek zq_m1) && zq_ch zq_c1) = true := by decide +kernel
set_option maxRecDepth 100000 in
theorem zq_q1 : zq_mc zq_m1 = true := by decide +kernel
set_option maxRecDepth 100000 in
theorem zq_e2 : (zq_c2.all (zq_ek zq_m2) && zq_ch zq_c2) = true := by decide +kernel
set_option maxRecDepth 100000 in
theorem zq_q2 : zq_mc zq_m2 = true := by decide +kernel
set_option maxRecDepth 100000 in
theorem zq_e3 : (zq_c3.all (zq_ek zq_m3) && zq_ch zq_c3) = true := by decide +kernel
set_option maxRecDepth 100000 in
theorem zq_q3 : zq_mc zq_m3 = true := by decide +kernel
set_option maxRecDepth 100000 in
theorem zq_e4 : (zq_c4.all (zq_ek zq_m4) && zq_ch zq_c4) = true := by decide +kernel
set_option maxRecDepth 100000 in
theorem zq_q4 : zq_mc zq_m4 = true := by decide +kernel
set_option maxRecDepth 100000 in
theorem zq_e5 : (zq_c5.all (zq_ek zq_m5) && zq_ch zq_c5) = true := by decide +kernel
set_option maxRecDepth 100000 in
theorem zq_q5 : zq_mc zq_m5 = true := by decide +kernel
set_option maxRecDepth 100000 in
theorem zq_e6 : (zq_c6.all (zq_ek zq_m6) && zq_ch zq_c6) = true := by decide +kernel
set_option maxRecDepth 100000 in
theorem zq_q6 : zq_mc zq_m6 = true := by decide +kernel
set_option maxRecDepth 100000 in
theorem zq_e7 : (zq_c7.all (zq_ek zq_m7) && zq_ch zq_c7) = true := by decide +kernel
set_option maxRecDepth 100000 in
theorem zq_q7 : zq_mc zq_m7 = true := by decide +kernel
set_option maxRecDepth 100000 in
theorem zq_e8 : (zq_c8.all (zq_ek zq_m8) && zq_ch zq_c8) = true := by decide +kernel
set_option maxRecDepth 100000 in
theorem zq_q8 : zq_mc zq_m8 = true := by decide +kernel
set_option maxRecDepth 100000 in
theorem zq_e9 : (zq_c9.all (zq_ek zq_m9) && zq_ch zq_c9) = true := by decide +kernel
set_option maxRecDepth 100000 in
theorem zq_q9 : zq_mc zq_m9 = true := by decide +kernel
set_option maxRecDepth 100000 in
theorem zq_e10 : (zq_c10.all (zq_ek zq_m10) && zq_ch zq_c10) = true := by decide +kernel
set_option maxRecDepth 100000 in
theorem zq_q10 : zq_mc zq_m10 = true := by decide +kernel
set_option maxRecDepth 100000 in
theorem zq_e11 : (zq_c11.all (zq_ek zq_m11) && zq_ch zq_c11) = true := by decide +kernel
set_option maxRecDepth 100000 in
theorem zq_q11 : zq_mc zq_m11 = true := by decide +kernel
set_option maxRecDepth 100000 in
theorem zq_e12 : (zq_c12.all (zq_ek zq_m12) && zq_ch zq_c12) = true := by decide +kernel
set_option maxRecDepth 100000 in
theorem zq_q12 : zq_mc zq_m12 = true := by decide +kernel
set_option maxRecDepth 100000 in
theorem zq_e13 : (zq_c13.all (zq_ek zq_m13) && zq_ch zq_c13) = true := by decide +kernel
set_option maxRecDepth 100000 in
theorem zq_q13 : zq_mc zq_m13 = true := by decide +kernel
set_option maxRecDepth 100000 in
theorem zq_e14 : (zq_c14.all (zq_ek zq_m14) && zq_ch zq_c14) = true := by decide +kernel
set_option maxRecDepth 100000 in
theorem zq_q14 : zq_mc zq_m14 = true := by decide +kernel
set_option maxRecDepth 100000 in
theorem zq_e15 : (zq_c15.all (zq_ek zq_m15) && zq_ch zq_c15) = true := by decide +kernel
set_option maxRecDepth 100000 in
theorem zq_q15 : zq_mc zq_m15 = true := by decide +kernel
set_option maxRecDepth 100000 in
theorem zq_e16 : (zq_c16.all (zq_ek zq_m16) && zq_ch zq_c16) = true := by decide +kernel
set_option maxRecDepth 100000 in
theorem zq_q16 : zq_mc zq_m16 = true := by decide +kernel
set_option maxRecDepth 100000 in
theorem zq_e17 : (zq_c17.all (zq_ek zq_m17) && zq_ch zq_c17) = true := by decide +kernel
set_option maxRecDepth 100000 in
theorem zq_q17 : zq_mc zq_m17 = true := by decide +kernel
set_option maxRecDepth 100000 in
theorem zq_e18 : (zq_c18.all (zq_ek zq_m18) && zq_ch zq_c18) = true := by decide +kernel
set_option maxRecDepth 100000 in
theorem zq_q18 : zq_mc zq_m18 = true := by decide +kernel
set_option maxRecDepth 100000 in
theorem zq_e19 : (zq_c19.all (zq_ek zq_m19) && zq_ch zq_c19) = true := by decide +kernel
set_option maxRecDepth 100000 in
theorem zq_q19 : zq_mc zq_m19 = true := by decide +kernel
set_option maxRecDepth 100000 in
theorem zq_e20 : (zq_c20.all (zq_ek zq_m20) && zq_ch zq_c20) = true := by decide +kernel
set_option maxRecDepth 100000 in
theorem zq_q20 : zq_mc zq_m20 = true := by decide +kernel
set_option maxRecDepth 100000 in
theorem zq_e21 : (zq_c21.all (zq_ek zq_m21) && zq_ch zq_c21) = true := by decide +kernel
set_option maxRecDepth 100000 in
theorem zq_q21 : zq_mc zq_m21 = true := by decide +kernel
set_option maxRecDepth 100000 in
theorem zq_e22 : (zq_c22.all (zq_ek zq_m22) && zq_ch zq_c22) = true := by decide +kernel
set_option maxRecDepth 100000 in
theorem zq_q22 : zq_mc zq_m22 = true := by decide +kernel
