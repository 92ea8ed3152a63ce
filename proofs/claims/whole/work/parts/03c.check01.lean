set_option maxRecDepth 100000 in
theorem zq_e23 : (zq_c23.all (zq_ek zq_m23) && zq_ch zq_c23) = true := by decide +kernel
set_option maxRecDepth 100000 in
theorem zq_q23 : zq_mc zq_m23 = true := by decide +kernel
set_option maxRecDepth 100000 in
theorem zq_e24 : (zq_c24.all (zq_ek zq_m24) && zq_ch zq_c24) = true := by decide +kernel
set_option maxRecDepth 100000 in
theorem zq_q24 : zq_mc zq_m24 = true := by decide +kernel
set_option maxRecDepth 100000 in
theorem zq_e25 : (zq_c25.all (zq_ek zq_m25) && zq_ch zq_c25) = true := by decide +kernel
set_option maxRecDepth 100000 in
theorem zq_q25 : zq_mc zq_m25 = true := by decide +kernel
set_option maxRecDepth 100000 in
theorem zq_e26 : (zq_c26.all (zq_ek zq_m26) && zq_ch zq_c26) = true := by decide +kernel
set_option maxRecDepth 100000 in
theorem zq_q26 : zq_mc zq_m26 = true := by decide +kernel
set_option maxRecDepth 100000 in
theorem zq_e27 : (zq_c27.all (zq_ek zq_m27) && zq_ch zq_c27) = true := by decide +kernel
set_option maxRecDepth 100000 in
theorem zq_q27 : zq_mc zq_m27 = true := by decide +kernel
set_option maxRecDepth 100000 in
theorem zq_e28 : (zq_c28.all (zq_ek zq_m28) && zq_ch zq_c28) = true := by decide +kernel
set_option maxRecDepth 100000 in
theorem zq_q28 : zq_mc zq_m28 = true := by decide +kernel
set_option maxRecDepth 100000 in
theorem zq_e29 : (zq_c29.all (zq_ek zq_m29) && zq_ch zq_c29) = true := by decide +kernel
set_option maxRecDepth 100000 in
theorem zq_q29 : zq_mc zq_m29 = true := by decide +kernel
set_option maxRecDepth 100000 in
theorem zq_e30 : (zq_c30.all (zq_ek zq_m30) && zq_ch zq_c30) = true := by decide +kernel
set_option maxRecDepth 100000 in
theorem zq_q30 : zq_mc zq_m30 = true := by decide +kernel
set_option maxRecDepth 100000 in
theorem zq_e31 : (zq_c31.all (zq_ek zq_m31) && zq_ch zq_c31) = true := by decide +kernel
set_option maxRecDepth 100000 in
theorem zq_q31 : zq_mc zq_m31 = true := by decide +kernel
set_option maxRecDepth 100000 in
theorem zq_e32 : (zq_c32.all (zq_ek zq_m32) && zq_ch zq_c32) = true := by decide +kernel
set_option maxRecDepth 100000 in
theorem zq_q32 : zq_mc zq_m32 = true := by decide +kernel
set_option maxRecDepth 100000 in
theorem zq_e33 : (zq_c33.all (zq_ek zq_m33) && zq_ch zq_c33) = true := by decide +kernel
set_option maxRecDepth 100000 in
theorem zq_q33 : zq_mc zq_m33 = true := by decide +kernel
set_option maxRecDepth 100000 in
theorem zq_e34 : (zq_c34.all (zq_ek zq_m34) && zq_ch zq_c34) = true := by decide +kernel
set_option maxRecDepth 100000 in
theorem zq_q34 : zq_mc zq_m34 = true := by decide +kernel
set_option maxRecDepth 100000 in
theorem zq_e35 : (zq_c35.all (zq_ek zq_m35) && zq_ch zq_c35) = true := by decide +kernel
set_option maxRecDepth 100000 in
theorem zq_q35 : zq_mc zq_m35 = true := by decide +kernel
set_option maxRecDepth 100000 in
theorem zq_e36 : (zq_c36.all (zq_ek zq_m36) && zq_ch zq_c36) = true := by decide +kernel
set_option maxRecDepth 100000 in
theorem zq_q36 : zq_mc zq_m36 = true := by decide +kernel
set_option maxRecDepth 100000 in
theorem zq_e37 : (zq_c37.all (zq_ek zq_m37) && zq_ch zq_c37) = true := by decide +kernel
set_option maxRecDepth 100000 in
theorem zq_q37 : zq_mc zq_m37 = true := by decide +kernel
set_option maxRecDepth 100000 in
theorem zq_e38 : (zq_c38.all (zq_ek zq_m38) && zq_ch zq_c38) = true := by decide +kernel
set_option maxRecDepth 100000 in
theorem zq_q38 : zq_mc zq_m38 = true := by decide +kernel
set_option maxRecDepth 100000 in
theorem zq_e39 : (zq_c39.all (zq_ek zq_m39) && zq_ch zq_c39) = true := by decide +kernel
set_option maxRecDepth 100000 in
theorem zq_q39 : zq_mc zq_m39 = true := by decide +kernel
set_option maxRecDepth 100000 in
theorem zq_e40 : (zq_c40.all (zq_ek zq_m40) && zq_ch zq_c40) = true := by decide +kernel
set_option maxRecDepth 100000 in
theorem zq_q40 : zq_mc zq_m40 = true := by decide +kernel
set_option maxRecDepth 100000 in
theorem zq_e41 : (zq_c41.all (zq_ek zq_m41) && zq_ch zq_c41) = true := by decide +kernel
set_option maxRecDepth 100000 in
theorem zq_q41 : zq_mc zq_m41 = true := by decide +kernel
set_option maxRecDepth 100000 in
theorem zq_e42 : (zq_c42.all (zq_ek zq_m42) && zq_ch zq_c42) = true := by decide +kernel
set_option maxRecDepth 100000 in
theorem zq_q42 : zq_mc zq_m42 = true := by decide +kernel
