set_option maxRecDepth 100000 in
theorem zq_e43 : (zq_c43.all (zq_ek zq_m43) && zq_ch zq_c43) = true := by decide +kernel
set_option maxRecDepth 100000 in
theorem zq_q43 : zq_mc zq_m43 = true := by decide +kernel
set_option maxRecDepth 100000 in
theorem zq_e44 : (zq_c44.all (zq_ek zq_m44) && zq_ch zq_c44) = true := by decide +kernel
set_option maxRecDepth 100000 in
theorem zq_q44 : zq_mc zq_m44 = true := by decide +kernel
set_option maxRecDepth 100000 in
theorem zq_e45 : (zq_c45.all (zq_ek zq_m45) && zq_ch zq_c45) = true := by decide +kernel
set_option maxRecDepth 100000 in
theorem zq_q45 : zq_mc zq_m45 = true := by decide +kernel
set_option maxRecDepth 100000 in
theorem zq_e46 : (zq_c46.all (zq_ek zq_m46) && zq_ch zq_c46) = true := by decide +kernel
set_option maxRecDepth 100000 in
theorem zq_q46 : zq_mc zq_m46 = true := by decide +kernel
set_option maxRecDepth 100000 in
theorem zq_e47 : (zq_c47.all (zq_ek zq_m47) && zq_ch zq_c47) = true := by decide +kernel
set_option maxRecDepth 100000 in
theorem zq_q47 : zq_mc zq_m47 = true := by decide +kernel
set_option maxRecDepth 100000 in
theorem zq_e48 : (zq_c48.all (zq_ek zq_m48) && zq_ch zq_c48) = true := by decide +kernel
set_option maxRecDepth 100000 in
theorem zq_q48 : zq_mc zq_m48 = true := by decide +kernel
set_option maxRecDepth 100000 in
theorem zq_e49 : (zq_c49.all (zq_ek zq_m49) && zq_ch zq_c49) = true := by decide +kernel
set_option maxRecDepth 100000 in
theorem zq_q49 : zq_mc zq_m49 = true := by decide +kernel
set_option maxRecDepth 100000 in
theorem zq_e50 : (zq_c50.all (zq_ek zq_m50) && zq_ch zq_c50) = true := by decide +kernel
set_option maxRecDepth 100000 in
theorem zq_q50 : zq_mc zq_m50 = true := by decide +kernel
set_option maxRecDepth 100000 in
theorem zq_e51 : (zq_c51.all (zq_ek zq_m51) && zq_ch zq_c51) = true := by decide +kernel
set_option maxRecDepth 100000 in
theorem zq_q51 : zq_mc zq_m51 = true := by decide +kernel
set_option maxRecDepth 100000 in
theorem zq_e52 : (zq_c52.all (zq_ek zq_m52) && zq_ch zq_c52) = true := by decide +kernel
set_option maxRecDepth 100000 in
theorem zq_q52 : zq_mc zq_m52 = true := by decide +kernel
set_option maxRecDepth 100000 in
theorem zq_e53 : (zq_c53.all (zq_ek zq_m53) && zq_ch zq_c53) = true := by decide +kernel
set_option maxRecDepth 100000 in
theorem zq_q53 : zq_mc zq_m53 = true := by decide +kernel
set_option maxRecDepth 100000 in
theorem zq_e54 : (zq_c54.all (zq_ek zq_m54) && zq_ch zq_c54) = true := by decide +kernel
set_option maxRecDepth 100000 in
theorem zq_q54 : zq_mc zq_m54 = true := by decide +kernel
set_option maxRecDepth 100000 in
theorem zq_e55 : (zq_c55.all (zq_ek zq_m55) && zq_ch zq_c55) = true := by decide +kernel
set_option maxRecDepth 100000 in
theorem zq_q55 : zq_mc zq_m55 = true := by decide +kernel
set_option maxRecDepth 100000 in
theorem zq_e56 : (zq_c56.all (zq_ek zq_m56) && zq_ch zq_c56) = true := by decide +kernel
set_option maxRecDepth 100000 in
theorem zq_q56 : zq_mc zq_m56 = true := by decide +kernel
set_option maxRecDepth 100000 in
theorem zq_e57 : (zq_c57.all (zq_ek zq_m57) && zq_ch zq_c57) = true := by decide +kernel
set_option maxRecDepth 100000 in
theorem zq_q57 : zq_mc zq_m57 = true := by decide +kernel
set_option maxRecDepth 100000 in
theorem zq_e58 : (zq_c58.all (zq_ek zq_m58) && zq_ch zq_c58) = true := by decide +kernel
set_option maxRecDepth 100000 in
theorem zq_q58 : zq_mc zq_m58 = true := by decide +kernel
set_option maxRecDepth 100000 in
theorem zq_e59 : (zq_c59.all (zq_ek zq_m59) && zq_ch zq_c59) = true := by decide +kernel
set_option maxRecDepth 100000 in
theorem zq_q59 : zq_mc zq_m59 = true := by decide +kernel
set_option maxRecDepth 100000 in
theorem zq_e60 : (zq_c60.all (zq_ek zq_m60) && zq_ch zq_c60) = true := by decide +kernel
set_option maxRecDepth 100000 in
theorem zq_q60 : zq_mc zq_m60 = true := by decide +kernel
set_option maxRecDepth 100000 in
theorem zq_e61 : (zq_c61.all (zq_ek zq_m61) && zq_ch zq_c61) = true := by decide +kernel
set_option maxRecDepth 100000 in
theorem zq_q61 : zq_mc zq_m61 = true := by decide +kernel
set_option maxRecDepth 100000 in
theorem zq_e62 : (zq_c62.all (zq_ek zq_m62) && zq_ch zq_c62) = true := by decide +kernel
set_option maxRecDepth 100000 in
theorem zq_q62 : zq_mc zq_m62 = true := by decide +kernel
set_option maxRecDepth 100000 in
theorem zq_e63 : (zq_c63.all (zq_ek zq_m63) && zq_ch zq_c63) = true := by decide +kernel
set_option maxRecDepth 100000 in
theorem zq_q63 : zq_mc zq_m63 = true := by decide +kernel
set_option maxRecDepth 100000 in
theorem zq_e64 : (zq_c64.all (zq_ek zq_m64) && zq_ch zq_c64) = true := by decide +kernel
set_option maxRecDepth 100000 in
theorem zq_q64 : zq_mc zq_m64 = true := by decide +kernel
set_option maxRecDepth 100000 in
theorem zq_e65 : (zq_c65.all (zq_ek zq_m65) && zq_ch zq_c65) = true := by decide +kernel
set_option maxRecDepth 100000 in
theorem zq_q65 : zq_mc zq_m65 = true := by decide +kernel
set_option maxRecDepth 100000 in
theorem zq_e66 : (zq_c66.all (zq_ek zq_m66) && zq_ch zq_c66) = true := by decide +kernel
set_option maxRecDepth 100000 in
theorem zq_q66 : zq_mc zq_m66 = true := by decide +kernel
set_option maxRecDepth 100000 in
theorem zq_e67 : (zq_c67.all (zq_ek zq_m67) && zq_ch zq_c67) = true := by decide +kernel
set_option maxRecDepth 100000 in
theorem zq_q67 : zq_mc zq_m67 = true := by decide +kernel
set_option maxRecDepth 100000 in
theorem zq_e68 : (zq_c68.all (zq_ek zq_m68) && zq_ch zq_c68) = true := by decide +kernel
set_option maxRecDepth 100000 in
theorem zq_q68 : zq_mc zq_m68 = true := by decide +kernel
set_option maxRecDepth 100000 in
theorem zq_e69 : (zq_c69.all (zq_ek zq_m69) && zq_ch zq_c69) = true := by decide +kernel
set_option maxRecDepth 100000 in
theorem zq_q69 : zq_mc zq_m69 = true := by decide +kernel
set_option maxRecDepth 100000 in
theorem zq_e70 : (zq_c70.all (zq_ek zq_m70) && zq_ch zq_c70) = true := by decide +kernel
set_option maxRecDepth 100000 in
theorem zq_q70 : zq_mc zq_m70 = true := by decide +kernel
set_option maxRecDepth 100000 in
theorem zq_e71 : (zq_c71.all (zq_ek zq_m71) && zq_ch zq_c71) = true := by decide +kernel
set_option maxRecDepth 100000 in
theorem zq_q71 : zq_mc zq_m71 = true := by decide +kernel
