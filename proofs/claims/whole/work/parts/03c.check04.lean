set_option maxRecDepth 100000 in
theorem zq_e95 : (zq_c95.all (zq_ek zq_m95) && zq_ch zq_c95) = true := by decide +kernel
set_option maxRecDepth 100000 in
theorem zq_q95 : zq_mc zq_m95 = true := by decide +kernel
set_option maxRecDepth 100000 in
theorem zq_e96 : (zq_c96.all (zq_ek zq_m96) && zq_ch zq_c96) = true := by decide +kernel
set_option maxRecDepth 100000 in
theorem zq_q96 : zq_mc zq_m96 = true := by decide +kernel
set_option maxRecDepth 100000 in
theorem zq_e97 : (zq_c97.all (zq_ek zq_m97) && zq_ch zq_c97) = true := by decide +kernel
set_option maxRecDepth 100000 in
theorem zq_q97 : zq_mc zq_m97 = true := by decide +kernel
set_option maxRecDepth 100000 in
theorem zq_e98 : (zq_c98.all (zq_ek zq_m98) && zq_ch zq_c98) = true := by decide +kernel
set_option maxRecDepth 100000 in
theorem zq_q98 : zq_mc zq_m98 = true := by decide +kernel
set_option maxRecDepth 100000 in
theorem zq_e99 : (zq_c99.all (zq_ek zq_m99) && zq_ch zq_c99) = true := by decide +kernel
set_option maxRecDepth 100000 in
theorem zq_q99 : zq_mc zq_m99 = true := by decide +kernel
set_option maxRecDepth 100000 in
theorem zq_e100 : (zq_c100.all (zq_ek zq_m100) && zq_ch zq_c100) = true := by decide +kernel
set_option maxRecDepth 100000 in
theorem zq_q100 : zq_mc zq_m100 = true := by decide +kernel
set_option maxRecDepth 100000 in
theorem zq_e101 : (zq_c101.all (zq_ek zq_m101) && zq_ch zq_c101) = true := by decide +kernel
set_option maxRecDepth 100000 in
theorem zq_q101 : zq_mc zq_m101 = true := by decide +kernel
set_option maxRecDepth 100000 in
theorem zq_e102 : (zq_c102.all (zq_ek zq_m102) && zq_ch zq_c102) = true := by decide +kernel
set_option maxRecDepth 100000 in
theorem zq_q102 : zq_mc zq_m102 = true := by decide +kernel
set_option maxRecDepth 100000 in
theorem zq_e103 : (zq_c103.all (zq_ek zq_m103) && zq_ch zq_c103) = true := by decide +kernel
set_option maxRecDepth 100000 in
theorem zq_q103 : zq_mc zq_m103 = true := by decide +kernel
set_option maxRecDepth 100000 in
theorem zq_e104 : (zq_c104.all (zq_ek zq_m104) && zq_ch zq_c104) = true := by decide +kernel
set_option maxRecDepth 100000 in
theorem zq_q104 : zq_mc zq_m104 = true := by decide +kernel
set_option maxRecDepth 100000 in
theorem zq_e105 : (zq_c105.all (zq_ek zq_m105) && zq_ch zq_c105) = true := by decide +kernel
set_option maxRecDepth 100000 in
theorem zq_q105 : zq_mc zq_m105 = true := by decide +kernel
set_option maxRecDepth 100000 in
theorem zq_e106 : (zq_c106.all (zq_ek zq_m106) && zq_ch zq_c106) = true := by decide +kernel
set_option maxRecDepth 100000 in
theorem zq_q106 : zq_mc zq_m106 = true := by decide +kernel
set_option maxRecDepth 100000 in
theorem zq_e107 : (zq_c107.all (zq_ek zq_m107) && zq_ch zq_c107) = true := by decide +kernel
set_option maxRecDepth 100000 in
theorem zq_q107 : zq_mc zq_m107 = true := by decide +kernel
set_option maxRecDepth 100000 in
theorem zq_e108 : (zq_c108.all (zq_ek zq_m108) && zq_ch zq_c108) = true := by decide +kernel
set_option maxRecDepth 100000 in
theorem zq_q108 : zq_mc zq_m108 = true := by decide +kernel
set_option maxRecDepth 100000 in
theorem zq_e109 : (zq_c109.all (zq_ek zq_m109) && zq_ch zq_c109) = true := by decide +kernel
set_option maxRecDepth 100000 in
theorem zq_q109 : zq_mc zq_m109 = true := by decide +kernel
set_option maxRecDepth 100000 in
theorem zq_e110 : (zq_c110.all (zq_ek zq_m110) && zq_ch zq_c110) = true := by decide +kernel
set_option maxRecDepth 100000 in
theorem zq_q110 : zq_mc zq_m110 = true := by decide +kernel
set_option maxRecDepth 100000 in
theorem zq_e111 : (zq_c111.all (zq_ek zq_m111) && zq_ch zq_c111) = true := by decide +kernel
set_option maxRecDepth 100000 in
theorem zq_q111 : zq_mc zq_m111 = true := by decide +kernel
set_option maxRecDepth 100000 in
theorem zq_e112 : (zq_c112.all (zq_ek zq_m112) && zq_ch zq_c112) = true := by decide +kernel
set_option maxRecDepth 100000 in
theorem zq_q112 : zq_mc zq_m112 = true := by decide +kernel
set_option maxRecDepth 100000 in
theorem zq_e113 : (zq_c113.all (zq_ek zq_m113) && zq_ch zq_c113) = true := by decide +kernel
set_option maxRecDepth 100000 in
theorem zq_q113 : zq_mc zq_m113 = true := by decide +kernel
set_option maxRecDepth 100000 in
theorem zq_e114 : (zq_c114.all (zq_ek zq_m114) && zq_ch zq_c114) = true := by decide +kernel
set_option maxRecDepth 100000 in
theorem zq_q114 : zq_mc zq_m114 = true := by decide +kernel
set_option maxRecDepth 100000 in
theorem zq_e115 : (zq_c115.all (zq_ek zq_m115) && zq_ch zq_c115) = true := by decide +kernel
set_option maxRecDepth 100000 in
theorem zq_q115 : zq_mc zq_m115 = true := by decide +kernel
set_option maxRecDepth 100000 in
theorem zq_e116 : (zq_c116.all (zq_ek zq_m116) && zq_ch zq_c116) = true := by decide +kernel
set_option maxRecDepth 100000 in
theorem zq_q116 : zq_mc zq_m116 = true := by decide +kernel
