set_option maxRecDepth 100000 in
theorem zq_e117 : (zq_c117.all (zq_ek zq_m117) && zq_ch zq_c117) = true := by decide +kernel
set_option maxRecDepth 100000 in
theorem zq_q117 : zq_mc zq_m117 = true := by decide +kernel
set_option maxRecDepth 100000 in
theorem zq_e118 : (zq_c118.all (zq_ek zq_m118) && zq_ch zq_c118) = true := by decide +kernel
set_option maxRecDepth 100000 in
theorem zq_q118 : zq_mc zq_m118 = true := by decide +kernel
set_option maxRecDepth 100000 in
theorem zq_e119 : (zq_c119.all (zq_ek zq_m119) && zq_ch zq_c119) = true := by decide +kernel
set_option maxRecDepth 100000 in
theorem zq_q119 : zq_mc zq_m119 = true := by decide +kernel
set_option maxRecDepth 100000 in
theorem zq_e120 : (zq_c120.all (zq_ek zq_m120) && zq_ch zq_c120) = true := by decide +kernel
set_option maxRecDepth 100000 in
theorem zq_q120 : zq_mc zq_m120 = true := by decide +kernel
set_option maxRecDepth 100000 in
theorem zq_e121 : (zq_c121.all (zq_ek zq_m121) && zq_ch zq_c121) = true := by decide +kernel
set_option maxRecDepth 100000 in
theorem zq_q121 : zq_mc zq_m121 = true := by decide +kernel
set_option maxRecDepth 100000 in
theorem zq_e122 : (zq_c122.all (zq_ek zq_m122) && zq_ch zq_c122) = true := by decide +kernel
set_option maxRecDepth 100000 in
theorem zq_q122 : zq_mc zq_m122 = true := by decide +kernel
set_option maxRecDepth 100000 in
theorem zq_e123 : (zq_c123.all (zq_ek zq_m123) && zq_ch zq_c123) = true := by decide +kernel
set_option maxRecDepth 100000 in
theorem zq_q123 : zq_mc zq_m123 = true := by decide +kernel
set_option maxRecDepth 100000 in
theorem zq_e124 : (zq_c124.all (zq_ek zq_m124) && zq_ch zq_c124) = true := by decide +kernel
set_option maxRecDepth 100000 in
theorem zq_q124 : zq_mc zq_m124 = true := by decide +kernel
set_option maxRecDepth 100000 in
theorem zq_e125 : (zq_c125.all (zq_ek zq_m125) && zq_ch zq_c125) = true := by decide +kernel
set_option maxRecDepth 100000 in
theorem zq_q125 : zq_mc zq_m125 = true := by decide +kernel
set_option maxRecDepth 100000 in
theorem zq_e126 : (zq_c126.all (zq_ek zq_m126) && zq_ch zq_c126) = true := by decide +kernel
set_option maxRecDepth 100000 in
theorem zq_q126 : zq_mc zq_m126 = true := by decide +kernel
set_option maxRecDepth 100000 in
theorem zq_e127 : (zq_c127.all (zq_ek zq_m127) && zq_ch zq_c127) = true := by decide +kernel
set_option maxRecDepth 100000 in
theorem zq_q127 : zq_mc zq_m127 = true := by decide +kernel
set_option maxRecDepth 100000 in
theorem zq_e128 : (zq_c128.all (zq_ek zq_m128) && zq_ch zq_c128) = true := by decide +kernel
set_option maxRecDepth 100000 in
theorem zq_q128 : zq_mc zq_m128 = true := by decide +kernel
set_option maxRecDepth 100000 in
theorem zq_e129 : (zq_c129.all (zq_ek zq_m129) && zq_ch zq_c129) = true := by decide +kernel
set_option maxRecDepth 100000 in
theorem zq_q129 : zq_mc zq_m129 = true := by decide +kernel
set_option maxRecDepth 100000 in
theorem zq_e130 : (zq_c130.all (zq_ek zq_m130) && zq_ch zq_c130) = true := by decide +kernel
set_option maxRecDepth 100000 in
theorem zq_q130 : zq_mc zq_m130 = true := by decide +kernel
set_option maxRecDepth 100000 in
theorem zq_e131 : (zq_c131.all (zq_ek zq_m131) && zq_ch zq_c131) = true := by decide +kernel
set_option maxRecDepth 100000 in
theorem zq_q131 : zq_mc zq_m131 = true := by decide +kernel
set_option maxRecDepth 100000 in
theorem zq_e132 : (zq_c132.all (zq_ek zq_m132) && zq_ch zq_c132) = true := by decide +kernel
set_option maxRecDepth 100000 in
theorem zq_q132 : zq_mc zq_m132 = true := by decide +kernel
set_option maxRecDepth 100000 in
theorem zq_e133 : (zq_c133.all (zq_ek zq_m133) && zq_ch zq_c133) = true := by decide +kernel
set_option maxRecDepth 100000 in
theorem zq_q133 : zq_mc zq_m133 = true := by decide +kernel
set_option maxRecDepth 100000 in
theorem zq_e134 : (zq_c134.all (zq_ek zq_m134) && zq_ch zq_c134) = true := by decide +kernel
set_option maxRecDepth 100000 in
theorem zq_q134 : zq_mc zq_m134 = true := by decide +kernel
set_option maxRecDepth 100000 in
theorem zq_e135 : (zq_c135.all (zq_ek zq_m135) && zq_ch zq_c135) = true := by decide +kernel
set_option maxRecDepth 100000 in
theorem zq_q135 : zq_mc zq_m135 = true := by decide +kernel
set_option maxRecDepth 100000 in
theorem zq_e136 : (zq_c136.all (zq_ek zq_m136) && zq_ch zq_c136) = true := by decide +kernel
set_option maxRecDepth 100000 in
theorem zq_q136 : zq_mc zq_m136 = true := by decide +kernel
set_option maxRecDepth 100000 in
theorem zq_e137 : (zq_c137.all (zq_ek zq_m137) && zq_ch zq_c137) = true := by decide +kernel
set_option maxRecDepth 100000 in
theorem zq_q137 : zq_mc zq_m137 = true := by decide +kernel
set_option maxRecDepth 100000 in
theorem zq_e138 : (zq_c138.all (zq_ek zq_m138) && zq_ch zq_c138) = true := by decide +kernel
set_option maxRecDepth 100000 in
theorem zq_q138 : zq_mc zq_m138 = true := by decide +kernel
set_option maxRecDepth 100000 in
theorem zq_e139 : (zq_c139.all (zq_ek zq_m139) && zq_ch zq_c139) = true := by decide +kernel
set_option maxRecDepth 100000 in
theorem zq_q139 : zq_mc zq_m139 = true := by decide +kernel
set_option maxRecDepth 100000 in
theorem zq_e140 : (zq_c140.all (zq_ek zq_m140) && zq_ch zq_c140) = true := by decide +kernel
set_option maxRecDepth 100000 in
theorem zq_q140 : zq_mc zq_m140 = true := by decide +kernel
set_option maxRecDepth 100000 in
theorem zq_e141 : (zq_c141.all (zq_ek zq_m141) && zq_ch zq_c141) = true := by decide +kernel
set_option maxRecDepth 100000 in
theorem zq_q141 : zq_mc zq_m141 = true := by decide +kernel
set_option maxRecDepth 100000 in
theorem zq_e142 : (zq_c142.all (zq_ek zq_m142) && zq_ch zq_c142) = true := by decide +kernel
set_option maxRecDepth 100000 in
theorem zq_q142 : zq_mc zq_m142 = true := by decide +kernel
set_option maxRecDepth 100000 in
theorem zq_e143 : (zq_c143.all (zq_ek zq_m143) && zq_ch zq_c143) = true := by decide +kernel
set_option maxRecDepth 100000 in
theorem zq_q143 : zq_mc zq_m143 = true := by decide +kernel
set_option maxRecDepth 100000 in
theorem zq_e144 : (zq_c144.all (zq_ek zq_m144) && zq_ch zq_c144) = true := by decide +kernel
set_option maxRecDepth 100000 in
theorem zq_q144 : zq_mc zq_m144 = true := by decide +kernel
set_option maxRecDepth 100000 in
theorem zq_e145 : (zq_c145.all (zq_ek zq_m145) && zq_ch zq_c145) = true := by decide +kernel
set_option maxRecDepth 100000 in
theorem zq_q145 : zq_mc zq_m145 = true := by decide +kernel
set_option maxRecDepth 100000 in
theorem zq_e146 : (zq_c146.all (zq_ek zq_m146) && zq_ch zq_c146) = true := by decide +kernel
set_option maxRecDepth 100000 in
theorem zq_q146 : zq_mc zq_m146 = true := by decide +kernel
