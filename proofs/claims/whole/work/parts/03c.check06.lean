set_option maxRecDepth 100000 in
theorem zq_e147 : (zq_c147.all (zq_ek zq_m147) && zq_ch zq_c147) = true := by decide +kernel
set_option maxRecDepth 100000 in
theorem zq_q147 : zq_mc zq_m147 = true := by decide +kernel
set_option maxRecDepth 100000 in
theorem zq_e148 : (zq_c148.all (zq_ek zq_m148) && zq_ch zq_c148) = true := by decide +kernel
set_option maxRecDepth 100000 in
theorem zq_q148 : zq_mc zq_m148 = true := by decide +kernel
set_option maxRecDepth 100000 in
theorem zq_e149 : (zq_c149.all (zq_ek zq_m149) && zq_ch zq_c149) = true := by decide +kernel
set_option maxRecDepth 100000 in
theorem zq_q149 : zq_mc zq_m149 = true := by decide +kernel
set_option maxRecDepth 100000 in
theorem zq_e150 : (zq_c150.all (zq_ek zq_m150) && zq_ch zq_c150) = true := by decide +kernel
set_option maxRecDepth 100000 in
theorem zq_q150 : zq_mc zq_m150 = true := by decide +kernel
set_option maxRecDepth 100000 in
theorem zq_e151 : (zq_c151.all (zq_ek zq_m151) && zq_ch zq_c151) = true := by decide +kernel
set_option maxRecDepth 100000 in
theorem zq_q151 : zq_mc zq_m151 = true := by decide +kernel
set_option maxRecDepth 100000 in
theorem zq_e152 : (zq_c152.all (zq_ek zq_m152) && zq_ch zq_c152) = true := by decide +kernel
set_option maxRecDepth 100000 in
theorem zq_q152 : zq_mc zq_m152 = true := by decide +kernel
set_option maxRecDepth 100000 in
theorem zq_e153 : (zq_c153.all (zq_ek zq_m153) && zq_ch zq_c153) = true := by decide +kernel
set_option maxRecDepth 100000 in
theorem zq_q153 : zq_mc zq_m153 = true := by decide +kernel
set_option maxRecDepth 100000 in
theorem zq_e154 : (zq_c154.all (zq_ek zq_m154) && zq_ch zq_c154) = true := by decide +kernel
set_option maxRecDepth 100000 in
theorem zq_q154 : zq_mc zq_m154 = true := by decide +kernel
set_option maxRecDepth 100000 in
theorem zq_e155 : (zq_c155.all (zq_ek zq_m155) && zq_ch zq_c155) = true := by decide +kernel
set_option maxRecDepth 100000 in
theorem zq_q155 : zq_mc zq_m155 = true := by decide +kernel
set_option maxRecDepth 100000 in
theorem zq_e156 : (zq_c156.all (zq_ek zq_m156) && zq_ch zq_c156) = true := by decide +kernel
set_option maxRecDepth 100000 in
theorem zq_q156 : zq_mc zq_m156 = true := by decide +kernel
set_option maxRecDepth 100000 in
theorem zq_e157 : (zq_c157.all (zq_ek zq_m157) && zq_ch zq_c157) = true := by decide +kernel
set_option maxRecDepth 100000 in
theorem zq_q157 : zq_mc zq_m157 = true := by decide +kernel
set_option maxRecDepth 100000 in
theorem zq_e158 : (zq_c158.all (zq_ek zq_m158) && zq_ch zq_c158) = true := by decide +kernel
set_option maxRecDepth 100000 in
theorem zq_q158 : zq_mc zq_m158 = true := by decide +kernel
set_option maxRecDepth 100000 in
theorem zq_e159 : (zq_c159.all (zq_ek zq_m159) && zq_ch zq_c159) = true := by decide +kernel
set_option maxRecDepth 100000 in
theorem zq_q159 : zq_mc zq_m159 = true := by decide +kernel
set_option maxRecDepth 100000 in
theorem zq_e160 : (zq_c160.all (zq_ek zq_m160) && zq_ch zq_c160) = true := by decide +kernel
set_option maxRecDepth 100000 in
theorem zq_q160 : zq_mc zq_m160 = true := by decide +kernel
set_option maxRecDepth 100000 in
theorem zq_e161 : (zq_c161.all (zq_ek zq_m161) && zq_ch zq_c161) = true := by decide +kernel
set_option maxRecDepth 100000 in
theorem zq_q161 : zq_mc zq_m161 = true := by decide +kernel
