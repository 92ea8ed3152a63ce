set_option maxRecDepth 100000 in
theorem zq_e162 : (zq_c162.all (zq_ek zq_m162) && zq_ch zq_c162) = true := by decide +kernel
set_option maxRecDepth 100000 in
theorem zq_q162 : zq_mc zq_m162 = true := by decide +kernel
set_option maxRecDepth 100000 in
theorem zq_e163 : (zq_c163.all (zq_ek zq_m163) && zq_ch zq_c163) = true := by decide +kernel
set_option maxRecDepth 100000 in
theorem zq_q163 : zq_mc zq_m163 = true := by decide +kernel
set_option maxRecDepth 100000 in
theorem zq_e164 : (zq_c164.all (zq_ek zq_m164) && zq_ch zq_c164) = true := by decide +kernel
set_option maxRecDepth 100000 in
theorem zq_q164 : zq_mc zq_m164 = true := by decide +kernel
set_option maxRecDepth 100000 in
theorem zq_e165 : (zq_c165.all (zq_ek zq_m165) && zq_ch zq_c165) = true := by decide +kernel
set_option maxRecDepth 100000 in
theorem zq_q165 : zq_mc zq_m165 = true := by decide +kernel
set_option maxRecDepth 100000 in
theorem zq_e166 : (zq_c166.all (zq_ek zq_m166) && zq_ch zq_c166) = true := by decide +kernel
set_option maxRecDepth 100000 in
theorem zq_q166 : zq_mc zq_m166 = true := by decide +kernel
set_option maxRecDepth 100000 in
theorem zq_e167 : (zq_c167.all (zq_ek zq_m167) && zq_ch zq_c167) = true := by decide +kernel
set_option maxRecDepth 100000 in
theorem zq_q167 : zq_mc zq_m167 = true := by decide +kernel
set_option maxRecDepth 100000 in
theorem zq_e168 : (zq_c168.all (zq_ek zq_m168) && zq_ch zq_c168) = true := by decide +kernel
set_option maxRecDepth 100000 in
theorem zq_q168 : zq_mc zq_m168 = true := by decide +kernel
set_option maxRecDepth 100000 in
theorem zq_e169 : (zq_c169.all (zq_ek zq_m169) && zq_ch zq_c169) = true := by decide +kernel
set_option maxRecDepth 100000 in
theorem zq_q169 : zq_mc zq_m169 = true := by decide +kernel
set_option maxRecDepth 100000 in
theorem zq_e170 : (zq_c170.all (zq_ek zq_m170) && zq_ch zq_c170) = true := by decide +kernel
set_option maxRecDepth 100000 in
theorem zq_q170 : zq_mc zq_m170 = true := by decide +kernel
set_option maxRecDepth 100000 in
theorem zq_e171 : (zq_c171.all (zq_ek zq_m171) && zq_ch zq_c171) = true := by decide +kernel
set_option maxRecDepth 100000 in
theorem zq_q171 : zq_mc zq_m171 = true := by decide +kernel
set_option maxRecDepth 100000 in
theorem zq_e172 : (zq_c172.all (zq_ek zq_m172) && zq_ch zq_c172) = true := by decide +kernel
set_option maxRecDepth 100000 in
theorem zq_q172 : zq_mc zq_m172 = true := by decide +kernel
set_option maxRecDepth 100000 in
theorem zq_e173 : (zq_c173.all (zq_ek zq_m173) && zq_ch zq_c173) = true := by decide +kernel
set_option maxRecDepth 100000 in
theorem zq_q173 : zq_mc zq_m173 = true := by decide +kernel
set_option maxRecDepth 100000 in
theorem zq_e174 : (zq_c174.all (zq_ek zq_m174) && zq_ch zq_c174) = true := by decide +kernel
set_option maxRecDepth 100000 in
theorem zq_q174 : zq_mc zq_m174 = true := by decide +kernel
