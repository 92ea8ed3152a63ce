set_option maxRecDepth 100000 in
theorem zq_e195 : (zq_c195.all (zq_ek zq_m195) && zq_ch zq_c195) = true := by decide +kernel
set_option maxRecDepth 100000 in
theorem zq_q195 : zq_mc zq_m195 = true := by decide +kernel
set_option maxRecDepth 100000 in
theorem zq_e196 : (zq_c196.all (zq_ek zq_m196) && zq_ch zq_c196) = true := by decide +kernel
set_option maxRecDepth 100000 in
theorem zq_q196 : zq_mc zq_m196 = true := by decide +kernel
set_option maxRecDepth 100000 in
theorem zq_e197 : (zq_c197.all (zq_ek zq_m197) && zq_ch zq_c197) = true := by decide +kernel
set_option maxRecDepth 100000 in
theorem zq_q197 : zq_mc zq_m197 = true := by decide +kernel
set_option maxRecDepth 100000 in
theorem zq_e198 : (zq_c198.all (zq_ek zq_m198) && zq_ch zq_c198) = true := by decide +kernel
set_option maxRecDepth 100000 in
theorem zq_q198 : zq_mc zq_m198 = true := by decide +kernel
set_option maxRecDepth 100000 in
theorem zq_e199 : (zq_c199.all (zq_ek zq_m199) && zq_ch zq_c199) = true := by decide +kernel
set_option maxRecDepth 100000 in
theorem zq_q199 : zq_mc zq_m199 = true := by decide +kernel
set_option maxRecDepth 100000 in
theorem zq_e200 : (zq_c200.all (zq_ek zq_m200) && zq_ch zq_c200) = true := by decide +kernel
set_option maxRecDepth 100000 in
theorem zq_q200 : zq_mc zq_m200 = true := by decide +kernel
set_option maxRecDepth 100000 in
theorem zq_e201 : (zq_c201.all (zq_ek zq_m201) && zq_ch zq_c201) = true := by decide +kernel
set_option maxRecDepth 100000 in
theorem zq_q201 : zq_mc zq_m201 = true := by decide +kernel
set_option maxRecDepth 100000 in
theorem zq_e202 : (zq_c202.all (zq_ek zq_m202) && zq_ch zq_c202) = true := by decide +kernel
set_option maxRecDepth 100000 in
theorem zq_q202 : zq_mc zq_m202 = true := by decide +kernel
set_option maxRecDepth 100000 in
theorem zq_e203 : (zq_c203.all (zq_ek zq_m203) && zq_ch zq_c203) = true := by decide +kernel
set_option maxRecDepth 100000 in
theorem zq_q203 : zq_mc zq_m203 = true := by decide +kernel
set_option maxRecDepth 100000 in
theorem zq_e204 : (zq_c204.all (zq_ek zq_m204) && zq_ch zq_c204) = true := by decide +kernel
set_option maxRecDepth 100000 in
theorem zq_q204 : zq_mc zq_m204 = true := by decide +kernel
set_option maxRecDepth 100000 in
theorem zq_e205 : (zq_c205.all (zq_ek zq_m205) && zq_ch zq_c205) = true := by decide +kernel
set_option maxRecDepth 100000 in
theorem zq_q205 : zq_mc zq_m205 = true := by decide +kernel
set_option maxRecDepth 100000 in
theorem zq_e206 : (zq_c206.all (zq_ek zq_m206) && zq_ch zq_c206) = true := by decide +kernel
set_option maxRecDepth 100000 in
theorem zq_q206 : zq_mc zq_m206 = true := by decide +kernel
set_option maxRecDepth 100000 in
theorem zq_e207 : (zq_c207.all (zq_ek zq_m207) && zq_ch zq_c207) = true := by decide +kernel
set_option maxRecDepth 100000 in
theorem zq_q207 : zq_mc zq_m207 = true := by decide +kernel
set_option maxRecDepth 100000 in
theorem zq_e208 : (zq_c208.all (zq_ek zq_m208) && zq_ch zq_c208) = true := by decide +kernel
set_option maxRecDepth 100000 in
theorem zq_q208 : zq_mc zq_m208 = true := by decide +kernel
set_option maxRecDepth 100000 in
theorem zq_e209 : (zq_c209.all (zq_ek zq_m209) && zq_ch zq_c209) = true := by decide +kernel
set_option maxRecDepth 100000 in
theorem zq_q209 : zq_mc zq_m209 = true := by decide +kernel
