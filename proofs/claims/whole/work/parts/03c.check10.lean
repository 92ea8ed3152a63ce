set_option maxRecDepth 100000 in
theorem zq_e210 : (zq_c210.all (zq_ek zq_m210) && zq_ch zq_c210) = true := by decide +kernel
set_option maxRecDepth 100000 in
theorem zq_q210 : zq_mc zq_m210 = true := by decide +kernel
set_option maxRecDepth 100000 in
theorem zq_e211 : (zq_c211.all (zq_ek zq_m211) && zq_ch zq_c211) = true := by decide +kernel
set_option maxRecDepth 100000 in
theorem zq_q211 : zq_mc zq_m211 = true := by decide +kernel
set_option maxRecDepth 100000 in
theorem zq_e212 : (zq_c212.all (zq_ek zq_m212) && zq_ch zq_c212) = true := by decide +kernel
set_option maxRecDepth 100000 in
theorem zq_q212 : zq_mc zq_m212 = true := by decide +kernel
set_option maxRecDepth 100000 in
theorem zq_e213 : (zq_c213.all (zq_ek zq_m213) && zq_ch zq_c213) = true := by decide +kernel
set_option maxRecDepth 100000 in
theorem zq_q213 : zq_mc zq_m213 = true := by decide +kernel
set_option maxRecDepth 100000 in
theorem zq_e214 : (zq_c214.all (zq_ek zq_m214) && zq_ch zq_c214) = true := by decide +kernel
set_option maxRecDepth 100000 in
theorem zq_q214 : zq_mc zq_m214 = true := by decide +kernel
set_option maxRecDepth 100000 in
theorem zq_e215 : (zq_c215.all (zq_ek zq_m215) && zq_ch zq_c215) = true := by decide +kernel
set_option maxRecDepth 100000 in
theorem zq_q215 : zq_mc zq_m215 = true := by decide +kernel
set_option maxRecDepth 100000 in
theorem zq_e216 : (zq_c216.all (zq_ek zq_m216) && zq_ch zq_c216) = true := by decide +kernel
set_option maxRecDepth 100000 in
theorem zq_q216 : zq_mc zq_m216 = true := by decide +kernel
set_option maxRecDepth 100000 in
theorem zq_e217 : (zq_c217.all (zq_ek zq_m217) && zq_ch zq_c217) = true := by decide +kernel
set_option maxRecDepth 100000 in
theorem zq_q217 : zq_mc zq_m217 = true := by decide +kernel
set_option maxRecDepth 100000 in
theorem zq_e218 : (zq_c218.all (zq_ek zq_m218) && zq_ch zq_c218) = true := by decide +kernel
set_option maxRecDepth 100000 in
theorem zq_q218 : zq_mc zq_m218 = true := by decide +kernel
set_option maxRecDepth 100000 in
theorem zq_e219 : (zq_c219.all (zq_ek zq_m219) && zq_ch zq_c219) = true := by decide +kernel
set_option maxRecDepth 100000 in
theorem zq_q219 : zq_mc zq_m219 = true := by decide +kernel
set_option maxRecDepth 100000 in
theorem zq_e220 : (zq_c220.all (zq_ek zq_m220) && zq_ch zq_c220) = true := by decide +kernel
set_option maxRecDepth 100000 in
theorem zq_q220 : zq_mc zq_m220 = true := by decide +kernel
set_option maxRecDepth 100000 in
theorem zq_e221 : (zq_c221.all (zq_ek zq_m221) && zq_ch zq_c221) = true := by decide +kernel
set_option maxRecDepth 100000 in
theorem zq_q221 : zq_mc zq_m221 = true := by decide +kernel
set_option maxRecDepth 100000 in
theorem zq_e222 : (zq_c222.all (zq_ek zq_m222) && zq_ch zq_c222) = true := by decide +kernel
set_option maxRecDepth 100000 in
theorem zq_q222 : zq_mc zq_m222 = true := by decide +kernel
set_option maxRecDepth 100000 in
theorem zq_e223 : (zq_c223.all (zq_ek zq_m223) && zq_ch zq_c223) = true := by decide +kernel
set_option maxRecDepth 100000 in
theorem zq_q223 : zq_mc zq_m223 = true := by decide +kernel
set_option maxRecDepth 100000 in
theorem zq_e224 : (zq_c224.all (zq_ek zq_m224) && zq_ch zq_c224) = true := by decide +kernel
set_option maxRecDepth 100000 in
theorem zq_q224 : zq_mc zq_m224 = true := by decide +kernel
set_option maxRecDepth 100000 in
theorem zq_e225 : (zq_c225.all (zq_ek zq_m225) && zq_ch zq_c225) = true := by decide +kernel
set_option maxRecDepth 100000 in
theorem zq_q225 : zq_mc zq_m225 = true := by decide +kernel
set_option maxRecDepth 100000 in
theorem zq_e226 : (zq_c226.all (zq_ek zq_m226) && zq_ch zq_c226) = true := by decide +kernel
set_option maxRecDepth 100000 in
theorem zq_q226 : zq_mc zq_m226 = true := by decide +kernel
