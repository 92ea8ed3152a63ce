set_option maxRecDepth 100000 in
theorem zq_e72 : (zq_c72.all (zq_ek zq_m72) && zq_ch zq_c72) = true := by decide +kernel
set_option maxRecDepth 100000 in
theorem zq_q72 : zq_mc zq_m72 = true := by decide +kernel
set_option maxRecDepth 100000 in
theorem zq_e73 : (zq_c73.all (zq_ek zq_m73) && zq_ch zq_c73) = true := by decide +kernel
set_option maxRecDepth 100000 in
theorem zq_q73 : zq_mc zq_m73 = true := by decide +kernel
set_option maxRecDepth 100000 in
theorem zq_e74 : (zq_c74.all (zq_ek zq_m74) && zq_ch zq_c74) = true := by decide +kernel
set_option maxRecDepth 100000 in
theorem zq_q74 : zq_mc zq_m74 = true := by decide +kernel
set_option maxRecDepth 100000 in
theorem zq_e75 : (zq_c75.all (zq_ek zq_m75) && zq_ch zq_c75) = true := by decide +kernel
set_option maxRecDepth 100000 in
theorem zq_q75 : zq_mc zq_m75 = true := by decide +kernel
set_option maxRecDepth 100000 in
theorem zq_e76 : (zq_c76.all (zq_ek zq_m76) && zq_ch zq_c76) = true := by decide +kernel
set_option maxRecDepth 100000 in
theorem zq_q76 : zq_mc zq_m76 = true := by decide +kernel
set_option maxRecDepth 100000 in
theorem zq_e77 : (zq_c77.all (zq_ek zq_m77) && zq_ch zq_c77) = true := by decide +kernel
set_option maxRecDepth 100000 in
theorem zq_q77 : zq_mc zq_m77 = true := by decide +kernel
set_option maxRecDepth 100000 in
theorem zq_e78 : (zq_c78.all (zq_ek zq_m78) && zq_ch zq_c78) = true := by decide +kernel
set_option maxRecDepth 100000 in
theorem zq_q78 : zq_mc zq_m78 = true := by decide +kernel
set_option maxRecDepth 100000 in
theorem zq_e79 : (zq_c79.all (zq_ek zq_m79) && zq_ch zq_c79) = true := by decide +kernel
set_option maxRecDepth 100000 in
theorem zq_q79 : zq_mc zq_m79 = true := by decide +kernel
set_option maxRecDepth 100000 in
theorem zq_e80 : (zq_c80.all (zq_ek zq_m80) && zq_ch zq_c80) = true := by decide +kernel
set_option maxRecDepth 100000 in
theorem zq_q80 : zq_mc zq_m80 = true := by decide +kernel
set_option maxRecDepth 100000 in
theorem zq_e81 : (zq_c81.all (zq_ek zq_m81) && zq_ch zq_c81) = true := by decide +kernel
set_option maxRecDepth 100000 in
theorem zq_q81 : zq_mc zq_m81 = true := by decide +kernel
set_option maxRecDepth 100000 in
theorem zq_e82 : (zq_c82.all (zq_ek zq_m82) && zq_ch zq_c82) = true := by decide +kernel
set_option maxRecDepth 100000 in
theorem zq_q82 : zq_mc zq_m82 = true := by decide +kernel
set_option maxRecDepth 100000 in
theorem zq_e83 : (zq_c83.all (zq_ek zq_m83) && zq_ch zq_c83) = true := by decide +kernel
set_option maxRecDepth 100000 in
theorem zq_q83 : zq_mc zq_m83 = true := by decide +kernel
set_option maxRecDepth 100000 in
theorem zq_e84 : (zq_c84.all (zq_ek zq_m84) && zq_ch zq_c84) = true := by decide +kernel
set_option maxRecDepth 100000 in
theorem zq_q84 : zq_mc zq_m84 = true := by decide +kernel
set_option maxRecDepth 100000 in
theorem zq_e85 : (zq_c85.all (zq_ek zq_m85) && zq_ch zq_c85) = true := by decide +kernel
set_option maxRecDepth 100000 in
theorem zq_q85 : zq_mc zq_m85 = true := by decide +kernel
set_option maxRecDepth 100000 in
theorem zq_e86 : (zq_c86.all (zq_ek zq_m86) && zq_ch zq_c86) = true := by decide +kernel
set_option maxRecDepth 100000 in
theorem zq_q86 : zq_mc zq_m86 = true := by decide +kernel
set_option maxRecDepth 100000 in
theorem zq_e87 : (zq_c87.all (zq_ek zq_m87) && zq_ch zq_c87) = true := by decide +kernel
set_option maxRecDepth 100000 in
theorem zq_q87 : zq_mc zq_m87 = true := by decide +kernel
set_option maxRecDepth 100000 in
theorem zq_e88 : (zq_c88.all (zq_ek zq_m88) && zq_ch zq_c88) = true := by decide +kernel
set_option maxRecDepth 100000 in
theorem zq_q88 : zq_mc zq_m88 = true := by decide +kernel
set_option maxRecDepth 100000 in
theorem zq_e89 : (zq_c89.all (zq_ek zq_m89) && zq_ch zq_c89) = true := by decide +kernel
set_option maxRecDepth 100000 in
theorem zq_q89 : zq_mc zq_m89 = true := by decide +kernel
set_option maxRecDepth 100000 in
theorem zq_e90 : (zq_c90.all (zq_ek zq_m90) && zq_ch zq_c90) = true := by decide +kernel
set_option maxRecDepth 100000 in
theorem zq_q90 : zq_mc zq_m90 = true := by decide +kernel
set_option maxRecDepth 100000 in
theorem zq_e91 : (zq_c91.all (zq_ek zq_m91) && zq_ch zq_c91) = true := by decide +kernel
set_option maxRecDepth 100000 in
theorem zq_q91 : zq_mc zq_m91 = true := by decide +kernel
set_option maxRecDepth 100000 in
theorem zq_e92 : (zq_c92.all (zq_ek zq_m92) && zq_ch zq_c92) = true := by decide +kernel
set_option maxRecDepth 100000 in
theorem zq_q92 : zq_mc zq_m92 = true := by decide +kernel
set_option maxRecDepth 100000 in
theorem zq_e93 : (zq_c93.all (zq_ek zq_m93) && zq_ch zq_c93) = true := by decide +kernel
set_option maxRecDepth 100000 in
theorem zq_q93 : zq_mc zq_m93 = true := by decide +kernel
set_option maxRecDepth 100000 in
theorem zq_e94 : (zq_c94.all (zq_ek zq_m94) && zq_ch zq_c94) = true := by decide +kernel
set_option maxRecDepth 100000 in
theorem zq_q94 : zq_mc zq_m94 = true := by decide +kernel
