set_option maxRecDepth 100000 in
theorem zq_e227 : (zq_c227.all (zq_ek zq_m227) && zq_ch zq_c227) = true := by decide +kernel
set_option maxRecDepth 100000 in
theorem zq_q227 : zq_mc zq_m227 = true := by decide +kernel
set_option maxRecDepth 100000 in
theorem zq_e228 : (zq_c228.all (zq_ek zq_m228) && zq_ch zq_c228) = true := by decide +kernel
set_option maxRecDepth 100000 in
theorem zq_q228 : zq_mc zq_m228 = true := by decide +kernel
set_option maxRecDepth 100000 in
theorem zq_e229 : (zq_c229.all (zq_ek zq_m229) && zq_ch zq_c229) = true := by decide +kernel
set_option maxRecDepth 100000 in
theorem zq_q229 : zq_mc zq_m229 = true := by decide +kernel
