set_option maxRecDepth 100000 in
theorem zq_e175 : (zq_c175.all (zq_ek zq_m175) && zq_ch zq_c175) = true := by decide +kernel
set_option maxRecDepth 100000 in
theorem zq_q175 : zq_mc zq_m175 = true := by decide +kernel
set_option maxRecDepth 100000 in
theorem zq_e176 : (zq_c176.all (zq_ek zq_m176) && zq_ch zq_c176) = true := by decide +kernel
set_option maxRecDepth 100000 in
theorem zq_q176 : zq_mc zq_m176 = true := by decide +kernel
set_option maxRecDepth 100000 in
theorem zq_e177 : (zq_c177.all (zq_ek zq_m177) && zq_ch zq_c177) = true := by decide +kernel
set_option maxRecDepth 100000 in
theorem zq_q177 : zq_mc zq_m177 = true := by decide +kernel
set_option maxRecDepth 100000 in
theorem zq_e178 : (zq_c178.all (zq_ek zq_m178) && zq_ch zq_c178) = true := by decide +kernel
set_option maxRecDepth 100000 in
theorem zq_q178 : zq_mc zq_m178 = true := by decide +kernel
set_option maxRecDepth 100000 in
theorem zq_e179 : (zq_c179.all (zq_ek zq_m179) && zq_ch zq_c179) = true := by decide +kernel
set_option maxRecDepth 100000 in
theorem zq_q179 : zq_mc zq_m179 = true := by decide +kernel
set_option maxRecDepth 100000 in
theorem zq_e180 : (zq_c180.all (zq_ek zq_m180) && zq_ch zq_c180) = true := by decide +kernel
set_option maxRecDepth 100000 in
theorem zq_q180 : zq_mc zq_m180 = true := by decide +kernel
set_option maxRecDepth 100000 in
theorem zq_e181 : (zq_c181.all (zq_ek zq_m181) && zq_ch zq_c181) = true := by decide +kernel
set_option maxRecDepth 100000 in
theorem zq_q181 : zq_mc zq_m181 = true := by decide +kernel
set_option maxRecDepth 100000 in
theorem zq_e182 : (zq_c182.all (zq_ek zq_m182) && zq_ch zq_c182) = true := by decide +kernel
set_option maxRecDepth 100000 in
theorem zq_q182 : zq_mc zq_m182 = true := by decide +kernel
set_option maxRecDepth 100000 in
theorem zq_e183 : (zq_c183.all (zq_ek zq_m183) && zq_ch zq_c183) = true := by decide +kernel
set_option maxRecDepth 100000 in
theorem zq_q183 : zq_mc zq_m183 = true := by decide +kernel
set_option maxRecDepth 100000 in
theorem zq_e184 : (zq_c184.all (zq_ek zq_m184) && zq_ch zq_c184) = true := by decide +kernel
set_option maxRecDepth 100000 in
theorem zq_q184 : zq_mc zq_m184 = true := by decide +kernel
set_option maxRecDepth 100000 in
theorem zq_e185 : (zq_c185.all (zq_ek zq_m185) && zq_ch zq_c185) = true := by decide +kernel
set_option maxRecDepth 100000 in
theorem zq_q185 : zq_mc zq_m185 = true := by decide +kernel
set_option maxRecDepth 100000 in
theorem zq_e186 : (zq_c186.all (zq_ek zq_m186) && zq_ch zq_c186) = true := by decide +kernel
set_option maxRecDepth 100000 in
theorem zq_q186 : zq_mc zq_m186 = true := by decide +kernel
set_option maxRecDepth 100000 in
theorem zq_e187 : (zq_c187.all (zq_ek zq_m187) && zq_ch zq_c187) = true := by decide +kernel
set_option maxRecDepth 100000 in
theorem zq_q187 : zq_mc zq_m187 = true := by decide +kernel
set_option maxRecDepth 100000 in
theorem zq_e188 : (zq_c188.all (zq_ek zq_m188) && zq_ch zq_c188) = true := by decide +kernel
set_option maxRecDepth 100000 in
theorem zq_q188 : zq_mc zq_m188 = true := by decide +kernel
set_option maxRecDepth 100000 in
theorem zq_e189 : (zq_c189.all (zq_ek zq_m189) && zq_ch zq_c189) = true := by decide +kernel
set_option maxRecDepth 100000 in
theorem zq_q189 : zq_mc zq_m189 = true := by decide +kernel
set_option maxRecDepth 100000 in
theorem zq_e190 : (zq_c190.all (zq_ek zq_m190) && zq_ch zq_c190) = true := by decide +kernel
set_option maxRecDepth 100000 in
theorem zq_q190 : zq_mc zq_m190 = true := by decide +kernel
set_option maxRecDepth 100000 in
theorem zq_e191 : (zq_c191.all (zq_ek zq_m191) && zq_ch zq_c191) = true := by decide +kernel
set_option maxRecDepth 100000 in
theorem zq_q191 : zq_mc zq_m191 = true := by decide +kernel
set_option maxRecDepth 100000 in
theorem zq_e192 : (zq_c192.all (zq_ek zq_m192) && zq_ch zq_c192) = true := by decide +kernel
set_option maxRecDepth 100000 in
theorem zq_q192 : zq_mc zq_m192 = true := by decide +kernel
set_option maxRecDepth 100000 in
theorem zq_e193 : (zq_c193.all (zq_ek zq_m193) && zq_ch zq_c193) = true := by decide +kernel
set_option maxRecDepth 100000 in
theorem zq_q193 : zq_mc zq_m193 = true := by decide +kernel
set_option maxRecDepth 100000 in
theorem zq_e194 : (zq_c194.all (zq_ek zq_m194) && zq_ch zq_c194) = true := by decide +kernel
set_option maxRecDepth 100000 in
theorem zq_q194 : zq_mc zq_m194 = true := by decide +kernel
