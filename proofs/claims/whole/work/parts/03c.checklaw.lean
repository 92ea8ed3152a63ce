set_option maxRecDepth 100000 in
theorem zq_el0 : ((zq_c230.drop 0).take 50).all (zq_ek zq_m230) = true := by decide +kernel
set_option maxRecDepth 100000 in
theorem zq_el50 : ((zq_c230.drop 50).take 50).all (zq_ek zq_m230) = true := by decide +kernel
set_option maxRecDepth 100000 in
theorem zq_el100 : ((zq_c230.drop 100).take 50).all (zq_ek zq_m230) = true := by decide +kernel
set_option maxRecDepth 100000 in
theorem zq_el150 : ((zq_c230.drop 150).take 50).all (zq_ek zq_m230) = true := by decide +kernel
set_option maxRecDepth 100000 in
theorem zq_el200 : ((zq_c230.drop 200).take 50).all (zq_ek zq_m230) = true := by decide +kernel
set_option maxRecDepth 100000 in
theorem zq_el250 : ((zq_c230.drop 250).take 50).all (zq_ek zq_m230) = true := by decide +kernel
set_option maxRecDepth 100000 in
theorem zq_el300 : ((zq_c230.drop 300).take 50).all (zq_ek zq_m230) = true := by decide +kernel
set_option maxRecDepth 100000 in
theorem zq_el350 : ((zq_c230.drop 350).take 50).all (zq_ek zq_m230) = true := by decide +kernel
set_option maxRecDepth 100000 in
theorem zq_el400 : ((zq_c230.drop 400).take 50).all (zq_ek zq_m230) = true := by decide +kernel
set_option maxRecDepth 100000 in
theorem zq_el450 : ((zq_c230.drop 450).take 50).all (zq_ek zq_m230) = true := by decide +kernel
set_option maxRecDepth 100000 in
theorem zq_el500 : ((zq_c230.drop 500).take 50).all (zq_ek zq_m230) = true := by decide +kernel
set_option maxRecDepth 100000 in
theorem zq_el550 : ((zq_c230.drop 550).take 50).all (zq_ek zq_m230) = true := by decide +kernel
set_option maxRecDepth 100000 in
theorem zq_el600 : ((zq_c230.drop 600).take 50).all (zq_ek zq_m230) = true := by decide +kernel
set_option maxRecDepth 100000 in
theorem zq_el650 : ((zq_c230.drop 650).take 50).all (zq_ek zq_m230) = true := by decide +kernel
set_option maxRecDepth 100000 in
theorem zq_el700 : ((zq_c230.drop 700).take 50).all (zq_ek zq_m230) = true := by decide +kernel
set_option maxRecDepth 100000 in
theorem zq_el750 : ((zq_c230.drop 750).take 50).all (zq_ek zq_m230) = true := by decide +kernel
set_option maxRecDepth 100000 in
theorem zq_el800 : ((zq_c230.drop 800).take 50).all (zq_ek zq_m230) = true := by decide +kernel
set_option maxRecDepth 100000 in
theorem zq_el850 : ((zq_c230.drop 850).take 50).all (zq_ek zq_m230) = true := by decide +kernel
set_option maxRecDepth 100000 in
theorem zq_el900 : ((zq_c230.drop 900).take 50).all (zq_ek zq_m230) = true := by decide +kernel
set_option maxRecDepth 100000 in
theorem zq_el950 : ((zq_c230.drop 950).take 50).all (zq_ek zq_m230) = true := by decide +kernel
set_option maxRecDepth 100000 in
theorem zq_el1000 : ((zq_c230.drop 1000).take 50).all (zq_ek zq_m230) = true := by decide +kernel
set_option maxRecDepth 100000 in
theorem zq_elc : zq_ch zq_c230 = true := by decide +kernel
