set_option maxRecDepth 100000 in
theorem hm_mok0 : (((hm_mtab.zip hm_mw).drop 0).take 30).all (fun q => hm_mchk q.1 q.2 || decide (q.1.1.cls = "java/lang/Object")) = true := by decide +kernel
set_option maxRecDepth 100000 in
theorem hm_mok1 : (((hm_mtab.zip hm_mw).drop 30).take 30).all (fun q => hm_mchk q.1 q.2 || decide (q.1.1.cls = "java/lang/Object")) = true := by decide +kernel
set_option maxRecDepth 100000 in
theorem hm_mok2 : (((hm_mtab.zip hm_mw).drop 60).take 30).all (fun q => hm_mchk q.1 q.2 || decide (q.1.1.cls = "java/lang/Object")) = true := by decide +kernel
set_option maxRecDepth 100000 in
theorem hm_mok3 : (((hm_mtab.zip hm_mw).drop 90).take 30).all (fun q => hm_mchk q.1 q.2 || decide (q.1.1.cls = "java/lang/Object")) = true := by decide +kernel
set_option maxRecDepth 100000 in
theorem hm_mok4 : (((hm_mtab.zip hm_mw).drop 120).take 30).all (fun q => hm_mchk q.1 q.2 || decide (q.1.1.cls = "java/lang/Object")) = true := by decide +kernel
set_option maxRecDepth 100000 in
theorem hm_mok5 : (((hm_mtab.zip hm_mw).drop 150).take 24).all (fun q => hm_mchk q.1 q.2 || decide (q.1.1.cls = "java/lang/Object")) = true := by decide +kernel
