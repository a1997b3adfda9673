set_option maxRecDepth 100000 in
theorem qL_0 : ((kL_law.drop 0).take 40).all (am_chk mL_law) = true := by decide +kernel
set_option maxRecDepth 100000 in
theorem qL_40 : ((kL_law.drop 40).take 40).all (am_chk mL_law) = true := by decide +kernel
set_option maxRecDepth 100000 in
theorem qL_80 : ((kL_law.drop 80).take 40).all (am_chk mL_law) = true := by decide +kernel
set_option maxRecDepth 100000 in
theorem qL_120 : ((kL_law.drop 120).take 40).all (am_chk mL_law) = true := by decide +kernel
set_option maxRecDepth 100000 in
theorem qL_160 : ((kL_law.drop 160).take 40).all (am_chk mL_law) = true := by decide +kernel
set_option maxRecDepth 100000 in
theorem qL_200 : ((kL_law.drop 200).take 40).all (am_chk mL_law) = true := by decide +kernel
set_option maxRecDepth 100000 in
theorem qL_240 : ((kL_law.drop 240).take 40).all (am_chk mL_law) = true := by decide +kernel
set_option maxRecDepth 100000 in
theorem qL_280 : ((kL_law.drop 280).take 40).all (am_chk mL_law) = true := by decide +kernel
set_option maxRecDepth 100000 in
theorem qL_320 : ((kL_law.drop 320).take 40).all (am_chk mL_law) = true := by decide +kernel
set_option maxRecDepth 100000 in
theorem qL_360 : ((kL_law.drop 360).take 40).all (am_chk mL_law) = true := by decide +kernel
set_option maxRecDepth 100000 in
theorem qL_400 : ((kL_law.drop 400).take 40).all (am_chk mL_law) = true := by decide +kernel
set_option maxRecDepth 100000 in
theorem qL_440 : ((kL_law.drop 440).take 40).all (am_chk mL_law) = true := by decide +kernel
set_option maxRecDepth 100000 in
theorem qL_480 : ((kL_law.drop 480).take 40).all (am_chk mL_law) = true := by decide +kernel
set_option maxRecDepth 100000 in
theorem qL_520 : ((kL_law.drop 520).take 40).all (am_chk mL_law) = true := by decide +kernel
set_option maxRecDepth 100000 in
theorem qL_560 : ((kL_law.drop 560).take 40).all (am_chk mL_law) = true := by decide +kernel
set_option maxRecDepth 100000 in
theorem qL_600 : ((kL_law.drop 600).take 40).all (am_chk mL_law) = true := by decide +kernel
