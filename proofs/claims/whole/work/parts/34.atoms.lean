set_option maxRecDepth 100000 in
theorem at_PM_148 : (tx_atoms "PlaceMoves" 148 "java/lang/IllegalArgumentException" "java/lang/RuntimeException" 7 prog_11_method_2_code ["java/lang/Exception"]).all (fun a => (decide (a ∈ lw_tbl) && goodWord a) || decide (a ∈ SPl)) = true := by decide +kernel
set_option maxRecDepth 100000 in
theorem at_PM_195 : (tx_atoms "PlaceMoves" 195 "java/util/NoSuchElementException" "java/lang/RuntimeException" 13 prog_17_method_4_code ["java/lang/Exception"]).all (fun a => (decide (a ∈ lw_tbl) && goodWord a) || decide (a ∈ SPl)) = true := by decide +kernel
set_option maxRecDepth 100000 in
theorem at_PM_202 : (tx_atoms "PlaceMoves" 202 "java/lang/IllegalStateException" "java/lang/RuntimeException" 7 prog_12_method_2_code ["java/lang/Exception"]).all (fun a => (decide (a ∈ lw_tbl) && goodWord a) || decide (a ∈ SPl)) = true := by decide +kernel
