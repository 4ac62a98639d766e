theorem tst_1 : (vx_atS RX8 182 "java/lang/IndexOutOfBoundsException" ["java/lang/RuntimeException", "java/lang/Exception"]).filter (fun w => !goodWord w) = [] := by decide +kernel
theorem tst_2 : ((vx_atS RX8 182 "java/lang/IndexOutOfBoundsException" ["java/lang/RuntimeException", "java/lang/Exception"]).filter (fun w => !goodWord w)).length = 1 := by decide +kernel
theorem tst_3 : (vx_atS RX8 182 "java/lang/IndexOutOfBoundsException" ["java/lang/RuntimeException", "java/lang/Exception"]).all vx_ot = true := by decide +kernel
theorem tst_4 : (vx_atS RX8 182 "java/lang/IndexOutOfBoundsException" ["java/lang/RuntimeException", "java/lang/Exception"]).filter (fun w => !goodWord w) = [.castable "java/lang/IndexOutOfBoundsException" "java/lang/IndexOutOfBoundsException"] := by decide +kernel
theorem tst_5 : (vx_atS RX8 182 "java/lang/IndexOutOfBoundsException" ["java/lang/RuntimeException", "java/lang/Exception"]).filter (fun w => !goodWord w) = [.castable "java/lang/IndexOutOfBoundsException" "java/lang/Throwable"] := by decide +kernel
theorem tst_6 (L : List Cond) : L = (vx_atS RX8 182 "java/lang/IndexOutOfBoundsException" ["java/lang/RuntimeException", "java/lang/Exception"]).filter (fun w => !goodWord w) := by
  simp [vx_atS, Bundle.ownAtoms]
