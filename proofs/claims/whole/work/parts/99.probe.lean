theorem pr_1 : (vx_atS RX4 60 "java/lang/IndexOutOfBoundsException" ["java/lang/RuntimeException", "java/lang/Exception"]).filter (fun w => !goodWord w) = [] := by decide +kernel
theorem pr_2 : (vx_atS RX4 60 "java/lang/IndexOutOfBoundsException" ["java/lang/RuntimeException", "java/lang/Exception"]).filter (fun w => !goodWord w) = [] := by
  simp [vx_atS, Bundle.ownAtoms]
