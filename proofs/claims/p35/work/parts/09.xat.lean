/-! what a throw of a new exception rests on -/
theorem xat_53 : ∀ w ∈ (vx_atS RX4 53 "java/lang/IllegalArgumentException" ["java/lang/RuntimeException", "java/lang/Exception"]), w ∈ e_all ∨ w ∈ e_fw := by
  have h1 : ((vx_atS RX4 53 "java/lang/IllegalArgumentException" ["java/lang/RuntimeException", "java/lang/Exception"]).all (fun w => goodWord w || decide (w ∈ e_fw))) = true := by decide +kernel
  have h2 : ∀ w ∈ (vx_atS RX4 53 "java/lang/IllegalArgumentException" ["java/lang/RuntimeException", "java/lang/Exception"]), w ∈ lw_tbl := by decide +kernel
  intro w hw
  have z := List.all_eq_true.mp h1 w hw
  simp only [Bool.or_eq_true, decide_eq_true_eq] at z
  exact z.imp (fun y => e_in_all (h2 w hw) y) id
theorem xat_64 : ∀ w ∈ (vx_atS RX4 64 "java/lang/IllegalStateException" ["java/lang/RuntimeException", "java/lang/Exception"]), w ∈ e_all ∨ w ∈ e_fw := by
  have h1 : ((vx_atS RX4 64 "java/lang/IllegalStateException" ["java/lang/RuntimeException", "java/lang/Exception"]).all (fun w => goodWord w || decide (w ∈ e_fw))) = true := by decide +kernel
  have h2 : ∀ w ∈ (vx_atS RX4 64 "java/lang/IllegalStateException" ["java/lang/RuntimeException", "java/lang/Exception"]), w ∈ lw_tbl := by decide +kernel
  intro w hw
  have z := List.all_eq_true.mp h1 w hw
  simp only [Bool.or_eq_true, decide_eq_true_eq] at z
  exact z.imp (fun y => e_in_all (h2 w hw) y) id
theorem xat_94 : ∀ w ∈ (vx_atS RX4 94 "java/lang/IndexOutOfBoundsException" ["java/lang/RuntimeException", "java/lang/Exception"]), w ∈ e_all ∨ w ∈ e_fw := by
  have h1 : ((vx_atS RX4 94 "java/lang/IndexOutOfBoundsException" ["java/lang/RuntimeException", "java/lang/Exception"]).all (fun w => goodWord w || decide (w ∈ e_fw))) = true := by decide +kernel
  have h2 : ∀ w ∈ (vx_atS RX4 94 "java/lang/IndexOutOfBoundsException" ["java/lang/RuntimeException", "java/lang/Exception"]), w ∈ lw_tbl := by decide +kernel
  intro w hw
  have z := List.all_eq_true.mp h1 w hw
  simp only [Bool.or_eq_true, decide_eq_true_eq] at z
  exact z.imp (fun y => e_in_all (h2 w hw) y) id
