theorem y_k_268_8 : ti_268_8.all (y_dok cL_law) = true := by decide +kernel
theorem y_k_268_9 : ti_268_9.all (y_dok cL_law) = true := by decide +kernel
theorem y_k_268_10 : ti_268_10.all (y_dok cL_law) = true := by decide +kernel
theorem y_k_268_11 : ti_268_11.all (y_dok cL_law) = true := by decide +kernel
theorem y_k_268_12 : ti_268_12.all (y_dok cL_law) = true := by decide +kernel
theorem y_k_268_13 : ti_268_13.all (y_dok cL_law) = true := by decide +kernel
theorem y_k_268_14 : ti_268_14.all (y_dok cL_law) = true := by decide +kernel
theorem y_k_268_15 : ti_268_15.all (y_dok cL_law) = true := by decide +kernel
