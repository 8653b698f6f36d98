theorem y_k_268_16 : ti_268_16.all (y_dok cL_law) = true := by decide +kernel
theorem y_k_268_17 : ti_268_17.all (y_dok cL_law) = true := by decide +kernel
theorem y_k_268_18 : ti_268_18.all (y_dok cL_law) = true := by decide +kernel
theorem y_k_268_19 : ti_268_19.all (y_dok cL_law) = true := by decide +kernel
theorem y_k_268_20 : ti_268_20.all (y_dok cL_law) = true := by decide +kernel
theorem y_k_268_21 : ti_268_21.all (y_dok cL_law) = true := by decide +kernel
theorem y_k_268_22 : ti_268_22.all (y_dok cL_law) = true := by decide +kernel
theorem y_k_268_23 : ti_268_23.all (y_dok cL_law) = true := by decide +kernel
