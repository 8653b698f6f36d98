theorem y_k_268_32 : ti_268_32.all (y_dok cL_law) = true := by decide +kernel
theorem y_k_268_33 : ti_268_33.all (y_dok cL_law) = true := by decide +kernel
theorem y_k_268_34 : ti_268_34.all (y_dok cL_law) = true := by decide +kernel
theorem y_k_268_35 : ti_268_35.all (y_dok cL_law) = true := by decide +kernel
theorem y_k_268_36 : ti_268_36.all (y_dok cL_law) = true := by decide +kernel
theorem y_k_268_37 : ti_268_37.all (y_dok cL_law) = true := by decide +kernel
theorem y_k_268_38 : ti_268_38.all (y_dok cL_law) = true := by decide +kernel
theorem y_k_268_39 : ti_268_39.all (y_dok cL_law) = true := by decide +kernel
