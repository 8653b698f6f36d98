theorem y_k_268_24 : ti_268_24.all (y_dok cL_law) = true := by decide +kernel
theorem y_k_268_25 : ti_268_25.all (y_dok cL_law) = true := by decide +kernel
theorem y_k_268_26 : ti_268_26.all (y_dok cL_law) = true := by decide +kernel
theorem y_k_268_27 : ti_268_27.all (y_dok cL_law) = true := by decide +kernel
theorem y_k_268_28 : ti_268_28.all (y_dok cL_law) = true := by decide +kernel
theorem y_k_268_29 : ti_268_29.all (y_dok cL_law) = true := by decide +kernel
theorem y_k_268_30 : ti_268_30.all (y_dok cL_law) = true := by decide +kernel
theorem y_k_268_31 : ti_268_31.all (y_dok cL_law) = true := by decide +kernel
