theorem y_k_268_0 : ti_268_0.all (y_dok cL_law) = true := by decide +kernel
theorem y_k_268_1 : ti_268_1.all (y_dok cL_law) = true := by decide +kernel
theorem y_k_268_2 : ti_268_2.all (y_dok cL_law) = true := by decide +kernel
theorem y_k_268_3 : ti_268_3.all (y_dok cL_law) = true := by decide +kernel
theorem y_k_268_4 : ti_268_4.all (y_dok cL_law) = true := by decide +kernel
theorem y_k_268_5 : ti_268_5.all (y_dok cL_law) = true := by decide +kernel
theorem y_k_268_6 : ti_268_6.all (y_dok cL_law) = true := by decide +kernel
theorem y_k_268_7 : ti_268_7.all (y_dok cL_law) = true := by decide +kernel
