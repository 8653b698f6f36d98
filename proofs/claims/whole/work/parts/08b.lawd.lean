theorem y_k_268_0 : ti_268_0.all (y_dok cL_law) = true := by decide +kernel
theorem y_k_268_1 : ti_268_1.all (y_dok cL_law) = true := by decide +kernel
theorem y_k_268_2 : ti_268_2.all (y_dok cL_law) = true := by decide +kernel
theorem y_k_268_3 : ti_268_3.all (y_dok cL_law) = true := by decide +kernel
theorem y_k_268_4 : ti_268_4.all (y_dok cL_law) = true := by decide +kernel
theorem y_k_268_5 : ti_268_5.all (y_dok cL_law) = true := by decide +kernel
theorem y_k_268_6 : ti_268_6.all (y_dok cL_law) = true := by decide +kernel
theorem y_k_268_7 : ti_268_7.all (y_dok cL_law) = true := by decide +kernel
theorem y_k_268_8 : ti_268_8.all (y_dok cL_law) = true := by decide +kernel
theorem y_k_268_9 : ti_268_9.all (y_dok cL_law) = true := by decide +kernel
theorem y_k_268 : ti_268.all (y_dok cL_law) = true := by
  unfold ti_268
  simp only [List.all_append, Bool.and_eq_true]
  exact ⟨⟨⟨⟨⟨⟨⟨⟨⟨y_k_268_0, y_k_268_1⟩, y_k_268_2⟩, y_k_268_3⟩, y_k_268_4⟩, y_k_268_5⟩, y_k_268_6⟩, y_k_268_7⟩, y_k_268_8⟩, y_k_268_9⟩
