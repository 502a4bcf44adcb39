theorem sy_e163_0 : sy_c163_0.all (sy_okE cL_law) = true := by decide +kernel
theorem sy_e163_1 : sy_c163_1.all (sy_okE cL_law) = true := by decide +kernel
theorem sy_e163_2 : sy_c163_2.all (sy_okE cL_law) = true := by decide +kernel
theorem sy_e163_3 : sy_c163_3.all (sy_okE cL_law) = true := by decide +kernel
