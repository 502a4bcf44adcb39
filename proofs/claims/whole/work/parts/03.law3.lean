theorem sy_e163_12 : sy_c163_12.all (sy_okE cL_law) = true := by decide +kernel
theorem sy_e163_13 : sy_c163_13.all (sy_okE cL_law) = true := by decide +kernel
theorem sy_e163_14 : sy_c163_14.all (sy_okE cL_law) = true := by decide +kernel
theorem sy_e163_15 : sy_c163_15.all (sy_okE cL_law) = true := by decide +kernel
