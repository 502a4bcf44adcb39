theorem sy_e163_20 : sy_c163_20.all (sy_okE cL_law) = true := by decide +kernel
theorem sy_e163_21 : sy_c163_21.all (sy_okE cL_law) = true := by decide +kernel
theorem sy_e163_22 : sy_c163_22.all (sy_okE cL_law) = true := by decide +kernel
