theorem sy_e163_16 : sy_c163_16.all (sy_okE cL_law) = true := by decide +kernel
theorem sy_e163_17 : sy_c163_17.all (sy_okE cL_law) = true := by decide +kernel
theorem sy_e163_18 : sy_c163_18.all (sy_okE cL_law) = true := by decide +kernel
theorem sy_e163_19 : sy_c163_19.all (sy_okE cL_law) = true := by decide +kernel
