theorem sy_e163_8 : sy_c163_8.all (sy_okE cL_law) = true := by decide +kernel
theorem sy_e163_9 : sy_c163_9.all (sy_okE cL_law) = true := by decide +kernel
theorem sy_e163_10 : sy_c163_10.all (sy_okE cL_law) = true := by decide +kernel
theorem sy_e163_11 : sy_c163_11.all (sy_okE cL_law) = true := by decide +kernel
