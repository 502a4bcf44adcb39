theorem sy_e163_4 : sy_c163_4.all (sy_okE cL_law) = true := by decide +kernel
theorem sy_e163_5 : sy_c163_5.all (sy_okE cL_law) = true := by decide +kernel
theorem sy_e163_6 : sy_c163_6.all (sy_okE cL_law) = true := by decide +kernel
theorem sy_e163_7 : sy_c163_7.all (sy_okE cL_law) = true := by decide +kernel
