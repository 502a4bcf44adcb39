theorem sy_e164_8 : sy_c164_8.all (sy_okE cL_law) = true := by decide +kernel
theorem sy_e164_9 : sy_c164_9.all (sy_okE cL_law) = true := by decide +kernel
theorem sy_e164_10 : sy_c164_10.all (sy_okE cL_law) = true := by decide +kernel
theorem sy_e164_11 : sy_c164_11.all (sy_okE cL_law) = true := by decide +kernel
