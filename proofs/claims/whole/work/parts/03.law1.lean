theorem sy_e164_4 : sy_c164_4.all (sy_okE cL_law) = true := by decide +kernel
theorem sy_e164_5 : sy_c164_5.all (sy_okE cL_law) = true := by decide +kernel
theorem sy_e164_6 : sy_c164_6.all (sy_okE cL_law) = true := by decide +kernel
theorem sy_e164_7 : sy_c164_7.all (sy_okE cL_law) = true := by decide +kernel
