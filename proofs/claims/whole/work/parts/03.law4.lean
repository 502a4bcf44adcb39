theorem sy_e164_16 : sy_c164_16.all (sy_okE cL_law) = true := by decide +kernel
theorem sy_e164_17 : sy_c164_17.all (sy_okE cL_law) = true := by decide +kernel
theorem sy_e164_18 : sy_c164_18.all (sy_okE cL_law) = true := by decide +kernel
theorem sy_e164_19 : sy_c164_19.all (sy_okE cL_law) = true := by decide +kernel
