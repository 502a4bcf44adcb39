theorem sy_e164_0 : sy_c164_0.all (sy_okE cL_law) = true := by decide +kernel
theorem sy_e164_1 : sy_c164_1.all (sy_okE cL_law) = true := by decide +kernel
theorem sy_e164_2 : sy_c164_2.all (sy_okE cL_law) = true := by decide +kernel
theorem sy_e164_3 : sy_c164_3.all (sy_okE cL_law) = true := by decide +kernel
