def sy_uP (q : vw_C) : Prop := (∀ w ∈ u_ws q.1 q.2.1 q.2.2, w ∈ sy_gT) ∧ (∃ ty : Nat → FieldType, ∀ k, k < q.2.2 → parseFieldDescriptor (q.2.1 k).2.2.1 = some (ty k)) ∧ ∀ a, a < q.2.2 → ∀ b, b < q.2.2 → a ≠ b → (q.2.1 a).2.1 ≠ (q.2.1 b).2.1
theorem sy_u0 : sy_uP (RX0, TX0, 10) := ⟨sy_in _ [208, 210, 212, 214, 216, 218, 220, 222, 224, 226] (by decide +kernel) (by decide +kernel), ⟨tyX0, tyX0_ok⟩, nmX0⟩
theorem sy_u1 : sy_uP (RX1, TX1, 1) := ⟨sy_in _ [237] (by decide +kernel) (by decide +kernel), ⟨tyX1, tyX1_ok⟩, nmX1⟩
theorem sy_u2 : sy_uP (RX2, TX2, 2) := ⟨sy_in _ [182, 184] (by decide +kernel) (by decide +kernel), ⟨tyX2, tyX2_ok⟩, nmX2⟩
theorem sy_u3 : sy_uP (RX3, TX3, 3) := ⟨sy_in _ [253, 255, 257] (by decide +kernel) (by decide +kernel), ⟨tyX3, tyX3_ok⟩, nmX3⟩
theorem sy_u4 : sy_uP (RX4, TX4, 6) := ⟨sy_in _ [109, 111, 113, 115, 117, 119] (by decide +kernel) (by decide +kernel), ⟨tyX4, tyX4_ok⟩, nmX4⟩
theorem sy_u5 : sy_uP (RX5, TX5, 4) := ⟨sy_in _ [81, 83, 85, 87] (by decide +kernel) (by decide +kernel), ⟨tyX5, tyX5_ok⟩, nmX5⟩
theorem sy_u6 : sy_uP (RX6, TX6, 11) := ⟨sy_in _ [150, 152, 154, 156, 158, 160, 162, 164, 166, 168, 170] (by decide +kernel) (by decide +kernel), ⟨tyX6, tyX6_ok⟩, nmX6⟩
theorem sy_u7 : sy_uP (RX7, TX7, 8) := ⟨sy_in _ [268, 270, 272, 274, 276, 278, 280, 282] (by decide +kernel) (by decide +kernel), ⟨tyX7, tyX7_ok⟩, nmX7⟩
theorem sy_u8 : sy_uP (RX8, TX8, 26) := ⟨sy_in _ [730, 732, 734, 736, 738, 740, 742, 744, 746, 748, 750, 752, 754, 756, 758, 760, 762, 764, 766, 768, 770, 772, 774, 776, 778, 780] (by decide +kernel) (by decide +kernel), ⟨tyX8, tyX8_ok⟩, nmX8⟩
theorem sy_uAll : ∀ (ci : Nat) (q : vw_C), vwCl[ci]? = some q → sy_uP q := by
  intro ci q h
  match ci, h with
  | 0, h => cases h; exact sy_u0
  | 1, h => cases h; exact sy_u1
  | 2, h => cases h; exact sy_u2
  | 3, h => cases h; exact sy_u3
  | 4, h => cases h; exact sy_u4
  | 5, h => cases h; exact sy_u5
  | 6, h => cases h; exact sy_u6
  | 7, h => cases h; exact sy_u7
  | 8, h => cases h; exact sy_u8
  | k + 9, h => simp [vwCl] at h
