section WPZ
variable {d y pc : Nat} {ls : sy_Lo} {st : List Value} {M : sy_Mm} {P : Option Value → sy_Mm → Prop} {pc' t : Nat} {ls' : sy_Lo} {st' : List Value} {M1 : sy_Mm}
theorem fx_ze {p : Bool} {inst : Decidable (zb p = 0)} (h : sy_step y pc ls st M = some (.inr (.inr (.inl (decide (zb p = 0), t, pc', ls', st', M1))))) (kt : p = false → Fx d y t ls' st' M1 P) (kf : p = true → Fx d y pc' ls' st' M1 P) : Fx d y pc ls st M P := fx_b h (fun q => kt (zb_0.mp q)) (fun q => kf (by cases p; exact absurd rfl q; rfl))
theorem fx_zn {p : Bool} {inst : Decidable (¬ zb p = 0)} (h : sy_step y pc ls st M = some (.inr (.inr (.inl (decide (¬ zb p = 0), t, pc', ls', st', M1))))) (kt : p = true → Fx d y t ls' st' M1 P) (kf : p = false → Fx d y pc' ls' st' M1 P) : Fx d y pc ls st M P := fx_b h (fun q => kt (by cases p; exact absurd rfl q; rfl)) (fun q => kf (zb_0.mp (Decidable.byContradiction q)))
end WPZ
theorem zt_ne : ¬ zb true = 0 := by decide
theorem ev_wi (d : Nat) (M : sy_Mm) (v m : Int32) (b : Int) (hb : m.toInt = b) : Ev d i_X7_within [.int v, .int m] M (some (.int (zb (inR v 0 b)))) M := by
  rw [← hb]; exact ev_within d M v m
theorem em_ir (d : Nat) (M : sy_Mm) (v : Int32) (a b : Int64) (a' b' : Int) (ha : a.toInt = a') (hb : b.toInt = b') : Ev d i_X8_in [.long v.toInt64, .long a, .long b] M (some (.int (zb (inR v a' b')))) M := by
  rw [← in_R v ha hb]; exact em_in d M _ a b
