set_option maxHeartbeats 4000000 in
set_option maxRecDepth 100000 in
theorem ct_X5 (l : Launch) (dC : Nat → ClassId) (dI : Nat → Nat → Nat) (cI cS : ClassId) (h0 sz : Nat) : Met l yX5_init (ct_wd yX5_init cX5_init 1) ({ frames := 1, cells := 1, slots := 30, locals := 12 }) (va_Pc [.ref h0] (fun U => U.heap.size = sz ∧ va_P (dC, dI) vwCl [(h0, .inr (5, [.null, .int 0, .int 0, .int 0]))] U.heap ∧ va_K (dC, dI) vwCl (sy_tys cI cS) U ∧ va_D (fun _ => True) [(h0, .inr (5, [.null, .int 0, .int 0, .int 0]))])) (va_Qv (fun _ : Unit => True) (fun _ t => ∃ q1 : Nat, va_P (dC, dI) vwCl [(h0, .inr (5, [.ref q1, .int 0, .int (-1), .int 0])), (q1, .inl (cI, 30, .inl (fun _ => 0)))] t.heap ∧ va_K (dC, dI) vwCl (sy_tys cI cS) t ∧ va_D (va_A [(h0, .inr (5, [.null, .int 0, .int 0, .int 0]))] sz) [(h0, .inr (5, [.ref q1, .int 0, .int (-1), .int 0])), (q1, .inl (cI, 30, .inl (fun _ => 0)))]) (va_A [(h0, .inr (5, [.null, .int 0, .int 0, .int 0]))] sz)) 1 30 (va_A [(h0, .inr (5, [.null, .int 0, .int 0, .int 0]))] sz) := by
  refine Met.ofW (cc := cX5_init) (maxL := 1) (ret := none) (by decide) rfl ?_
  intro p e s m args below meth c s₁ B hml hv
  obtain ⟨rfl, hsz, hP, hK, hD0⟩ := hv
  have hx := B.exec
  have hb := B.bytes
  have hr := B.returns
  have hts0 := atoms_spec (ws := ct_wd yX5_init cX5_init 1) B.pre
  have hts : ∀ w ∈ sy_gT, w.before ([.ref h0] : List Value).toArray s = true := fun w hw => hts0 w (List.mem_cons_of_mem _ hw)
  have hown : s.vm.findClass RX5 = some m.cls := findClass_of_methodNamed B.named
  have hnm : meth.name = "<init>" := (name_of_methodNamed B.named B.method).1
  subst hsz
  have hD := hD0.self (sz := s.heap.size)
  generalize hAe : va_A [(h0, .inr (5, [.null, .int 0, .int 0, .int 0]))] s.heap.size = A at hD ⊢
  have hA : ∀ q : Nat, s.heap.size ≤ q → A q := fun q h => by rw [← hAe]; exact Or.inr h
  have hS : va_S A s.heap s.heap [] := va_S.rf
  have hP : va_P (dC, dI) vwCl [(h0, .inr (5, [.null, .int 0, .int 0, .int 0]))] s.heap := hP
  have hl := lv_entry ([.ref h0]) (n := 1) (Nat.le_of_ble_eq_true rfl)
  rw [lg_entry_eq]
  generalize (lg_sl ([.ref h0]) ++ List.replicate (1 - (lg_sl ([.ref h0])).length) Slot.unset).toArray = ls at hl ⊢
  have hl : lv_has ls 1 [(0, .ref h0)] := hl
  refine lv_aload_n hx hb dX5_init_0 rfl (lv_at hl 0 rfl) ?_
  refine W.objInit hx hb hown (hts _ ct_oi_5) (hts _ ct_oin) (hts _ ct_oco) rfl (by rw [hml]; exact hl.1) rfl dX5_init_1 (Nat.le_of_ble_eq_true rfl) (Nat.le_of_ble_eq_true rfl) ?_
  refine W.eq (g2 := F0 m 4 ls []) rfl ?_
  refine lv_aload_n hx hb dX5_init_4 rfl (lv_at hl 0 rfl) ?_
  refine lv_bipush (v := 30) hx hb dX5_init_5 (by decide) ?_
  refine va_newa (atype := .int) (ty := .int) (a0 := (30, .inl (fun _ => 0))) (N' := 30) hx hb (hts _ ct_arr) rfl hK hP hD hS hA (fun _ => rfl) (by decide) (by decide) (by decide) (Nat.le_of_ble_eq_true rfl) (Nat.le_of_ble_eq_true rfl) dX5_init_7 (fun q1 cA H hK1 hP hD hS => ?_)
  have e9 := ct_same hK hK1
  subst e9
  have hP : va_P (dC, dI) vwCl [(h0, .inr (5, [.null, .int 0, .int 0, .int 0])), (q1, .inl (cI, 30, .inl (fun _ => 0)))] H := hP
  have hD : va_D A [(h0, .inr (5, [.null, .int 0, .int 0, .int 0])), (q1, .inl (cI, 30, .inl (fun _ => 0)))] := hD
  refine W.widen (k := 1) (n := 30) (by omega) (by omega) ?_
  refine va_putF (D := (dC, dI)) (ci := 5) (v := .ref q1) (ty := .array .int) (C := RX5) (T := TX5) (N := 4) hx hb hts sy_u5.1 tyX5 tyX5_ok nmX5 hown hK hP hD hS 0 rfl rfl 0 (by decide) (hts _ ct_f_5_11) (fun _ h9 => h9) rfl hnm rfl (by decide +kernel) rfl rfl (Nat.le_of_ble_eq_true rfl) dX5_init_9 (fun H locs hP hD hS => ?_)
  have hP : va_P (dC, dI) vwCl [(h0, .inr (5, [.ref q1, .int 0, .int 0, .int 0])), (q1, .inl (cI, 30, .inl (fun _ => 0)))] H := hP
  have hD : va_D A [(h0, .inr (5, [.ref q1, .int 0, .int 0, .int 0])), (q1, .inl (cI, 30, .inl (fun _ => 0)))] := hD
  refine lv_aload_n hx hb dX5_init_12 rfl (lv_at hl 0 rfl) ?_
  refine lv_iconst (v := 0) hx hb dX5_init_13 (by decide) ?_
  refine va_put (D := (dC, dI)) (ci := 5) (v := .int 0) (ty := .int) (C := RX5) (T := TX5) (N := 4) hx hb hts sy_u5.1 tyX5 tyX5_ok nmX5 hown hK hP hD hS 0 rfl rfl 1 (by decide) (hts _ ct_f_5_15) (fun _ h9 => h9) rfl (by decide +kernel) rfl rfl (Nat.le_of_ble_eq_true rfl) dX5_init_14 (fun H locs hP hD hS => ?_)
  have hP : va_P (dC, dI) vwCl [(h0, .inr (5, [.ref q1, .int 0, .int 0, .int 0])), (q1, .inl (cI, 30, .inl (fun _ => 0)))] H := hP
  have hD : va_D A [(h0, .inr (5, [.ref q1, .int 0, .int 0, .int 0])), (q1, .inl (cI, 30, .inl (fun _ => 0)))] := hD
  refine lv_aload_n hx hb dX5_init_17 rfl (lv_at hl 0 rfl) ?_
  refine lv_iconst (v := (-1)) hx hb dX5_init_18 (by decide) ?_
  refine va_put (D := (dC, dI)) (ci := 5) (v := .int (-1)) (ty := .int) (C := RX5) (T := TX5) (N := 4) hx hb hts sy_u5.1 tyX5 tyX5_ok nmX5 hown hK hP hD hS 0 rfl rfl 2 (by decide) (hts _ ct_f_5_19) (fun _ h9 => h9) rfl (by decide +kernel) rfl rfl (Nat.le_of_ble_eq_true rfl) dX5_init_19 (fun H locs hP hD hS => ?_)
  have hP : va_P (dC, dI) vwCl [(h0, .inr (5, [.ref q1, .int 0, .int (-1), .int 0])), (q1, .inl (cI, 30, .inl (fun _ => 0)))] H := hP
  have hD : va_D A [(h0, .inr (5, [.ref q1, .int 0, .int (-1), .int 0])), (q1, .inl (cI, 30, .inl (fun _ => 0)))] := hD
  refine lv_aload_n hx hb dX5_init_22 rfl (lv_at hl 0 rfl) ?_
  refine lv_iconst (v := 0) hx hb dX5_init_23 (by decide) ?_
  refine va_put (D := (dC, dI)) (ci := 5) (v := .int 0) (ty := .int) (C := RX5) (T := TX5) (N := 4) hx hb hts sy_u5.1 tyX5 tyX5_ok nmX5 hown hK hP hD hS 0 rfl rfl 3 (by decide) (hts _ ct_f_5_22) (fun _ h9 => h9) rfl (by decide +kernel) rfl rfl (Nat.le_of_ble_eq_true rfl) dX5_init_24 (fun H locs hP hD hS => ?_)
  have hP : va_P (dC, dI) vwCl [(h0, .inr (5, [.ref q1, .int 0, .int (-1), .int 0])), (q1, .inl (cI, 30, .inl (fun _ => 0)))] H := hP
  have hD : va_D A [(h0, .inr (5, [.ref q1, .int 0, .int (-1), .int 0])), (q1, .inl (cI, 30, .inl (fun _ => 0)))] := hD
  exact W.vret hx hb hr (fun t ht hW => ⟨⟨(), rfl, trivial, q1, by rw [ht]; exact hP, va_K.moved hW.alike hK, hD⟩, hS.F ht⟩) hS.2.2 dX5_init_27
set_option maxHeartbeats 4000000 in
set_option maxRecDepth 100000 in
theorem ct_X4 (l : Launch) (dC : Nat → ClassId) (dI : Nat → Nat → Nat) (cI cS : ClassId) (h0 sz : Nat) : Met l yX4_init (ct_wd yX4_init cX4_init 1) ({ frames := 1, cells := 5, slots := 200, locals := 12 }) (va_Pc [.ref h0] (fun U => U.heap.size = sz ∧ va_P (dC, dI) vwCl [(h0, .inr (4, [.null, .null, .null, .null, .null, .int 0]))] U.heap ∧ va_K (dC, dI) vwCl (sy_tys cI cS) U ∧ va_D (fun _ => True) [(h0, .inr (4, [.null, .null, .null, .null, .null, .int 0]))])) (va_Qv (fun _ : Unit => True) (fun _ t => ∃ q1 q2 q3 q4 q5 : Nat, va_P (dC, dI) vwCl [(h0, .inr (4, [.ref q1, .ref q2, .ref q3, .ref q4, .ref q5, .int 0])), (q1, .inl (cI, 40, .inl (fun _ => 0))), (q2, .inl (cI, 40, .inl (fun _ => 0))), (q3, .inl (cI, 40, .inl (fun _ => 0))), (q4, .inl (cI, 40, .inl (fun _ => 0))), (q5, .inl (cI, 40, .inl (fun _ => 0)))] t.heap ∧ va_K (dC, dI) vwCl (sy_tys cI cS) t ∧ va_D (va_A [(h0, .inr (4, [.null, .null, .null, .null, .null, .int 0]))] sz) [(h0, .inr (4, [.ref q1, .ref q2, .ref q3, .ref q4, .ref q5, .int 0])), (q1, .inl (cI, 40, .inl (fun _ => 0))), (q2, .inl (cI, 40, .inl (fun _ => 0))), (q3, .inl (cI, 40, .inl (fun _ => 0))), (q4, .inl (cI, 40, .inl (fun _ => 0))), (q5, .inl (cI, 40, .inl (fun _ => 0)))]) (va_A [(h0, .inr (4, [.null, .null, .null, .null, .null, .int 0]))] sz)) 5 200 (va_A [(h0, .inr (4, [.null, .null, .null, .null, .null, .int 0]))] sz) := by
  refine Met.ofW (cc := cX4_init) (maxL := 1) (ret := none) (by decide) rfl ?_
  intro p e s m args below meth c s₁ B hml hv
  obtain ⟨rfl, hsz, hP, hK, hD0⟩ := hv
  have hx := B.exec
  have hb := B.bytes
  have hr := B.returns
  have hts0 := atoms_spec (ws := ct_wd yX4_init cX4_init 1) B.pre
  have hts : ∀ w ∈ sy_gT, w.before ([.ref h0] : List Value).toArray s = true := fun w hw => hts0 w (List.mem_cons_of_mem _ hw)
  have hown : s.vm.findClass RX4 = some m.cls := findClass_of_methodNamed B.named
  have hnm : meth.name = "<init>" := (name_of_methodNamed B.named B.method).1
  subst hsz
  have hD := hD0.self (sz := s.heap.size)
  generalize hAe : va_A [(h0, .inr (4, [.null, .null, .null, .null, .null, .int 0]))] s.heap.size = A at hD ⊢
  have hA : ∀ q : Nat, s.heap.size ≤ q → A q := fun q h => by rw [← hAe]; exact Or.inr h
  have hS : va_S A s.heap s.heap [] := va_S.rf
  have hP : va_P (dC, dI) vwCl [(h0, .inr (4, [.null, .null, .null, .null, .null, .int 0]))] s.heap := hP
  have hl := lv_entry ([.ref h0]) (n := 1) (Nat.le_of_ble_eq_true rfl)
  rw [lg_entry_eq]
  generalize (lg_sl ([.ref h0]) ++ List.replicate (1 - (lg_sl ([.ref h0])).length) Slot.unset).toArray = ls at hl ⊢
  have hl : lv_has ls 1 [(0, .ref h0)] := hl
  refine lv_aload_n hx hb dX4_init_0 rfl (lv_at hl 0 rfl) ?_
  refine W.objInit hx hb hown (hts _ ct_oi_4) (hts _ ct_oin) (hts _ ct_oco) rfl (by rw [hml]; exact hl.1) rfl dX4_init_1 (Nat.le_of_ble_eq_true rfl) (Nat.le_of_ble_eq_true rfl) ?_
  refine W.eq (g2 := F0 m 4 ls []) rfl ?_
  refine lv_aload_n hx hb dX4_init_4 rfl (lv_at hl 0 rfl) ?_
  refine lv_bipush (v := 40) hx hb dX4_init_5 (by decide) ?_
  refine va_newa (atype := .int) (ty := .int) (a0 := (40, .inl (fun _ => 0))) (N' := 40) hx hb (hts _ ct_arr) rfl hK hP hD hS hA (fun _ => rfl) (by decide) (by decide) (by decide) (Nat.le_of_ble_eq_true rfl) (Nat.le_of_ble_eq_true rfl) dX4_init_7 (fun q1 cA H hK1 hP hD hS => ?_)
  have e9 := ct_same hK hK1
  subst e9
  have hP : va_P (dC, dI) vwCl [(h0, .inr (4, [.null, .null, .null, .null, .null, .int 0])), (q1, .inl (cI, 40, .inl (fun _ => 0)))] H := hP
  have hD : va_D A [(h0, .inr (4, [.null, .null, .null, .null, .null, .int 0])), (q1, .inl (cI, 40, .inl (fun _ => 0)))] := hD
  refine W.widen (k := 1) (n := 40) (by omega) (by omega) ?_
  refine va_putF (D := (dC, dI)) (ci := 4) (v := .ref q1) (ty := .array .int) (C := RX4) (T := TX4) (N := 6) hx hb hts sy_u4.1 tyX4 tyX4_ok nmX4 hown hK hP hD hS 0 rfl rfl 0 (by decide) (hts _ ct_f_4_11) (fun _ h9 => h9) rfl hnm rfl (by decide +kernel) rfl rfl (Nat.le_of_ble_eq_true rfl) dX4_init_9 (fun H locs hP hD hS => ?_)
  have hP : va_P (dC, dI) vwCl [(h0, .inr (4, [.ref q1, .null, .null, .null, .null, .int 0])), (q1, .inl (cI, 40, .inl (fun _ => 0)))] H := hP
  have hD : va_D A [(h0, .inr (4, [.ref q1, .null, .null, .null, .null, .int 0])), (q1, .inl (cI, 40, .inl (fun _ => 0)))] := hD
  refine lv_aload_n hx hb dX4_init_12 rfl (lv_at hl 0 rfl) ?_
  refine lv_bipush (v := 40) hx hb dX4_init_13 (by decide) ?_
  refine va_newa (atype := .int) (ty := .int) (a0 := (40, .inl (fun _ => 0))) (N' := 40) hx hb (hts _ ct_arr) rfl hK hP hD hS hA (fun _ => rfl) (by decide) (by decide) (by decide) (Nat.le_of_ble_eq_true rfl) (Nat.le_of_ble_eq_true rfl) dX4_init_15 (fun q2 cA H hK1 hP hD hS => ?_)
  have e9 := ct_same hK hK1
  subst e9
  have hP : va_P (dC, dI) vwCl [(h0, .inr (4, [.ref q1, .null, .null, .null, .null, .int 0])), (q1, .inl (cI, 40, .inl (fun _ => 0))), (q2, .inl (cI, 40, .inl (fun _ => 0)))] H := hP
  have hD : va_D A [(h0, .inr (4, [.ref q1, .null, .null, .null, .null, .int 0])), (q1, .inl (cI, 40, .inl (fun _ => 0))), (q2, .inl (cI, 40, .inl (fun _ => 0)))] := hD
  refine W.widen (k := 2) (n := 80) (by omega) (by omega) ?_
  refine va_putF (D := (dC, dI)) (ci := 4) (v := .ref q2) (ty := .array .int) (C := RX4) (T := TX4) (N := 6) hx hb hts sy_u4.1 tyX4 tyX4_ok nmX4 hown hK hP hD hS 0 rfl rfl 1 (by decide) (hts _ ct_f_4_15) (fun _ h9 => h9) rfl hnm rfl (by decide +kernel) rfl rfl (Nat.le_of_ble_eq_true rfl) dX4_init_17 (fun H locs hP hD hS => ?_)
  have hP : va_P (dC, dI) vwCl [(h0, .inr (4, [.ref q1, .ref q2, .null, .null, .null, .int 0])), (q1, .inl (cI, 40, .inl (fun _ => 0))), (q2, .inl (cI, 40, .inl (fun _ => 0)))] H := hP
  have hD : va_D A [(h0, .inr (4, [.ref q1, .ref q2, .null, .null, .null, .int 0])), (q1, .inl (cI, 40, .inl (fun _ => 0))), (q2, .inl (cI, 40, .inl (fun _ => 0)))] := hD
  refine lv_aload_n hx hb dX4_init_20 rfl (lv_at hl 0 rfl) ?_
  refine lv_bipush (v := 40) hx hb dX4_init_21 (by decide) ?_
  refine va_newa (atype := .int) (ty := .int) (a0 := (40, .inl (fun _ => 0))) (N' := 40) hx hb (hts _ ct_arr) rfl hK hP hD hS hA (fun _ => rfl) (by decide) (by decide) (by decide) (Nat.le_of_ble_eq_true rfl) (Nat.le_of_ble_eq_true rfl) dX4_init_23 (fun q3 cA H hK1 hP hD hS => ?_)
  have e9 := ct_same hK hK1
  subst e9
  have hP : va_P (dC, dI) vwCl [(h0, .inr (4, [.ref q1, .ref q2, .null, .null, .null, .int 0])), (q1, .inl (cI, 40, .inl (fun _ => 0))), (q2, .inl (cI, 40, .inl (fun _ => 0))), (q3, .inl (cI, 40, .inl (fun _ => 0)))] H := hP
  have hD : va_D A [(h0, .inr (4, [.ref q1, .ref q2, .null, .null, .null, .int 0])), (q1, .inl (cI, 40, .inl (fun _ => 0))), (q2, .inl (cI, 40, .inl (fun _ => 0))), (q3, .inl (cI, 40, .inl (fun _ => 0)))] := hD
  refine W.widen (k := 3) (n := 120) (by omega) (by omega) ?_
  refine va_putF (D := (dC, dI)) (ci := 4) (v := .ref q3) (ty := .array .int) (C := RX4) (T := TX4) (N := 6) hx hb hts sy_u4.1 tyX4 tyX4_ok nmX4 hown hK hP hD hS 0 rfl rfl 2 (by decide) (hts _ ct_f_4_18) (fun _ h9 => h9) rfl hnm rfl (by decide +kernel) rfl rfl (Nat.le_of_ble_eq_true rfl) dX4_init_25 (fun H locs hP hD hS => ?_)
  have hP : va_P (dC, dI) vwCl [(h0, .inr (4, [.ref q1, .ref q2, .ref q3, .null, .null, .int 0])), (q1, .inl (cI, 40, .inl (fun _ => 0))), (q2, .inl (cI, 40, .inl (fun _ => 0))), (q3, .inl (cI, 40, .inl (fun _ => 0)))] H := hP
  have hD : va_D A [(h0, .inr (4, [.ref q1, .ref q2, .ref q3, .null, .null, .int 0])), (q1, .inl (cI, 40, .inl (fun _ => 0))), (q2, .inl (cI, 40, .inl (fun _ => 0))), (q3, .inl (cI, 40, .inl (fun _ => 0)))] := hD
  refine lv_aload_n hx hb dX4_init_28 rfl (lv_at hl 0 rfl) ?_
  refine lv_bipush (v := 40) hx hb dX4_init_29 (by decide) ?_
  refine va_newa (atype := .int) (ty := .int) (a0 := (40, .inl (fun _ => 0))) (N' := 40) hx hb (hts _ ct_arr) rfl hK hP hD hS hA (fun _ => rfl) (by decide) (by decide) (by decide) (Nat.le_of_ble_eq_true rfl) (Nat.le_of_ble_eq_true rfl) dX4_init_31 (fun q4 cA H hK1 hP hD hS => ?_)
  have e9 := ct_same hK hK1
  subst e9
  have hP : va_P (dC, dI) vwCl [(h0, .inr (4, [.ref q1, .ref q2, .ref q3, .null, .null, .int 0])), (q1, .inl (cI, 40, .inl (fun _ => 0))), (q2, .inl (cI, 40, .inl (fun _ => 0))), (q3, .inl (cI, 40, .inl (fun _ => 0))), (q4, .inl (cI, 40, .inl (fun _ => 0)))] H := hP
  have hD : va_D A [(h0, .inr (4, [.ref q1, .ref q2, .ref q3, .null, .null, .int 0])), (q1, .inl (cI, 40, .inl (fun _ => 0))), (q2, .inl (cI, 40, .inl (fun _ => 0))), (q3, .inl (cI, 40, .inl (fun _ => 0))), (q4, .inl (cI, 40, .inl (fun _ => 0)))] := hD
  refine W.widen (k := 4) (n := 160) (by omega) (by omega) ?_
  refine va_putF (D := (dC, dI)) (ci := 4) (v := .ref q4) (ty := .array .int) (C := RX4) (T := TX4) (N := 6) hx hb hts sy_u4.1 tyX4 tyX4_ok nmX4 hown hK hP hD hS 0 rfl rfl 3 (by decide) (hts _ ct_f_4_21) (fun _ h9 => h9) rfl hnm rfl (by decide +kernel) rfl rfl (Nat.le_of_ble_eq_true rfl) dX4_init_33 (fun H locs hP hD hS => ?_)
  have hP : va_P (dC, dI) vwCl [(h0, .inr (4, [.ref q1, .ref q2, .ref q3, .ref q4, .null, .int 0])), (q1, .inl (cI, 40, .inl (fun _ => 0))), (q2, .inl (cI, 40, .inl (fun _ => 0))), (q3, .inl (cI, 40, .inl (fun _ => 0))), (q4, .inl (cI, 40, .inl (fun _ => 0)))] H := hP
  have hD : va_D A [(h0, .inr (4, [.ref q1, .ref q2, .ref q3, .ref q4, .null, .int 0])), (q1, .inl (cI, 40, .inl (fun _ => 0))), (q2, .inl (cI, 40, .inl (fun _ => 0))), (q3, .inl (cI, 40, .inl (fun _ => 0))), (q4, .inl (cI, 40, .inl (fun _ => 0)))] := hD
  refine lv_aload_n hx hb dX4_init_36 rfl (lv_at hl 0 rfl) ?_
  refine lv_bipush (v := 40) hx hb dX4_init_37 (by decide) ?_
  refine va_newa (atype := .int) (ty := .int) (a0 := (40, .inl (fun _ => 0))) (N' := 40) hx hb (hts _ ct_arr) rfl hK hP hD hS hA (fun _ => rfl) (by decide) (by decide) (by decide) (Nat.le_of_ble_eq_true rfl) (Nat.le_of_ble_eq_true rfl) dX4_init_39 (fun q5 cA H hK1 hP hD hS => ?_)
  have e9 := ct_same hK hK1
  subst e9
  have hP : va_P (dC, dI) vwCl [(h0, .inr (4, [.ref q1, .ref q2, .ref q3, .ref q4, .null, .int 0])), (q1, .inl (cI, 40, .inl (fun _ => 0))), (q2, .inl (cI, 40, .inl (fun _ => 0))), (q3, .inl (cI, 40, .inl (fun _ => 0))), (q4, .inl (cI, 40, .inl (fun _ => 0))), (q5, .inl (cI, 40, .inl (fun _ => 0)))] H := hP
  have hD : va_D A [(h0, .inr (4, [.ref q1, .ref q2, .ref q3, .ref q4, .null, .int 0])), (q1, .inl (cI, 40, .inl (fun _ => 0))), (q2, .inl (cI, 40, .inl (fun _ => 0))), (q3, .inl (cI, 40, .inl (fun _ => 0))), (q4, .inl (cI, 40, .inl (fun _ => 0))), (q5, .inl (cI, 40, .inl (fun _ => 0)))] := hD
  refine W.widen (k := 5) (n := 200) (by omega) (by omega) ?_
  refine va_putF (D := (dC, dI)) (ci := 4) (v := .ref q5) (ty := .array .int) (C := RX4) (T := TX4) (N := 6) hx hb hts sy_u4.1 tyX4 tyX4_ok nmX4 hown hK hP hD hS 0 rfl rfl 4 (by decide) (hts _ ct_f_4_24) (fun _ h9 => h9) rfl hnm rfl (by decide +kernel) rfl rfl (Nat.le_of_ble_eq_true rfl) dX4_init_41 (fun H locs hP hD hS => ?_)
  have hP : va_P (dC, dI) vwCl [(h0, .inr (4, [.ref q1, .ref q2, .ref q3, .ref q4, .ref q5, .int 0])), (q1, .inl (cI, 40, .inl (fun _ => 0))), (q2, .inl (cI, 40, .inl (fun _ => 0))), (q3, .inl (cI, 40, .inl (fun _ => 0))), (q4, .inl (cI, 40, .inl (fun _ => 0))), (q5, .inl (cI, 40, .inl (fun _ => 0)))] H := hP
  have hD : va_D A [(h0, .inr (4, [.ref q1, .ref q2, .ref q3, .ref q4, .ref q5, .int 0])), (q1, .inl (cI, 40, .inl (fun _ => 0))), (q2, .inl (cI, 40, .inl (fun _ => 0))), (q3, .inl (cI, 40, .inl (fun _ => 0))), (q4, .inl (cI, 40, .inl (fun _ => 0))), (q5, .inl (cI, 40, .inl (fun _ => 0)))] := hD
  refine lv_aload_n hx hb dX4_init_44 rfl (lv_at hl 0 rfl) ?_
  refine lv_iconst (v := 0) hx hb dX4_init_45 (by decide) ?_
  refine va_put (D := (dC, dI)) (ci := 4) (v := .int 0) (ty := .int) (C := RX4) (T := TX4) (N := 6) hx hb hts sy_u4.1 tyX4 tyX4_ok nmX4 hown hK hP hD hS 0 rfl rfl 5 (by decide) (hts _ ct_f_4_27) (fun _ h9 => h9) rfl (by decide +kernel) rfl rfl (Nat.le_of_ble_eq_true rfl) dX4_init_46 (fun H locs hP hD hS => ?_)
  have hP : va_P (dC, dI) vwCl [(h0, .inr (4, [.ref q1, .ref q2, .ref q3, .ref q4, .ref q5, .int 0])), (q1, .inl (cI, 40, .inl (fun _ => 0))), (q2, .inl (cI, 40, .inl (fun _ => 0))), (q3, .inl (cI, 40, .inl (fun _ => 0))), (q4, .inl (cI, 40, .inl (fun _ => 0))), (q5, .inl (cI, 40, .inl (fun _ => 0)))] H := hP
  have hD : va_D A [(h0, .inr (4, [.ref q1, .ref q2, .ref q3, .ref q4, .ref q5, .int 0])), (q1, .inl (cI, 40, .inl (fun _ => 0))), (q2, .inl (cI, 40, .inl (fun _ => 0))), (q3, .inl (cI, 40, .inl (fun _ => 0))), (q4, .inl (cI, 40, .inl (fun _ => 0))), (q5, .inl (cI, 40, .inl (fun _ => 0)))] := hD
  exact W.vret hx hb hr (fun t ht hW => ⟨⟨(), rfl, trivial, q1, q2, q3, q4, q5, by rw [ht]; exact hP, va_K.moved hW.alike hK, hD⟩, hS.F ht⟩) hS.2.2 dX4_init_49
set_option maxHeartbeats 4000000 in
set_option maxRecDepth 100000 in
theorem ct_X6 (l : Launch) (dC : Nat → ClassId) (dI : Nat → Nat → Nat) (cI cS : ClassId) (h0 a1 a2 sz : Nat) : Met l yX6_init (ct_wd yX6_init cX6_init 3) ({ frames := 1, cells := 3, slots := 27, locals := 12 }) (va_Pc [.ref h0, .ref a1, .ref a2] (fun U => U.heap.size = sz ∧ va_P (dC, dI) vwCl [(h0, .inr (6, [.null, .null, .null, .null, .null, .int 0, .int 0, .int 0, .int 0, .int 0, .int 0]))] U.heap ∧ va_K (dC, dI) vwCl (sy_tys cI cS) U ∧ va_D (fun _ => True) [(h0, .inr (6, [.null, .null, .null, .null, .null, .int 0, .int 0, .int 0, .int 0, .int 0, .int 0]))])) (va_Qv (fun _ : Unit => True) (fun _ t => ∃ q1 q2 q3 : Nat, va_P (dC, dI) vwCl [(h0, .inr (6, [.ref a1, .ref a2, .ref q1, .ref q2, .ref q3, .int 0, .int 30, .int 0, .int 0, .int (-1), .int 0])), (q1, .inl (cI, 9, .inl (fun _ => 0))), (q2, .inl (cI, 9, .inl (fun _ => 0))), (q3, .inl (cI, 9, .inl (fun _ => 0)))] t.heap ∧ va_K (dC, dI) vwCl (sy_tys cI cS) t ∧ va_D (va_A [(h0, .inr (6, [.null, .null, .null, .null, .null, .int 0, .int 0, .int 0, .int 0, .int 0, .int 0]))] sz) [(h0, .inr (6, [.ref a1, .ref a2, .ref q1, .ref q2, .ref q3, .int 0, .int 30, .int 0, .int 0, .int (-1), .int 0])), (q1, .inl (cI, 9, .inl (fun _ => 0))), (q2, .inl (cI, 9, .inl (fun _ => 0))), (q3, .inl (cI, 9, .inl (fun _ => 0)))]) (va_A [(h0, .inr (6, [.null, .null, .null, .null, .null, .int 0, .int 0, .int 0, .int 0, .int 0, .int 0]))] sz)) 3 27 (va_A [(h0, .inr (6, [.null, .null, .null, .null, .null, .int 0, .int 0, .int 0, .int 0, .int 0, .int 0]))] sz) := by
  refine Met.ofW (cc := cX6_init) (maxL := 3) (ret := none) (by decide) rfl ?_
  intro p e s m args below meth c s₁ B hml hv
  obtain ⟨rfl, hsz, hP, hK, hD0⟩ := hv
  have hx := B.exec
  have hb := B.bytes
  have hr := B.returns
  have hts0 := atoms_spec (ws := ct_wd yX6_init cX6_init 3) B.pre
  have hts : ∀ w ∈ sy_gT, w.before ([.ref h0, .ref a1, .ref a2] : List Value).toArray s = true := fun w hw => hts0 w (List.mem_cons_of_mem _ hw)
  have hown : s.vm.findClass RX6 = some m.cls := findClass_of_methodNamed B.named
  have hnm : meth.name = "<init>" := (name_of_methodNamed B.named B.method).1
  subst hsz
  have hD := hD0.self (sz := s.heap.size)
  generalize hAe : va_A [(h0, .inr (6, [.null, .null, .null, .null, .null, .int 0, .int 0, .int 0, .int 0, .int 0, .int 0]))] s.heap.size = A at hD ⊢
  have hA : ∀ q : Nat, s.heap.size ≤ q → A q := fun q h => by rw [← hAe]; exact Or.inr h
  have hS : va_S A s.heap s.heap [] := va_S.rf
  have hP : va_P (dC, dI) vwCl [(h0, .inr (6, [.null, .null, .null, .null, .null, .int 0, .int 0, .int 0, .int 0, .int 0, .int 0]))] s.heap := hP
  have hl := lv_entry ([.ref h0, .ref a1, .ref a2]) (n := 3) (Nat.le_of_ble_eq_true rfl)
  rw [lg_entry_eq]
  generalize (lg_sl ([.ref h0, .ref a1, .ref a2]) ++ List.replicate (3 - (lg_sl ([.ref h0, .ref a1, .ref a2])).length) Slot.unset).toArray = ls at hl ⊢
  have hl : lv_has ls 3 [(0, .ref h0), (1, .ref a1), (2, .ref a2)] := hl
  refine lv_aload_n hx hb dX6_init_0 rfl (lv_at hl 0 rfl) ?_
  refine W.objInit hx hb hown (hts _ ct_oi_6) (hts _ ct_oin) (hts _ ct_oco) rfl (by rw [hml]; exact hl.1) rfl dX6_init_1 (Nat.le_of_ble_eq_true rfl) (Nat.le_of_ble_eq_true rfl) ?_
  refine W.eq (g2 := F0 m 4 ls []) rfl ?_
  refine lv_aload_n hx hb dX6_init_4 rfl (lv_at hl 0 rfl) ?_
  refine lv_bipush (v := 9) hx hb dX6_init_5 (by decide) ?_
  refine va_newa (atype := .int) (ty := .int) (a0 := (9, .inl (fun _ => 0))) (N' := 9) hx hb (hts _ ct_arr) rfl hK hP hD hS hA (fun _ => rfl) (by decide) (by decide) (by decide) (Nat.le_of_ble_eq_true rfl) (Nat.le_of_ble_eq_true rfl) dX6_init_7 (fun q1 cA H hK1 hP hD hS => ?_)
  have e9 := ct_same hK hK1
  subst e9
  have hP : va_P (dC, dI) vwCl [(h0, .inr (6, [.null, .null, .null, .null, .null, .int 0, .int 0, .int 0, .int 0, .int 0, .int 0])), (q1, .inl (cI, 9, .inl (fun _ => 0)))] H := hP
  have hD : va_D A [(h0, .inr (6, [.null, .null, .null, .null, .null, .int 0, .int 0, .int 0, .int 0, .int 0, .int 0])), (q1, .inl (cI, 9, .inl (fun _ => 0)))] := hD
  refine W.widen (k := 1) (n := 9) (by omega) (by omega) ?_
  refine va_putF (D := (dC, dI)) (ci := 6) (v := .ref q1) (ty := .array .int) (C := RX6) (T := TX6) (N := 11) hx hb hts sy_u6.1 tyX6 tyX6_ok nmX6 hown hK hP hD hS 0 rfl rfl 2 (by decide) (hts _ ct_f_6_9) (fun _ h9 => h9) rfl hnm rfl (by decide +kernel) rfl rfl (Nat.le_of_ble_eq_true rfl) dX6_init_9 (fun H locs hP hD hS => ?_)
  have hP : va_P (dC, dI) vwCl [(h0, .inr (6, [.null, .null, .ref q1, .null, .null, .int 0, .int 0, .int 0, .int 0, .int 0, .int 0])), (q1, .inl (cI, 9, .inl (fun _ => 0)))] H := hP
  have hD : va_D A [(h0, .inr (6, [.null, .null, .ref q1, .null, .null, .int 0, .int 0, .int 0, .int 0, .int 0, .int 0])), (q1, .inl (cI, 9, .inl (fun _ => 0)))] := hD
  refine lv_aload_n hx hb dX6_init_12 rfl (lv_at hl 0 rfl) ?_
  refine lv_bipush (v := 9) hx hb dX6_init_13 (by decide) ?_
  refine va_newa (atype := .int) (ty := .int) (a0 := (9, .inl (fun _ => 0))) (N' := 9) hx hb (hts _ ct_arr) rfl hK hP hD hS hA (fun _ => rfl) (by decide) (by decide) (by decide) (Nat.le_of_ble_eq_true rfl) (Nat.le_of_ble_eq_true rfl) dX6_init_15 (fun q2 cA H hK1 hP hD hS => ?_)
  have e9 := ct_same hK hK1
  subst e9
  have hP : va_P (dC, dI) vwCl [(h0, .inr (6, [.null, .null, .ref q1, .null, .null, .int 0, .int 0, .int 0, .int 0, .int 0, .int 0])), (q1, .inl (cI, 9, .inl (fun _ => 0))), (q2, .inl (cI, 9, .inl (fun _ => 0)))] H := hP
  have hD : va_D A [(h0, .inr (6, [.null, .null, .ref q1, .null, .null, .int 0, .int 0, .int 0, .int 0, .int 0, .int 0])), (q1, .inl (cI, 9, .inl (fun _ => 0))), (q2, .inl (cI, 9, .inl (fun _ => 0)))] := hD
  refine W.widen (k := 2) (n := 18) (by omega) (by omega) ?_
  refine va_putF (D := (dC, dI)) (ci := 6) (v := .ref q2) (ty := .array .int) (C := RX6) (T := TX6) (N := 11) hx hb hts sy_u6.1 tyX6 tyX6_ok nmX6 hown hK hP hD hS 0 rfl rfl 3 (by decide) (hts _ ct_f_6_15) (fun _ h9 => h9) rfl hnm rfl (by decide +kernel) rfl rfl (Nat.le_of_ble_eq_true rfl) dX6_init_17 (fun H locs hP hD hS => ?_)
  have hP : va_P (dC, dI) vwCl [(h0, .inr (6, [.null, .null, .ref q1, .ref q2, .null, .int 0, .int 0, .int 0, .int 0, .int 0, .int 0])), (q1, .inl (cI, 9, .inl (fun _ => 0))), (q2, .inl (cI, 9, .inl (fun _ => 0)))] H := hP
  have hD : va_D A [(h0, .inr (6, [.null, .null, .ref q1, .ref q2, .null, .int 0, .int 0, .int 0, .int 0, .int 0, .int 0])), (q1, .inl (cI, 9, .inl (fun _ => 0))), (q2, .inl (cI, 9, .inl (fun _ => 0)))] := hD
  refine lv_aload_n hx hb dX6_init_20 rfl (lv_at hl 0 rfl) ?_
  refine lv_bipush (v := 9) hx hb dX6_init_21 (by decide) ?_
  refine va_newa (atype := .int) (ty := .int) (a0 := (9, .inl (fun _ => 0))) (N' := 9) hx hb (hts _ ct_arr) rfl hK hP hD hS hA (fun _ => rfl) (by decide) (by decide) (by decide) (Nat.le_of_ble_eq_true rfl) (Nat.le_of_ble_eq_true rfl) dX6_init_23 (fun q3 cA H hK1 hP hD hS => ?_)
  have e9 := ct_same hK hK1
  subst e9
  have hP : va_P (dC, dI) vwCl [(h0, .inr (6, [.null, .null, .ref q1, .ref q2, .null, .int 0, .int 0, .int 0, .int 0, .int 0, .int 0])), (q1, .inl (cI, 9, .inl (fun _ => 0))), (q2, .inl (cI, 9, .inl (fun _ => 0))), (q3, .inl (cI, 9, .inl (fun _ => 0)))] H := hP
  have hD : va_D A [(h0, .inr (6, [.null, .null, .ref q1, .ref q2, .null, .int 0, .int 0, .int 0, .int 0, .int 0, .int 0])), (q1, .inl (cI, 9, .inl (fun _ => 0))), (q2, .inl (cI, 9, .inl (fun _ => 0))), (q3, .inl (cI, 9, .inl (fun _ => 0)))] := hD
  refine W.widen (k := 3) (n := 27) (by omega) (by omega) ?_
  refine va_putF (D := (dC, dI)) (ci := 6) (v := .ref q3) (ty := .array .int) (C := RX6) (T := TX6) (N := 11) hx hb hts sy_u6.1 tyX6 tyX6_ok nmX6 hown hK hP hD hS 0 rfl rfl 4 (by decide) (hts _ ct_f_6_18) (fun _ h9 => h9) rfl hnm rfl (by decide +kernel) rfl rfl (Nat.le_of_ble_eq_true rfl) dX6_init_25 (fun H locs hP hD hS => ?_)
  have hP : va_P (dC, dI) vwCl [(h0, .inr (6, [.null, .null, .ref q1, .ref q2, .ref q3, .int 0, .int 0, .int 0, .int 0, .int 0, .int 0])), (q1, .inl (cI, 9, .inl (fun _ => 0))), (q2, .inl (cI, 9, .inl (fun _ => 0))), (q3, .inl (cI, 9, .inl (fun _ => 0)))] H := hP
  have hD : va_D A [(h0, .inr (6, [.null, .null, .ref q1, .ref q2, .ref q3, .int 0, .int 0, .int 0, .int 0, .int 0, .int 0])), (q1, .inl (cI, 9, .inl (fun _ => 0))), (q2, .inl (cI, 9, .inl (fun _ => 0))), (q3, .inl (cI, 9, .inl (fun _ => 0)))] := hD
  refine lv_aload_n hx hb dX6_init_28 rfl (lv_at hl 0 rfl) ?_
  refine lv_iconst (v := 0) hx hb dX6_init_29 (by decide) ?_
  refine va_put (D := (dC, dI)) (ci := 6) (v := .int 0) (ty := .int) (C := RX6) (T := TX6) (N := 11) hx hb hts sy_u6.1 tyX6 tyX6_ok nmX6 hown hK hP hD hS 0 rfl rfl 5 (by decide) (hts _ ct_f_6_21) (fun _ h9 => h9) rfl (by decide +kernel) rfl rfl (Nat.le_of_ble_eq_true rfl) dX6_init_30 (fun H locs hP hD hS => ?_)
  have hP : va_P (dC, dI) vwCl [(h0, .inr (6, [.null, .null, .ref q1, .ref q2, .ref q3, .int 0, .int 0, .int 0, .int 0, .int 0, .int 0])), (q1, .inl (cI, 9, .inl (fun _ => 0))), (q2, .inl (cI, 9, .inl (fun _ => 0))), (q3, .inl (cI, 9, .inl (fun _ => 0)))] H := hP
  have hD : va_D A [(h0, .inr (6, [.null, .null, .ref q1, .ref q2, .ref q3, .int 0, .int 0, .int 0, .int 0, .int 0, .int 0])), (q1, .inl (cI, 9, .inl (fun _ => 0))), (q2, .inl (cI, 9, .inl (fun _ => 0))), (q3, .inl (cI, 9, .inl (fun _ => 0)))] := hD
  refine lv_aload_n hx hb dX6_init_33 rfl (lv_at hl 0 rfl) ?_
  refine lv_bipush (v := 30) hx hb dX6_init_34 (by decide) ?_
  refine va_put (D := (dC, dI)) (ci := 6) (v := .int 30) (ty := .int) (C := RX6) (T := TX6) (N := 11) hx hb hts sy_u6.1 tyX6 tyX6_ok nmX6 hown hK hP hD hS 0 rfl rfl 6 (by decide) (hts _ ct_f_6_25) (fun _ h9 => h9) rfl (by decide +kernel) rfl rfl (Nat.le_of_ble_eq_true rfl) dX6_init_36 (fun H locs hP hD hS => ?_)
  have hP : va_P (dC, dI) vwCl [(h0, .inr (6, [.null, .null, .ref q1, .ref q2, .ref q3, .int 0, .int 30, .int 0, .int 0, .int 0, .int 0])), (q1, .inl (cI, 9, .inl (fun _ => 0))), (q2, .inl (cI, 9, .inl (fun _ => 0))), (q3, .inl (cI, 9, .inl (fun _ => 0)))] H := hP
  have hD : va_D A [(h0, .inr (6, [.null, .null, .ref q1, .ref q2, .ref q3, .int 0, .int 30, .int 0, .int 0, .int 0, .int 0])), (q1, .inl (cI, 9, .inl (fun _ => 0))), (q2, .inl (cI, 9, .inl (fun _ => 0))), (q3, .inl (cI, 9, .inl (fun _ => 0)))] := hD
  refine lv_aload_n hx hb dX6_init_39 rfl (lv_at hl 0 rfl) ?_
  refine lv_iconst (v := 0) hx hb dX6_init_40 (by decide) ?_
  refine va_put (D := (dC, dI)) (ci := 6) (v := .int 0) (ty := .int) (C := RX6) (T := TX6) (N := 11) hx hb hts sy_u6.1 tyX6 tyX6_ok nmX6 hown hK hP hD hS 0 rfl rfl 7 (by decide) (hts _ ct_f_6_28) (fun _ h9 => h9) rfl (by decide +kernel) rfl rfl (Nat.le_of_ble_eq_true rfl) dX6_init_41 (fun H locs hP hD hS => ?_)
  have hP : va_P (dC, dI) vwCl [(h0, .inr (6, [.null, .null, .ref q1, .ref q2, .ref q3, .int 0, .int 30, .int 0, .int 0, .int 0, .int 0])), (q1, .inl (cI, 9, .inl (fun _ => 0))), (q2, .inl (cI, 9, .inl (fun _ => 0))), (q3, .inl (cI, 9, .inl (fun _ => 0)))] H := hP
  have hD : va_D A [(h0, .inr (6, [.null, .null, .ref q1, .ref q2, .ref q3, .int 0, .int 30, .int 0, .int 0, .int 0, .int 0])), (q1, .inl (cI, 9, .inl (fun _ => 0))), (q2, .inl (cI, 9, .inl (fun _ => 0))), (q3, .inl (cI, 9, .inl (fun _ => 0)))] := hD
  refine lv_aload_n hx hb dX6_init_44 rfl (lv_at hl 0 rfl) ?_
  refine lv_iconst (v := 0) hx hb dX6_init_45 (by decide) ?_
  refine va_put (D := (dC, dI)) (ci := 6) (v := .int 0) (ty := .int) (C := RX6) (T := TX6) (N := 11) hx hb hts sy_u6.1 tyX6 tyX6_ok nmX6 hown hK hP hD hS 0 rfl rfl 8 (by decide) (hts _ ct_f_6_31) (fun _ h9 => h9) rfl (by decide +kernel) rfl rfl (Nat.le_of_ble_eq_true rfl) dX6_init_46 (fun H locs hP hD hS => ?_)
  have hP : va_P (dC, dI) vwCl [(h0, .inr (6, [.null, .null, .ref q1, .ref q2, .ref q3, .int 0, .int 30, .int 0, .int 0, .int 0, .int 0])), (q1, .inl (cI, 9, .inl (fun _ => 0))), (q2, .inl (cI, 9, .inl (fun _ => 0))), (q3, .inl (cI, 9, .inl (fun _ => 0)))] H := hP
  have hD : va_D A [(h0, .inr (6, [.null, .null, .ref q1, .ref q2, .ref q3, .int 0, .int 30, .int 0, .int 0, .int 0, .int 0])), (q1, .inl (cI, 9, .inl (fun _ => 0))), (q2, .inl (cI, 9, .inl (fun _ => 0))), (q3, .inl (cI, 9, .inl (fun _ => 0)))] := hD
  refine lv_aload_n hx hb dX6_init_49 rfl (lv_at hl 0 rfl) ?_
  refine lv_iconst (v := (-1)) hx hb dX6_init_50 (by decide) ?_
  refine va_put (D := (dC, dI)) (ci := 6) (v := .int (-1)) (ty := .int) (C := RX6) (T := TX6) (N := 11) hx hb hts sy_u6.1 tyX6 tyX6_ok nmX6 hown hK hP hD hS 0 rfl rfl 9 (by decide) (hts _ ct_f_6_34) (fun _ h9 => h9) rfl (by decide +kernel) rfl rfl (Nat.le_of_ble_eq_true rfl) dX6_init_51 (fun H locs hP hD hS => ?_)
  have hP : va_P (dC, dI) vwCl [(h0, .inr (6, [.null, .null, .ref q1, .ref q2, .ref q3, .int 0, .int 30, .int 0, .int 0, .int (-1), .int 0])), (q1, .inl (cI, 9, .inl (fun _ => 0))), (q2, .inl (cI, 9, .inl (fun _ => 0))), (q3, .inl (cI, 9, .inl (fun _ => 0)))] H := hP
  have hD : va_D A [(h0, .inr (6, [.null, .null, .ref q1, .ref q2, .ref q3, .int 0, .int 30, .int 0, .int 0, .int (-1), .int 0])), (q1, .inl (cI, 9, .inl (fun _ => 0))), (q2, .inl (cI, 9, .inl (fun _ => 0))), (q3, .inl (cI, 9, .inl (fun _ => 0)))] := hD
  refine lv_aload_n hx hb dX6_init_54 rfl (lv_at hl 0 rfl) ?_
  refine lv_iconst (v := 0) hx hb dX6_init_55 (by decide) ?_
  refine va_put (D := (dC, dI)) (ci := 6) (v := .int 0) (ty := .int) (C := RX6) (T := TX6) (N := 11) hx hb hts sy_u6.1 tyX6 tyX6_ok nmX6 hown hK hP hD hS 0 rfl rfl 10 (by decide) (hts _ ct_f_6_37) (fun _ h9 => h9) rfl (by decide +kernel) rfl rfl (Nat.le_of_ble_eq_true rfl) dX6_init_56 (fun H locs hP hD hS => ?_)
  have hP : va_P (dC, dI) vwCl [(h0, .inr (6, [.null, .null, .ref q1, .ref q2, .ref q3, .int 0, .int 30, .int 0, .int 0, .int (-1), .int 0])), (q1, .inl (cI, 9, .inl (fun _ => 0))), (q2, .inl (cI, 9, .inl (fun _ => 0))), (q3, .inl (cI, 9, .inl (fun _ => 0)))] H := hP
  have hD : va_D A [(h0, .inr (6, [.null, .null, .ref q1, .ref q2, .ref q3, .int 0, .int 30, .int 0, .int 0, .int (-1), .int 0])), (q1, .inl (cI, 9, .inl (fun _ => 0))), (q2, .inl (cI, 9, .inl (fun _ => 0))), (q3, .inl (cI, 9, .inl (fun _ => 0)))] := hD
  refine lv_aload_n hx hb dX6_init_59 rfl (lv_at hl 0 rfl) ?_
  refine lv_aload_n hx hb dX6_init_60 rfl (lv_at hl 1 rfl) ?_
  refine va_putF (D := (dC, dI)) (ci := 6) (v := .ref a1) (ty := .object "LuckyStolen$Text") (C := RX6) (T := TX6) (N := 11) hx hb hts sy_u6.1 tyX6 tyX6_ok nmX6 hown hK hP hD hS 0 rfl rfl 0 (by decide) (hts _ ct_f_6_40) (fun _ h9 => h9) rfl hnm rfl (by decide +kernel) rfl rfl (Nat.le_of_ble_eq_true rfl) dX6_init_61 (fun H locs hP hD hS => ?_)
  have hP : va_P (dC, dI) vwCl [(h0, .inr (6, [.ref a1, .null, .ref q1, .ref q2, .ref q3, .int 0, .int 30, .int 0, .int 0, .int (-1), .int 0])), (q1, .inl (cI, 9, .inl (fun _ => 0))), (q2, .inl (cI, 9, .inl (fun _ => 0))), (q3, .inl (cI, 9, .inl (fun _ => 0)))] H := hP
  have hD : va_D A [(h0, .inr (6, [.ref a1, .null, .ref q1, .ref q2, .ref q3, .int 0, .int 30, .int 0, .int 0, .int (-1), .int 0])), (q1, .inl (cI, 9, .inl (fun _ => 0))), (q2, .inl (cI, 9, .inl (fun _ => 0))), (q3, .inl (cI, 9, .inl (fun _ => 0)))] := hD
  refine lv_aload_n hx hb dX6_init_64 rfl (lv_at hl 0 rfl) ?_
  refine lv_aload_n hx hb dX6_init_65 rfl (lv_at hl 2 rfl) ?_
  refine va_putF (D := (dC, dI)) (ci := 6) (v := .ref a2) (ty := .object "LuckyStolen$Tale") (C := RX6) (T := TX6) (N := 11) hx hb hts sy_u6.1 tyX6 tyX6_ok nmX6 hown hK hP hD hS 0 rfl rfl 1 (by decide) (hts _ ct_f_6_44) (fun _ h9 => h9) rfl hnm rfl (by decide +kernel) rfl rfl (Nat.le_of_ble_eq_true rfl) dX6_init_66 (fun H locs hP hD hS => ?_)
  have hP : va_P (dC, dI) vwCl [(h0, .inr (6, [.ref a1, .ref a2, .ref q1, .ref q2, .ref q3, .int 0, .int 30, .int 0, .int 0, .int (-1), .int 0])), (q1, .inl (cI, 9, .inl (fun _ => 0))), (q2, .inl (cI, 9, .inl (fun _ => 0))), (q3, .inl (cI, 9, .inl (fun _ => 0)))] H := hP
  have hD : va_D A [(h0, .inr (6, [.ref a1, .ref a2, .ref q1, .ref q2, .ref q3, .int 0, .int 30, .int 0, .int 0, .int (-1), .int 0])), (q1, .inl (cI, 9, .inl (fun _ => 0))), (q2, .inl (cI, 9, .inl (fun _ => 0))), (q3, .inl (cI, 9, .inl (fun _ => 0)))] := hD
  exact W.vret hx hb hr (fun t ht hW => ⟨⟨(), rfl, trivial, q1, q2, q3, by rw [ht]; exact hP, va_K.moved hW.alike hK, hD⟩, hS.F ht⟩) hS.2.2 dX6_init_69
set_option maxHeartbeats 4000000 in
set_option maxRecDepth 100000 in
theorem ct_X2 (l : Launch) (dC : Nat → ClassId) (dI : Nat → Nat → Nat) (cI cS : ClassId) (h0 a1 sz : Nat) : Met l yX2_init (ct_wd yX2_init cX2_init 2) ({ frames := 1, cells := 0, slots := 0, locals := 12 }) (va_Pc [.ref h0, .ref a1] (fun U => U.heap.size = sz ∧ va_P (dC, dI) vwCl [(h0, .inr (2, [.null, .int 0]))] U.heap ∧ va_K (dC, dI) vwCl (sy_tys cI cS) U ∧ va_D (fun _ => True) [(h0, .inr (2, [.null, .int 0]))])) (va_Qv (fun _ : Unit => True) (fun _ t => va_P (dC, dI) vwCl [(h0, .inr (2, [.ref a1, .int (-1)]))] t.heap ∧ va_K (dC, dI) vwCl (sy_tys cI cS) t ∧ va_D (va_A [(h0, .inr (2, [.null, .int 0]))] sz) [(h0, .inr (2, [.ref a1, .int (-1)]))]) (va_A [(h0, .inr (2, [.null, .int 0]))] sz)) 0 0 (va_A [(h0, .inr (2, [.null, .int 0]))] sz) := by
  refine Met.ofW (cc := cX2_init) (maxL := 2) (ret := none) (by decide) rfl ?_
  intro p e s m args below meth c s₁ B hml hv
  obtain ⟨rfl, hsz, hP, hK, hD0⟩ := hv
  have hx := B.exec
  have hb := B.bytes
  have hr := B.returns
  have hts0 := atoms_spec (ws := ct_wd yX2_init cX2_init 2) B.pre
  have hts : ∀ w ∈ sy_gT, w.before ([.ref h0, .ref a1] : List Value).toArray s = true := fun w hw => hts0 w (List.mem_cons_of_mem _ hw)
  have hown : s.vm.findClass RX2 = some m.cls := findClass_of_methodNamed B.named
  have hnm : meth.name = "<init>" := (name_of_methodNamed B.named B.method).1
  subst hsz
  have hD := hD0.self (sz := s.heap.size)
  generalize hAe : va_A [(h0, .inr (2, [.null, .int 0]))] s.heap.size = A at hD ⊢
  have hA : ∀ q : Nat, s.heap.size ≤ q → A q := fun q h => by rw [← hAe]; exact Or.inr h
  have hS : va_S A s.heap s.heap [] := va_S.rf
  have hP : va_P (dC, dI) vwCl [(h0, .inr (2, [.null, .int 0]))] s.heap := hP
  have hl := lv_entry ([.ref h0, .ref a1]) (n := 2) (Nat.le_of_ble_eq_true rfl)
  rw [lg_entry_eq]
  generalize (lg_sl ([.ref h0, .ref a1]) ++ List.replicate (2 - (lg_sl ([.ref h0, .ref a1])).length) Slot.unset).toArray = ls at hl ⊢
  have hl : lv_has ls 2 [(0, .ref h0), (1, .ref a1)] := hl
  refine lv_aload_n hx hb dX2_init_0 rfl (lv_at hl 0 rfl) ?_
  refine W.objInit hx hb hown (hts _ ct_oi_2) (hts _ ct_oin) (hts _ ct_oco) rfl (by rw [hml]; exact hl.1) rfl dX2_init_1 (Nat.le_of_ble_eq_true rfl) (Nat.le_of_ble_eq_true rfl) ?_
  refine W.eq (g2 := F0 m 4 ls []) rfl ?_
  refine lv_aload_n hx hb dX2_init_4 rfl (lv_at hl 0 rfl) ?_
  refine lv_iconst (v := (-1)) hx hb dX2_init_5 (by decide) ?_
  refine va_put (D := (dC, dI)) (ci := 2) (v := .int (-1)) (ty := .int) (C := RX2) (T := TX2) (N := 2) hx hb hts sy_u2.1 tyX2 tyX2_ok nmX2 hown hK hP hD hS 0 rfl rfl 1 (by decide) (hts _ ct_f_2_9) (fun _ h9 => h9) rfl (by decide +kernel) rfl rfl (Nat.le_of_ble_eq_true rfl) dX2_init_6 (fun H locs hP hD hS => ?_)
  have hP : va_P (dC, dI) vwCl [(h0, .inr (2, [.null, .int (-1)]))] H := hP
  have hD : va_D A [(h0, .inr (2, [.null, .int (-1)]))] := hD
  refine lv_aload_n hx hb dX2_init_9 rfl (lv_at hl 0 rfl) ?_
  refine lv_aload_n hx hb dX2_init_10 rfl (lv_at hl 1 rfl) ?_
  refine va_putF (D := (dC, dI)) (ci := 2) (v := .ref a1) (ty := .object "LuckyStolen$Yard") (C := RX2) (T := TX2) (N := 2) hx hb hts sy_u2.1 tyX2 tyX2_ok nmX2 hown hK hP hD hS 0 rfl rfl 0 (by decide) (hts _ ct_f_2_15) (fun _ h9 => h9) rfl hnm rfl (by decide +kernel) rfl rfl (Nat.le_of_ble_eq_true rfl) dX2_init_11 (fun H locs hP hD hS => ?_)
  have hP : va_P (dC, dI) vwCl [(h0, .inr (2, [.ref a1, .int (-1)]))] H := hP
  have hD : va_D A [(h0, .inr (2, [.ref a1, .int (-1)]))] := hD
  exact W.vret hx hb hr (fun t ht hW => ⟨⟨(), rfl, trivial, by rw [ht]; exact hP, va_K.moved hW.alike hK, hD⟩, hS.F ht⟩) hS.2.2 dX2_init_14
set_option maxHeartbeats 4000000 in
set_option maxRecDepth 100000 in
theorem ct_X0 (l : Launch) (dC : Nat → ClassId) (dI : Nat → Nat → Nat) (cI cS : ClassId) (h0 a1 sz : Nat) : Met l yX0_init (ct_wd yX0_init cX0_init 2) ({ frames := 1, cells := 4, slots := 32, locals := 12 }) (va_Pc [.ref h0, .ref a1] (fun U => U.heap.size = sz ∧ va_P (dC, dI) vwCl [(h0, .inr (0, [.null, .null, .null, .null, .null, .int 0, .int 0, .int 0, .int 0, .int 0]))] U.heap ∧ va_K (dC, dI) vwCl (sy_tys cI cS) U ∧ va_D (fun _ => True) [(h0, .inr (0, [.null, .null, .null, .null, .null, .int 0, .int 0, .int 0, .int 0, .int 0]))])) (va_Qv (fun _ : Unit => True) (fun _ t => ∃ q1 q2 q3 q4 : Nat, va_P (dC, dI) vwCl [(h0, .inr (0, [.ref a1, .ref q1, .ref q2, .ref q3, .ref q4, .int 0, .int 0, .int (-1), .int 0, .int 0])), (q1, .inl (cI, 8, .inl (fun _ => 0))), (q2, .inl (cI, 8, .inl (fun _ => 0))), (q3, .inl (cI, 8, .inl (fun _ => 0))), (q4, .inl (cI, 8, .inl (fun _ => 0)))] t.heap ∧ va_K (dC, dI) vwCl (sy_tys cI cS) t ∧ va_D (va_A [(h0, .inr (0, [.null, .null, .null, .null, .null, .int 0, .int 0, .int 0, .int 0, .int 0]))] sz) [(h0, .inr (0, [.ref a1, .ref q1, .ref q2, .ref q3, .ref q4, .int 0, .int 0, .int (-1), .int 0, .int 0])), (q1, .inl (cI, 8, .inl (fun _ => 0))), (q2, .inl (cI, 8, .inl (fun _ => 0))), (q3, .inl (cI, 8, .inl (fun _ => 0))), (q4, .inl (cI, 8, .inl (fun _ => 0)))]) (va_A [(h0, .inr (0, [.null, .null, .null, .null, .null, .int 0, .int 0, .int 0, .int 0, .int 0]))] sz)) 4 32 (va_A [(h0, .inr (0, [.null, .null, .null, .null, .null, .int 0, .int 0, .int 0, .int 0, .int 0]))] sz) := by
  refine Met.ofW (cc := cX0_init) (maxL := 2) (ret := none) (by decide) rfl ?_
  intro p e s m args below meth c s₁ B hml hv
  obtain ⟨rfl, hsz, hP, hK, hD0⟩ := hv
  have hx := B.exec
  have hb := B.bytes
  have hr := B.returns
  have hts0 := atoms_spec (ws := ct_wd yX0_init cX0_init 2) B.pre
  have hts : ∀ w ∈ sy_gT, w.before ([.ref h0, .ref a1] : List Value).toArray s = true := fun w hw => hts0 w (List.mem_cons_of_mem _ hw)
  have hown : s.vm.findClass RX0 = some m.cls := findClass_of_methodNamed B.named
  have hnm : meth.name = "<init>" := (name_of_methodNamed B.named B.method).1
  subst hsz
  have hD := hD0.self (sz := s.heap.size)
  generalize hAe : va_A [(h0, .inr (0, [.null, .null, .null, .null, .null, .int 0, .int 0, .int 0, .int 0, .int 0]))] s.heap.size = A at hD ⊢
  have hA : ∀ q : Nat, s.heap.size ≤ q → A q := fun q h => by rw [← hAe]; exact Or.inr h
  have hS : va_S A s.heap s.heap [] := va_S.rf
  have hP : va_P (dC, dI) vwCl [(h0, .inr (0, [.null, .null, .null, .null, .null, .int 0, .int 0, .int 0, .int 0, .int 0]))] s.heap := hP
  have hl := lv_entry ([.ref h0, .ref a1]) (n := 2) (Nat.le_of_ble_eq_true rfl)
  rw [lg_entry_eq]
  generalize (lg_sl ([.ref h0, .ref a1]) ++ List.replicate (2 - (lg_sl ([.ref h0, .ref a1])).length) Slot.unset).toArray = ls at hl ⊢
  have hl : lv_has ls 2 [(0, .ref h0), (1, .ref a1)] := hl
  refine lv_aload_n hx hb dX0_init_0 rfl (lv_at hl 0 rfl) ?_
  refine W.objInit hx hb hown (hts _ ct_oi_0) (hts _ ct_oin) (hts _ ct_oco) rfl (by rw [hml]; exact hl.1) rfl dX0_init_1 (Nat.le_of_ble_eq_true rfl) (Nat.le_of_ble_eq_true rfl) ?_
  refine W.eq (g2 := F0 m 4 ls []) rfl ?_
  refine lv_aload_n hx hb dX0_init_4 rfl (lv_at hl 0 rfl) ?_
  refine lv_bipush (v := 8) hx hb dX0_init_5 (by decide) ?_
  refine va_newa (atype := .int) (ty := .int) (a0 := (8, .inl (fun _ => 0))) (N' := 8) hx hb (hts _ ct_arr) rfl hK hP hD hS hA (fun _ => rfl) (by decide) (by decide) (by decide) (Nat.le_of_ble_eq_true rfl) (Nat.le_of_ble_eq_true rfl) dX0_init_7 (fun q1 cA H hK1 hP hD hS => ?_)
  have e9 := ct_same hK hK1
  subst e9
  have hP : va_P (dC, dI) vwCl [(h0, .inr (0, [.null, .null, .null, .null, .null, .int 0, .int 0, .int 0, .int 0, .int 0])), (q1, .inl (cI, 8, .inl (fun _ => 0)))] H := hP
  have hD : va_D A [(h0, .inr (0, [.null, .null, .null, .null, .null, .int 0, .int 0, .int 0, .int 0, .int 0])), (q1, .inl (cI, 8, .inl (fun _ => 0)))] := hD
  refine W.widen (k := 1) (n := 8) (by omega) (by omega) ?_
  refine va_putF (D := (dC, dI)) (ci := 0) (v := .ref q1) (ty := .array .int) (C := RX0) (T := TX0) (N := 10) hx hb hts sy_u0.1 tyX0 tyX0_ok nmX0 hown hK hP hD hS 0 rfl rfl 1 (by decide) (hts _ ct_f_0_11) (fun _ h9 => h9) rfl hnm rfl (by decide +kernel) rfl rfl (Nat.le_of_ble_eq_true rfl) dX0_init_9 (fun H locs hP hD hS => ?_)
  have hP : va_P (dC, dI) vwCl [(h0, .inr (0, [.null, .ref q1, .null, .null, .null, .int 0, .int 0, .int 0, .int 0, .int 0])), (q1, .inl (cI, 8, .inl (fun _ => 0)))] H := hP
  have hD : va_D A [(h0, .inr (0, [.null, .ref q1, .null, .null, .null, .int 0, .int 0, .int 0, .int 0, .int 0])), (q1, .inl (cI, 8, .inl (fun _ => 0)))] := hD
  refine lv_aload_n hx hb dX0_init_12 rfl (lv_at hl 0 rfl) ?_
  refine lv_bipush (v := 8) hx hb dX0_init_13 (by decide) ?_
  refine va_newa (atype := .int) (ty := .int) (a0 := (8, .inl (fun _ => 0))) (N' := 8) hx hb (hts _ ct_arr) rfl hK hP hD hS hA (fun _ => rfl) (by decide) (by decide) (by decide) (Nat.le_of_ble_eq_true rfl) (Nat.le_of_ble_eq_true rfl) dX0_init_15 (fun q2 cA H hK1 hP hD hS => ?_)
  have e9 := ct_same hK hK1
  subst e9
  have hP : va_P (dC, dI) vwCl [(h0, .inr (0, [.null, .ref q1, .null, .null, .null, .int 0, .int 0, .int 0, .int 0, .int 0])), (q1, .inl (cI, 8, .inl (fun _ => 0))), (q2, .inl (cI, 8, .inl (fun _ => 0)))] H := hP
  have hD : va_D A [(h0, .inr (0, [.null, .ref q1, .null, .null, .null, .int 0, .int 0, .int 0, .int 0, .int 0])), (q1, .inl (cI, 8, .inl (fun _ => 0))), (q2, .inl (cI, 8, .inl (fun _ => 0)))] := hD
  refine W.widen (k := 2) (n := 16) (by omega) (by omega) ?_
  refine va_putF (D := (dC, dI)) (ci := 0) (v := .ref q2) (ty := .array .int) (C := RX0) (T := TX0) (N := 10) hx hb hts sy_u0.1 tyX0 tyX0_ok nmX0 hown hK hP hD hS 0 rfl rfl 2 (by decide) (hts _ ct_f_0_15) (fun _ h9 => h9) rfl hnm rfl (by decide +kernel) rfl rfl (Nat.le_of_ble_eq_true rfl) dX0_init_17 (fun H locs hP hD hS => ?_)
  have hP : va_P (dC, dI) vwCl [(h0, .inr (0, [.null, .ref q1, .ref q2, .null, .null, .int 0, .int 0, .int 0, .int 0, .int 0])), (q1, .inl (cI, 8, .inl (fun _ => 0))), (q2, .inl (cI, 8, .inl (fun _ => 0)))] H := hP
  have hD : va_D A [(h0, .inr (0, [.null, .ref q1, .ref q2, .null, .null, .int 0, .int 0, .int 0, .int 0, .int 0])), (q1, .inl (cI, 8, .inl (fun _ => 0))), (q2, .inl (cI, 8, .inl (fun _ => 0)))] := hD
  refine lv_aload_n hx hb dX0_init_20 rfl (lv_at hl 0 rfl) ?_
  refine lv_bipush (v := 8) hx hb dX0_init_21 (by decide) ?_
  refine va_newa (atype := .int) (ty := .int) (a0 := (8, .inl (fun _ => 0))) (N' := 8) hx hb (hts _ ct_arr) rfl hK hP hD hS hA (fun _ => rfl) (by decide) (by decide) (by decide) (Nat.le_of_ble_eq_true rfl) (Nat.le_of_ble_eq_true rfl) dX0_init_23 (fun q3 cA H hK1 hP hD hS => ?_)
  have e9 := ct_same hK hK1
  subst e9
  have hP : va_P (dC, dI) vwCl [(h0, .inr (0, [.null, .ref q1, .ref q2, .null, .null, .int 0, .int 0, .int 0, .int 0, .int 0])), (q1, .inl (cI, 8, .inl (fun _ => 0))), (q2, .inl (cI, 8, .inl (fun _ => 0))), (q3, .inl (cI, 8, .inl (fun _ => 0)))] H := hP
  have hD : va_D A [(h0, .inr (0, [.null, .ref q1, .ref q2, .null, .null, .int 0, .int 0, .int 0, .int 0, .int 0])), (q1, .inl (cI, 8, .inl (fun _ => 0))), (q2, .inl (cI, 8, .inl (fun _ => 0))), (q3, .inl (cI, 8, .inl (fun _ => 0)))] := hD
  refine W.widen (k := 3) (n := 24) (by omega) (by omega) ?_
  refine va_putF (D := (dC, dI)) (ci := 0) (v := .ref q3) (ty := .array .int) (C := RX0) (T := TX0) (N := 10) hx hb hts sy_u0.1 tyX0 tyX0_ok nmX0 hown hK hP hD hS 0 rfl rfl 3 (by decide) (hts _ ct_f_0_18) (fun _ h9 => h9) rfl hnm rfl (by decide +kernel) rfl rfl (Nat.le_of_ble_eq_true rfl) dX0_init_25 (fun H locs hP hD hS => ?_)
  have hP : va_P (dC, dI) vwCl [(h0, .inr (0, [.null, .ref q1, .ref q2, .ref q3, .null, .int 0, .int 0, .int 0, .int 0, .int 0])), (q1, .inl (cI, 8, .inl (fun _ => 0))), (q2, .inl (cI, 8, .inl (fun _ => 0))), (q3, .inl (cI, 8, .inl (fun _ => 0)))] H := hP
  have hD : va_D A [(h0, .inr (0, [.null, .ref q1, .ref q2, .ref q3, .null, .int 0, .int 0, .int 0, .int 0, .int 0])), (q1, .inl (cI, 8, .inl (fun _ => 0))), (q2, .inl (cI, 8, .inl (fun _ => 0))), (q3, .inl (cI, 8, .inl (fun _ => 0)))] := hD
  refine lv_aload_n hx hb dX0_init_28 rfl (lv_at hl 0 rfl) ?_
  refine lv_bipush (v := 8) hx hb dX0_init_29 (by decide) ?_
  refine va_newa (atype := .int) (ty := .int) (a0 := (8, .inl (fun _ => 0))) (N' := 8) hx hb (hts _ ct_arr) rfl hK hP hD hS hA (fun _ => rfl) (by decide) (by decide) (by decide) (Nat.le_of_ble_eq_true rfl) (Nat.le_of_ble_eq_true rfl) dX0_init_31 (fun q4 cA H hK1 hP hD hS => ?_)
  have e9 := ct_same hK hK1
  subst e9
  have hP : va_P (dC, dI) vwCl [(h0, .inr (0, [.null, .ref q1, .ref q2, .ref q3, .null, .int 0, .int 0, .int 0, .int 0, .int 0])), (q1, .inl (cI, 8, .inl (fun _ => 0))), (q2, .inl (cI, 8, .inl (fun _ => 0))), (q3, .inl (cI, 8, .inl (fun _ => 0))), (q4, .inl (cI, 8, .inl (fun _ => 0)))] H := hP
  have hD : va_D A [(h0, .inr (0, [.null, .ref q1, .ref q2, .ref q3, .null, .int 0, .int 0, .int 0, .int 0, .int 0])), (q1, .inl (cI, 8, .inl (fun _ => 0))), (q2, .inl (cI, 8, .inl (fun _ => 0))), (q3, .inl (cI, 8, .inl (fun _ => 0))), (q4, .inl (cI, 8, .inl (fun _ => 0)))] := hD
  refine W.widen (k := 4) (n := 32) (by omega) (by omega) ?_
  refine va_putF (D := (dC, dI)) (ci := 0) (v := .ref q4) (ty := .array .int) (C := RX0) (T := TX0) (N := 10) hx hb hts sy_u0.1 tyX0 tyX0_ok nmX0 hown hK hP hD hS 0 rfl rfl 4 (by decide) (hts _ ct_f_0_21) (fun _ h9 => h9) rfl hnm rfl (by decide +kernel) rfl rfl (Nat.le_of_ble_eq_true rfl) dX0_init_33 (fun H locs hP hD hS => ?_)
  have hP : va_P (dC, dI) vwCl [(h0, .inr (0, [.null, .ref q1, .ref q2, .ref q3, .ref q4, .int 0, .int 0, .int 0, .int 0, .int 0])), (q1, .inl (cI, 8, .inl (fun _ => 0))), (q2, .inl (cI, 8, .inl (fun _ => 0))), (q3, .inl (cI, 8, .inl (fun _ => 0))), (q4, .inl (cI, 8, .inl (fun _ => 0)))] H := hP
  have hD : va_D A [(h0, .inr (0, [.null, .ref q1, .ref q2, .ref q3, .ref q4, .int 0, .int 0, .int 0, .int 0, .int 0])), (q1, .inl (cI, 8, .inl (fun _ => 0))), (q2, .inl (cI, 8, .inl (fun _ => 0))), (q3, .inl (cI, 8, .inl (fun _ => 0))), (q4, .inl (cI, 8, .inl (fun _ => 0)))] := hD
  refine lv_aload_n hx hb dX0_init_36 rfl (lv_at hl 0 rfl) ?_
  refine lv_iconst (v := 0) hx hb dX0_init_37 (by decide) ?_
  refine va_put (D := (dC, dI)) (ci := 0) (v := .int 0) (ty := .int) (C := RX0) (T := TX0) (N := 10) hx hb hts sy_u0.1 tyX0 tyX0_ok nmX0 hown hK hP hD hS 0 rfl rfl 5 (by decide) (hts _ ct_f_0_24) (fun _ h9 => h9) rfl (by decide +kernel) rfl rfl (Nat.le_of_ble_eq_true rfl) dX0_init_38 (fun H locs hP hD hS => ?_)
  have hP : va_P (dC, dI) vwCl [(h0, .inr (0, [.null, .ref q1, .ref q2, .ref q3, .ref q4, .int 0, .int 0, .int 0, .int 0, .int 0])), (q1, .inl (cI, 8, .inl (fun _ => 0))), (q2, .inl (cI, 8, .inl (fun _ => 0))), (q3, .inl (cI, 8, .inl (fun _ => 0))), (q4, .inl (cI, 8, .inl (fun _ => 0)))] H := hP
  have hD : va_D A [(h0, .inr (0, [.null, .ref q1, .ref q2, .ref q3, .ref q4, .int 0, .int 0, .int 0, .int 0, .int 0])), (q1, .inl (cI, 8, .inl (fun _ => 0))), (q2, .inl (cI, 8, .inl (fun _ => 0))), (q3, .inl (cI, 8, .inl (fun _ => 0))), (q4, .inl (cI, 8, .inl (fun _ => 0)))] := hD
  refine lv_aload_n hx hb dX0_init_41 rfl (lv_at hl 0 rfl) ?_
  refine lv_iconst (v := 0) hx hb dX0_init_42 (by decide) ?_
  refine va_put (D := (dC, dI)) (ci := 0) (v := .int 0) (ty := .int) (C := RX0) (T := TX0) (N := 10) hx hb hts sy_u0.1 tyX0 tyX0_ok nmX0 hown hK hP hD hS 0 rfl rfl 6 (by decide) (hts _ ct_f_0_28) (fun _ h9 => h9) rfl (by decide +kernel) rfl rfl (Nat.le_of_ble_eq_true rfl) dX0_init_43 (fun H locs hP hD hS => ?_)
  have hP : va_P (dC, dI) vwCl [(h0, .inr (0, [.null, .ref q1, .ref q2, .ref q3, .ref q4, .int 0, .int 0, .int 0, .int 0, .int 0])), (q1, .inl (cI, 8, .inl (fun _ => 0))), (q2, .inl (cI, 8, .inl (fun _ => 0))), (q3, .inl (cI, 8, .inl (fun _ => 0))), (q4, .inl (cI, 8, .inl (fun _ => 0)))] H := hP
  have hD : va_D A [(h0, .inr (0, [.null, .ref q1, .ref q2, .ref q3, .ref q4, .int 0, .int 0, .int 0, .int 0, .int 0])), (q1, .inl (cI, 8, .inl (fun _ => 0))), (q2, .inl (cI, 8, .inl (fun _ => 0))), (q3, .inl (cI, 8, .inl (fun _ => 0))), (q4, .inl (cI, 8, .inl (fun _ => 0)))] := hD
  refine lv_aload_n hx hb dX0_init_46 rfl (lv_at hl 0 rfl) ?_
  refine lv_iconst (v := (-1)) hx hb dX0_init_47 (by decide) ?_
  refine va_put (D := (dC, dI)) (ci := 0) (v := .int (-1)) (ty := .int) (C := RX0) (T := TX0) (N := 10) hx hb hts sy_u0.1 tyX0 tyX0_ok nmX0 hown hK hP hD hS 0 rfl rfl 7 (by decide) (hts _ ct_f_0_31) (fun _ h9 => h9) rfl (by decide +kernel) rfl rfl (Nat.le_of_ble_eq_true rfl) dX0_init_48 (fun H locs hP hD hS => ?_)
  have hP : va_P (dC, dI) vwCl [(h0, .inr (0, [.null, .ref q1, .ref q2, .ref q3, .ref q4, .int 0, .int 0, .int (-1), .int 0, .int 0])), (q1, .inl (cI, 8, .inl (fun _ => 0))), (q2, .inl (cI, 8, .inl (fun _ => 0))), (q3, .inl (cI, 8, .inl (fun _ => 0))), (q4, .inl (cI, 8, .inl (fun _ => 0)))] H := hP
  have hD : va_D A [(h0, .inr (0, [.null, .ref q1, .ref q2, .ref q3, .ref q4, .int 0, .int 0, .int (-1), .int 0, .int 0])), (q1, .inl (cI, 8, .inl (fun _ => 0))), (q2, .inl (cI, 8, .inl (fun _ => 0))), (q3, .inl (cI, 8, .inl (fun _ => 0))), (q4, .inl (cI, 8, .inl (fun _ => 0)))] := hD
  refine lv_aload_n hx hb dX0_init_51 rfl (lv_at hl 0 rfl) ?_
  refine lv_iconst (v := 0) hx hb dX0_init_52 (by decide) ?_
  refine va_put (D := (dC, dI)) (ci := 0) (v := .int 0) (ty := .int) (C := RX0) (T := TX0) (N := 10) hx hb hts sy_u0.1 tyX0 tyX0_ok nmX0 hown hK hP hD hS 0 rfl rfl 8 (by decide) (hts _ ct_f_0_34) (fun _ h9 => h9) rfl (by decide +kernel) rfl rfl (Nat.le_of_ble_eq_true rfl) dX0_init_53 (fun H locs hP hD hS => ?_)
  have hP : va_P (dC, dI) vwCl [(h0, .inr (0, [.null, .ref q1, .ref q2, .ref q3, .ref q4, .int 0, .int 0, .int (-1), .int 0, .int 0])), (q1, .inl (cI, 8, .inl (fun _ => 0))), (q2, .inl (cI, 8, .inl (fun _ => 0))), (q3, .inl (cI, 8, .inl (fun _ => 0))), (q4, .inl (cI, 8, .inl (fun _ => 0)))] H := hP
  have hD : va_D A [(h0, .inr (0, [.null, .ref q1, .ref q2, .ref q3, .ref q4, .int 0, .int 0, .int (-1), .int 0, .int 0])), (q1, .inl (cI, 8, .inl (fun _ => 0))), (q2, .inl (cI, 8, .inl (fun _ => 0))), (q3, .inl (cI, 8, .inl (fun _ => 0))), (q4, .inl (cI, 8, .inl (fun _ => 0)))] := hD
  refine lv_aload_n hx hb dX0_init_56 rfl (lv_at hl 0 rfl) ?_
  refine lv_iconst (v := 0) hx hb dX0_init_57 (by decide) ?_
  refine va_put (D := (dC, dI)) (ci := 0) (v := .int 0) (ty := .int) (C := RX0) (T := TX0) (N := 10) hx hb hts sy_u0.1 tyX0 tyX0_ok nmX0 hown hK hP hD hS 0 rfl rfl 9 (by decide) (hts _ ct_f_0_37) (fun _ h9 => h9) rfl (by decide +kernel) rfl rfl (Nat.le_of_ble_eq_true rfl) dX0_init_58 (fun H locs hP hD hS => ?_)
  have hP : va_P (dC, dI) vwCl [(h0, .inr (0, [.null, .ref q1, .ref q2, .ref q3, .ref q4, .int 0, .int 0, .int (-1), .int 0, .int 0])), (q1, .inl (cI, 8, .inl (fun _ => 0))), (q2, .inl (cI, 8, .inl (fun _ => 0))), (q3, .inl (cI, 8, .inl (fun _ => 0))), (q4, .inl (cI, 8, .inl (fun _ => 0)))] H := hP
  have hD : va_D A [(h0, .inr (0, [.null, .ref q1, .ref q2, .ref q3, .ref q4, .int 0, .int 0, .int (-1), .int 0, .int 0])), (q1, .inl (cI, 8, .inl (fun _ => 0))), (q2, .inl (cI, 8, .inl (fun _ => 0))), (q3, .inl (cI, 8, .inl (fun _ => 0))), (q4, .inl (cI, 8, .inl (fun _ => 0)))] := hD
  refine lv_aload_n hx hb dX0_init_61 rfl (lv_at hl 0 rfl) ?_
  refine lv_aload_n hx hb dX0_init_62 rfl (lv_at hl 1 rfl) ?_
  refine va_putF (D := (dC, dI)) (ci := 0) (v := .ref a1) (ty := .object "LuckyStolen$Yard") (C := RX0) (T := TX0) (N := 10) hx hb hts sy_u0.1 tyX0 tyX0_ok nmX0 hown hK hP hD hS 0 rfl rfl 0 (by decide) (hts _ ct_f_0_40) (fun _ h9 => h9) rfl hnm rfl (by decide +kernel) rfl rfl (Nat.le_of_ble_eq_true rfl) dX0_init_63 (fun H locs hP hD hS => ?_)
  have hP : va_P (dC, dI) vwCl [(h0, .inr (0, [.ref a1, .ref q1, .ref q2, .ref q3, .ref q4, .int 0, .int 0, .int (-1), .int 0, .int 0])), (q1, .inl (cI, 8, .inl (fun _ => 0))), (q2, .inl (cI, 8, .inl (fun _ => 0))), (q3, .inl (cI, 8, .inl (fun _ => 0))), (q4, .inl (cI, 8, .inl (fun _ => 0)))] H := hP
  have hD : va_D A [(h0, .inr (0, [.ref a1, .ref q1, .ref q2, .ref q3, .ref q4, .int 0, .int 0, .int (-1), .int 0, .int 0])), (q1, .inl (cI, 8, .inl (fun _ => 0))), (q2, .inl (cI, 8, .inl (fun _ => 0))), (q3, .inl (cI, 8, .inl (fun _ => 0))), (q4, .inl (cI, 8, .inl (fun _ => 0)))] := hD
  exact W.vret hx hb hr (fun t ht hW => ⟨⟨(), rfl, trivial, q1, q2, q3, q4, by rw [ht]; exact hP, va_K.moved hW.alike hK, hD⟩, hS.F ht⟩) hS.2.2 dX0_init_66
set_option maxHeartbeats 4000000 in
set_option maxRecDepth 100000 in
theorem ct_X1 (l : Launch) (dC : Nat → ClassId) (dI : Nat → Nat → Nat) (cI cS : ClassId) (h0 sz : Nat) : Met l yX1_init (ct_wd yX1_init cX1_init 2) ({ frames := 1, cells := 1, slots := 8, locals := 12 }) (va_Pc [.ref h0] (fun U => U.heap.size = sz ∧ va_P (dC, dI) vwCl [(h0, .inr (1, [.null]))] U.heap ∧ va_K (dC, dI) vwCl (sy_tys cI cS) U ∧ va_D (fun _ => True) [(h0, .inr (1, [.null]))])) (va_Qv (fun _ : Unit => True) (fun _ t => ∃ q1 : Nat, va_P (dC, dI) vwCl [(h0, .inr (1, [.ref q1])), (q1, .inl (cI, 8, .inl (upd (upd (upd (upd (upd (upd (upd (upd (fun _ => 0) 0 8) 1 8) 2 8) 3 8) 4 8) 5 8) 6 8) 7 8)))] t.heap ∧ va_K (dC, dI) vwCl (sy_tys cI cS) t ∧ va_D (va_A [(h0, .inr (1, [.null]))] sz) [(h0, .inr (1, [.ref q1])), (q1, .inl (cI, 8, .inl (upd (upd (upd (upd (upd (upd (upd (upd (fun _ => 0) 0 8) 1 8) 2 8) 3 8) 4 8) 5 8) 6 8) 7 8)))]) (va_A [(h0, .inr (1, [.null]))] sz)) 1 8 (va_A [(h0, .inr (1, [.null]))] sz) := by
  refine Met.ofW (cc := cX1_init) (maxL := 2) (ret := none) (by decide) rfl ?_
  intro p e s m args below meth c s₁ B hml hv
  obtain ⟨rfl, hsz, hP, hK, hD0⟩ := hv
  have hx := B.exec
  have hb := B.bytes
  have hr := B.returns
  have hts0 := atoms_spec (ws := ct_wd yX1_init cX1_init 2) B.pre
  have hts : ∀ w ∈ sy_gT, w.before ([.ref h0] : List Value).toArray s = true := fun w hw => hts0 w (List.mem_cons_of_mem _ hw)
  have hown : s.vm.findClass RX1 = some m.cls := findClass_of_methodNamed B.named
  have hnm : meth.name = "<init>" := (name_of_methodNamed B.named B.method).1
  subst hsz
  have hD := hD0.self (sz := s.heap.size)
  generalize hAe : va_A [(h0, .inr (1, [.null]))] s.heap.size = A at hD ⊢
  have hA : ∀ q : Nat, s.heap.size ≤ q → A q := fun q h => by rw [← hAe]; exact Or.inr h
  have hS : va_S A s.heap s.heap [] := va_S.rf
  have hP : va_P (dC, dI) vwCl [(h0, .inr (1, [.null]))] s.heap := hP
  have hl := lv_entry ([.ref h0]) (n := 2) (Nat.le_of_ble_eq_true rfl)
  rw [lg_entry_eq]
  generalize (lg_sl ([.ref h0]) ++ List.replicate (2 - (lg_sl ([.ref h0])).length) Slot.unset).toArray = ls at hl ⊢
  have hl : lv_has ls 2 [(0, .ref h0)] := hl
  refine lv_aload_n hx hb dX1_init_0 rfl (lv_at hl 0 rfl) ?_
  refine W.objInit hx hb hown (hts _ ct_oi_1) (hts _ ct_oin) (hts _ ct_oco) rfl (by rw [hml]; exact hl.1) rfl dX1_init_1 (Nat.le_of_ble_eq_true rfl) (Nat.le_of_ble_eq_true rfl) ?_
  refine W.eq (g2 := F0 m 4 ls []) rfl ?_
  refine lv_aload_n hx hb dX1_init_4 rfl (lv_at hl 0 rfl) ?_
  refine lv_bipush (v := 8) hx hb dX1_init_5 (by decide) ?_
  refine va_newa (atype := .int) (ty := .int) (a0 := (8, .inl (fun _ => 0))) (N' := 8) hx hb (hts _ ct_arr) rfl hK hP hD hS hA (fun _ => rfl) (by decide) (by decide) (by decide) (Nat.le_of_ble_eq_true rfl) (Nat.le_of_ble_eq_true rfl) dX1_init_7 (fun q1 cA H hK1 hP hD hS => ?_)
  have e9 := ct_same hK hK1
  subst e9
  have hP : va_P (dC, dI) vwCl [(h0, .inr (1, [.null])), (q1, .inl (cI, 8, .inl (fun _ => 0)))] H := hP
  have hD : va_D A [(h0, .inr (1, [.null])), (q1, .inl (cI, 8, .inl (fun _ => 0)))] := hD
  refine W.widen (k := 1) (n := 8) (by omega) (by omega) ?_
  refine va_putF (D := (dC, dI)) (ci := 1) (v := .ref q1) (ty := .array .int) (C := RX1) (T := TX1) (N := 1) hx hb hts sy_u1.1 tyX1 tyX1_ok nmX1 hown hK hP hD hS 0 rfl rfl 0 (by decide) (hts _ ct_f_1_9) (fun _ h9 => h9) rfl hnm rfl (by decide +kernel) rfl rfl (Nat.le_of_ble_eq_true rfl) dX1_init_9 (fun H locs hP hD hS => ?_)
  have hP : va_P (dC, dI) vwCl [(h0, .inr (1, [.ref q1])), (q1, .inl (cI, 8, .inl (fun _ => 0)))] H := hP
  have hD : va_D A [(h0, .inr (1, [.ref q1])), (q1, .inl (cI, 8, .inl (fun _ => 0)))] := hD
  refine lv_iconst (v := 0) hx hb dX1_init_12 (by decide) ?_
  refine lv_istore_n (lv' := [(1, .int 0), (0, .ref h0)]) hx hb dX1_init_13 rfl hl (by decide) rfl (fun ls hl => ?_)
  refine lv_iload_n hx hb dX1_init_14 rfl (lv_at hl 0 rfl) ?_
  refine lv_bipush (v := 8) hx hb dX1_init_15 (by decide) ?_
  refine lv_icmp_ge (tgt := 34) hx hb dX1_init_17 (by decide) (fun c9 => absurd c9 (by decide)) (fun _ => ?_)
  refine lv_aload_n hx hb dX1_init_20 rfl (lv_at hl 1 rfl) ?_
  refine va_get (D := (dC, dI)) (ci := 1) (v := .ref q1) (C := RX1) (T := TX1) (N := 1) hx hb hts sy_u1.1 hown hK hP 0 rfl rfl 0 (by decide) (hts _ ct_f_1_9) (fun _ h9 => h9) rfl dX1_init_21 ?_
  refine lv_iload_n hx hb dX1_init_24 rfl (lv_at hl 0 rfl) ?_
  refine lv_bipush (v := 8) hx hb dX1_init_25 (by decide) ?_
  refine va_iast hx hb hK hP hD hS 1 0 rfl rfl (by unfold vp_in; decide) dX1_init_27 (fun H locs hP hD hS => ?_)
  have hP : va_P (dC, dI) vwCl [(h0, .inr (1, [.ref q1])), (q1, .inl (cI, 8, .inl (upd (fun _ => 0) 0 8)))] H := hP
  have hD : va_D A [(h0, .inr (1, [.ref q1])), (q1, .inl (cI, 8, .inl (upd (fun _ => 0) 0 8)))] := hD
  refine lv_iinc (v := 1) (lv' := [(1, .int 1), (0, .ref h0)]) hx hb dX1_init_28 hl (k := 0) rfl (by decide) (by decide) rfl (fun ls hl => ?_)
  refine lv_goto (tgt := 14) hx hb dX1_init_31 (by decide) ?_
  refine lv_iload_n hx hb dX1_init_14 rfl (lv_at hl 0 rfl) ?_
  refine lv_bipush (v := 8) hx hb dX1_init_15 (by decide) ?_
  refine lv_icmp_ge (tgt := 34) hx hb dX1_init_17 (by decide) (fun c9 => absurd c9 (by decide)) (fun _ => ?_)
  refine lv_aload_n hx hb dX1_init_20 rfl (lv_at hl 1 rfl) ?_
  refine va_get (D := (dC, dI)) (ci := 1) (v := .ref q1) (C := RX1) (T := TX1) (N := 1) hx hb hts sy_u1.1 hown hK hP 0 rfl rfl 0 (by decide) (hts _ ct_f_1_9) (fun _ h9 => h9) rfl dX1_init_21 ?_
  refine lv_iload_n hx hb dX1_init_24 rfl (lv_at hl 0 rfl) ?_
  refine lv_bipush (v := 8) hx hb dX1_init_25 (by decide) ?_
  refine va_iast hx hb hK hP hD hS 1 0 rfl rfl (by unfold vp_in; decide) dX1_init_27 (fun H locs hP hD hS => ?_)
  have hP : va_P (dC, dI) vwCl [(h0, .inr (1, [.ref q1])), (q1, .inl (cI, 8, .inl (upd (upd (fun _ => 0) 0 8) 1 8)))] H := hP
  have hD : va_D A [(h0, .inr (1, [.ref q1])), (q1, .inl (cI, 8, .inl (upd (upd (fun _ => 0) 0 8) 1 8)))] := hD
  refine lv_iinc (v := 2) (lv' := [(1, .int 2), (0, .ref h0)]) hx hb dX1_init_28 hl (k := 0) rfl (by decide) (by decide) rfl (fun ls hl => ?_)
  refine lv_goto (tgt := 14) hx hb dX1_init_31 (by decide) ?_
  refine lv_iload_n hx hb dX1_init_14 rfl (lv_at hl 0 rfl) ?_
  refine lv_bipush (v := 8) hx hb dX1_init_15 (by decide) ?_
  refine lv_icmp_ge (tgt := 34) hx hb dX1_init_17 (by decide) (fun c9 => absurd c9 (by decide)) (fun _ => ?_)
  refine lv_aload_n hx hb dX1_init_20 rfl (lv_at hl 1 rfl) ?_
  refine va_get (D := (dC, dI)) (ci := 1) (v := .ref q1) (C := RX1) (T := TX1) (N := 1) hx hb hts sy_u1.1 hown hK hP 0 rfl rfl 0 (by decide) (hts _ ct_f_1_9) (fun _ h9 => h9) rfl dX1_init_21 ?_
  refine lv_iload_n hx hb dX1_init_24 rfl (lv_at hl 0 rfl) ?_
  refine lv_bipush (v := 8) hx hb dX1_init_25 (by decide) ?_
  refine va_iast hx hb hK hP hD hS 1 0 rfl rfl (by unfold vp_in; decide) dX1_init_27 (fun H locs hP hD hS => ?_)
  have hP : va_P (dC, dI) vwCl [(h0, .inr (1, [.ref q1])), (q1, .inl (cI, 8, .inl (upd (upd (upd (fun _ => 0) 0 8) 1 8) 2 8)))] H := hP
  have hD : va_D A [(h0, .inr (1, [.ref q1])), (q1, .inl (cI, 8, .inl (upd (upd (upd (fun _ => 0) 0 8) 1 8) 2 8)))] := hD
  refine lv_iinc (v := 3) (lv' := [(1, .int 3), (0, .ref h0)]) hx hb dX1_init_28 hl (k := 0) rfl (by decide) (by decide) rfl (fun ls hl => ?_)
  refine lv_goto (tgt := 14) hx hb dX1_init_31 (by decide) ?_
  refine lv_iload_n hx hb dX1_init_14 rfl (lv_at hl 0 rfl) ?_
  refine lv_bipush (v := 8) hx hb dX1_init_15 (by decide) ?_
  refine lv_icmp_ge (tgt := 34) hx hb dX1_init_17 (by decide) (fun c9 => absurd c9 (by decide)) (fun _ => ?_)
  refine lv_aload_n hx hb dX1_init_20 rfl (lv_at hl 1 rfl) ?_
  refine va_get (D := (dC, dI)) (ci := 1) (v := .ref q1) (C := RX1) (T := TX1) (N := 1) hx hb hts sy_u1.1 hown hK hP 0 rfl rfl 0 (by decide) (hts _ ct_f_1_9) (fun _ h9 => h9) rfl dX1_init_21 ?_
  refine lv_iload_n hx hb dX1_init_24 rfl (lv_at hl 0 rfl) ?_
  refine lv_bipush (v := 8) hx hb dX1_init_25 (by decide) ?_
  refine va_iast hx hb hK hP hD hS 1 0 rfl rfl (by unfold vp_in; decide) dX1_init_27 (fun H locs hP hD hS => ?_)
  have hP : va_P (dC, dI) vwCl [(h0, .inr (1, [.ref q1])), (q1, .inl (cI, 8, .inl (upd (upd (upd (upd (fun _ => 0) 0 8) 1 8) 2 8) 3 8)))] H := hP
  have hD : va_D A [(h0, .inr (1, [.ref q1])), (q1, .inl (cI, 8, .inl (upd (upd (upd (upd (fun _ => 0) 0 8) 1 8) 2 8) 3 8)))] := hD
  refine lv_iinc (v := 4) (lv' := [(1, .int 4), (0, .ref h0)]) hx hb dX1_init_28 hl (k := 0) rfl (by decide) (by decide) rfl (fun ls hl => ?_)
  refine lv_goto (tgt := 14) hx hb dX1_init_31 (by decide) ?_
  refine lv_iload_n hx hb dX1_init_14 rfl (lv_at hl 0 rfl) ?_
  refine lv_bipush (v := 8) hx hb dX1_init_15 (by decide) ?_
  refine lv_icmp_ge (tgt := 34) hx hb dX1_init_17 (by decide) (fun c9 => absurd c9 (by decide)) (fun _ => ?_)
  refine lv_aload_n hx hb dX1_init_20 rfl (lv_at hl 1 rfl) ?_
  refine va_get (D := (dC, dI)) (ci := 1) (v := .ref q1) (C := RX1) (T := TX1) (N := 1) hx hb hts sy_u1.1 hown hK hP 0 rfl rfl 0 (by decide) (hts _ ct_f_1_9) (fun _ h9 => h9) rfl dX1_init_21 ?_
  refine lv_iload_n hx hb dX1_init_24 rfl (lv_at hl 0 rfl) ?_
  refine lv_bipush (v := 8) hx hb dX1_init_25 (by decide) ?_
  refine va_iast hx hb hK hP hD hS 1 0 rfl rfl (by unfold vp_in; decide) dX1_init_27 (fun H locs hP hD hS => ?_)
  have hP : va_P (dC, dI) vwCl [(h0, .inr (1, [.ref q1])), (q1, .inl (cI, 8, .inl (upd (upd (upd (upd (upd (fun _ => 0) 0 8) 1 8) 2 8) 3 8) 4 8)))] H := hP
  have hD : va_D A [(h0, .inr (1, [.ref q1])), (q1, .inl (cI, 8, .inl (upd (upd (upd (upd (upd (fun _ => 0) 0 8) 1 8) 2 8) 3 8) 4 8)))] := hD
  refine lv_iinc (v := 5) (lv' := [(1, .int 5), (0, .ref h0)]) hx hb dX1_init_28 hl (k := 0) rfl (by decide) (by decide) rfl (fun ls hl => ?_)
  refine lv_goto (tgt := 14) hx hb dX1_init_31 (by decide) ?_
  refine lv_iload_n hx hb dX1_init_14 rfl (lv_at hl 0 rfl) ?_
  refine lv_bipush (v := 8) hx hb dX1_init_15 (by decide) ?_
  refine lv_icmp_ge (tgt := 34) hx hb dX1_init_17 (by decide) (fun c9 => absurd c9 (by decide)) (fun _ => ?_)
  refine lv_aload_n hx hb dX1_init_20 rfl (lv_at hl 1 rfl) ?_
  refine va_get (D := (dC, dI)) (ci := 1) (v := .ref q1) (C := RX1) (T := TX1) (N := 1) hx hb hts sy_u1.1 hown hK hP 0 rfl rfl 0 (by decide) (hts _ ct_f_1_9) (fun _ h9 => h9) rfl dX1_init_21 ?_
  refine lv_iload_n hx hb dX1_init_24 rfl (lv_at hl 0 rfl) ?_
  refine lv_bipush (v := 8) hx hb dX1_init_25 (by decide) ?_
  refine va_iast hx hb hK hP hD hS 1 0 rfl rfl (by unfold vp_in; decide) dX1_init_27 (fun H locs hP hD hS => ?_)
  have hP : va_P (dC, dI) vwCl [(h0, .inr (1, [.ref q1])), (q1, .inl (cI, 8, .inl (upd (upd (upd (upd (upd (upd (fun _ => 0) 0 8) 1 8) 2 8) 3 8) 4 8) 5 8)))] H := hP
  have hD : va_D A [(h0, .inr (1, [.ref q1])), (q1, .inl (cI, 8, .inl (upd (upd (upd (upd (upd (upd (fun _ => 0) 0 8) 1 8) 2 8) 3 8) 4 8) 5 8)))] := hD
  refine lv_iinc (v := 6) (lv' := [(1, .int 6), (0, .ref h0)]) hx hb dX1_init_28 hl (k := 0) rfl (by decide) (by decide) rfl (fun ls hl => ?_)
  refine lv_goto (tgt := 14) hx hb dX1_init_31 (by decide) ?_
  refine lv_iload_n hx hb dX1_init_14 rfl (lv_at hl 0 rfl) ?_
  refine lv_bipush (v := 8) hx hb dX1_init_15 (by decide) ?_
  refine lv_icmp_ge (tgt := 34) hx hb dX1_init_17 (by decide) (fun c9 => absurd c9 (by decide)) (fun _ => ?_)
  refine lv_aload_n hx hb dX1_init_20 rfl (lv_at hl 1 rfl) ?_
  refine va_get (D := (dC, dI)) (ci := 1) (v := .ref q1) (C := RX1) (T := TX1) (N := 1) hx hb hts sy_u1.1 hown hK hP 0 rfl rfl 0 (by decide) (hts _ ct_f_1_9) (fun _ h9 => h9) rfl dX1_init_21 ?_
  refine lv_iload_n hx hb dX1_init_24 rfl (lv_at hl 0 rfl) ?_
  refine lv_bipush (v := 8) hx hb dX1_init_25 (by decide) ?_
  refine va_iast hx hb hK hP hD hS 1 0 rfl rfl (by unfold vp_in; decide) dX1_init_27 (fun H locs hP hD hS => ?_)
  have hP : va_P (dC, dI) vwCl [(h0, .inr (1, [.ref q1])), (q1, .inl (cI, 8, .inl (upd (upd (upd (upd (upd (upd (upd (fun _ => 0) 0 8) 1 8) 2 8) 3 8) 4 8) 5 8) 6 8)))] H := hP
  have hD : va_D A [(h0, .inr (1, [.ref q1])), (q1, .inl (cI, 8, .inl (upd (upd (upd (upd (upd (upd (upd (fun _ => 0) 0 8) 1 8) 2 8) 3 8) 4 8) 5 8) 6 8)))] := hD
  refine lv_iinc (v := 7) (lv' := [(1, .int 7), (0, .ref h0)]) hx hb dX1_init_28 hl (k := 0) rfl (by decide) (by decide) rfl (fun ls hl => ?_)
  refine lv_goto (tgt := 14) hx hb dX1_init_31 (by decide) ?_
  refine lv_iload_n hx hb dX1_init_14 rfl (lv_at hl 0 rfl) ?_
  refine lv_bipush (v := 8) hx hb dX1_init_15 (by decide) ?_
  refine lv_icmp_ge (tgt := 34) hx hb dX1_init_17 (by decide) (fun c9 => absurd c9 (by decide)) (fun _ => ?_)
  refine lv_aload_n hx hb dX1_init_20 rfl (lv_at hl 1 rfl) ?_
  refine va_get (D := (dC, dI)) (ci := 1) (v := .ref q1) (C := RX1) (T := TX1) (N := 1) hx hb hts sy_u1.1 hown hK hP 0 rfl rfl 0 (by decide) (hts _ ct_f_1_9) (fun _ h9 => h9) rfl dX1_init_21 ?_
  refine lv_iload_n hx hb dX1_init_24 rfl (lv_at hl 0 rfl) ?_
  refine lv_bipush (v := 8) hx hb dX1_init_25 (by decide) ?_
  refine va_iast hx hb hK hP hD hS 1 0 rfl rfl (by unfold vp_in; decide) dX1_init_27 (fun H locs hP hD hS => ?_)
  have hP : va_P (dC, dI) vwCl [(h0, .inr (1, [.ref q1])), (q1, .inl (cI, 8, .inl (upd (upd (upd (upd (upd (upd (upd (upd (fun _ => 0) 0 8) 1 8) 2 8) 3 8) 4 8) 5 8) 6 8) 7 8)))] H := hP
  have hD : va_D A [(h0, .inr (1, [.ref q1])), (q1, .inl (cI, 8, .inl (upd (upd (upd (upd (upd (upd (upd (upd (fun _ => 0) 0 8) 1 8) 2 8) 3 8) 4 8) 5 8) 6 8) 7 8)))] := hD
  refine lv_iinc (v := 8) (lv' := [(1, .int 8), (0, .ref h0)]) hx hb dX1_init_28 hl (k := 0) rfl (by decide) (by decide) rfl (fun ls hl => ?_)
  refine lv_goto (tgt := 14) hx hb dX1_init_31 (by decide) ?_
  refine lv_iload_n hx hb dX1_init_14 rfl (lv_at hl 0 rfl) ?_
  refine lv_bipush (v := 8) hx hb dX1_init_15 (by decide) ?_
  refine lv_icmp_ge (tgt := 34) hx hb dX1_init_17 (by decide) (fun _ => ?_) (fun c9 => absurd (by decide) c9)
  exact W.vret hx hb hr (fun t ht hW => ⟨⟨(), rfl, trivial, q1, by rw [ht]; exact hP, va_K.moved hW.alike hK, hD⟩, hS.F ht⟩) hS.2.2 dX1_init_34
set_option maxHeartbeats 4000000 in
set_option maxRecDepth 100000 in
theorem ct_X3 (l : Launch) (dC : Nat → ClassId) (dI : Nat → Nat → Nat) (cI cS : ClassId) (h0 sz : Nat) : Met l yX3_init (ct_wd yX3_init cX3_init 1) ({ frames := 1, cells := 1, slots := 60, locals := 12 }) (va_Pc [.ref h0] (fun U => U.heap.size = sz ∧ va_P (dC, dI) vwCl [(h0, .inr (3, [.null, .int 0, .int 0]))] U.heap ∧ va_K (dC, dI) vwCl (sy_tys cI cS) U ∧ va_D (fun _ => True) [(h0, .inr (3, [.null, .int 0, .int 0]))])) (va_Qv (fun _ : Unit => True) (fun _ t => ∃ q1 : Nat, va_P (dC, dI) vwCl [(h0, .inr (3, [.ref q1, .int (-1), .int 0])), (q1, .inl (cI, 60, .inl (fun _ => 0)))] t.heap ∧ va_K (dC, dI) vwCl (sy_tys cI cS) t ∧ va_D (va_A [(h0, .inr (3, [.null, .int 0, .int 0]))] sz) [(h0, .inr (3, [.ref q1, .int (-1), .int 0])), (q1, .inl (cI, 60, .inl (fun _ => 0)))]) (va_A [(h0, .inr (3, [.null, .int 0, .int 0]))] sz)) 1 60 (va_A [(h0, .inr (3, [.null, .int 0, .int 0]))] sz) := by
  refine Met.ofW (cc := cX3_init) (maxL := 1) (ret := none) (by decide) rfl ?_
  intro p e s m args below meth c s₁ B hml hv
  obtain ⟨rfl, hsz, hP, hK, hD0⟩ := hv
  have hx := B.exec
  have hb := B.bytes
  have hr := B.returns
  have hts0 := atoms_spec (ws := ct_wd yX3_init cX3_init 1) B.pre
  have hts : ∀ w ∈ sy_gT, w.before ([.ref h0] : List Value).toArray s = true := fun w hw => hts0 w (List.mem_cons_of_mem _ hw)
  have hown : s.vm.findClass RX3 = some m.cls := findClass_of_methodNamed B.named
  have hnm : meth.name = "<init>" := (name_of_methodNamed B.named B.method).1
  subst hsz
  have hD := hD0.self (sz := s.heap.size)
  generalize hAe : va_A [(h0, .inr (3, [.null, .int 0, .int 0]))] s.heap.size = A at hD ⊢
  have hA : ∀ q : Nat, s.heap.size ≤ q → A q := fun q h => by rw [← hAe]; exact Or.inr h
  have hS : va_S A s.heap s.heap [] := va_S.rf
  have hP : va_P (dC, dI) vwCl [(h0, .inr (3, [.null, .int 0, .int 0]))] s.heap := hP
  have hl := lv_entry ([.ref h0]) (n := 1) (Nat.le_of_ble_eq_true rfl)
  rw [lg_entry_eq]
  generalize (lg_sl ([.ref h0]) ++ List.replicate (1 - (lg_sl ([.ref h0])).length) Slot.unset).toArray = ls at hl ⊢
  have hl : lv_has ls 1 [(0, .ref h0)] := hl
  refine lv_aload_n hx hb dX3_init_0 rfl (lv_at hl 0 rfl) ?_
  refine W.objInit hx hb hown (hts _ ct_oi_3) (hts _ ct_oin) (hts _ ct_oco) rfl (by rw [hml]; exact hl.1) rfl dX3_init_1 (Nat.le_of_ble_eq_true rfl) (Nat.le_of_ble_eq_true rfl) ?_
  refine W.eq (g2 := F0 m 4 ls []) rfl ?_
  refine lv_aload_n hx hb dX3_init_4 rfl (lv_at hl 0 rfl) ?_
  refine lv_bipush (v := 60) hx hb dX3_init_5 (by decide) ?_
  refine va_newa (atype := .int) (ty := .int) (a0 := (60, .inl (fun _ => 0))) (N' := 60) hx hb (hts _ ct_arr) rfl hK hP hD hS hA (fun _ => rfl) (by decide) (by decide) (by decide) (Nat.le_of_ble_eq_true rfl) (Nat.le_of_ble_eq_true rfl) dX3_init_7 (fun q1 cA H hK1 hP hD hS => ?_)
  have e9 := ct_same hK hK1
  subst e9
  have hP : va_P (dC, dI) vwCl [(h0, .inr (3, [.null, .int 0, .int 0])), (q1, .inl (cI, 60, .inl (fun _ => 0)))] H := hP
  have hD : va_D A [(h0, .inr (3, [.null, .int 0, .int 0])), (q1, .inl (cI, 60, .inl (fun _ => 0)))] := hD
  refine W.widen (k := 1) (n := 60) (by omega) (by omega) ?_
  refine va_putF (D := (dC, dI)) (ci := 3) (v := .ref q1) (ty := .array .int) (C := RX3) (T := TX3) (N := 3) hx hb hts sy_u3.1 tyX3 tyX3_ok nmX3 hown hK hP hD hS 0 rfl rfl 0 (by decide) (hts _ ct_f_3_11) (fun _ h9 => h9) rfl hnm rfl (by decide +kernel) rfl rfl (Nat.le_of_ble_eq_true rfl) dX3_init_9 (fun H locs hP hD hS => ?_)
  have hP : va_P (dC, dI) vwCl [(h0, .inr (3, [.ref q1, .int 0, .int 0])), (q1, .inl (cI, 60, .inl (fun _ => 0)))] H := hP
  have hD : va_D A [(h0, .inr (3, [.ref q1, .int 0, .int 0])), (q1, .inl (cI, 60, .inl (fun _ => 0)))] := hD
  refine lv_aload_n hx hb dX3_init_12 rfl (lv_at hl 0 rfl) ?_
  refine lv_iconst (v := (-1)) hx hb dX3_init_13 (by decide) ?_
  refine va_put (D := (dC, dI)) (ci := 3) (v := .int (-1)) (ty := .int) (C := RX3) (T := TX3) (N := 3) hx hb hts sy_u3.1 tyX3 tyX3_ok nmX3 hown hK hP hD hS 0 rfl rfl 1 (by decide) (hts _ ct_f_3_15) (fun _ h9 => h9) rfl (by decide +kernel) rfl rfl (Nat.le_of_ble_eq_true rfl) dX3_init_14 (fun H locs hP hD hS => ?_)
  have hP : va_P (dC, dI) vwCl [(h0, .inr (3, [.ref q1, .int (-1), .int 0])), (q1, .inl (cI, 60, .inl (fun _ => 0)))] H := hP
  have hD : va_D A [(h0, .inr (3, [.ref q1, .int (-1), .int 0])), (q1, .inl (cI, 60, .inl (fun _ => 0)))] := hD
  refine lv_aload_n hx hb dX3_init_17 rfl (lv_at hl 0 rfl) ?_
  refine lv_iconst (v := 0) hx hb dX3_init_18 (by decide) ?_
  refine va_put (D := (dC, dI)) (ci := 3) (v := .int 0) (ty := .int) (C := RX3) (T := TX3) (N := 3) hx hb hts sy_u3.1 tyX3 tyX3_ok nmX3 hown hK hP hD hS 0 rfl rfl 2 (by decide) (hts _ ct_f_3_19) (fun _ h9 => h9) rfl (by decide +kernel) rfl rfl (Nat.le_of_ble_eq_true rfl) dX3_init_19 (fun H locs hP hD hS => ?_)
  have hP : va_P (dC, dI) vwCl [(h0, .inr (3, [.ref q1, .int (-1), .int 0])), (q1, .inl (cI, 60, .inl (fun _ => 0)))] H := hP
  have hD : va_D A [(h0, .inr (3, [.ref q1, .int (-1), .int 0])), (q1, .inl (cI, 60, .inl (fun _ => 0)))] := hD
  exact W.vret hx hb hr (fun t ht hW => ⟨⟨(), rfl, trivial, q1, by rw [ht]; exact hP, va_K.moved hW.alike hK, hD⟩, hS.F ht⟩) hS.2.2 dX3_init_22
