/-! ===== digest agrees ===== -/
theorem inR_in {k : Nat} {a b : Int} (hk : k < 2 ^ 31) (h1 : a ≤ (k : Int)) (h2 : (k : Int) ≤ b) : inR (nI k) a b = true := inR_t.mpr (by rw [nI_toInt hk]; exact ⟨h1, h2⟩)
theorem in2 {w : Int32} (h : w = 0 ∨ w = 1) : inR w 0 1 = true := by rcases h with rfl | rfl <;> decide
theorem cuS_kq {M N : sy_Mm} {S : Nat} {Y : Yd} {fg : Nat → Bool} {w : Int32} (k : kq M N) : cuS N S Y fg w = cuS M S Y fg w := by
  unfold cuS
  rw [k 1 1 (by unfold dead; omega), k 3 5 (by unfold dead; omega), k 9 6 (by unfold dead; omega), k 14 5 (by unfold dead; omega), k 0 7 (by unfold dead; omega)]
theorem ex_ev {d y : Nat} {as : List Value} {M : sy_Mm} {v : Value} {P : sy_Mm → Prop} (h : Ev d y as M (some v) M) (p : P M) : Ex d y as M (fun r N => r = some v ∧ P N) := ⟨some v, M, h, rfl, p⟩
theorem ex_w {d y : Nat} {as : List Value} {M : sy_Mm} {P P' : Option Value → sy_Mm → Prop} (h : Ex d y as M P') (k : ∀ r N, P' r N → P r N) : Ex d y as M P := fx_w h k
theorem kq.r2 {M N : sy_Mm} (k : kq M N) : N 2 = M 2 := k.row 2 (fun j => by unfold dead; omega)
set_option maxRecDepth 100000 in
set_option maxHeartbeats 4000000 in
theorem ag_digest {M : sy_Mm} (h : Inv M) : AGl i_X7_digest i_X8_digest [] M := by
  intro d
  obtain ⟨n, E, ne, L, B, nb, G, F, h1, h2, h3, h4, h5, h6, h7⟩ := id h
  have hC := inv_ctC h1 h2 h3
  have hS : tx_st (M 2) n ≤ 9 := (tx_st_le h1.1).1
  have hne : ne ≤ 40 := h2.1.1
  have hGc : ∀ M1 : sy_Mm, kq M M1 → ∀ x, x < 8 → G x ≤ 16 ∧ M1 20 x = nI (G x) := fun M1 k x hx => ⟨((h5.kp k) x hx).1, ((h5.kp k) x hx).2.1⟩
  refine ex_w (ex_digest (cnt := fun w => cuS M (tx_st (M 2) n) (yF (tx_st (M 2) n) (tx_h (M 2)) E none 199 ne) (tx_fg (M 2)) w) (flt := tx_fault (M 2) n) (jdg := oI (yF (tx_st (M 2) n) (tx_h (M 2)) E none 199 ne).2.2.2.2.1)
    (ston := fun s w => snS (M 2) (tx_st (M 2) n) (nI s) w) (att := fun s t w => atS (tx_st (M 2) n) L (fun N => yF (tx_st (M 2) n) (tx_h (M 2)) E none N ne) (tx_fg (M 2)) (nI s) t w) (luc := fun x w => luS (tx_st (M 2) n) L (fun N => yF (tx_st (M 2) n) (tx_h (M 2)) E none N ne) (tx_fg (M 2)) (nI x) 20 w)
    (dayf := fun x => dsS (tx_st (M 2) n) L (tx_h (M 2)) (tx_fg (M 2)) E ne (nI x) 0 99) (ledf := fun x => leS (tx_st (M 2) n) L (fun N => yF (tx_st (M 2) n) (tx_h (M 2)) E none N ne) (tx_fg (M 2)) (nI x) 20 0) (thif := fun x => tfS G (nI x) 7 9)
    (cha := fun x w => cond (inR (nI x) 0 7 && (inR 5 0 12 && inR w 0 1)) (if w = 0 then (lwF 64 (lpw 16 (5 : Int32).toNatClampNeg - lpw (nI (G (nI x).toNatClampNeg)).toInt64 (5 : Int32).toNatClampNeg) (lpw 16 (5 : Int32).toNatClampNeg)).1 else (lwF 64 (lpw 16 (5 : Int32).toNatClampNeg - lpw (nI (G (nI x).toNatClampNeg)).toInt64 (5 : Int32).toNatClampNeg) (lpw 16 (5 : Int32).toNatClampNeg)).2) (-9223372036854775806))
    (wai := fun x w => cond (inR (nI x) 0 7 && inR w 0 1) (waS (G (nI x).toNatClampNeg) w) (-9223372036854775806)) (wof := woS (tx_st (M 2) n) L (tx_h (M 2)) (tx_fg (M 2)) E ne 0 99)
    (fit := fun w => cond (inR w 0 3) (ftS (fiT (tx_st (M 2) n) L (tx_h (M 2)) E ne B nb) w) (-2)) (lett := fun w => ltS (tx_st (M 2) n) L (tx_h (M 2)) (tx_fg (M 2)) E ne 199 1 w) (rob := fun w => rbS L 7 50 w) (car := caS 5 40)
    d M (tx_st (M 2) n) hS hC.2.2.2.1 ?_ ?_ ?_ ?_ ?_ ?_ ?_ ?_ ?_ ?_ ?_ ?_ ?_ ?_ ?_ ?_) ?_
  · intro d w M1 k
    have hC1 := hC.kk k
    have e := k.r2
    rw [← e] at hC1
    refine ex_w (ex_count (d + 5) M1 E ne _ L _ w (by rw [e]; rw [e] at hC1; exact hC1)) ?_
    rintro _ N ⟨rfl, b⟩
    refine ⟨?_, k.tr b.q⟩
    rw [cuS_kq k, e]
  · intro d M1 k
    unfold Ex
    repeat refine fx_n rfl ?_
    refine fx_r rfl rfl ⟨?_, k⟩
    rw [k 1 2 (by unfold dead; omega), h1.2.2.2.2.1]
  · intro d M1 k
    unfold Ex
    repeat refine fx_n rfl ?_
    refine fx_c rfl (ex_tellAll _ M1 E ne _ L _ _ (hC.kk k)) ?_
    rintro _ N ⟨rfl, b1, b2⟩
    repeat refine fx_n rfl ?_
    refine fx_r rfl rfl ⟨?_, k.tr b2.q⟩
    rw [b1.2.2.1.2.2.2.2.1]
  · intro d s w M1 hs k
    have q := ev_stone (d + 9) M1 (tx_st (M 2) n) (nI s) w hS (hC.kk k).2.2.2.1
    rw [k.r2] at q
    exact ex_ev q k
  · intro d s t w M1 hs k
    refine ex_w (ex_at (d + 6) M1 E ne _ L _ _ (nI s) t w (hC.kk k)) ?_
    rintro _ N ⟨rfl, b⟩
    exact ⟨rfl, k.tr b.q⟩
  · intro d x w M1 hx k
    refine ex_w (ex_luck (d + 6) M1 E ne _ L _ _ (nI x) 20 w (hC.kk k)) ?_
    rintro _ N ⟨rfl, b⟩
    exact ⟨rfl, k.tr b.q⟩
  · intro d x M1 hx k
    refine ex_w (ex_days (d + 6) M1 E ne _ L _ _ (nI x) 0 99 (hC.kk k)) ?_
    rintro _ N ⟨rfl, b⟩
    exact ⟨rfl, k.tr b.q⟩
  · intro d x M1 hx k
    refine ex_w (ex_led (d + 6) M1 E ne _ L _ _ (nI x) 20 0 (hC.kk k)) ?_
    rintro _ N ⟨rfl, b⟩
    exact ⟨rfl, k.tr b.q⟩
  · intro d x w M1 hx k
    exact ex_ev (ev_chance (d + 9) M1 G (nI x) 5 w (hGc M1 k)) k
  · intro d x w M1 hx k
    exact ex_ev (ev_waits (d + 9) M1 G (nI x) w (hGc M1 k)) k
  · intro d x M1 hx k
    exact ex_ev (ev_thief (d + 9) M1 G (nI x) 7 9 (hGc M1 k)) k
  · intro d M1 k
    refine ex_w (ex_without (d + 6) M1 E ne _ L _ _ 0 99 (hC.kk k)) ?_
    rintro _ N ⟨rfl, b⟩
    exact ⟨rfl, k.tr b.q⟩
  · intro d w M1 k
    refine ex_w (ex_fitting (d + 5) M1 E ne _ L _ _ B nb w (hC.kk k) (h4.kp k).c) ?_
    rintro _ N ⟨rfl, b⟩
    exact ⟨rfl, k.tr b⟩
  · intro d w M1 k
    refine ex_w (ex_lets d M1 E ne _ L _ _ 199 1 w (hC.kk k)) ?_
    rintro _ N ⟨rfl, b⟩
    exact ⟨rfl, k.tr b⟩
  · intro d w M1 k
    exact ex_ev (ev_robs (d + 9) M1 L 7 50 w h3.2.2.2 (h3.kp k).1) k
  · intro d M1 k
    exact ex_ev (ev_careless (d + 8) M1 5 40) k
  rintro _ N ⟨rfl, kN⟩
  refine ⟨⟨_, rfl⟩, ?_⟩
  refine ex_w (em_digest (J := fun K => kq M K ∧ ctM K E ne (tx_st (M 2) n) L (tx_h (M 2)) (tx_fg (M 2))) (cnt := fun w => cuS M (tx_st (M 2) n) (yF (tx_st (M 2) n) (tx_h (M 2)) E none 199 ne) (tx_fg (M 2)) w) (flt := tx_fault (M 2) n) (jdg := oI (yF (tx_st (M 2) n) (tx_h (M 2)) E none 199 ne).2.2.2.2.1)
    (ston := fun s w => snS (M 2) (tx_st (M 2) n) (nI s) w) (att := fun s t w => atS (tx_st (M 2) n) L (fun N => yF (tx_st (M 2) n) (tx_h (M 2)) E none N ne) (tx_fg (M 2)) (nI s) t w) (luc := fun x w => luS (tx_st (M 2) n) L (fun N => yF (tx_st (M 2) n) (tx_h (M 2)) E none N ne) (tx_fg (M 2)) (nI x) 20 w)
    (dayf := fun x => dsS (tx_st (M 2) n) L (tx_h (M 2)) (tx_fg (M 2)) E ne (nI x) 0 99) (ledf := fun x => leS (tx_st (M 2) n) L (fun N => yF (tx_st (M 2) n) (tx_h (M 2)) E none N ne) (tx_fg (M 2)) (nI x) 20 0) (thif := fun x => tfS G (nI x) 7 9)
    (cha := fun x w => cond (inR (nI x) 0 7 && (inR 5 0 12 && inR w 0 1)) (if w = 0 then (lwF 64 (lpw 16 (5 : Int32).toNatClampNeg - lpw (nI (G (nI x).toNatClampNeg)).toInt64 (5 : Int32).toNatClampNeg) (lpw 16 (5 : Int32).toNatClampNeg)).1 else (lwF 64 (lpw 16 (5 : Int32).toNatClampNeg - lpw (nI (G (nI x).toNatClampNeg)).toInt64 (5 : Int32).toNatClampNeg) (lpw 16 (5 : Int32).toNatClampNeg)).2) (-9223372036854775806))
    (wai := fun x w => cond (inR (nI x) 0 7 && inR w 0 1) (waS (G (nI x).toNatClampNeg) w) (-9223372036854775806)) (wof := woS (tx_st (M 2) n) L (tx_h (M 2)) (tx_fg (M 2)) E ne 0 99)
    (fit := fun w => cond (inR w 0 3) (ftS (fiT (tx_st (M 2) n) L (tx_h (M 2)) E ne B nb) w) (-2)) (lett := fun w => ltS (tx_st (M 2) n) L (tx_h (M 2)) (tx_fg (M 2)) E ne 199 1 w) (rob := fun w => rbS L 7 50 w) (car := caS 5 40)
    d N (tx_st (M 2) n) ne hS hne (fun K j => j.2.2.2.2.1) (fun K j => j.2.2.1.1) ?_ ?_ ?_ ?_ ?_ ?_ ?_ ?_ ?_ ?_ ?_ ?_ ?_ ?_ ?_ ?_ ?_) ?_
  · intro d k M1 hk k1
    have k2 := kN.tr k1
    refine ex_w (em_count (d + 5) (h1.kp k2) (h2.kp k2) (h3.kp k2) (h4.kp k2) (by rw [k2 0 7 (by unfold dead; omega), k2 30 4 (by unfold dead; omega)]; exact h7) (nI k)) ?_
    rintro _ K ⟨rfl, b⟩
    refine ⟨?_, k1.tr b⟩
    rw [cuS_kq k2, k2.r2]
  · intro d M1 k1
    have k2 := kN.tr k1
    refine ex_w (em_reads' (d + 8) (h1.kp k2)) ?_
    rintro _ K ⟨rfl, hr⟩
    have hc := inv_ctM (h1.kp k2) (h2.kp k2) (h3.kp k2) hr
    rw [k2.r2] at hc
    exact ⟨by rw [k2.r2], k2.tr hr.q, hc⟩
  · intro d M1 j
    refine ex_w (em_goes (d + 8) M1 E ne _ L 199 _ _ none (by omega) (fun _ q => by cases q) j.2) ?_
    rintro _ K ⟨rfl, c1, c2⟩
    exact ⟨rfl, ⟨j.1.tr c2.q, c1.1⟩, c1.2.2.2.2.2.1⟩
  · intro d s w M1 hs hw j
    have q := em_stoneOf (d + 10) M1 (M 2) (tx_st (M 2) n) s w hS hs (by rw [j.2.2.2.2.2.2.2.1 s hs]; exact (tx_h_eq h1.1 hs).symm) j.2.2.2.2.2.2.2.2.2
    have e : snS (M 2) (tx_st (M 2) n) (nI s) w = (if w = 0 then M 2 (2 * s) - 48 else zb (tx_fg (M 2) s)) := by
      unfold snS
      rw [inR_in (by omega) (by omega) (by omega), in2 hw, nI_cl (by omega)]
      rfl
    rw [← e] at q
    exact ex_ev (P := fun K => kq M K ∧ ctM K E ne (tx_st (M 2) n) L (tx_h (M 2)) (tx_fg (M 2))) q j
  · intro d s T w M1 hs hT hw j
    refine ex_w (em_stateOf (d + 7) M1 E ne _ L T s w _ _ hT hs j.2) ?_
    rintro _ K ⟨rfl, c⟩
    refine ⟨?_, j.1.tr c.q, j.2.kp c⟩
    unfold atS
    rw [inR_in (by omega) (by omega) (by omega), inR_in (by omega) (by omega) (by omega), hw, nI_cl (by omega), nI_cl (by omega)]
    rfl
  · intro d x w M1 hx hw j
    refine ex_w (em_luckOf (d + 7) M1 E ne _ L 20 x w _ _ (by omega) hx j.2) ?_
    rintro _ K ⟨rfl, -, c⟩
    refine ⟨?_, j.1.tr c.q, j.2.kp c⟩
    unfold luS
    rw [inR_in (by omega) (by omega) (by omega), in2 hw, nI_cl (by omega)]
    rfl
  · intro d x M1 hx j
    refine ex_w (em_daysOf (d + 7) M1 E ne _ L 0 99 (some x) _ _ none (by omega) (by omega) (fun q e => by cases e; exact hx) (fun _ q => by cases q) j.2) ?_
    rintro _ K ⟨rfl, c⟩
    refine ⟨?_, j.1.tr c.q, j.2.kp c⟩
    unfold dsS
    rw [inR_in (by omega) (by omega) (by omega), nI_cl (by omega), if_neg (fun z => by have := congrArg Int32.toInt z; rw [nI_toInt (by omega)] at this; have e : (-1 : Int32).toInt = -1 := rfl; omega)]
    rfl
  · intro d x M1 hx j
    refine ex_w (em_ledOf (d + 7) M1 E ne _ L 20 x 0 _ _ (by omega) hx j.2) ?_
    rintro _ K ⟨rfl, c⟩
    refine ⟨?_, j.1.tr c.q, j.2.kp c⟩
    unfold leS
    rw [inR_in (by omega) (by omega) (by omega), nI_cl (by omega)]
    rfl
  · intro d x w M1 hx hw j
    have g := (h5.kp j.1) x hx
    have q := em_chanceOf (d + 9) M1 x 5 (G x) w hx (by omega) g.1 g.2.2
    refine ex_w (ex_ev (P := fun K => kq M K ∧ ctM K E ne (tx_st (M 2) n) L (tx_h (M 2)) (tx_fg (M 2))) q j) ?_
    rintro _ K ⟨rfl, j2⟩
    refine ⟨?_, j2⟩
    rw [inR_in (by omega) (by omega) (by omega), in2 hw, nI_cl (by omega)]
    rfl
  · intro d x w M1 hx hw j
    have g := (h5.kp j.1) x hx
    have q := em_waitsOf (d + 9) M1 x (G x) w hx g.1 g.2.2
    refine ex_w (ex_ev (P := fun K => kq M K ∧ ctM K E ne (tx_st (M 2) n) L (tx_h (M 2)) (tx_fg (M 2))) q j) ?_
    rintro _ K ⟨rfl, j2⟩
    refine ⟨?_, j2⟩
    rw [inR_in (by omega) (by omega) (by omega), in2 hw, nI_cl (by omega)]
    rfl
  · intro d x M1 hx j
    have g := (h5.kp j.1) x hx
    have q := em_thiefOf (d + 10) M1 x 9 7 hx (by omega)
    refine ex_w (ex_ev (P := fun K => kq M K ∧ ctM K E ne (tx_st (M 2) n) L (tx_h (M 2)) (tx_fg (M 2))) q j) ?_
    rintro _ K ⟨rfl, j2⟩
    refine ⟨?_, j2⟩
    unfold tfS
    rw [inR_in (by omega) (by omega) (by omega), nI_cl (by omega), g.2.2]
    rfl
  · intro hp d M1 j
    refine ex_w (em_withoutOf (d + 6) M1 E ne _ L 0 99 _ _ (by omega) hp j.2) ?_
    rintro _ K ⟨rfl, c⟩
    refine ⟨?_, j.1.tr c.q, j.2.kp c⟩
    unfold woS
    rw [show inR 0 0 ((ne : Int) - 1) = true from inR_in (k := 0) (by omega) (by omega) (by omega)]
    rfl
  · intro e0
    unfold woS
    rw [show inR 0 0 ((ne : Int) - 1) = false from inR_f.mpr (by rw [e0]; decide)]
    rfl
  · intro d k M1 hk j
    refine ex_w (em_fittingOf (d + 7) M1 E ne _ L _ _ B nb (nI k) j.2 (h4.kp j.1).m) ?_
    rintro _ K ⟨rfl, c⟩
    refine ⟨?_, j.1.tr c.q, j.2.kx c⟩
    rw [inR_in (by omega) (by omega) (by omega)]
    rfl
  · intro d w M1 hw j
    refine ex_w (em_letsOf (d + 7) M1 E ne _ L 199 0 _ _ w (by omega) (by omega) j.2) ?_
    rintro _ K ⟨rfl, c⟩
    refine ⟨?_, j.1.tr c.q, j.2.kx c⟩
    unfold ltS
    have hl := lastN_le h2.1
    rw [show inR 199 (lastN E ne : Int) 199 = true from inR_in (k := 199) (by omega) (by omega) (by omega), in2 hw]
    rfl
  · intro d k M1 hk j
    have q := em_robsOf (d + 10) M1 L 7 50 (nI k) h3.2.2.2 (by omega) (by omega) (by omega) (h3.kp j.1).2.1
    refine ex_w (ex_ev (P := fun K => kq M K ∧ ctM K E ne (tx_st (M 2) n) L (tx_h (M 2)) (tx_fg (M 2))) q j) ?_
    rintro _ K ⟨rfl, j2⟩
    refine ⟨?_, j2⟩
    unfold rbS
    rw [inR_in (k := k) (by omega) (by omega) (by omega)]
    rfl
  · intro d M1 j
    have q := em_carelessOf (d + 9) M1 5 40 (by omega) (by omega)
    refine ex_w (ex_ev (P := fun K => kq M K ∧ ctM K E ne (tx_st (M 2) n) L (tx_h (M 2)) (tx_fg (M 2))) q j) ?_
    rintro _ K ⟨rfl, j2⟩
    exact ⟨rfl, j2⟩
  rintro _ K ⟨rfl, j⟩
  exact ⟨rfl, h.kp j.1⟩
