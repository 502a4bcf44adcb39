def dsS (S L : Nat) (h0 : Nat → Nat) (fg : Nat → Bool) (E : Evs) (ne : Nat) (h a b : Int32) : Int32 := cond (inR h (-1) 7 && (inR a 0 299 && (inR b 0 299 && !decide (b < a)))) (nI (dayS (dayN (hsI (if h = -1 then none else some h.toNatClampNeg)) S L h0 fg E none ne) a.toNatClampNeg (b.toNatClampNeg + 1 - a.toNatClampNeg))) (-2)
theorem hsI_none : hsI none = fun _ => true := rfl
theorem hsI_some (q : Nat) : hsI (some q) = fun x => decide (x = q) := rfl
theorem inR_m {h : Int32} {b : Nat} (g : inR h (-1) b = true) : h = -1 ∨ inR h 0 b = true := by
  obtain ⟨g1, g2⟩ := inR_t.mp g
  by_cases q : h.toInt = -1
  · exact Or.inl (Int32.toInt_inj.mp q)
  · exact Or.inr (inR_t.mpr ⟨by omega, g2⟩)
set_option maxRecDepth 100000 in
set_option maxHeartbeats 4000000 in
theorem ex_days (d : Nat) (M : sy_Mm) (E : Evs) (ne S L : Nat) (h0 : Nat → Nat) (fg : Nat → Bool) (h a b : Int32) (hC : ctC M E ne S L h0 fg) : Ex (d + 4) i_X7_days [.ref 0, .int h, .int a, .int b] M (fun r N => r = some (.int (dsS S L h0 fg E ne h a b)) ∧ kpY M N) := by
  unfold Ex dsS
  have mid : inR h (-1) 7 = true → Fx (d + 4) i_X7_days 21 [some (.ref 0), some (.int h), some (.int a), some (.int b), some (.int 1)] [.int 1] M (fun r N => r = some (.int (cond (inR h (-1) 7 && (inR a 0 299 && (inR b 0 299 && !decide (b < a)))) (nI (dayS (dayN (hsI (if h = -1 then none else some h.toNatClampNeg)) S L h0 fg E none ne) a.toNatClampNeg (b.toNatClampNeg + 1 - a.toNatClampNeg))) (-2))) ∧ kpY M N) := by
    intro g0
    refine fx_bf rfl (by decide) ?_
    repeat refine fx_n rfl ?_
    refine fx_p rfl (ev_wi _ _ _ _ 299 rfl) (fx_ze rfl (fun g1 => by ((repeat refine fx_n rfl ?_); exact fx_r rfl rfl ⟨by simp [g1, zb_f], kpY.rf⟩)) (fun g1 => ?_))
    repeat refine fx_n rfl ?_
    refine fx_p rfl (ev_wi _ _ _ _ 299 rfl) (fx_ze rfl (fun g2 => by ((repeat refine fx_n rfl ?_); exact fx_r rfl rfl ⟨by simp [g2, zb_f], kpY.rf⟩)) (fun g2 => ?_))
    repeat refine fx_n rfl ?_
    by_cases g3 : b < a
    · refine fx_bf rfl (Int32.not_le.mpr g3) ?_
      repeat refine fx_n rfl ?_
      exact fx_r rfl rfl ⟨by simp [g3], kpY.rf⟩
    · refine fx_bt rfl (Int32.not_lt.mp g3) ?_
      obtain ⟨A, hA, rfl⟩ := inR_nI (b := 299) g1
      obtain ⟨B, hB, rfl⟩ := inR_nI (b := 299) g2
      have hAB : A ≤ B := by
        rcases Nat.lt_or_ge B A with q | q
        · exact absurd (nI_lt q (by omega)) g3
        · exact q
      rw [nI_cl (by omega), nI_cl (by omega)]
      repeat refine fx_n rfl ?_
      have e : (inR h (-1) 7 && (inR (nI A) 0 299 && (inR (nI B) 0 299 && !decide (nI B < nI A)))) = true := by simp [g0, g1, g2, g3]
      rw [e]
      simp only [cond_true]
      by_cases hm : h = -1
      · refine fx_bf rfl (fun z => z hm) ?_
        repeat refine fx_n rfl ?_
        rw [if_pos hm]
        refine fx_c rfl (ex_luckyDays _ M E ne S L A B 255 _ h0 fg none hB hAB (fun _ q => by cases q) msk_all hC) ?_
        rintro _ M1 ⟨rfl, b2⟩
        exact fx_r rfl rfl ⟨rfl, b2⟩
      · refine fx_bt rfl hm ?_
        obtain ⟨q, hq, rfl⟩ := inR_nI (b := 7) ((inR_m g0).resolve_left hm)
        repeat refine fx_n rfl ?_
        rw [if_neg hm, nI_cl (by omega)]
        refine fx_c rfl (ex_luckyDays _ M E ne S L A B _ _ h0 fg none hB hAB (fun _ q => by cases q) (msk_one (h := q) (by omega)) hC) ?_
        rintro _ M1 ⟨rfl, b2⟩
        exact fx_r rfl rfl ⟨rfl, b2⟩
  repeat refine fx_n rfl ?_
  by_cases hm : h = -1
  · refine fx_bt rfl hm ?_
    repeat refine fx_n rfl ?_
    exact mid (by rw [hm]; decide)
  · refine fx_bf rfl hm ?_
    repeat refine fx_n rfl ?_
    refine fx_p rfl (ev_isHouse _ _ _) (fx_ze rfl (fun g => ?_) (fun g => ?_))
    · have g0 : inR h (-1) 7 = false := by
        cases q : inR h (-1) 7 with
        | false => rfl
        | true => rw [show inR h 0 7 = true from (inR_m (b := 7) q).resolve_left hm] at g; cases g
      repeat refine fx_n rfl ?_
      refine fx_bt rfl (by decide) ?_
      repeat refine fx_n rfl ?_
      exact fx_r rfl rfl ⟨by simp [g0], kpY.rf⟩
    · repeat refine fx_n rfl ?_
      refine mid (inR_t.mpr ?_)
      have := inR_t.mp g
      omega
set_option maxRecDepth 100000 in
set_option maxHeartbeats 4000000 in
theorem ag_days {M : sy_Mm} (h : Inv M) (s a b : Int32) : AG i_X7_days i_X8_days [.int s, .int a, .int b] M := by
  intro d
  obtain ⟨n, E, ne, L, B, nb, G, F, h1, h2, h3, h4, h5, h6, h7⟩ := id h
  refine fx_w (ex_days _ M E ne _ L _ _ s a b (inv_ctC h1 h2 h3)) ?_
  rintro _ N ⟨rfl, b2⟩
  have e2 : N 2 = M 2 := b2.q.row 2 (fun j => by unfold dead; omega)
  refine ⟨⟨_, rfl⟩, ?_⟩
  have hI1 := h.kp b2.q
  unfold Ex
  repeat refine fx_n rfl ?_
  refine fx_c rfl (em_reads' _ (h1.kp b2.q)) ?_
  rintro _ N1 ⟨rfl, hr⟩
  have hC := inv_ctM (h1.kp b2.q) (h2.kp b2.q) (h3.kp b2.q) hr
  rw [e2] at hC
  have hI2 := hI1.kp hr.q
  unfold dsS
  repeat refine fx_n rfl ?_
  refine fx_p rfl (em_ir _ _ _ _ _ (-1) 7 rfl rfl) (fx_ze rfl (fun g0 => by ((repeat refine fx_n rfl ?_); exact fx_r rfl rfl ⟨by simp [g0, zb_f], hI2⟩)) (fun g0 => ?_))
  repeat refine fx_n rfl ?_
  refine fx_p rfl (em_isNight _ _ _) (fx_ze rfl (fun g1 => by ((repeat refine fx_n rfl ?_); exact fx_r rfl rfl ⟨by simp [g1, zb_f], hI2⟩)) (fun g1 => ?_))
  repeat refine fx_n rfl ?_
  refine fx_p rfl (em_isNight _ _ _) (fx_ze rfl (fun g2 => by ((repeat refine fx_n rfl ?_); exact fx_r rfl rfl ⟨by simp [g2, zb_f], hI2⟩)) (fun g2 => ?_))
  repeat refine fx_n rfl ?_
  by_cases g3 : b < a
  · refine fx_bt rfl g3 ?_
    repeat refine fx_n rfl ?_
    exact fx_r rfl rfl ⟨by simp [g3], hI2⟩
  · refine fx_bf rfl g3 ?_
    repeat refine fx_n rfl ?_
    have e : (inR s (-1) 7 && (inR a 0 299 && (inR b 0 299 && !decide (b < a)))) = true := by simp [g0, g1, g2, g3]
    rw [e]
    obtain ⟨A, hA, rfl⟩ := inR_nI (b := 299) g1
    obtain ⟨C, hB, rfl⟩ := inR_nI (b := 299) g2
    have hAB : A ≤ C := by
      rcases Nat.lt_or_ge C A with q | q
      · exact absurd (nI_lt q (by omega)) g3
      · exact q
    rw [nI_cl (by omega), nI_cl (by omega)]
    simp only [cond_true]
    have key : ∃ o : Option Nat, s = oI o ∧ (if s = -1 then none else some s.toNatClampNeg) = o ∧ ∀ q, o = some q → q < 8 := by
      by_cases hm : s = -1
      · exact ⟨none, hm, if_pos hm, fun _ q => by cases q⟩
      · obtain ⟨q, hq, rfl⟩ := inR_nI (b := 7) ((inR_m g0).resolve_left hm)
        exact ⟨some q, rfl, by rw [if_neg hm, nI_cl (by omega)], fun z hz => by cases hz; omega⟩
    obtain ⟨o, e1, e3, e4⟩ := key
    rw [e3, e1]
    refine fx_c rfl (em_daysOf _ N1 E ne _ L A C o _ _ none hB hAB e4 (fun _ q => by cases q) hC) ?_
    rintro _ N2 ⟨rfl, c2⟩
    repeat refine fx_n rfl ?_
    exact fx_r rfl rfl ⟨rfl, hI2.kp c2.q⟩
def woS (S L : Nat) (h0 : Nat → Nat) (fg : Nat → Bool) (E : Evs) (ne : Nat) (e n : Int32) : Int32 := cond (inR e 0 ((ne : Int) - 1) && inR n 0 299) (nI (dayS (dayN (hsI none) S L h0 fg E (some e.toNatClampNeg) ne) 0 (n.toNatClampNeg + 1)) - nI (dayS (dayN (hsI none) S L h0 fg E none ne) 0 (n.toNatClampNeg + 1))) (-10002)
set_option maxRecDepth 100000 in
set_option maxHeartbeats 4000000 in
theorem ex_without (d : Nat) (M : sy_Mm) (E : Evs) (ne S L : Nat) (h0 : Nat → Nat) (fg : Nat → Bool) (x n : Int32) (hC : ctC M E ne S L h0 fg) : Ex (d + 4) i_X7_without [.ref 0, .int x, .int n] M (fun r N => r = some (.int (woS S L h0 fg E ne x n)) ∧ kpY M N) := by
  have hne := hC.1.1
  have h35 := hC.2.1.1
  have ht : (nI ne).toInt = (ne : Int) := nI_toInt (by omega)
  unfold Ex woS
  have bad : inR x 0 ((ne : Int) - 1) = false → Fx (d + 4) i_X7_without 25 [some (.ref 0), some (.int x), some (.int n), none] [] M (fun r N => r = some (.int (cond (inR x 0 ((ne : Int) - 1) && inR n 0 299) (nI (dayS (dayN (hsI none) S L h0 fg E (some x.toNatClampNeg) ne) 0 (n.toNatClampNeg + 1)) - nI (dayS (dayN (hsI none) S L h0 fg E none ne) 0 (n.toNatClampNeg + 1))) (-10002))) ∧ kpY M N) := by
    intro g
    repeat refine fx_n rfl ?_
    exact fx_r rfl rfl ⟨by simp [g], kpY.rf⟩
  repeat refine fx_n rfl ?_
  refine fx_b rfl (fun q => ?_) (fun q => ?_)
  · exact bad (inR_f.mpr (by rw [Int32.lt_iff_toInt_lt] at q; simp at q; omega))
  repeat refine fx_n rfl ?_
  rw [h35]
  refine fx_b rfl (fun q2 => ?_) (fun q2 => ?_)
  · exact bad (inR_f.mpr (by rw [Int32.le_iff_toInt_le, ht] at q2; omega))
  have g1 : inR x 0 ((ne : Int) - 1) = true := inR_t.mpr (by rw [Int32.lt_iff_toInt_lt] at q; rw [Int32.le_iff_toInt_le, ht] at q2; simp at q; omega)
  repeat refine fx_n rfl ?_
  refine fx_p rfl (ev_wi _ _ _ _ 299 rfl) (fx_zn rfl (fun g2 => ?_) (fun g2 => by ((repeat refine fx_n rfl ?_); exact fx_r rfl rfl ⟨by simp [g2, zb_f], kpY.rf⟩)))
  obtain ⟨e, he, rfl⟩ := inR_S g1
  obtain ⟨N, hN, rfl⟩ := inR_nI (b := 299) g2
  rw [g1, g2, nI_cl (by omega), nI_cl (by omega)]
  repeat refine fx_n rfl ?_
  refine fx_c rfl (ex_luckyDays _ M E ne S L 0 N 255 _ h0 fg (some e) hN (by omega) (fun z hz => by cases hz; omega) msk_all hC) ?_
  rintro _ M1 ⟨rfl, b2⟩
  repeat refine fx_n rfl ?_
  refine fx_c rfl (ex_luckyDays _ M1 E ne S L 0 N 255 _ h0 fg none hN (by omega) (fun _ q => by cases q) msk_all (hC.kp b2)) ?_
  rintro _ M2 ⟨rfl, b3⟩
  repeat refine fx_n rfl ?_
  exact fx_r rfl rfl ⟨rfl, b2.tr b3⟩
set_option maxRecDepth 100000 in
set_option maxHeartbeats 4000000 in
theorem em_withoutOf (d : Nat) (M : sy_Mm) (E : Evs) (ne S L e N : Nat) (h0 : Nat → Nat) (fg : Nat → Bool) (hN : N ≤ 299) (he : e < ne) (hC : ctM M E ne S L h0 fg) : Ex (d + 4) i_X8_withoutOf [.ref 30, .int (nI e), .int (nI N)] M (fun r M' => r = some (.int (nI (dayS (dayN (hsI none) S L h0 fg E (some e) ne) 0 (N + 1)) - nI (dayS (dayN (hsI none) S L h0 fg E none ne) 0 (N + 1)))) ∧ kpM M M') := by
  have hne := hC.1.1
  unfold Ex
  repeat refine fx_n rfl ?_
  refine fx_c rfl (em_daysOf _ M E ne S L 0 N none h0 fg (some e) hN (by omega) (fun _ q => by cases q) (fun z hz => by cases hz; omega) hC) ?_
  rintro _ M1 ⟨rfl, b2⟩
  repeat refine fx_n rfl ?_
  refine fx_c rfl (em_daysOf _ M1 E ne S L 0 N none h0 fg none hN (by omega) (fun _ q => by cases q) (fun _ q => by cases q) (hC.kp b2)) ?_
  rintro _ M2 ⟨rfl, b3⟩
  repeat refine fx_n rfl ?_
  exact fx_r rfl rfl ⟨rfl, b2.tr b3⟩
set_option maxRecDepth 100000 in
set_option maxHeartbeats 4000000 in
theorem ag_without {M : sy_Mm} (h : Inv M) (x t : Int32) : AG i_X7_without i_X8_without [.int x, .int t] M := by
  intro d
  obtain ⟨n, E, ne, L, B, nb, G, F, h1, h2, h3, h4, h5, h6, h7⟩ := id h
  refine fx_w (ex_without _ M E ne _ L _ _ x t (inv_ctC h1 h2 h3)) ?_
  rintro _ N ⟨rfl, b2⟩
  have e2 : N 2 = M 2 := b2.q.row 2 (fun j => by unfold dead; omega)
  refine ⟨⟨_, rfl⟩, ?_⟩
  have hI1 := h.kp b2.q
  unfold Ex
  repeat refine fx_n rfl ?_
  refine fx_c rfl (em_reads' _ (h1.kp b2.q)) ?_
  rintro _ N1 ⟨rfl, hr⟩
  have hC := inv_ctM (h1.kp b2.q) (h2.kp b2.q) (h3.kp b2.q) hr
  rw [e2] at hC
  have hI2 := hI1.kp hr.q
  have hne := hC.1.1
  unfold woS
  repeat refine fx_n rfl ?_
  rw [hC.2.1.1]
  refine fx_p rfl (em_ir _ _ _ _ _ 0 ((ne : Int) - 1) rfl (by rw [Int32.toInt_toInt64]; exact pk_sub_toInt (a := ne) (b := 1) (by omega) (by omega))) (fx_ze rfl (fun g1 => by ((repeat refine fx_n rfl ?_); exact fx_r rfl rfl ⟨by simp [g1, zb_f], hI2⟩)) (fun g1 => ?_))
  repeat refine fx_n rfl ?_
  refine fx_p rfl (em_isNight _ _ _) (fx_ze rfl (fun g2 => by ((repeat refine fx_n rfl ?_); exact fx_r rfl rfl ⟨by simp [g2, zb_f], hI2⟩)) (fun g2 => ?_))
  obtain ⟨e, he, rfl⟩ := inR_S g1
  obtain ⟨T, hT, rfl⟩ := inR_nI (b := 299) g2
  rw [g1, g2, nI_cl (by omega), nI_cl (by omega)]
  repeat refine fx_n rfl ?_
  refine fx_c rfl (em_withoutOf _ N1 E ne _ L e T _ _ hT he hC) ?_
  rintro _ N2 ⟨rfl, c2⟩
  repeat refine fx_n rfl ?_
  exact fx_r rfl rfl ⟨rfl, hI2.kp c2.q⟩
