theorem zn {p : Bool} (h : ¬ zb p = 0) : p = true := by cases p <;> simp_all [zb]
theorem zy {p : Bool} (h : zb p = 0) : p = false := zb_0.mp h
/-! ===== at ===== -/
def atS (S L : Nat) (Y : Nat → Yd) (fg : Nat → Bool) (s n w : Int32) : Int32 := cond (inR s 0 ((S : Int) - 1) && (inR n 0 299 && inR w 0 2)) (stS (Y n.toNatClampNeg) L n.toNatClampNeg fg s.toNatClampNeg w) (-2)
theorem inR_S {x : Int32} {S : Nat} (h : inR x 0 ((S : Int) - 1) = true) : ∃ k : Nat, k < S ∧ x = nI k := by
  obtain ⟨h1, h2⟩ := inR_t.mp h
  cases S with
  | zero => simp at h2; omega
  | succ S =>
    obtain ⟨k, hk, e⟩ := inR_nI (x := x) (b := S) (inR_t.mpr ⟨h1, by omega⟩)
    exact ⟨k, by omega, e⟩
set_option maxRecDepth 100000 in
set_option maxHeartbeats 4000000 in
theorem ex_at (d : Nat) (M : sy_Mm) (E : Evs) (ne S L : Nat) (h0 : Nat → Nat) (fg : Nat → Bool) (s n w : Int32) (hC : ctC M E ne S L h0 fg) : Ex (d + 4) i_X7_at [.ref 0, .int s, .int n, .int w] M (fun r N => r = some (.int (atS S L (fun N => yF S h0 E none N ne) fg s n w)) ∧ kpY M N) := by
  obtain ⟨a1, a2, a3, a4, a5, a6, a7, a8, a9⟩ := id hC
  unfold Ex
  cases g : (inR s 0 ((S : Int) - 1) && (inR n 0 299 && inR w 0 2)) with
  | false =>
    unfold atS
    rw [g]
    repeat' (first | refine fx_n rfl ?_ | refine fx_b rfl (fun _ => ?_) (fun _ => ?_) | refine fx_p rfl (ev_has _ _ _ S a3 a4) ?_ | refine fx_p rfl (ev_within _ _ _ _) ?_ | refine fx_r rfl rfl ?_)
    all_goals
      first
        | exact ⟨rfl, kpY.rf⟩
        | (exfalso; simp_all [zb_0])
  | true =>
    unfold atS
    rw [g]
    simp only [Bool.and_eq_true] at g
    obtain ⟨g1, g2, g3⟩ := g
    repeat refine fx_n rfl ?_
    refine fx_p rfl (ev_has _ _ _ S a3 a4) ?_
    rw [g1]
    refine fx_bf rfl (by decide) ?_
    repeat refine fx_n rfl ?_
    refine fx_p rfl (ev_within _ _ _ _) ?_
    rw [show inR n 0 (299 : Int32).toInt = true from g2]
    refine fx_bf rfl (by decide) ?_
    repeat refine fx_n rfl ?_
    refine fx_p rfl (ev_within _ _ _ _) ?_
    rw [show inR w 0 (2 : Int32).toInt = true from g3]
    refine fx_bt rfl (by decide) ?_
    obtain ⟨s, hs, rfl⟩ := inR_S g1
    obtain ⟨N, hN, rfl⟩ := inR_nI (b := 299) g2
    rw [nI_cl (by omega), nI_cl (by omega)]
    repeat refine fx_n rfl ?_
    refine fx_c rfl (ex_tellFrom _ M E ne S L N h0 fg hN hC) ?_
    rintro _ M1 ⟨rfl, b1, b2⟩
    have hlk := b1.lk
    obtain ⟨hS, h3, hL, h5, hO, h11, hw8, ht⟩ := id hlk
    repeat refine fx_n rfl ?_
    simp only [cond_true]
    unfold stS
    by_cases hw : w = 0
    · rw [if_pos hw]
      refine fx_bf rfl (fun z => z hw) ?_
      repeat refine fx_n rfl ?_
      refine fx_g rfl (ix_nI (by omega) (by omega)) ?_
      rw [nI_cl (by omega), hO s hs]
      exact fx_r rfl rfl ⟨rfl, b2⟩
    · rw [if_neg hw]
      refine fx_bt rfl hw ?_
      repeat refine fx_n rfl ?_
      refine fx_p rfl (ev_isLucky _ _ S L N s fg _ hS hs (by omega) hL h5 h11 ht) ?_
      cases hq : lkS L N (fg s) ((yF S h0 E none N ne).2.1 s) with
      | false =>
        refine fx_bf rfl (by decide) ?_
        repeat refine fx_n rfl ?_
        exact fx_r rfl rfl ⟨rfl, b2⟩
      | true =>
        refine fx_bt rfl (by decide) ?_
        repeat refine fx_n rfl ?_
        by_cases hw1 : w = 1
        · refine fx_bf rfl (fun z => z hw1) ?_
          repeat refine fx_n rfl ?_
          refine fx_r rfl rfl ⟨?_, b2⟩
          rw [if_pos hw1]; rfl
        · refine fx_bt rfl hw1 ?_
          repeat refine fx_n rfl ?_
          refine fx_g rfl (ix_nI (by omega) (by omega)) ?_
          rw [nI_cl (by omega), h11 s hs]
          repeat refine fx_n rfl ?_
          refine fx_r rfl rfl ⟨?_, b2⟩
          rw [if_neg hw1]
          have hl1 : lk1 L N ((yF S h0 E none N ne).2.1 s) = true := by
            simp only [lkS, Bool.and_eq_true] at hq
            exact hq.2
          cases ht' : (yF S h0 E none N ne).2.1 s with
          | none => rw [ht'] at hl1; cases hl1
          | some t =>
            rw [ht'] at hl1
            have : N < t + L := by simpa [lk1] using hl1
            simp only [uI, lfS, cond_true]
            rw [pk_sub (by omega)]
theorem in_S {S : Nat} (v : Int32) (hS : S ≤ 9) : decide ((0 : Int64) ≤ v.toInt64 ∧ v.toInt64 ≤ (nI S - 1).toInt64) = inR v 0 ((S : Int) - 1) := by
  refine in_R v rfl ?_
  rw [Int32.toInt_toInt64]
  exact pk_sub_toInt (a := S) (b := 1) (by omega) (by omega)
set_option maxRecDepth 100000 in
set_option maxHeartbeats 4000000 in
theorem em_isStone (d : Nat) {M : sy_Mm} {n : Nat} (h1 : iText M n) (v : Int32) : Ex (d + 3) i_X8_isStone [.ref 30, .int v] M (fun r N => r = some (.int (zb (inR v 0 (((tx_st (M 2) n : Nat) : Int) - 1)))) ∧ rdOK (M 2) n M N) := by
  unfold Ex
  repeat refine fx_n rfl ?_
  refine fx_c rfl (em_reads' _ h1) ?_
  rintro _ N ⟨rfl, hr⟩
  repeat refine fx_n rfl ?_
  refine fx_p rfl (em_in _ _ _ _ _) ?_
  rw [hr.1, in_S v (tx_st_le h1.1).1]
  exact fx_r rfl (zb_ok _) ⟨rfl, hr⟩
set_option maxRecDepth 100000 in
set_option maxHeartbeats 4000000 in
theorem em_at (d : Nat) {M : sy_Mm} {n : Nat} {E : Evs} {ne L : Nat} (h1 : iText M n) (h2 : iTale M E ne) (h3 : iLast M L) (s t w : Int32) : Ex (d + 4) i_X8_at [.ref 30, .int s, .int t, .int w] M (fun r N => r = some (.int (atS (tx_st (M 2) n) L (fun N => yF (tx_st (M 2) n) (tx_h (M 2)) E none N ne) (tx_fg (M 2)) s t w)) ∧ kq M N) := by
  unfold Ex
  repeat refine fx_n rfl ?_
  refine fx_c rfl (em_isStone _ h1 s) ?_
  rintro _ N ⟨rfl, hr⟩
  have hC := inv_ctM h1 h2 h3 hr
  have hS := hC.2.2.1
  unfold atS
  cases g1 : inR s 0 (((tx_st (M 2) n : Nat) : Int) - 1) with
  | false =>
    refine fx_bt rfl (by decide) ?_
    repeat refine fx_n rfl ?_
    exact fx_r rfl rfl ⟨rfl, hr.q⟩
  | true =>
    refine fx_bf rfl (by decide) ?_
    repeat refine fx_n rfl ?_
    refine fx_p rfl (em_isNight _ _ _) ?_
    cases g2 : inR t 0 299 with
    | false =>
      refine fx_bt rfl (by decide) ?_
      repeat refine fx_n rfl ?_
      exact fx_r rfl rfl ⟨rfl, hr.q⟩
    | true =>
      refine fx_bf rfl (by decide) ?_
      repeat refine fx_n rfl ?_
      refine fx_p rfl (em_in _ _ _ _ _) ?_
      rw [in_R w (a' := 0) (b' := 2) rfl rfl]
      cases g3 : inR w 0 2 with
      | false =>
        refine fx_bt rfl (by decide) ?_
        repeat refine fx_n rfl ?_
        exact fx_r rfl rfl ⟨rfl, hr.q⟩
      | true =>
        refine fx_bf rfl (by decide) ?_
        repeat refine fx_n rfl ?_
        obtain ⟨s, hs, rfl⟩ := inR_S g1
        obtain ⟨T, hT, rfl⟩ := inR_nI (b := 299) g2
        rw [nI_cl (by omega), nI_cl (by omega)]
        refine fx_c rfl (em_stateOf _ N E ne _ L T s w _ _ hT hs hC) ?_
        rintro _ N1 ⟨rfl, c2⟩
        repeat refine fx_n rfl ?_
        exact fx_r rfl rfl ⟨rfl, hr.q.tr c2.q⟩
set_option maxRecDepth 100000 in
set_option maxHeartbeats 4000000 in
theorem ag_at {M : sy_Mm} (h : Inv M) (s t w : Int32) : AG i_X7_at i_X8_at [.int s, .int t, .int w] M := by
  intro d
  obtain ⟨n, E, ne, L, B, nb, G, F, h1, h2, h3, h4, h5, h6, h7⟩ := id h
  refine fx_w (ex_at _ M E ne _ L _ _ s t w (inv_ctC h1 h2 h3)) ?_
  rintro _ N ⟨rfl, b2⟩
  have e2 : N 2 = M 2 := b2.q.row 2 (fun j => by unfold dead; omega)
  refine ⟨⟨_, rfl⟩, fx_w (em_at _ (h1.kp b2.q) (h2.kp b2.q) (h3.kp b2.q) s t w) ?_⟩
  rintro _ N1 ⟨rfl, c2⟩
  rw [e2]
  exact ⟨rfl, (h.kp b2.q).kp c2⟩
/-! ===== stone ===== -/
def snS (b : Nat → Int32) (S : Nat) (s w : Int32) : Int32 := cond (inR s 0 ((S : Int) - 1) && inR w 0 1) (if w = 0 then b (2 * s.toNatClampNeg) - 48 else zb (tx_fg b s.toNatClampNeg)) (-2)
set_option maxRecDepth 100000 in
set_option maxHeartbeats 4000000 in
theorem ev_stone (d : Nat) (M : sy_Mm) (S : Nat) (s w : Int32) (hS : S ≤ 9) (h3 : M 1 3 = nI S) : Ev (d + 1) i_X7_stone [.ref 0, .int s, .int w] M (some (.int (snS (M 2) S s w))) M := by
  refine ev_of ?_
  unfold snS
  cases g : (inR s 0 ((S : Int) - 1) && inR w 0 1) with
  | false =>
    unfold Ex
    repeat' (first | refine fx_n rfl ?_ | refine fx_b rfl (fun _ => ?_) (fun _ => ?_) | refine fx_p rfl (ev_has _ _ _ S hS h3) ?_ | refine fx_p rfl (ev_within _ _ _ _) ?_ | refine fx_r rfl rfl ?_)
    all_goals
      first
        | exact ⟨rfl, rfl⟩
        | (exfalso; simp_all [zb_0])
  | true =>
    simp only [Bool.and_eq_true] at g
    obtain ⟨g1, g3⟩ := g
    repeat refine fx_n rfl ?_
    refine fx_p rfl (ev_has _ _ _ S hS h3) ?_
    rw [g1]
    refine fx_bf rfl (by decide) ?_
    repeat refine fx_n rfl ?_
    refine fx_p rfl (ev_within _ _ _ _) ?_
    rw [show inR w 0 (1 : Int32).toInt = true from g3]
    refine fx_bt rfl (by decide) ?_
    obtain ⟨s, hs, rfl⟩ := inR_S g1
    rw [nI_cl (by omega)]
    repeat refine fx_n rfl ?_
    simp only [cond_true]
    by_cases hw : w = 0
    · rw [if_pos hw]
      refine fx_bf rfl (fun z => z hw) ?_
      repeat refine fx_n rfl ?_
      refine fx_p rfl (ev_houseOf _ _ s (by omega)) ?_
      repeat refine fx_n rfl ?_
      exact fx_r rfl rfl ⟨rfl, rfl⟩
    · rw [if_neg hw]
      refine fx_bt rfl hw ?_
      repeat refine fx_n rfl ?_
      refine fx_p rfl (ev_isForged _ _ s (by omega)) ?_
      cases hf : tx_fg (M 2) s with
      | true =>
        refine fx_bf rfl (by decide) ?_
        repeat refine fx_n rfl ?_
        exact fx_r rfl rfl ⟨rfl, rfl⟩
      | false =>
        refine fx_bt rfl (by decide) ?_
        repeat refine fx_n rfl ?_
        exact fx_r rfl rfl ⟨rfl, rfl⟩
set_option maxRecDepth 100000 in
set_option maxHeartbeats 4000000 in
theorem em_stoneOf (d : Nat) (N : sy_Mm) (b : Nat → Int32) (S s : Nat) (w : Int32) (hS : S ≤ 9) (hs : s < S) (h36 : N 36 s = b (2 * s) - 48) (h10 : N 30 10 = nI (bN (tx_fg b) S)) : Ev d i_X8_stoneOf [.ref 30, .int (nI s), .int w] N (some (.int (if w = 0 then b (2 * s) - 48 else zb (tx_fg b s)))) N := by
  refine ev_of ?_
  repeat refine fx_n rfl ?_
  by_cases hw : w = 0
  · rw [if_pos hw]
    refine fx_bf rfl (fun z => z hw) ?_
    repeat refine fx_n rfl ?_
    refine fx_g rfl (ix_nI (by omega) (by omega)) ?_
    rw [nI_cl (by omega), h36]
    repeat refine fx_n rfl ?_
    exact fx_r rfl rfl ⟨rfl, rfl⟩
  · rw [if_neg hw]
    refine fx_bt rfl hw ?_
    repeat refine fx_n rfl ?_
    rw [h10, bN_sh _ hs hS]
    exact fx_r rfl rfl ⟨rfl, rfl⟩
set_option maxRecDepth 100000 in
set_option maxHeartbeats 4000000 in
theorem ag_stone {M : sy_Mm} (h : Inv M) (s w : Int32) : AG i_X7_stone i_X8_stone [.int s, .int w] M := by
  intro d
  obtain ⟨n, E, ne, L, B, nb, G, F, h1, h2, h3, h4, h5, h6, h7⟩ := id h
  refine fx_w (ex_of (ev_stone _ M _ s w (tx_st_le h1.1).1 h1.2.2.2.2.2)) ?_
  rintro _ N0 ⟨rfl, hN0⟩
  rw [hN0]
  refine ⟨⟨_, rfl⟩, ?_⟩
  unfold Ex
  repeat refine fx_n rfl ?_
  refine fx_c rfl (em_isStone _ h1 s) ?_
  rintro _ N ⟨rfl, hr⟩
  have hS := (tx_st_le (b := M 2) h1.1).1
  unfold snS
  cases g1 : inR s 0 (((tx_st (M 2) n : Nat) : Int) - 1) with
  | false =>
    refine fx_bt rfl (by decide) ?_
    repeat refine fx_n rfl ?_
    exact fx_r rfl rfl ⟨rfl, h.kp hr.q⟩
  | true =>
    refine fx_bf rfl (by decide) ?_
    repeat refine fx_n rfl ?_
    refine fx_p rfl (em_isTwo _ _ _) ?_
    cases g2 : inR w 0 1 with
    | false =>
      refine fx_bt rfl (by decide) ?_
      repeat refine fx_n rfl ?_
      exact fx_r rfl rfl ⟨rfl, h.kp hr.q⟩
    | true =>
      refine fx_bf rfl (by decide) ?_
      obtain ⟨s, hs, rfl⟩ := inR_S g1
      rw [nI_cl (by omega)]
      repeat refine fx_n rfl ?_
      refine fx_p rfl (em_stoneOf _ _ (M 2) _ s w hS hs (hr.2.2.1 s hs) hr.2.1) ?_
      repeat refine fx_n rfl ?_
      exact fx_r rfl rfl ⟨rfl, h.kp hr.q⟩
/-! ===== luck, led, days, without ===== -/
def luS (S L : Nat) (Y : Nat → Yd) (fg : Nat → Bool) (h n w : Int32) : Int32 := cond (inR h 0 7 && (inR n 0 299 && inR w 0 1)) (if w = 0 then nI (cnB (lkp (Y n.toNatClampNeg).1 (Y n.toNatClampNeg).2.1 L n.toNatClampNeg fg h.toNatClampNeg) S) else nI (1 + 2 * cnB (lkp (Y n.toNatClampNeg).1 (Y n.toNatClampNeg).2.1 L n.toNatClampNeg fg h.toNatClampNeg) S)) (-2)
set_option maxRecDepth 100000 in
set_option maxHeartbeats 4000000 in
theorem ex_luck (d : Nat) (M : sy_Mm) (E : Evs) (ne S L : Nat) (h0 : Nat → Nat) (fg : Nat → Bool) (h n w : Int32) (hC : ctC M E ne S L h0 fg) : Ex (d + 4) i_X7_luck [.ref 0, .int h, .int n, .int w] M (fun r N => r = some (.int (luS S L (fun N => yF S h0 E none N ne) fg h n w)) ∧ kpY M N) := by
  unfold Ex luS
  cases g : (inR h 0 7 && (inR n 0 299 && inR w 0 1)) with
  | false =>
    repeat' (first | refine fx_n rfl ?_ | refine fx_b rfl (fun _ => ?_) (fun _ => ?_) | refine fx_p rfl (ev_isHouse _ _ _) ?_ | refine fx_p rfl (ev_within _ _ _ _) ?_ | refine fx_r rfl rfl ?_)
    all_goals
      first
        | exact ⟨rfl, kpY.rf⟩
        | (exfalso; simp_all [zb_0])
  | true =>
    simp only [Bool.and_eq_true] at g
    obtain ⟨g1, g2, g3⟩ := g
    repeat refine fx_n rfl ?_
    refine fx_p rfl (ev_isHouse _ _ _) ?_
    rw [g1]
    refine fx_bf rfl (by decide) ?_
    repeat refine fx_n rfl ?_
    refine fx_p rfl (ev_within _ _ _ _) ?_
    rw [show inR n 0 (299 : Int32).toInt = true from g2]
    refine fx_bf rfl (by decide) ?_
    repeat refine fx_n rfl ?_
    refine fx_p rfl (ev_within _ _ _ _) ?_
    rw [show inR w 0 (1 : Int32).toInt = true from g3]
    refine fx_bt rfl (by decide) ?_
    obtain ⟨h, hh, rfl⟩ := inR_nI (b := 7) g1
    obtain ⟨N, hN, rfl⟩ := inR_nI (b := 299) g2
    rw [nI_cl (by omega), nI_cl (by omega)]
    repeat refine fx_n rfl ?_
    refine fx_c rfl (ex_tellFrom _ M E ne S L N h0 fg hN hC) ?_
    rintro _ M1 ⟨rfl, b1, b2⟩
    repeat refine fx_n rfl ?_
    simp only [cond_true]
    by_cases hw : w = 0
    · rw [if_pos hw]
      refine fx_bf rfl (fun z => z hw) ?_
      repeat refine fx_n rfl ?_
      refine fx_p rfl (ev_luckOf _ _ S L N h fg _ _ (by omega) (by omega) b1.lk) ?_
      repeat refine fx_n rfl ?_
      exact fx_r rfl rfl ⟨rfl, b2⟩
    · rw [if_neg hw]
      refine fx_bt rfl hw ?_
      repeat refine fx_n rfl ?_
      refine fx_p rfl (ev_eggsOf _ _ S L N h fg _ _ (by omega) (by omega) b1.lk) ?_
      repeat refine fx_n rfl ?_
      exact fx_r rfl rfl ⟨rfl, b2⟩
set_option maxRecDepth 100000 in
set_option maxHeartbeats 4000000 in
theorem ag_luck {M : sy_Mm} (h : Inv M) (s t w : Int32) : AG i_X7_luck i_X8_luck [.int s, .int t, .int w] M := by
  intro d
  obtain ⟨n, E, ne, L, B, nb, G, F, h1, h2, h3, h4, h5, h6, h7⟩ := id h
  refine fx_w (ex_luck _ M E ne _ L _ _ s t w (inv_ctC h1 h2 h3)) ?_
  rintro _ N ⟨rfl, b2⟩
  have e2 : N 2 = M 2 := b2.q.row 2 (fun j => by unfold dead; omega)
  refine ⟨⟨_, rfl⟩, ?_⟩
  have hI1 := h.kp b2.q
  unfold Ex
  repeat refine fx_n rfl ?_
  refine fx_c rfl (em_reads' _ (h1.kp b2.q)) ?_
  rintro _ N1 ⟨rfl, hr⟩
  have hC := inv_ctM (h1.kp b2.q) (h2.kp b2.q) (h3.kp b2.q) hr
  rw [e2] at hC
  have hI2 := hI1.kp hr.q
  unfold luS
  repeat refine fx_n rfl ?_
  refine fx_p rfl (em_isHouse _ _ _) ?_
  cases g1 : inR s 0 7 with
  | false =>
    refine fx_bt rfl (by decide) ?_
    repeat refine fx_n rfl ?_
    exact fx_r rfl rfl ⟨rfl, hI2⟩
  | true =>
    refine fx_bf rfl (by decide) ?_
    repeat refine fx_n rfl ?_
    refine fx_p rfl (em_isNight _ _ _) ?_
    cases g2 : inR t 0 299 with
    | false =>
      refine fx_bt rfl (by decide) ?_
      repeat refine fx_n rfl ?_
      exact fx_r rfl rfl ⟨rfl, hI2⟩
    | true =>
      refine fx_bf rfl (by decide) ?_
      repeat refine fx_n rfl ?_
      refine fx_p rfl (em_isTwo _ _ _) ?_
      cases g3 : inR w 0 1 with
      | false =>
        refine fx_bt rfl (by decide) ?_
        repeat refine fx_n rfl ?_
        exact fx_r rfl rfl ⟨rfl, hI2⟩
      | true =>
        refine fx_bf rfl (by decide) ?_
        repeat refine fx_n rfl ?_
        obtain ⟨s, hs, rfl⟩ := inR_nI (b := 7) g1
        obtain ⟨T, hT, rfl⟩ := inR_nI (b := 299) g2
        rw [nI_cl (by omega), nI_cl (by omega)]
        refine fx_c rfl (em_luckOf _ N1 E ne _ L T s w _ _ hT (by omega) hC) ?_
        rintro _ N2 ⟨rfl, c1, c2⟩
        repeat refine fx_n rfl ?_
        exact fx_r rfl rfl ⟨rfl, hI2.kp c2.q⟩
def leS (S L : Nat) (Y : Nat → Yd) (fg : Nat → Bool) (h n i : Int32) : Int32 := cond (inR h 0 7 && (inR n 0 299 && !decide (i < 0))) (ledS (lkp (Y n.toNatClampNeg).1 (Y n.toNatClampNeg).2.1 L n.toNatClampNeg fg h.toNatClampNeg) (Y n.toNatClampNeg).2.2.1 i S 0 0) (-2)
set_option maxRecDepth 100000 in
set_option maxHeartbeats 4000000 in
theorem ex_led (d : Nat) (M : sy_Mm) (E : Evs) (ne S L : Nat) (h0 : Nat → Nat) (fg : Nat → Bool) (h n i : Int32) (hC : ctC M E ne S L h0 fg) : Ex (d + 4) i_X7_led [.ref 0, .int h, .int n, .int i] M (fun r N => r = some (.int (leS S L (fun N => yF S h0 E none N ne) fg h n i)) ∧ kpY M N) := by
  unfold Ex leS
  cases g : (inR h 0 7 && (inR n 0 299 && !decide (i < 0))) with
  | false =>
    repeat' (first | refine fx_n rfl ?_ | refine fx_b rfl (fun _ => ?_) (fun _ => ?_) | refine fx_p rfl (ev_isHouse _ _ _) ?_ | refine fx_p rfl (ev_within _ _ _ _) ?_ | refine fx_r rfl rfl ?_)
    all_goals
      first
        | exact ⟨rfl, kpY.rf⟩
        | (exfalso; simp_all [zb_0]; done)
        | (exfalso; rename_i q; have q2 := Int32.not_lt.mpr q; simp_all [zb_0])
  | true =>
    simp only [Bool.and_eq_true, Bool.not_eq_true', decide_eq_false_iff_not] at g
    obtain ⟨g1, g2, g3⟩ := g
    repeat refine fx_n rfl ?_
    refine fx_p rfl (ev_isHouse _ _ _) ?_
    rw [g1]
    refine fx_bf rfl (by decide) ?_
    repeat refine fx_n rfl ?_
    refine fx_p rfl (ev_within _ _ _ _) ?_
    rw [show inR n 0 (299 : Int32).toInt = true from g2]
    refine fx_bf rfl (by decide) ?_
    repeat refine fx_n rfl ?_
    refine fx_bt rfl (Int32.not_lt.mp g3) ?_
    obtain ⟨h, hh, rfl⟩ := inR_nI (b := 7) g1
    obtain ⟨N, hN, rfl⟩ := inR_nI (b := 299) g2
    rw [nI_cl (by omega), nI_cl (by omega)]
    repeat refine fx_n rfl ?_
    refine fx_c rfl (ex_tellFrom _ M E ne S L N h0 fg hN hC) ?_
    rintro _ M1 ⟨rfl, b1, b2⟩
    repeat refine fx_n rfl ?_
    refine fx_p rfl (ev_theftBehind _ _ S L N h i fg _ _ _ (by omega) (by omega) b1.lk b1.2.2.1.2.2.1) ?_
    exact fx_r rfl rfl ⟨rfl, b2⟩
set_option maxRecDepth 100000 in
set_option maxHeartbeats 4000000 in
theorem ag_led {M : sy_Mm} (h : Inv M) (s t w : Int32) : AG i_X7_led i_X8_led [.int s, .int t, .int w] M := by
  intro d
  obtain ⟨n, E, ne, L, B, nb, G, F, h1, h2, h3, h4, h5, h6, h7⟩ := id h
  refine fx_w (ex_led _ M E ne _ L _ _ s t w (inv_ctC h1 h2 h3)) ?_
  rintro _ N ⟨rfl, b2⟩
  have e2 : N 2 = M 2 := b2.q.row 2 (fun j => by unfold dead; omega)
  refine ⟨⟨_, rfl⟩, ?_⟩
  have hI1 := h.kp b2.q
  unfold Ex
  repeat refine fx_n rfl ?_
  refine fx_c rfl (em_reads' _ (h1.kp b2.q)) ?_
  rintro _ N1 ⟨rfl, hr⟩
  have hC := inv_ctM (h1.kp b2.q) (h2.kp b2.q) (h3.kp b2.q) hr
  rw [e2] at hC
  have hI2 := hI1.kp hr.q
  unfold leS
  repeat refine fx_n rfl ?_
  refine fx_p rfl (em_isHouse _ _ _) ?_
  cases g1 : inR s 0 7 with
  | false =>
    refine fx_bt rfl (by decide) ?_
    repeat refine fx_n rfl ?_
    exact fx_r rfl rfl ⟨rfl, hI2⟩
  | true =>
    refine fx_bf rfl (by decide) ?_
    repeat refine fx_n rfl ?_
    refine fx_p rfl (em_isNight _ _ _) ?_
    cases g2 : inR t 0 299 with
    | false =>
      refine fx_bt rfl (by decide) ?_
      repeat refine fx_n rfl ?_
      exact fx_r rfl rfl ⟨rfl, hI2⟩
    | true =>
      refine fx_bf rfl (by decide) ?_
      repeat refine fx_n rfl ?_
      by_cases g3 : w < 0
      · refine fx_bt rfl g3 ?_
        repeat refine fx_n rfl ?_
        refine fx_r rfl rfl ⟨?_, hI2⟩
        simp [g3]
      · refine fx_bf rfl g3 ?_
        repeat refine fx_n rfl ?_
        obtain ⟨s, hs, rfl⟩ := inR_nI (b := 7) g1
        obtain ⟨T, hT, rfl⟩ := inR_nI (b := 299) g2
        rw [nI_cl (by omega), nI_cl (by omega)]
        refine fx_c rfl (em_ledOf _ N1 E ne _ L T s w _ _ hT (by omega) hC) ?_
        rintro _ N2 ⟨rfl, c2⟩
        repeat refine fx_n rfl ?_
        refine fx_r rfl rfl ⟨?_, hI2.kp c2.q⟩
        simp [g3]
