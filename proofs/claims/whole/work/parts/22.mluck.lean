/-! ===== luck, as the reference answers it ===== -/
def lfS (L N : Nat) : Option Nat → Nat
  | none => 0
  | some t => t + L - N
theorem lf_lk (L N : Nat) (t : Option Nat) : decide (0 < lfS L N t) = lk1 L N t := by
  cases t with
  | none => rfl
  | some t =>
    simp only [lfS, lk1]
    congr 1
    apply propext
    omega
def lkM (M : sy_Mm) (S L : Nat) (fg : Nat → Bool) (ow si : Nat → Option Nat) : Prop := S ≤ 9 ∧ M 30 8 = nI S ∧ L ≤ 99 ∧ M 30 11 = nI L ∧ M 30 10 = nI (bN fg S) ∧ (∀ s, s < S → M 38 s = oI (ow s)) ∧ (∀ s, s < S → M 39 s = oI (si s)) ∧ (∀ s h, ow s = some h → h < 8) ∧ ∀ s x, si s = some x → x < 400
theorem atM.lk {M : sy_Mm} {E : Evs} {ne S L : Nat} {h0 : Nat → Nat} {fg : Nat → Bool} {aside : Option Nat} {N : Nat} (h : atM M E ne S L h0 fg aside N) : lkM M S L fg (yF S h0 E aside N ne).1 (yF S h0 E aside N ne).2.1 := by
  obtain ⟨⟨a1, a2, a3, a4, a5, a6, a7, a8, a9⟩, b2⟩ := h
  have hok := yF_ok (S := S) (h0 := h0) (aside := aside) (N := N) a1 a8 ne (Nat.le_refl _)
  exact ⟨a3, a4, a6.2, a5, a9, b2.1, b2.2.1, hok.1, fun s x hx => by have := hok.2.1 s x hx; omega⟩
set_option maxRecDepth 100000 in
set_option maxHeartbeats 4000000 in
theorem em_leftAt (d : Nat) (M : sy_Mm) (S L N s : Nat) (fg : Nat → Bool) (ow si : Nat → Option Nat) (hs : s < S) (hN : N ≤ 400) (hK : lkM M S L fg ow si) : Ev d i_X8_leftAt [.ref 30, .int (nI s), .int (nI N)] M (some (.int (nI (lfS L N (si s))))) M := by
  obtain ⟨hS, h8, hL, h11, h10, hO, hT, hw8, ht⟩ := hK
  refine ev_of ?_
  repeat refine fx_n rfl ?_
  refine fx_g rfl (ix_nI (by omega) (by omega)) ?_
  rw [nI_cl (by omega), hT s hs]
  repeat refine fx_n rfl ?_
  cases hq : si s with
  | none =>
    refine fx_bf rfl (fun z => z rfl) ?_
    repeat refine fx_n rfl ?_
    refine fx_bt rfl (by decide) ?_
    repeat refine fx_n rfl ?_
    exact fx_r rfl rfl ⟨rfl, rfl⟩
  | some t =>
    have := ht s t hq
    refine fx_bt rfl (nI_ne_m1 (by omega)) ?_
    repeat refine fx_n rfl ?_
    refine fx_g rfl (ix_nI (by omega) (by omega)) ?_
    rw [nI_cl (by omega), hT s hs, hq, show oI (some t) = nI t from rfl]
    repeat refine fx_n rfl ?_
    rw [h11, nI_add]
    by_cases hle : N ≤ t + L
    · rw [pk_sub hle]
      refine fx_bt rfl (nI_pos' (by omega)) ?_
      repeat refine fx_n rfl ?_
      exact fx_r rfl rfl ⟨rfl, rfl⟩
    · have hneg := pk_sneg (a := t + L) (b := N) (by omega) (by omega)
      refine fx_bf rfl (Int32.not_le.mpr hneg) ?_
      repeat refine fx_n rfl ?_
      refine fx_r rfl rfl ⟨?_, rfl⟩
      simp only [lfS]
      rw [show t + L - N = 0 by omega]; rfl
set_option maxRecDepth 100000 in
set_option maxHeartbeats 4000000 in
theorem em_isLucky (d : Nat) (M : sy_Mm) (S L N s : Nat) (fg : Nat → Bool) (ow si : Nat → Option Nat) (hs : s < S) (hN : N ≤ 400) (hK : lkM M S L fg ow si) : Ev (d + 1) i_X8_isLucky [.ref 30, .int (nI s), .int (nI N)] M (some (.int (zb (lkS L N (fg s) (si s))))) M := by
  obtain ⟨hS, h8, hL, h11, h10, hO, hT, hw8, ht⟩ := id hK
  refine ev_of ?_
  repeat refine fx_n rfl ?_
  rw [h10, bN_sh _ hs hS]
  unfold lkS
  cases hf : fg s with
  | true =>
    refine fx_bt rfl (by decide) ?_
    repeat refine fx_n rfl ?_
    exact fx_r rfl rfl ⟨rfl, rfl⟩
  | false =>
    refine fx_bf rfl (by decide) ?_
    repeat refine fx_n rfl ?_
    refine fx_p rfl (em_leftAt _ _ S L N s fg ow si hs hN hK) ?_
    have hlf : lfS L N (si s) < 2 ^ 31 := by
      cases hq : si s with
      | none => simp [lfS]
      | some t => have := ht s t hq; simp only [lfS]; omega
    rw [← lf_lk]
    by_cases h0 : 0 < lfS L N (si s)
    · refine fx_bf rfl (nI_nle h0 hlf) ?_
      repeat refine fx_n rfl ?_
      refine fx_r rfl rfl ⟨?_, rfl⟩
      simp [h0, zb]
    · refine fx_bt rfl (by rw [show lfS L N (si s) = 0 by omega]; decide) ?_
      repeat refine fx_n rfl ?_
      refine fx_r rfl rfl ⟨?_, rfl⟩
      simp [h0, zb]
set_option maxRecDepth 100000 in
set_option maxHeartbeats 4000000 in
theorem em_luckNow (d : Nat) (M : sy_Mm) (S L N h : Nat) (fg : Nat → Bool) (ow si : Nat → Option Nat) (hN : N ≤ 400) (hh : h < 8) (hK : lkM M S L fg ow si) : Ev (d + 2) i_X8_luckNow [.ref 30, .int (nI h), .int (nI N)] M (some (.int (nI (cnB (lkp ow si L N fg h) S)))) M := by
  obtain ⟨hS, h8, hL, h11, h10, hO, hT, hw8, ht⟩ := id hK
  have loop : ∀ j s, s + j = S → Fx (d + 2) i_X8_luckNow 11 [some (.ref 30), some (.int (nI h)), some (.int (nI N)), some (.int (nI (cnB (lkp ow si L N fg h) s))), some (.int (nI s))] [.int (M 30 8), .int (nI s)] M (fun r M' => r = some (.int (nI (cnB (lkp ow si L N fg h) S))) ∧ M' = M) := by
    intro j
    induction j with
    | zero =>
      intro s hs
      have e : s = S := by omega
      subst e
      refine fx_bt rfl (by rw [h8]; exact nI_le (Nat.le_refl _) (by omega)) ?_
      repeat refine fx_n rfl ?_
      exact fx_r rfl rfl ⟨rfl, rfl⟩
    | succ j ih =>
      intro s hs
      have i2 := ih (s + 1) (by omega)
      have hb : ∀ k, ow s = some k → k < 2 ^ 31 := fun k hk => by have := hw8 _ _ hk; omega
      refine fx_bf rfl (by rw [h8]; exact nI_ge (by omega) (by omega)) ?_
      repeat refine fx_n rfl ?_
      refine fx_g rfl (ix_nI (by omega) (by omega)) ?_
      rw [nI_cl (by omega), hO s (by omega)]
      repeat refine fx_n rfl ?_
      by_cases ho : ow s = some h
      · refine fx_bf rfl (fun z => z ((oI_s hb (by omega)).mpr ho)) ?_
        repeat refine fx_n rfl ?_
        refine fx_p rfl (em_isLucky _ _ S L N s fg ow si (by omega) hN hK) ?_
        cases hq : lkS L N (fg s) (si s) with
        | true =>
          refine fx_bf rfl (by decide) ?_
          repeat refine fx_n rfl ?_
          rw [cnB_t (by simp [lkp, ho, hq])] at i2
          rw [nI_1, nI_1]
          exact i2
        | false =>
          refine fx_bt rfl (by decide) ?_
          repeat refine fx_n rfl ?_
          rw [cnB_f (by simp [lkp, ho, hq])] at i2
          rw [nI_1, Int32.add_zero]
          exact i2
      · refine fx_bt rfl (fun z => ho ((oI_s hb (by omega)).mp z)) ?_
        repeat refine fx_n rfl ?_
        rw [cnB_f (by simp [lkp, ho])] at i2
        rw [nI_1, Int32.add_zero]
        exact i2
  refine ev_of ?_
  repeat refine fx_n rfl ?_
  exact loop S 0 (by omega)
set_option maxRecDepth 100000 in
set_option maxHeartbeats 4000000 in
theorem em_luckOf (d : Nat) (M : sy_Mm) (E : Evs) (ne S L N h : Nat) (w : Int32) (h0 : Nat → Nat) (fg : Nat → Bool) (hN : N ≤ 299) (hh : h < 8) (hC : ctM M E ne S L h0 fg) : Ex (d + 3) i_X8_luckOf [.ref 30, .int (nI h), .int (nI N), .int w] M (fun r M' => r = some (.int (if w = 0 then nI (cnB (lkp (yF S h0 E none N ne).1 (yF S h0 E none N ne).2.1 L N fg h) S) else nI (1 + 2 * cnB (lkp (yF S h0 E none N ne).1 (yF S h0 E none N ne).2.1 L N fg h) S))) ∧ atM M' E ne S L h0 fg none N ∧ kpM M M') := by
  unfold Ex
  repeat refine fx_n rfl ?_
  refine fx_c rfl (em_goes _ M E ne S L N h0 fg none hN (fun _ q => by cases q) hC) ?_
  rintro _ M1 ⟨rfl, b1, b2⟩
  repeat refine fx_n rfl ?_
  refine fx_p rfl (em_luckNow _ _ S L N h fg _ _ (by omega) hh b1.lk) ?_
  repeat refine fx_n rfl ?_
  by_cases hw : w = 0
  · refine fx_bf rfl (fun z => z hw) ?_
    repeat refine fx_n rfl ?_
    refine fx_r rfl rfl ⟨?_, b1, b2⟩
    rw [if_pos hw]
  · refine fx_bt rfl hw ?_
    repeat refine fx_n rfl ?_
    rw [egg_nI]
    refine fx_r rfl rfl ⟨?_, b1, b2⟩
    rw [if_neg hw]
set_option maxRecDepth 100000 in
set_option maxHeartbeats 4000000 in
theorem em_ledOf (d : Nat) (M : sy_Mm) (E : Evs) (ne S L N h : Nat) (i : Int32) (h0 : Nat → Nat) (fg : Nat → Bool) (hN : N ≤ 299) (hh : h < 8) (hC : ctM M E ne S L h0 fg) : Ex (d + 3) i_X8_ledOf [.ref 30, .int (nI h), .int (nI N), .int i] M (fun r M' => r = some (.int (ledS (lkp (yF S h0 E none N ne).1 (yF S h0 E none N ne).2.1 L N fg h) (yF S h0 E none N ne).2.2.1 i S 0 0)) ∧ kpM M M') := by
  unfold Ex
  repeat refine fx_n rfl ?_
  refine fx_c rfl (em_goes _ M E ne S L N h0 fg none hN (fun _ q => by cases q) hC) ?_
  rintro _ M1 ⟨rfl, b1, b2⟩
  have hlk := b1.lk
  have h40 := b1.2.2.2.1
  generalize (yF S h0 E none N ne).1 = ow at hlk ⊢
  generalize (yF S h0 E none N ne).2.1 = si at hlk ⊢
  generalize (yF S h0 E none N ne).2.2.1 = th at h40 ⊢
  obtain ⟨hS, h8, hL, h11, h10, hO, hT, hw8, ht⟩ := id hlk
  have loop : ∀ j s c, s + j = S → Fx (d + 3) i_X8_ledOf 18 [some (.ref 30), some (.int (nI h)), some (.int (nI N)), some (.int i), some (.int (nI c)), some (.int (nI s))] [.int (M1 30 8), .int (nI s)] M1 (fun r M' => r = some (.int (ledS (lkp ow si L N fg h) th i j s c)) ∧ kpM M M') := by
    intro j
    induction j with
    | zero =>
      intro s c hs
      have e : s = S := by omega
      subst e
      refine fx_bt rfl (by rw [h8]; exact nI_le (Nat.le_refl _) (by omega)) ?_
      repeat refine fx_n rfl ?_
      exact fx_r rfl rfl ⟨rfl, b2⟩
    | succ j ih =>
      intro s c hs
      have i2 := fun c => ih (s + 1) c (by omega)
      have hb : ∀ k, ow s = some k → k < 2 ^ 31 := fun k hk => by have := hw8 _ _ hk; omega
      refine fx_bf rfl (by rw [h8]; exact nI_ge (by omega) (by omega)) ?_
      repeat refine fx_n rfl ?_
      refine fx_g rfl (ix_nI (by omega) (by omega)) ?_
      rw [nI_cl (by omega), hO s (by omega)]
      repeat refine fx_n rfl ?_
      unfold ledS
      by_cases ho : ow s = some h
      · refine fx_bf rfl (fun z => z ((oI_s hb (by omega)).mpr ho)) ?_
        repeat refine fx_n rfl ?_
        refine fx_p rfl (em_isLucky _ _ S L N s fg ow si (by omega) (by omega) hlk) ?_
        cases hq : lkS L N (fg s) (si s) with
        | true =>
          rw [show lkp ow si L N fg h s = true by simp [lkp, ho, hq]]
          refine fx_bf rfl (by decide) ?_
          repeat refine fx_n rfl ?_
          by_cases hc : nI c = i
          · refine fx_bf rfl (fun z => z hc) ?_
            repeat refine fx_n rfl ?_
            refine fx_g rfl (ix_nI (by omega) (by omega)) ?_
            rw [nI_cl (by omega), h40 s (by omega)]
            refine fx_r rfl rfl ⟨?_, b2⟩
            rw [if_pos hc]; rfl
          · refine fx_bt rfl hc ?_
            repeat refine fx_n rfl ?_
            rw [nI_1, nI_1, if_neg hc]
            exact i2 (c + 1)
        | false =>
          rw [show lkp ow si L N fg h s = false by simp [lkp, ho, hq]]
          refine fx_bt rfl (by decide) ?_
          repeat refine fx_n rfl ?_
          rw [nI_1]
          exact i2 c
      · rw [show lkp ow si L N fg h s = false by simp [lkp, ho]]
        refine fx_bt rfl (fun z => ho ((oI_s hb (by omega)).mp z)) ?_
        repeat refine fx_n rfl ?_
        rw [nI_1]
        exact i2 c
  repeat refine fx_n rfl ?_
  exact loop S 0 0 (by omega)
/-- what a stone's state answers -/
def stS (Y : Yd) (L N : Nat) (fg : Nat → Bool) (s : Nat) (w : Int32) : Int32 := if w = 0 then oI (Y.1 s) else cond (lkS L N (fg s) (Y.2.1 s)) (if w = 1 then 1 else nI (lfS L N (Y.2.1 s))) 0
set_option maxRecDepth 100000 in
set_option maxHeartbeats 4000000 in
theorem em_stateOf (d : Nat) (M : sy_Mm) (E : Evs) (ne S L N s : Nat) (w : Int32) (h0 : Nat → Nat) (fg : Nat → Bool) (hN : N ≤ 299) (hs : s < S) (hC : ctM M E ne S L h0 fg) : Ex (d + 3) i_X8_stateOf [.ref 30, .int (nI s), .int (nI N), .int w] M (fun r M' => r = some (.int (stS (yF S h0 E none N ne) L N fg s w)) ∧ kpM M M') := by
  unfold Ex
  repeat refine fx_n rfl ?_
  refine fx_c rfl (em_goes _ M E ne S L N h0 fg none hN (fun _ q => by cases q) hC) ?_
  rintro _ M1 ⟨rfl, b1, b2⟩
  have hlk := b1.lk
  obtain ⟨hS, h8, hL, h11, h10, hO, hT, hw8, ht⟩ := id hlk
  unfold stS
  repeat refine fx_n rfl ?_
  by_cases hw : w = 0
  · rw [if_pos hw]
    refine fx_bf rfl (fun z => z hw) ?_
    repeat refine fx_n rfl ?_
    refine fx_g rfl (ix_nI (by omega) (by omega)) ?_
    rw [nI_cl (by omega), hO s hs]
    repeat refine fx_n rfl ?_
    exact fx_r rfl rfl ⟨rfl, b2⟩
  · rw [if_neg hw]
    refine fx_bt rfl hw ?_
    repeat refine fx_n rfl ?_
    refine fx_p rfl (em_isLucky _ _ S L N s fg _ _ hs (by omega) hlk) ?_
    cases hq : lkS L N (fg s) ((yF S h0 E none N ne).2.1 s) with
    | false =>
      refine fx_bf rfl (by decide) ?_
      repeat refine fx_n rfl ?_
      exact fx_r rfl rfl ⟨rfl, b2⟩
    | true =>
      refine fx_bt rfl (by decide) ?_
      repeat refine fx_n rfl ?_
      by_cases hw1 : w = 1
      · refine fx_bf rfl (fun z => z hw1) ?_
        repeat refine fx_n rfl ?_
        refine fx_r rfl rfl ⟨?_, b2⟩
        rw [if_pos hw1]; rfl
      · refine fx_bt rfl hw1 ?_
        repeat refine fx_n rfl ?_
        refine fx_p rfl (em_leftAt _ _ S L N s fg _ _ hs (by omega) hlk) ?_
        refine fx_r rfl rfl ⟨?_, b2⟩
        rw [if_neg hw1]; rfl
/-- the house asked for, NONE for all -/
def hsI (o : Option Nat) (h : Nat) : Bool := match o with
  | none => true
  | some q => decide (h = q)
set_option maxRecDepth 100000 in
set_option maxHeartbeats 4000000 in
theorem em_daysOf (d : Nat) (M : sy_Mm) (E : Evs) (ne S L a b : Nat) (o : Option Nat) (h0 : Nat → Nat) (fg : Nat → Bool) (aside : Option Nat) (hb : b ≤ 299) (hab : a ≤ b) (ho : ∀ q, o = some q → q < 8) (ha : ∀ e, aside = some e → e < 2 ^ 31) (hC : ctM M E ne S L h0 fg) : Ex (d + 3) i_X8_daysOf [.ref 30, .int (oI o), .int (nI a), .int (nI b), .int (oI aside)] M (fun r N => r = some (.int (nI (dayS (dayN (hsI o) S L h0 fg E aside ne) a (b + 1 - a)))) ∧ kpM M N) := by
  have inner : ∀ (j h c N : Nat) (M2 : sy_Mm) (K : Option Value → sy_Mm → Prop), h + j = 8 → N ≤ b → atM M2 E ne S L h0 fg aside N → (Fx (d + 3) i_X8_daysOf 9 [some (.ref 30), some (.int (oI o)), some (.int (nI a)), some (.int (nI b)), some (.int (oI aside)), some (.int (nI (c + dayN (hsI o) S L h0 fg E aside ne N))), some (.int (nI (N + 1))), some (.int (nI 8))] [.int (nI b), .int (nI (N + 1))] M2 K) →
      Fx (d + 3) i_X8_daysOf 27 [some (.ref 30), some (.int (oI o)), some (.int (nI a)), some (.int (nI b)), some (.int (oI aside)), some (.int (nI (c + cnB (fun h => hsI o h && anyL (yF S h0 E aside N ne).1 (yF S h0 E aside N ne).2.1 L N fg S h) h))), some (.int (nI N)), some (.int (nI h))] [.int 8, .int (nI h)] M2 K := by
    intro j
    induction j with
    | zero =>
      intro h c N M2 K hj hN hA k
      have e : h = 8 := by omega
      subst e
      refine fx_bt rfl (by decide) ?_
      repeat refine fx_n rfl ?_
      rw [nI_1]
      exact k
    | succ j ih =>
      intro h c N M2 K hj hN hA k
      have i2 := ih (h + 1) c N M2 K (by omega) hN hA k
      have hbo : ∀ q, o = some q → q < 2 ^ 31 := fun q hq => by have := ho q hq; omega
      refine fx_bf rfl (nI_ge (a := h) (b := 8) (by omega) (by omega)) ?_
      repeat refine fx_n rfl ?_
      have askL : hsI o h = true → Fx (d + 3) i_X8_daysOf 48 [some (.ref 30), some (.int (oI o)), some (.int (nI a)), some (.int (nI b)), some (.int (oI aside)), some (.int (nI (c + cnB (fun h => hsI o h && anyL (yF S h0 E aside N ne).1 (yF S h0 E aside N ne).2.1 L N fg S h) h))), some (.int (nI N)), some (.int (nI h))] [.int (nI N), .int (nI h), .ref 30, .int (nI (c + cnB (fun h => hsI o h && anyL (yF S h0 E aside N ne).1 (yF S h0 E aside N ne).2.1 L N fg S h) h))] M2 K := by
        intro hs
        refine fx_p rfl (em_luckNow _ _ S L N h fg _ _ (by omega) (by omega) hA.lk) ?_
        have hle := cnB_le (lkp (yF S h0 E aside N ne).1 (yF S h0 E aside N ne).2.1 L N fg h) S
        have hS := hA.lk.1
        by_cases h0' : 0 < cnB (lkp (yF S h0 E aside N ne).1 (yF S h0 E aside N ne).2.1 L N fg h) S
        · refine fx_bf rfl (nI_nle h0' (by omega)) ?_
          repeat refine fx_n rfl ?_
          rw [cnB_t (by simp [hs, anyL, h0'])] at i2
          rw [nI_1, nI_1, Nat.add_assoc]
          exact i2
        · refine fx_bt rfl (by rw [show cnB (lkp (yF S h0 E aside N ne).1 (yF S h0 E aside N ne).2.1 L N fg h) S = 0 by omega]; decide) ?_
          repeat refine fx_n rfl ?_
          rw [cnB_f (by simp [anyL, h0'])] at i2
          rw [nI_1, Int32.add_zero]
          exact i2
      cases hoo : o with
      | none =>
        subst hoo
        refine fx_bt rfl rfl ?_
        repeat refine fx_n rfl ?_
        exact askL rfl
      | some q =>
        subst hoo
        have := ho q rfl
        refine fx_bf rfl (nI_ne_m1 (by omega)) ?_
        repeat refine fx_n rfl ?_
        by_cases hq : h = q
        · refine fx_bf rfl (fun z => z (by rw [hq]; rfl)) ?_
          repeat refine fx_n rfl ?_
          exact askL (by simp [hsI, hq])
        · refine fx_bt rfl (fun z => hq ((nI_eq (by omega) (by omega)).mp z).symm) ?_
          repeat refine fx_n rfl ?_
          rw [cnB_f (by simp [hsI, hq])] at i2
          rw [nI_1, Int32.add_zero]
          exact i2
  have loop : ∀ (j N c : Nat) (x : Option Value) (M1 : sy_Mm), N + j = b + 1 → kpM M M1 →
      Fx (d + 3) i_X8_daysOf 9 [some (.ref 30), some (.int (oI o)), some (.int (nI a)), some (.int (nI b)), some (.int (oI aside)), some (.int (nI c)), some (.int (nI N)), x] [.int (nI b), .int (nI N)] M1 (fun r N' => r = some (.int (nI (c + dayS (dayN (hsI o) S L h0 fg E aside ne) N j))) ∧ kpM M N') := by
    intro j
    induction j with
    | zero =>
      intro N c x M1 hN hK
      refine fx_bt rfl (nI_lt (by omega) (by omega)) ?_
      repeat refine fx_n rfl ?_
      exact fx_r rfl rfl ⟨rfl, hK⟩
    | succ j ih =>
      intro N c x M1 hN hK
      refine fx_bf rfl (nI_nlt (by omega) (by omega)) ?_
      repeat refine fx_n rfl ?_
      refine fx_c rfl (em_goes _ M1 E ne S L N h0 fg aside (by omega) ha (hC.kp hK)) ?_
      rintro _ M2 ⟨rfl, b1, b2⟩
      repeat refine fx_n rfl ?_
      rw [dayS_cons]
      refine inner 8 0 c N M2 _ (by omega) (by omega) b1 ?_
      have := ih (N + 1) (c + dayN (hsI o) S L h0 fg E aside ne N) (some (.int (nI 8))) M2 (by omega) (hK.tr b2)
      rw [Nat.add_assoc] at this
      exact this
  unfold Ex
  repeat refine fx_n rfl ?_
  have := loop (b + 1 - a) a 0 none M (by omega) kpM.rf
  rw [Nat.zero_add] at this
  exact this
