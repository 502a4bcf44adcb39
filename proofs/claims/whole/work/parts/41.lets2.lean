/-! ===== lets: the class's search, night by night ===== -/
def HF (S L : Nat) (fg : Nat → Bool) (n D : Nat) : Prop := ∀ (d : Nat) (M : sy_Mm) (σ : St) (N : Nat), D ≤ d → N + n ≤ 250 → lsC M S L fg σ → Ex d i_X2_nightsFrom [.ref 13, .int (nI N), .int (nI (n + 1))] M (fun r M' => r = some (.int (nI (fO S L fg n N σ))) ∧ kL M M')
theorem e_nI (s h : Nat) : (8 : Int32) * nI s + nI h = nI (8 * s + h) := by rw [show (8 : Int32) * nI s = nI (8 * s) from pk_mul 8 s, nI_add]
set_option maxRecDepth 100000 in
set_option maxHeartbeats 4000000 in
theorem ex_nightsWith (d : Nat) (M : sy_Mm) (S L N n s h : Nat) (fg : Nat → Bool) (σ : St) (hN : N + n ≤ 250) (hs : s < S) (hh : h < 8) (hC : lsC M S L fg σ) (D : Nat) (hF : HF S L fg n D) (hD : D ≤ d) : Ex (d + 1) i_X2_nightsWith [.ref 13, .int (nI s), .int (nI h), .int (nI N), .int (nI (n + 1))] M (fun r M' => r = some (.int (nI (fK S L fg n N σ (8 * s + h)))) ∧ kL M M') := by
  obtain ⟨⟨hS, h3, hL, h5, hO, h11, hw8, ht⟩, h6, hL1⟩ := id hC
  have e8 : (8 * s + h) / 8 = s := by omega
  have m8 : (8 * s + h) % 8 = h := by omega
  unfold Ex
  repeat refine fx_n rfl ?_
  refine fx_g rfl (ix_nI (by omega) (by omega)) ?_
  rw [nI_cl (by omega)]
  repeat refine fx_n rfl ?_
  refine fx_g rfl (ix_nI (by omega) (by omega)) ?_
  rw [nI_cl (by omega)]
  repeat refine fx_n rfl ?_
  refine fx_g rfl (ix_nI (by omega) (by omega)) ?_
  rw [nI_cl (by omega)]
  repeat refine fx_n rfl ?_
  rw [show sy_up M 10 s (nI h) 9 6 = nI L from h6, nI_add]
  refine fx_g rfl (ix_nI (by omega) (by omega)) ?_
  rw [nI_cl (by omega)]
  repeat refine fx_n rfl ?_
  have hC2 : lsC (sy_up (sy_up M 10 s (nI h)) 11 s (nI (N + L))) S L fg (stP σ (8 * s + h) N) := by
    refine ⟨⟨hS, h3, hL, h5, fun q hq => ?_, fun q hq => ?_, fun q x hx => ?_, fun q x hx => ?_⟩, h6, hL1⟩
    · rw [up_k (by omega)]
      by_cases e : q = s
      · rw [e, up_s]; simp only [stP, e8, m8, uO_s]; rfl
      · rw [up_j e]; simp only [stP, e8, uO_n e]; exact hO q hq
    · by_cases e : q = s
      · rw [e, up_s]; simp only [stP, e8, uO_s]; rfl
      · rw [up_j e, up_k (by omega)]; simp only [stP, e8, uO_n e]; exact h11 q hq
    · by_cases e : q = s
      · rw [e] at hx; simp only [stP, e8, m8, uO_s] at hx; cases hx; exact hh
      · simp only [stP, e8, uO_n e] at hx; exact hw8 q x hx
    · by_cases e : q = s
      · rw [e] at hx; simp only [stP, e8, uO_s] at hx; cases hx; omega
      · simp only [stP, e8, uO_n e] at hx; exact ht q x hx
  refine fx_c rfl (hF _ _ _ N hD hN hC2) ?_
  rintro _ M3 ⟨rfl, k3⟩
  repeat refine fx_n rfl ?_
  refine fx_g rfl (ix_nI (by omega) (by omega)) ?_
  rw [nI_cl (by omega)]
  repeat refine fx_n rfl ?_
  refine fx_g rfl (ix_nI (by omega) (by omega)) ?_
  rw [nI_cl (by omega)]
  repeat refine fx_n rfl ?_
  refine fx_r rfl rfl ⟨rfl, fun k j q => ?_⟩
  by_cases e11 : k = 11
  · subst e11
    by_cases e : j = s
    · rw [e, up_s]
    · rw [up_j e, up_k (by omega), k3 11 j q, up_j e, up_k (by omega)]
  · rw [up_k e11]
    by_cases e10 : k = 10
    · subst e10
      by_cases e : j = s
      · rw [e, up_s]
      · rw [up_j e, k3 10 j q, up_k (by omega), up_j e]
    · rw [up_k e10, k3 k j q, up_k e11, up_k e10]
theorem fK_le (S L : Nat) (fg : Nat → Bool) (n N : Nat) (σ : St) (k : Nat) : fK S L fg n N σ k ≤ 8 * (n + 1) := by
  unfold fK
  have := VV_le S L fg n (N + 1) (stP σ k N)
  have := lkN_le S L fg (stP σ k N) N
  omega
theorem fO_le (S L : Nat) (fg : Nat → Bool) (n N : Nat) (σ : St) : fO S L fg n N σ ≤ 8 * (n + 1) := by
  unfold fO
  have := VV_le S L fg n (N + 1) σ
  have := lkN_le S L fg σ N
  omega
set_option maxRecDepth 100000 in
set_option maxHeartbeats 4000000 in
theorem ex_mostNights (d : Nat) (M : sy_Mm) (S L N n : Nat) (fg : Nat → Bool) (σ : St) (hN : N + n ≤ 250) (hn : n ≤ 2) (hC : lsC M S L fg σ) (D : Nat) (hF : HF S L fg n D) (hD : D ≤ d + 2) : Ex (d + 4) i_X2_mostNights [.ref 13, .int (nI N), .int (nI (n + 1))] M (fun r M' => r = some (.int (nI (BB S L fg n N σ).1)) ∧ M' 13 1 = oI (BB S L fg n N σ).2 ∧ kL M M') := by
  obtain ⟨⟨hS, h3, hL, h5, hO, h11, hw8, ht⟩, h6, hL1⟩ := id hC
  have hce : ∀ k, alP S fg σ k = true → fK S L fg n N σ k ≤ ceS S L fg σ N (n + 1) := by
    intro k hk
    have hk8 : k < 8 * S := by
      simp only [alP, alR, Bool.and_eq_true, decide_eq_true_eq] at hk
      omega
    have := bf_ge (f := fK S L fg n N σ) (f0 := fO S L fg n N σ) hk (8 * S) hk8
    have := VV_ce (S := S) (fg := fg) hL1 (n + 1) N σ
    rw [VV_s] at this
    unfold BB at this
    omega
  have hb : ∀ k, (bfP (alP S fg σ) (fK S L fg n N σ) (fO S L fg n N σ) k).1 ≤ 24 := fun k => bf_le (by have := fO_le S L fg n N σ; omega) (fun k _ => by have := fK_le S L fg n N σ k; omega) k
  have hcb : ceS S L fg σ N (n + 1) ≤ 24 := by
    have h8 : ∀ j, dayS (gC S L fg σ N) 0 j ≤ 8 * j := by
      intro j
      induction j with
      | zero => exact Nat.le_refl _
      | succ j ih =>
        show dayS (gC S L fg σ N) 0 j + gC S L fg σ N (0 + j) ≤ _
        have a : gC S L fg σ N (0 + j) ≤ mN 8 (stN S fg σ) := mN_le.2
        have b := mN_le (a := 8) (b := stN S fg σ)
        omega
    have := h8 (n + 1)
    unfold ceS
    omega
  have inner : ∀ (s : Nat) (K : Option Value → sy_Mm → Prop), s < S → woB fg σ s = true → (∀ (M2 : sy_Mm) (x7 x8 : Option Value), kL M M2 → Fx (d + 4) i_X2_mostNights 50 [some (.ref 13), some (.int (nI N)), some (.int (nI (n + 1))), some (.int (nI (ceS S L fg σ N (n + 1)))), some (.int (nI (bfP (alP S fg σ) (fK S L fg n N σ) (fO S L fg n N σ) (8 * s + 8)).1)), some (.int (oI (bfP (alP S fg σ) (fK S L fg n N σ) (fO S L fg n N σ) (8 * s + 8)).2)), some (.int (nI (s + 1))), x7, x8] [.int (M2 1 3), .int (nI (s + 1))] M2 K) → ∀ (j h : Nat) (x8 : Option Value) (M1 : sy_Mm), h + j = 8 → kL M M1 → Fx (d + 4) i_X2_mostNights 78 [some (.ref 13), some (.int (nI N)), some (.int (nI (n + 1))), some (.int (nI (ceS S L fg σ N (n + 1)))), some (.int (nI (bfP (alP S fg σ) (fK S L fg n N σ) (fO S L fg n N σ) (8 * s + h)).1)), some (.int (oI (bfP (alP S fg σ) (fK S L fg n N σ) (fO S L fg n N σ) (8 * s + h)).2)), some (.int (nI s)), some (.int (nI h)), x8] [.int 8, .int (nI h)] M1 K := by
    intro s K hs hw k j
    simp only [woB, Bool.and_eq_true, Bool.not_eq_true', decide_eq_true_eq] at hw
    obtain ⟨hf, hno⟩ := hw
    induction j with
    | zero =>
      intro h x8 M1 hh hK
      have e : h = 8 := by omega
      subst e
      refine fx_bt rfl (by decide) ?_
      repeat refine fx_n rfl ?_
      rw [nI_1]
      exact k M1 _ _ hK
    | succ j ih =>
      intro h x8 M1 hh hK
      have hC1 := hC.kl hK
      have e8 : (8 * s + h) / 8 = s := by omega
      have m8 : (8 * s + h) % 8 = h := by omega
      have hb1 := hb (8 * s + h)
      have hfk := fK_le S L fg n N σ (8 * s + h)
      refine fx_bf rfl (nI_ge (b := 8) (by omega) (by omega)) ?_
      repeat refine fx_n rfl ?_
      refine fx_g rfl (ix_nI (by omega) (by omega)) ?_
      rw [nI_cl (by omega), hC1.1.2.2.2.2.1 s hs]
      cases ho : σ.1 s with
      | none => exact absurd ho hno
      | some o =>
        have ho8 := hw8 s o ho
        by_cases hho : h = o
        · have hal : alP S fg σ (8 * s + h) = false := by
            simp only [alP, alR, e8, m8, ho]
            simp [hho]
          have i2 := fun x8 M2 hK => ih (h + 1) x8 M2 (by omega) hK
          rw [show 8 * s + (h + 1) = 8 * s + h + 1 by omega, bf_f hal] at i2
          refine fx_bf rfl (fun z => z (by rw [hho]; rfl)) ?_
          repeat refine fx_n rfl ?_
          refine fx_bt rfl (nI_pos' (by omega)) ?_
          repeat refine fx_n rfl ?_
          rw [nI_1]
          exact i2 _ M1 hK
        · have hal : alP S fg σ (8 * s + h) = true := by
            simp only [alP, alR, e8, m8, ho, hf]
            simp [hs]
            exact fun q => hho q.symm
          refine fx_bt rfl (fun z => hho ((nI_eq (by omega) (by omega)).mp z)) ?_
          repeat refine fx_n rfl ?_
          refine fx_c rfl (ex_nightsWith _ M1 S L N n s h fg σ hN hs (by omega) hC1 D hF hD) ?_
          rintro _ M2 ⟨rfl, k2⟩
          repeat refine fx_n rfl ?_
          have i2 := fun x8 => ih (h + 1) x8 M2 (by omega) (hK.tr k2)
          by_cases hq : (bfP (alP S fg σ) (fK S L fg n N σ) (fO S L fg n N σ) (8 * s + h)).1 < fK S L fg n N σ (8 * s + h)
          · rw [show 8 * s + (h + 1) = 8 * s + h + 1 by omega, bf_t hal hq] at i2
            refine fx_bf rfl (nI_ge hq (by omega)) ?_
            repeat refine fx_n rfl ?_
            rw [e_nI, nI_1]
            exact i2 _
          · rw [show 8 * s + (h + 1) = 8 * s + h + 1 by omega, bf_l (by omega)] at i2
            refine fx_bt rfl (nI_le (by omega) (by omega)) ?_
            repeat refine fx_n rfl ?_
            rw [nI_1]
            exact i2 _
  have outer : ∀ (j s : Nat) (x7 x8 : Option Value) (M1 : sy_Mm), s + j = S → kL M M1 → Fx (d + 4) i_X2_mostNights 50 [some (.ref 13), some (.int (nI N)), some (.int (nI (n + 1))), some (.int (nI (ceS S L fg σ N (n + 1)))), some (.int (nI (bfP (alP S fg σ) (fK S L fg n N σ) (fO S L fg n N σ) (8 * s)).1)), some (.int (oI (bfP (alP S fg σ) (fK S L fg n N σ) (fO S L fg n N σ) (8 * s)).2)), some (.int (nI s)), x7, x8] [.int (M1 1 3), .int (nI s)] M1 (fun r M' => r = some (.int (nI (BB S L fg n N σ).1)) ∧ M' 13 1 = oI (BB S L fg n N σ).2 ∧ kL M M') := by
    intro j
    induction j with
    | zero =>
      intro s x7 x8 M1 hs hK
      have e : s = S := by omega
      subst e
      have c3 : M1 1 3 = nI s := (hC.kl hK).1.2.1
      refine fx_bt rfl (by rw [c3]; exact nI_le (Nat.le_refl _) (by omega)) ?_
      repeat refine fx_n rfl ?_
      exact fx_r rfl rfl ⟨rfl, up_s, hK.up⟩
    | succ j ih =>
      intro s x7 x8 M1 hs hK
      have hC1 := hC.kl hK
      have c3 : M1 1 3 = nI S := hC1.1.2.1
      have hb1 := hb (8 * s)
      refine fx_bf rfl (by rw [c3]; exact nI_ge (by omega) (by omega)) ?_
      repeat refine fx_n rfl ?_
      by_cases hq : ceS S L fg σ N (n + 1) ≤ (bfP (alP S fg σ) (fK S L fg n N σ) (fO S L fg n N σ) (8 * s)).1
      · have est := bf_stop hce hq (8 * S - 8 * s)
        rw [show 8 * s + (8 * S - 8 * s) = 8 * S by omega] at est
        refine fx_bt rfl (nI_le hq (by omega)) ?_
        repeat refine fx_n rfl ?_
        refine fx_r rfl rfl ⟨?_, ?_, hK.up⟩
        · unfold BB; rw [est]
        · rw [up_s]; unfold BB; rw [est]
      · refine fx_bf rfl (nI_ge (by omega) (by omega)) ?_
        repeat refine fx_n rfl ?_
        refine fx_p rfl (ev_worth _ M1 S L s fg σ (by omega) hC1) ?_
        cases hw : woB fg σ s with
        | false =>
          have i2 := fun x7 x8 => ih (s + 1) x7 x8 M1 (by omega) hK
          rw [show 8 * (s + 1) = 8 * s + 8 by omega, bf_skip 8 (fun i hi => by
            have e8 : (8 * s + i) / 8 = s := by omega
            simp only [alP, alR, e8]
            cases hf : fg s with
            | true => simp
            | false =>
              cases ho : σ.1 s with
              | none => simp
              | some o => simp [woB, hf, ho] at hw)] at i2
          refine fx_bf rfl (by decide) ?_
          repeat refine fx_n rfl ?_
          rw [nI_1]
          exact i2 _ _
        | true =>
          refine fx_bt rfl (by decide) ?_
          repeat refine fx_n rfl ?_
          refine inner s _ (by omega) hw (fun M2 x7 x8 k2 => ?_) 8 0 _ M1 (by omega) hK
          have i2 := ih (s + 1) x7 x8 M2 (by omega) k2
          rw [show 8 * (s + 1) = 8 * s + 8 by omega] at i2
          exact i2
  unfold Ex
  repeat refine fx_n rfl ?_
  refine fx_bf rfl (nI_nlt (b := 1) (by omega) (by omega)) ?_
  repeat refine fx_n rfl ?_
  refine fx_bt rfl (nI_le (b := 3) (by omega) (by omega)) ?_
  have k0 : kL M (sy_up M 13 1 (-1)) := kL.rf.up
  repeat refine fx_n rfl ?_
  refine fx_p rfl (ev_ceiling _ _ S L N (n + 1) fg σ (by omega) (by omega) (hC.kl k0)) ?_
  repeat refine fx_n rfl ?_
  refine fx_c rfl (hF _ _ σ N (by omega) hN (hC.kl k0)) ?_
  rintro _ M2 ⟨rfl, k2⟩
  repeat refine fx_n rfl ?_
  exact outer S 0 none none M2 (by omega) (k0.tr k2)
set_option maxRecDepth 100000 in
set_option maxHeartbeats 4000000 in
theorem hf_0 (S L : Nat) (fg : Nat → Bool) : HF S L fg 0 3 := by
  intro d M σ N hd hN hC
  obtain ⟨d, rfl⟩ : ∃ d', d = d' + 3 := ⟨d - 3, by omega⟩
  unfold Ex
  repeat refine fx_n rfl ?_
  refine fx_p rfl (ev_luckyHouses _ M S L N fg σ.1 σ.2 (by omega) hC.1) ?_
  refine fx_p rfl (ev_bitCount _ _ _ (bN_256 _)) ?_
  rw [pcn_bN _ 8 (by omega)]
  repeat refine fx_n rfl ?_
  refine fx_bf rfl (by decide) ?_
  repeat refine fx_n rfl ?_
  exact fx_r rfl rfl ⟨rfl, kL.rf⟩
set_option maxRecDepth 100000 in
set_option maxHeartbeats 4000000 in
theorem hf_1 (S L : Nat) (fg : Nat → Bool) : HF S L fg 1 3 := by
  intro d M σ N hd hN hC
  obtain ⟨d, rfl⟩ : ∃ d', d = d' + 3 := ⟨d - 3, by omega⟩
  unfold Ex
  repeat refine fx_n rfl ?_
  refine fx_p rfl (ev_luckyHouses _ M S L N fg σ.1 σ.2 (by omega) hC.1) ?_
  refine fx_p rfl (ev_bitCount _ _ _ (bN_256 _)) ?_
  rw [pcn_bN _ 8 (by omega)]
  repeat refine fx_n rfl ?_
  refine fx_bt rfl (by decide) ?_
  repeat refine fx_n rfl ?_
  refine fx_bf rfl (by decide) ?_
  repeat refine fx_n rfl ?_
  rw [nI_1]
  refine fx_p rfl (ev_mostInLast _ M S L (N + 1) fg σ (by omega) hC) ?_
  repeat refine fx_n rfl ?_
  rw [nI_add]
  exact fx_r rfl rfl ⟨rfl, kL.rf⟩
set_option maxRecDepth 100000 in
set_option maxHeartbeats 4000000 in
theorem hf_2 (S L : Nat) (fg : Nat → Bool) : HF S L fg 2 6 := by
  intro d M σ N hd hN hC
  obtain ⟨d, rfl⟩ : ∃ d', d = d' + 6 := ⟨d - 6, by omega⟩
  · unfold Ex
    repeat refine fx_n rfl ?_
    refine fx_p rfl (ev_luckyHouses _ M S L N fg σ.1 σ.2 (by omega) hC.1) ?_
    refine fx_p rfl (ev_bitCount _ _ _ (bN_256 _)) ?_
    rw [pcn_bN _ 8 (by omega)]
    repeat refine fx_n rfl ?_
    refine fx_bt rfl (by decide) ?_
    repeat refine fx_n rfl ?_
    refine fx_bt rfl (by decide) ?_
    repeat refine fx_n rfl ?_
    rw [nI_1]
    refine fx_c rfl (ex_mostNights _ M S L (N + 1) 1 fg σ (by omega) (by omega) hC 3 (hf_1 S L fg) (by omega)) ?_
    rintro _ M2 ⟨rfl, _, k2⟩
    repeat refine fx_n rfl ?_
    rw [nI_add]
    exact fx_r rfl rfl ⟨rfl, k2⟩
