/-! ===== read ===== -/
theorem putC_k {M : sy_Mm} {ne : Nat} {k n s h w : Int32} {q : Nat} (hq : q < 3 ∨ 8 < q) : putC M ne k n s h w q = M q := by
  unfold putC
  rw [up_k (by omega), up_k (by omega), up_k (by omega), up_k (by omega), up_k (by omega), up_k (by omega)]
theorem putM_k {M : sy_Mm} {ne : Nat} {k n s h w : Int32} {q : Nat} (h1 : q ≠ 30) (h2 : q ≠ 37) : putM M ne k n s h w q = M q := by
  unfold putM
  rw [up_k h1, up_k h2, up_k h2, up_k h2, up_k h2, up_k h2]
theorem putM_30 {M : sy_Mm} {ne : Nat} {k n s h w : Int32} {j : Nat} (h1 : j ≠ 12) : putM M ne k n s h w 30 j = M 30 j := by
  unfold putM
  rw [up_j h1, up_k (by omega), up_k (by omega), up_k (by omega), up_k (by omega), up_k (by omega)]
def rdS (it : Nat → Int32) : Nat → Nat → Evs → Nat → Nat × Evs × Nat
  | 0, t, E, ne => (t, E, ne)
  | j + 1, t, E, ne => cond (evG E ne (it (5 * t)) (it (5 * t + 1)) (it (5 * t + 2)) (it (5 * t + 3)) (it (5 * t + 4)) && decide (ne < 40)) (rdS it j (t + 1) (addE E ne (it (5 * t)) (it (5 * t + 1)) (it (5 * t + 2)) (it (5 * t + 3)) (it (5 * t + 4))) (ne + 1)) (t, E, ne)
theorem rdS_f {it : Nat → Int32} {j t : Nat} {E : Evs} {ne : Nat} (h : (evG E ne (it (5 * t)) (it (5 * t + 1)) (it (5 * t + 2)) (it (5 * t + 3)) (it (5 * t + 4)) && decide (ne < 40)) = false) : rdS it (j + 1) t E ne = (t, E, ne) := by
  show cond _ _ _ = _
  rw [h]; rfl
theorem rdS_t {it : Nat → Int32} {j t : Nat} {E : Evs} {ne : Nat} (h : (evG E ne (it (5 * t)) (it (5 * t + 1)) (it (5 * t + 2)) (it (5 * t + 3)) (it (5 * t + 4)) && decide (ne < 40)) = true) : rdS it (j + 1) t E ne = rdS it j (t + 1) (addE E ne (it (5 * t)) (it (5 * t + 1)) (it (5 * t + 2)) (it (5 * t + 3)) (it (5 * t + 4))) (ne + 1) := by
  show cond _ _ _ = _
  rw [h]; rfl
set_option maxRecDepth 100000 in
set_option maxHeartbeats 4000000 in
theorem ex_readL (d : Nat) (M : sy_Mm) (s z p q : Nat) (hp : (p = 22 ∧ q = 23) ∨ (p = 24 ∧ q = 25) ∨ (p = 26 ∧ q = 27) ∨ (p = 28 ∧ q = 29)) (hz : z ≤ 60) (h2 : M p 2 = nI z) : ∀ (j t : Nat) (E : Evs) (ne : Nat) (M1 : sy_Mm), t + j = z / 5 → taleOK E ne → taleC M1 E ne → (∀ k, k < 3 ∨ 8 < k → M1 k = M k) → Fx (d + 3) i_X7_read 49 [some (.ref 0), some (.int (nI s)), some (.ref p), some (.ref q), some (.int (nI t)), some (.int (nI (5 * t)))] [.int (M1 p 2), .int (nI (5 * t) + 5)] M1 (fun r N => r = some (.int (nI (rdS (M q) j t E ne).1)) ∧ taleOK (rdS (M q) j t E ne).2.1 (rdS (M q) j t E ne).2.2 ∧ taleC N (rdS (M q) j t E ne).2.1 (rdS (M q) j t E ne).2.2 ∧ ∀ k, k < 3 ∨ 8 < k → N k = M k) := by
  intro j
  induction j with
  | zero =>
    intro t E ne M1 ht hE hT hK
    have e2 : M1 p 2 = nI z := by rw [hK p (by omega)]; exact h2
    rw [e2, nI_p5]
    rcases hp with ⟨rfl, rfl⟩ | ⟨rfl, rfl⟩ | ⟨rfl, rfl⟩ | ⟨rfl, rfl⟩
    all_goals
      refine fx_bt rfl (nI_lt (by omega) (by omega)) ?_
      repeat refine fx_n rfl ?_
      exact fx_r rfl rfl ⟨rfl, hE, hT, hK⟩
  | succ j ih =>
    intro t E ne M1 ht hE hT hK
    have e2 : M1 p 2 = nI z := by rw [hK p (by omega)]; exact h2
    have er : M1 q = M q := hK q (by omega)
    have i2 : evG E ne (M q (5 * t)) (M q (5 * t + 1)) (M q (5 * t + 2)) (M q (5 * t + 3)) (M q (5 * t + 4)) = true → ne < 40 → _ := fun g hn => ih (t + 1) (addE E ne (M q (5 * t)) (M q (5 * t + 1)) (M q (5 * t + 2)) (M q (5 * t + 3)) (M q (5 * t + 4))) (ne + 1) (putC M1 ne (M q (5 * t)) (M q (5 * t + 1)) (M q (5 * t + 2)) (M q (5 * t + 3)) (M q (5 * t + 4))) (by omega) (addE_ok hE hn g) (putC_ok hT hn g) (fun k hk => by rw [putC_k hk]; exact hK k hk)
    rw [e2, nI_p5]
    rcases hp with ⟨rfl, rfl⟩ | ⟨rfl, rfl⟩ | ⟨rfl, rfl⟩ | ⟨rfl, rfl⟩
    all_goals
      refine fx_bf rfl (nI_nlt (by omega) (by omega)) ?_
      repeat refine fx_n rfl ?_
      refine fx_g rfl (ix_nI (by omega) (by omega)) ?_
      rw [nI_cl (by omega)]
      repeat refine fx_n rfl ?_
      rw [nI_1]
      refine fx_g rfl (ix_nI (by omega) (by omega)) ?_
      rw [nI_cl (by omega)]
      repeat refine fx_n rfl ?_
      rw [nI_p2]
      refine fx_g rfl (ix_nI (by omega) (by omega)) ?_
      rw [nI_cl (by omega)]
      repeat refine fx_n rfl ?_
      rw [nI_p3]
      refine fx_g rfl (ix_nI (by omega) (by omega)) ?_
      rw [nI_cl (by omega)]
      repeat refine fx_n rfl ?_
      rw [nI_p4]
      refine fx_g rfl (ix_nI (by omega) (by omega)) ?_
      rw [nI_cl (by omega), er]
      refine fx_c rfl (ex_event _ M1 E ne _ _ _ _ _ hE hT) ?_
      rintro r N (⟨g, rfl, rfl⟩ | ⟨g, hn, rfl, rfl⟩ | ⟨g, hn, rfl, rfl⟩)
      · rw [rdS_f (by rw [g]; rfl)]
        refine fx_bf rfl (by decide) ?_
        repeat refine fx_n rfl ?_
        exact fx_r rfl rfl ⟨rfl, hE, hT, hK⟩
      · rw [rdS_f (by rw [g]; simp; omega)]
        refine fx_bf rfl (by decide) ?_
        repeat refine fx_n rfl ?_
        exact fx_r rfl rfl ⟨rfl, hE, hT, hK⟩
      · rw [rdS_t (by rw [g]; simp; omega)]
        refine fx_bt rfl (nI_pos' (by omega)) ?_
        repeat refine fx_n rfl ?_
        have i3 := i2 g hn
        rw [show 5 * (t + 1) = 5 * t + 5 by omega] at i3
        rw [nI_1, nI_p5]
        exact i3
set_option maxRecDepth 100000 in
set_option maxHeartbeats 4000000 in
theorem em_readL (d : Nat) (M : sy_Mm) (it : Nat → Int32) (s z : Nat) (hs : s < 4) (hz : z ≤ 60) (h32 : M 32 s = nI z) (hit : ∀ j, j < z → M 33 (60 * s + j) = it j) : ∀ (j t : Nat) (E : Evs) (ne : Nat) (x : Option Value) (M1 : sy_Mm), t + j = z / 5 → taleOK E ne → taleM M1 E ne → (∀ k, k ≠ 30 → k ≠ 37 → M1 k = M k) → (∀ j, j ≠ 12 → M1 30 j = M 30 j) → Fx (d + 3) i_X8_read 30 [some (.ref 30), some (.int (nI s)), some (.int (nI t)), some (.int 1), x] [.int 1] M1 (fun r N => r = some (.int (nI (rdS it j t E ne).1)) ∧ taleM N (rdS it j t E ne).2.1 (rdS it j t E ne).2.2 ∧ (∀ k, k ≠ 30 → k ≠ 37 → N k = M k) ∧ ∀ j, j ≠ 12 → N 30 j = M 30 j) := by
  intro j
  induction j with
  | zero =>
    intro t E ne x M1 ht hE hT hK hJ
    have e2 : M1 32 s = nI z := by rw [hK 32 (by omega) (by omega)]; exact h32
    refine fx_bf rfl (by decide) ?_
    repeat refine fx_n rfl ?_
    rw [fv_nI, nI_p5]
    refine fx_g rfl (ix_nI (by omega) (by omega)) ?_
    rw [nI_cl (by omega), e2]
    refine fx_bt rfl (nI_lt (by omega) (by omega)) ?_
    repeat refine fx_n rfl ?_
    exact fx_r rfl rfl ⟨rfl, hT, hK, hJ⟩
  | succ j ih =>
    intro t E ne x M1 ht hE hT hK hJ
    have e2 : M1 32 s = nI z := by rw [hK 32 (by omega) (by omega)]; exact h32
    have er : ∀ j, j < z → M1 33 (60 * s + j) = it j := fun j hj => by rw [hK 33 (by omega) (by omega)]; exact hit j hj
    refine fx_bf rfl (by decide) ?_
    repeat refine fx_n rfl ?_
    rw [fv_nI, nI_p5]
    refine fx_g rfl (ix_nI (by omega) (by omega)) ?_
    rw [nI_cl (by omega), e2]
    refine fx_bf rfl (nI_nlt (by omega) (by omega)) ?_
    repeat refine fx_n rfl ?_
    rw [sx_nI, fv_nI, nI_add]
    refine fx_g rfl (ix_nI (by omega) (by omega)) ?_
    rw [nI_cl (by omega), er (5 * t) (by omega)]
    repeat refine fx_n rfl ?_
    rw [nI_1]
    refine fx_g rfl (ix_nI (by omega) (by omega)) ?_
    rw [nI_cl (by omega), show 60 * s + 5 * t + 1 = 60 * s + (5 * t + 1) by omega, er (5 * t + 1) (by omega)]
    repeat refine fx_n rfl ?_
    rw [nI_p2]
    refine fx_g rfl (ix_nI (by omega) (by omega)) ?_
    rw [nI_cl (by omega), show 60 * s + 5 * t + 2 = 60 * s + (5 * t + 2) by omega, er (5 * t + 2) (by omega)]
    repeat refine fx_n rfl ?_
    rw [nI_p3]
    refine fx_g rfl (ix_nI (by omega) (by omega)) ?_
    rw [nI_cl (by omega), show 60 * s + 5 * t + 3 = 60 * s + (5 * t + 3) by omega, er (5 * t + 3) (by omega)]
    repeat refine fx_n rfl ?_
    rw [nI_p4]
    refine fx_g rfl (ix_nI (by omega) (by omega)) ?_
    rw [nI_cl (by omega), show 60 * s + 5 * t + 4 = 60 * s + (5 * t + 4) by omega, er (5 * t + 4) (by omega)]
    refine fx_c rfl (em_event _ M1 E ne _ _ _ _ _ hE hT) ?_
    rintro r N (⟨g, rfl, rfl⟩ | ⟨g, hn, rfl, rfl⟩ | ⟨g, hn, rfl, rfl⟩)
    · rw [rdS_f (by rw [g]; rfl)]
      refine fx_bt rfl (by decide) ?_
      repeat refine fx_n rfl ?_
      refine fx_bt rfl (by decide) ?_
      repeat refine fx_n rfl ?_
      refine fx_bt rfl (by decide) ?_
      repeat refine fx_n rfl ?_
      exact fx_r rfl rfl ⟨by rw [Int32.add_zero], hT, hK, hJ⟩
    · rw [rdS_f (by rw [g]; simp; omega)]
      refine fx_bt rfl (by decide) ?_
      repeat refine fx_n rfl ?_
      refine fx_bt rfl (by decide) ?_
      repeat refine fx_n rfl ?_
      refine fx_bt rfl (by decide) ?_
      repeat refine fx_n rfl ?_
      exact fx_r rfl rfl ⟨by rw [Int32.add_zero], hT, hK, hJ⟩
    · rw [rdS_t (by rw [g]; simp; omega)]
      refine fx_bf rfl (nI_pos (by omega)) ?_
      repeat refine fx_n rfl ?_
      refine fx_bf rfl (by decide) ?_
      repeat refine fx_n rfl ?_
      rw [nI_1]
      exact ih (t + 1) _ (ne + 1) _ _ (by omega) (addE_ok hE hn g) (putM_ok hT hn g) (fun k k1 k2 => by rw [putM_k k1 k2]; exact hK k k1 k2) (fun j hj => by rw [putM_30 hj]; exact hJ j hj)
set_option maxRecDepth 100000 in
set_option maxHeartbeats 4000000 in
theorem ag_read {M : sy_Mm} (h : Inv M) (x : Int32) : AG i_X7_read i_X8_read [.int x] M := by
  intro d
  obtain ⟨nn, E, ne, L, B, nb, G, F, h1, h2, h3, h4, h5, h6, h7⟩ := id h
  unfold Ex
  repeat refine fx_n rfl ?_
  refine fx_p rfl (ev_isSheet _ _ _) (fx_zn rfl (fun g1 => ?_) (fun g1 => ?_))
  · obtain ⟨s, hs, rfl⟩ := inR_nI (b := 3) g1
    have hsh := h6 s (by omega)
    have hl := fun d => ev_isLost d M s (by omega)
    have modTo : ∀ (N : sy_Mm) (P : Option Value → sy_Mm → Prop), Fx (d + 30) i_X8_read 15 [some (.ref 30), some (.int (nI s)), none, none, none] [.int (nI s), .ref 31] N P → Fx (d + 30) i_X8_read 0 (sy_en i_X8_read [.ref 30, .int (nI s)]) [] N P := by
      intro N P kk
      repeat refine fx_n rfl ?_
      refine fx_p rfl (em_isSheet _ _ _) (fx_zn rfl (fun _ => ?_) (fun z => by rw [g1] at z; cases z))
      repeat refine fx_n rfl ?_
      exact kk
    cases hF : F s with
    | none =>
      rw [hF] at hsh
      obtain ⟨a1, a2, a3⟩ := hsh
      rw [a1] at hl
      have cls : ∀ Q : Option Value → sy_Mm → Prop, Q (some (.int (-10 - 1))) (sy_up M 0 7 1) → Fx (d + 30) i_X7_read 15 [some (.ref 0), some (.int (nI s)), none, none, none, none] [.int (nI s), .ref 21] M Q := by
        intro Q hQ
        rcases (show s = 0 ∨ s = 1 ∨ s = 2 ∨ s = 3 by omega) with rfl | rfl | rfl | rfl
        all_goals
          refine fx_g rfl (by decide) ?_
          repeat refine fx_n rfl ?_
          refine fx_p rfl (hl _) ?_
          refine fx_bf rfl (by decide) ?_
          repeat refine fx_n rfl ?_
          refine fx_c rfl (ex_of (ev_found _ _ _)) ?_
          rintro _ _ ⟨rfl, rfl⟩
          repeat refine fx_n rfl ?_
          exact fx_r rfl rfl hQ
      repeat refine fx_n rfl ?_
      refine cls _ ⟨⟨_, rfl⟩, modTo _ _ ?_⟩
      refine fx_g rfl (ix_nI (by omega) (by omega)) ?_
      rw [nI_cl (by omega), up_k (by omega), a3]
      refine fx_bf rfl (by decide) ?_
      repeat refine fx_n rfl ?_
      refine fx_c rfl (ex_of (em_met _ _ _)) ?_
      rintro _ _ ⟨rfl, rfl⟩
      exact fx_r rfl rfl ⟨rfl, h.fnd 1⟩
    | some q =>
      obtain ⟨g, z⟩ := q
      rw [hF] at hsh
      obtain ⟨a1, a2, a3, a4, a5, a6, a7⟩ := hsh
      rw [a3, decide_eq_false (nI_ne_m1 (by omega))] at hl
      have cls : ∀ Q : Option Value → sy_Mm → Prop, (∀ N, taleOK (rdS (M (23 + 2 * s)) (z / 5) 0 E ne).2.1 (rdS (M (23 + 2 * s)) (z / 5) 0 E ne).2.2 → taleC N (rdS (M (23 + 2 * s)) (z / 5) 0 E ne).2.1 (rdS (M (23 + 2 * s)) (z / 5) 0 E ne).2.2 → (∀ k, k < 3 ∨ 8 < k → N k = M k) → Q (some (.int (nI (rdS (M (23 + 2 * s)) (z / 5) 0 E ne).1))) N) → Fx (d + 30) i_X7_read 15 [some (.ref 0), some (.int (nI s)), none, none, none, none] [.int (nI s), .ref 21] M Q := by
        intro Q hQ
        have lp := ex_readL (d + 27) M s z (22 + 2 * s) (23 + 2 * s) (by omega) a2 a4 (z / 5) 0 E ne M (by omega) h2.1 h2.2.1 (fun _ _ => rfl)
        rcases (show s = 0 ∨ s = 1 ∨ s = 2 ∨ s = 3 by omega) with rfl | rfl | rfl | rfl
        all_goals
          refine fx_g rfl (by decide) ?_
          repeat refine fx_n rfl ?_
          refine fx_p rfl (hl _) ?_
          refine fx_bt rfl (by decide) ?_
          repeat refine fx_n rfl ?_
          refine fx_w lp ?_
          rintro _ N ⟨rfl, b1, b2, b3⟩
          exact hQ N b1 b2 b3
      repeat refine fx_n rfl ?_
      refine cls _ (fun N b1 b2 b3 => ⟨⟨_, rfl⟩, modTo _ _ ?_⟩)
      refine fx_g rfl (ix_nI (by omega) (by omega)) ?_
      rw [nI_cl (by omega), b3 31 (by omega), a5]
      refine fx_bt rfl (nI_pos' (by omega)) ?_
      repeat refine fx_n rfl ?_
      have hTN : taleM N E ne := by unfold taleM; rw [b3 30 (by omega), b3 37 (by omega)]; exact h2.2.2
      refine fx_w (em_readL (d + 27) N (M (23 + 2 * s)) s z (by omega) a2 (by rw [b3 32 (by omega)]; exact a6) (fun j hj => by rw [b3 33 (by omega)]; exact a7 j hj) (z / 5) 0 E ne _ N (by omega) h2.1 hTN (fun _ _ _ => rfl) (fun _ _ => rfl)) ?_
      rintro _ N' ⟨rfl, c1, c2, c3⟩
      have cc : ∀ k, k < 3 ∨ 8 < k → k ≠ 30 → k ≠ 37 → N' k = M k := fun k k1 k2 k3 => by rw [c2 k k2 k3, b3 k k1]
      have c30 : ∀ j, j ≠ 12 → N' 30 j = M 30 j := fun j hj => by rw [c3 j hj, b3 30 (by omega)]
      refine ⟨rfl, nn, _, _, L, B, nb, G, F, h1.cg (cc _ (by omega) (by omega) (by omega)) (cc _ (by omega) (by omega) (by omega)) (cc _ (by omega) (by omega) (by omega)) (c30 _ (by omega)), ⟨b1, ?_, c1⟩, h3.cg (congrFun (cc _ (by omega) (by omega) (by omega)) _) (c30 _ (by omega)), h4.cg (congrFun (cc _ (by omega) (by omega) (by omega)) _) (c30 _ (by omega)) (cc _ (by omega) (by omega) (by omega)) (cc _ (by omega) (by omega) (by omega)) (cc _ (by omega) (by omega) (by omega)) (cc _ (by omega) (by omega) (by omega)), h5.cg (cc _ (by omega) (by omega) (by omega)) (cc _ (by omega) (by omega) (by omega)), h6.cg (fun k k1 k2 k3 => cc k (by omega) k3 (by omega)), ?_⟩
      · unfold taleC
        rw [c2 3 (by omega) (by omega), c2 4 (by omega) (by omega), c2 5 (by omega) (by omega), c2 6 (by omega) (by omega), c2 7 (by omega) (by omega), c2 8 (by omega) (by omega)]
        exact b2
      · rw [cc 0 (by omega) (by omega) (by omega), c30 4 (by omega)]; exact h7
  · repeat refine fx_n rfl ?_
    refine fx_r rfl rfl ⟨⟨_, rfl⟩, ?_⟩
    repeat refine fx_n rfl ?_
    refine fx_p rfl (em_isSheet _ _ _) (fx_zn rfl (fun z => by rw [g1] at z; cases z) (fun _ => ?_))
    repeat refine fx_n rfl ?_
    exact fx_r rfl rfl ⟨rfl, h⟩
