set_option maxRecDepth 100000 in
set_option maxHeartbeats 4000000 in
theorem ag_event {M : sy_Mm} (h : Inv M) (k n s q w : Int32) : AG i_X7_event i_X8_event [.int k, .int n, .int s, .int q, .int w] M := by
  intro d
  obtain ⟨nn, E, ne, L, B, nb, G, F, h1, h2, h3, h4, h5, h6, h7⟩ := id h
  refine fx_w (ex_event _ M E ne k n s q w h2.1 h2.2.1) ?_
  rintro r N (⟨g, rfl, rfl⟩ | ⟨g, hn, rfl, rfl⟩ | ⟨g, hn, rfl, rfl⟩)
  · refine ⟨⟨_, rfl⟩, fx_w (em_event _ N E ne k n s q w h2.1 h2.2.2) ?_⟩
    rintro r' N' (⟨g', rfl, rfl⟩ | ⟨g', _⟩ | ⟨g', _⟩)
    · exact ⟨rfl, h⟩
    · rw [g] at g'; cases g'
    · rw [g] at g'; cases g'
  · refine ⟨⟨_, rfl⟩, fx_w (em_event _ N E ne k n s q w h2.1 h2.2.2) ?_⟩
    rintro r' N' (⟨g', _⟩ | ⟨g', _, rfl, rfl⟩ | ⟨g', hn', _⟩)
    · rw [g] at g'; cases g'
    · exact ⟨rfl, h⟩
    · omega
  · have hM : taleM (putC M ne k n s q w) E ne := ⟨h2.2.2.1, h2.2.2.2⟩
    refine ⟨⟨_, rfl⟩, fx_w (em_event _ _ E ne k n s q w h2.1 hM) ?_⟩
    rintro r' N' (⟨g', _⟩ | ⟨g', hn', _⟩ | ⟨g', _, rfl, rfl⟩)
    · rw [g] at g'; cases g'
    · omega
    · refine ⟨rfl, nn, addE E ne k n s q w, ne + 1, L, B, nb, G, F, h1.cg rfl rfl rfl rfl, ⟨addE_ok h2.1 hn g, ?_, putM_ok hM hn g⟩, h3.cg rfl rfl, h4.cg rfl rfl rfl rfl rfl rfl, h5.cg rfl rfl, h6.cg ?_, h7⟩
      · exact ⟨(putC_ok h2.2.1 hn g).1, (putC_ok h2.2.1 hn g).2⟩
      · intro z z1 z2 z3
        unfold putM putC
        rw [up_k z3, up_k (by omega), up_k (by omega), up_k (by omega), up_k (by omega), up_k (by omega), up_k (by omega), up_k (by omega), up_k (by omega), up_k (by omega), up_k (by omega), up_k (by omega)]
set_option maxRecDepth 100000 in
set_option maxHeartbeats 4000000 in
theorem ag_undo {M : sy_Mm} (h : Inv M) : AG i_X7_undo i_X8_undo [] M := by
  intro d
  obtain ⟨nn, E, ne, L, B, nb, G, F, h1, h2, h3, h4, h5, h6, h7⟩ := id h
  have hne := h2.1.1
  have c5 := h2.2.1.1
  have m12 := h2.2.2.1
  unfold Ex
  repeat refine fx_n rfl ?_
  by_cases h0 : ne = 0
  · refine fx_bf rfl (fun z => z (by rw [c5, h0]; rfl)) ?_
    repeat refine fx_n rfl ?_
    refine fx_r rfl rfl ⟨⟨_, rfl⟩, ?_⟩
    repeat refine fx_n rfl ?_
    refine fx_bf rfl (fun z => z (by rw [m12, h0]; rfl)) ?_
    repeat refine fx_n rfl ?_
    exact fx_r rfl rfl ⟨rfl, h⟩
  · refine fx_bt rfl (by rw [c5]; exact nI_ne0 (by omega) (by omega)) ?_
    have e1 : nI ne - 1 = nI (ne - 1) := pk_sub (a := ne) (b := 1) (by omega)
    repeat refine fx_n rfl ?_
    refine fx_c (P1 := fun r N => r = some (.int (nI (ne - 1))) ∧ N = sy_up M 3 5 (nI (ne - 1))) rfl ?_ ?_
    · unfold Ex
      repeat refine fx_n rfl ?_
      refine fx_bf rfl (by rw [c5]; exact nI_nle (by omega) (by omega)) ?_
      repeat refine fx_n rfl ?_
      rw [c5, e1]
      exact fx_r rfl rfl ⟨by rw [up_s], rfl⟩
    · rintro _ _ ⟨rfl, rfl⟩
      refine fx_r rfl rfl ⟨⟨_, rfl⟩, ?_⟩
      repeat refine fx_n rfl ?_
      refine fx_bt rfl (by rw [show sy_up M 3 5 (nI (ne - 1)) 30 12 = nI ne from m12]; exact nI_ne0 (by omega) (by omega)) ?_
      repeat refine fx_n rfl ?_
      rw [show sy_up M 3 5 (nI (ne - 1)) 30 12 = nI ne from m12, e1]
      refine fx_r rfl rfl ⟨by rw [up_s], nn, E, ne - 1, L, B, nb, G, F, h1.cg rfl rfl rfl rfl, ⟨⟨by omega, fun e he => h2.1.2.1 e (by omega), fun e he => h2.1.2.2 e (by omega)⟩, ⟨rfl, fun e he => h2.2.1.2 e (by omega)⟩, ⟨rfl, fun e he => h2.2.2.2 e (by omega)⟩⟩, h3.cg rfl rfl, h4.cg rfl rfl rfl rfl rfl rfl, h5.cg rfl rfl, h6.cg ?_, h7⟩
      intro z z1 z2 z3
      rw [up_k z3, up_k (by omega)]
/-! ===== book, forget ===== -/
set_option maxRecDepth 100000 in
set_option maxHeartbeats 4000000 in
theorem ag_forget {M : sy_Mm} (h : Inv M) : AG i_X7_forget i_X8_forget [] M := by
  intro d
  obtain ⟨nn, E, ne, L, B, nb, G, F, h1, h2, h3, h4, h5, h6, h7⟩ := id h
  unfold Ex
  repeat refine fx_n rfl ?_
  refine fx_c (P1 := fun r N => r = some (.int (nI nb)) ∧ N = sy_up M 14 5 0) rfl ?_ ?_
  · unfold Ex
    repeat refine fx_n rfl ?_
    rw [h4.2.1]
    exact fx_r rfl rfl ⟨rfl, rfl⟩
  · rintro _ _ ⟨rfl, rfl⟩
    refine fx_r rfl rfl ⟨⟨_, rfl⟩, ?_⟩
    repeat refine fx_n rfl ?_
    refine fx_r rfl rfl ⟨?_, nn, E, ne, L, B, 0, G, F, h1.cg rfl rfl rfl rfl, h2.cg rfl rfl rfl rfl rfl rfl rfl rfl, h3.cg rfl rfl, ⟨by omega, rfl, rfl, fun b hb => by omega⟩, h5.cg rfl rfl, h6.cg ?_, h7⟩
    · show some (Value.int (M 30 20)) = _
      rw [h4.2.2.1]
    · intro z z1 z2 z3
      rw [up_k z3, up_k (by omega)]
theorem th_nI (e : Nat) : (3 : Int32) * nI e = nI (3 * e) := pk_mul 3 e
set_option maxRecDepth 100000 in
set_option maxHeartbeats 4000000 in
theorem ag_book {M : sy_Mm} (h : Inv M) (x t g : Int32) : AG i_X7_book i_X8_book [.int x, .int t, .int g] M := by
  intro d
  obtain ⟨nn, E, ne, L, B, nb, G, F, h1, h2, h3, h4, h5, h6, h7⟩ := id h
  obtain ⟨b1, b2, b3, b4⟩ := id h4
  have full : ∀ d, Ev d i_X0_isFull [.ref 14] M (some (.int (zb (decide (nb = 8))))) M := by
    intro d
    refine ev_of ?_
    repeat refine fx_n rfl ?_
    rw [b2]
    by_cases q : nb = 8
    · refine fx_bf rfl (by rw [q]; decide) ?_
      repeat refine fx_n rfl ?_
      exact fx_r rfl rfl ⟨by simp [q, zb], rfl⟩
    · refine fx_bt rfl (nI_lt (b := 8) (by omega) (by omega)) ?_
      repeat refine fx_n rfl ?_
      exact fx_r rfl rfl ⟨by simp [q, zb], rfl⟩
  unfold Ex
  have modBad : (inR x 0 7 && (inR t 0 299 && inR g 0 19)) = false → ∀ r : Option Value, r = some (.int (-2)) → Fx (d + 30) i_X8_book 0 (sy_en i_X8_book [.ref 30, .int x, .int t, .int g]) [] M (fun r' N' => r' = r ∧ Inv N') := by
    intro gg r hr
    subst hr
    repeat refine fx_n rfl ?_
    refine fx_p rfl (em_isHouse _ _ _) (fx_ze rfl (fun g1 => by ((repeat refine fx_n rfl ?_); exact fx_r rfl rfl ⟨by simp [g1, zb_f], h⟩)) (fun g1 => ?_))
    repeat refine fx_n rfl ?_
    refine fx_p rfl (em_isNight _ _ _) (fx_ze rfl (fun g2 => by ((repeat refine fx_n rfl ?_); exact fx_r rfl rfl ⟨by simp [g2, zb_f], h⟩)) (fun g2 => ?_))
    repeat refine fx_n rfl ?_
    refine fx_p rfl (em_ir _ _ _ _ _ 0 19 rfl rfl) (fx_zn rfl (fun g3 => ?_) (fun g3 => ?_))
    · rw [g1, g2, g3] at gg; cases gg
    · repeat refine fx_n rfl ?_
      exact fx_r rfl rfl ⟨rfl, h⟩
  repeat refine fx_n rfl ?_
  refine fx_p rfl (ev_isHouse _ _ _) (fx_ze rfl (fun g1 => ?_) (fun g1 => ?_))
  · repeat refine fx_n rfl ?_
    exact fx_r rfl rfl ⟨⟨_, rfl⟩, modBad (by simp [g1]) _ rfl⟩
  repeat refine fx_n rfl ?_
  refine fx_p rfl (ev_wi _ _ _ _ 299 rfl) (fx_ze rfl (fun g2 => ?_) (fun g2 => ?_))
  · repeat refine fx_n rfl ?_
    exact fx_r rfl rfl ⟨⟨_, rfl⟩, modBad (by simp [g2]) _ rfl⟩
  repeat refine fx_n rfl ?_
  refine fx_p rfl (ev_wi _ _ _ _ 19 rfl) (fx_zn rfl (fun g3 => ?_) (fun g3 => ?_))
  · repeat refine fx_n rfl ?_
    have modTo : ∀ (N : sy_Mm) (r : Option Value), Fx (d + 30) i_X8_book 29 [some (.ref 30), some (.int x), some (.int t), some (.int g)] [] N (fun r' N' => r' = r ∧ Inv N') → Fx (d + 30) i_X8_book 0 (sy_en i_X8_book [.ref 30, .int x, .int t, .int g]) [] N (fun r' N' => r' = r ∧ Inv N') := by
      intro N r kk
      repeat refine fx_n rfl ?_
      refine fx_p rfl (em_isHouse _ _ _) (fx_ze rfl (fun z => by rw [g1] at z; cases z) (fun _ => ?_))
      repeat refine fx_n rfl ?_
      refine fx_p rfl (em_isNight _ _ _) (fx_ze rfl (fun z => by rw [g2] at z; cases z) (fun _ => ?_))
      repeat refine fx_n rfl ?_
      exact fx_p rfl (em_ir _ _ _ _ _ 0 19 rfl rfl) (fx_zn rfl (fun _ => kk) (fun z => by rw [g3] at z; cases z))
    refine fx_p rfl (full _) (fx_ze rfl (fun q => ?_) (fun q => ?_))
    · have q : ¬ nb = 8 := of_decide_eq_false q
      repeat refine fx_n rfl ?_
      refine fx_c (P1 := fun r N => r = some (.int (nI (nb + 1))) ∧ N = sy_up (sy_up (sy_up (sy_up M 15 nb x) 16 nb t) 17 nb g) 14 5 (nI (nb + 1))) rfl ?_ ?_
      · unfold Ex
        repeat refine fx_n rfl ?_
        refine fx_p rfl (full _) (fx_ze rfl (fun _ => ?_) (fun z => absurd (of_decide_eq_true z) q))
        repeat refine fx_n rfl ?_
        rw [b2]
        refine fx_g rfl (ix_nI (by omega) (by omega)) ?_
        rw [nI_cl (by omega)]
        repeat refine fx_n rfl ?_
        rw [show sy_up M 15 nb x 14 5 = nI nb from b2]
        refine fx_g rfl (ix_nI (by omega) (by omega)) ?_
        rw [nI_cl (by omega)]
        repeat refine fx_n rfl ?_
        rw [show sy_up (sy_up M 15 nb x) 16 nb t 14 5 = nI nb from b2]
        refine fx_g rfl (ix_nI (by omega) (by omega)) ?_
        rw [nI_cl (by omega)]
        repeat refine fx_n rfl ?_
        rw [show sy_up (sy_up (sy_up M 15 nb x) 16 nb t) 17 nb g 14 5 = nI nb from b2, nI_1]
        exact fx_r rfl rfl ⟨by rw [up_s], rfl⟩
      · rintro _ _ ⟨rfl, rfl⟩
        refine fx_r rfl rfl ⟨⟨_, rfl⟩, modTo _ _ ?_⟩
        generalize hN : sy_up (sy_up (sy_up (sy_up M 15 nb x) 16 nb t) 17 nb g) 14 5 (nI (nb + 1)) = N
        have c20 : N 30 20 = nI nb := by rw [← hN]; exact b3
        repeat refine fx_n rfl ?_
        rw [c20]
        refine fx_bt rfl (fun z => q ((nI_eq (b := 8) (by omega) (by omega)).mp z)) ?_
        repeat refine fx_n rfl ?_
        rw [c20, th_nI]
        refine fx_g rfl (ix_nI (by omega) (by omega)) ?_
        rw [nI_cl (by omega)]
        repeat refine fx_n rfl ?_
        rw [show sy_up N 41 (3 * nb) x 30 20 = nI nb from c20, th_nI, nI_1]
        refine fx_g rfl (ix_nI (by omega) (by omega)) ?_
        rw [nI_cl (by omega)]
        repeat refine fx_n rfl ?_
        rw [show sy_up (sy_up N 41 (3 * nb) x) 41 (3 * nb + 1) t 30 20 = nI nb from c20, th_nI, nI_p2]
        refine fx_g rfl (ix_nI (by omega) (by omega)) ?_
        rw [nI_cl (by omega)]
        repeat refine fx_n rfl ?_
        rw [show sy_up (sy_up (sy_up N 41 (3 * nb) x) 41 (3 * nb + 1) t) 41 (3 * nb + 2) g 30 20 = nI nb from c20, nI_1]
        obtain ⟨X, hX, rfl⟩ := inR_nI (b := 7) g1
        obtain ⟨T, hT, rfl⟩ := inR_nI (b := 299) g2
        obtain ⟨Y, hY, rfl⟩ := inR_nI (b := 19) g3
        refine fx_r rfl rfl ⟨by rw [up_s], nn, E, ne, L, fun b c => if b = nb then (if c = 0 then X else if c = 1 then T else Y) else B b c, nb + 1, G, F, h1.cg ?_ ?_ ?_ ?_, h2.cg ?_ ?_ ?_ ?_ ?_ ?_ ?_ ?_, h3.cg ?_ ?_, ⟨by omega, ?_, rfl, ?_⟩, h5.cg ?_ ?_, h6.cg ?_, ?_⟩
        all_goals (first | (rw [← hN]; rfl; done) | skip)
        · intro b hb
          have e15 : (sy_up (sy_up (sy_up (sy_up N 41 (3 * nb) (nI X)) 41 (3 * nb + 1) (nI T)) 41 (3 * nb + 2) (nI Y)) 30 20 (nI (nb + 1))) 15 = upd (M 15) nb (nI X) := by rw [← hN]; rfl
          have e16 : (sy_up (sy_up (sy_up (sy_up N 41 (3 * nb) (nI X)) 41 (3 * nb + 1) (nI T)) 41 (3 * nb + 2) (nI Y)) 30 20 (nI (nb + 1))) 16 = upd (M 16) nb (nI T) := by rw [← hN]; rfl
          have e17 : (sy_up (sy_up (sy_up (sy_up N 41 (3 * nb) (nI X)) 41 (3 * nb + 1) (nI T)) 41 (3 * nb + 2) (nI Y)) 30 20 (nI (nb + 1))) 17 = upd (M 17) nb (nI Y) := by rw [← hN]; rfl
          have e41 : (sy_up (sy_up (sy_up (sy_up N 41 (3 * nb) (nI X)) 41 (3 * nb + 1) (nI T)) 41 (3 * nb + 2) (nI Y)) 30 20 (nI (nb + 1))) 41 = upd (upd (upd (M 41) (3 * nb) (nI X)) (3 * nb + 1) (nI T)) (3 * nb + 2) (nI Y) := by rw [← hN]; rfl
          rw [e15, e16, e17, e41]
          by_cases e : b = nb
          · subst e
            refine ⟨by simp; omega, by simp [upd], fun c hc => ?_⟩
            rcases (show c = 0 ∨ c = 1 ∨ c = 2 by omega) with rfl | rfl | rfl <;> simp [upd]
          · obtain ⟨q1, q2, q3⟩ := b4 b (by omega)
            simp only [e, if_false]
            refine ⟨q1, ?_, fun c hc => ?_⟩
            · rw [pk_un e, pk_un e, pk_un e]; exact q2
            · rw [pk_un (by omega), pk_un (by omega), pk_un (by omega)]; exact q3 c hc
        · intro z z1 z2 z3
          rw [up_k z3, up_k (by omega), up_k (by omega), up_k (by omega), ← hN, up_k (by omega), up_k (by omega), up_k (by omega), up_k (by omega)]
        · rw [← hN]; exact h7
    · have q : nb = 8 := of_decide_eq_true q
      repeat refine fx_n rfl ?_
      refine fx_r rfl rfl ⟨⟨_, rfl⟩, modTo _ _ ?_⟩
      repeat refine fx_n rfl ?_
      refine fx_bf rfl (fun z => z (by rw [b3, q]; rfl)) ?_
      repeat refine fx_n rfl ?_
      exact fx_r rfl rfl ⟨rfl, h⟩
  · repeat refine fx_n rfl ?_
    exact fx_r rfl rfl ⟨⟨_, rfl⟩, modBad (by simp [g3]) _ rfl⟩
