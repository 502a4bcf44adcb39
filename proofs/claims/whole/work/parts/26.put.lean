theorem iText.cg {M N : sy_Mm} {n : Nat} (h : iText M n) (r1 : N 1 = M 1) (r2 : N 2 = M 2) (r35 : N 35 = M 35) (r30 : N 30 6 = M 30 6) : iText N n := by
  unfold iText; rw [r1, r2, r35, r30]; exact h
theorem iTale.cg {M N : sy_Mm} {E : Evs} {ne : Nat} (h : iTale M E ne) (r3 : N 3 = M 3) (r4 : N 4 = M 4) (r5 : N 5 = M 5) (r6 : N 6 = M 6) (r7 : N 7 = M 7) (r8 : N 8 = M 8) (r37 : N 37 = M 37) (r30 : N 30 12 = M 30 12) : iTale N E ne := by
  unfold iTale taleC taleM; rw [r3, r4, r5, r6, r7, r8, r37, r30]; exact h
theorem iLast.cg {M N : sy_Mm} {L : Nat} (h : iLast M L) (r9 : N 9 6 = M 9 6) (r30 : N 30 11 = M 30 11) : iLast N L := by
  unfold iLast; rw [r9, r30]; exact h
theorem iBook.cg {M N : sy_Mm} {B : Evs} {nb : Nat} (h : iBook M B nb) (r14 : N 14 5 = M 14 5) (r30 : N 30 20 = M 30 20) (r15 : N 15 = M 15) (r16 : N 16 = M 16) (r17 : N 17 = M 17) (r41 : N 41 = M 41) : iBook N B nb := by
  unfold iBook; rw [r14, r30, r15, r16, r17, r41]; exact h
theorem iGrd.cg {M N : sy_Mm} {G : Nat → Nat} (h : iGrd M G) (r20 : N 20 = M 20) (r45 : N 45 = M 45) : iGrd N G := by
  unfold iGrd; rw [r20, r45]; exact h
theorem iSht.cg {M N : sy_Mm} {F : Nat → Option (Nat × Nat)} (h : iSht M F) (r : ∀ k, 22 ≤ k → k < 34 → k ≠ 30 → N k = M k) : iSht N F := by
  intro s hs
  have h1 := h s hs
  unfold iSh1 at h1 ⊢
  rw [r (22 + 2 * s) (by omega) (by omega) (by omega), r (23 + 2 * s) (by omega) (by omega) (by omega), r 31 (by omega) (by omega) (by omega), r 32 (by omega) (by omega) (by omega), r 33 (by omega) (by omega) (by omega)]
  exact h1
theorem up_kk {M : sy_Mm} {k j : Nat} {x : Int32} {q : Nat} (h : q ≠ k) : sy_up M k j x q = M q := up_k h
/-! ===== type, wipe ===== -/
set_option maxRecDepth 100000 in
set_option maxHeartbeats 4000000 in
theorem ag_type {M : sy_Mm} (h : Inv M) (v : Int32) : AG i_X7_type i_X8_type [.int v] M := by
  intro d
  obtain ⟨n, E, ne, L, B, nb, G, F, h1, h2, h3, h4, h5, h6, h7⟩ := id h
  obtain ⟨a1, a2, a3, a4, a5, a6⟩ := id h1
  unfold Ex
  repeat refine fx_n rfl ?_
  refine fx_p rfl (ev_wi _ _ _ _ 255 rfl) (fx_ze rfl (fun g => ?_) (fun g => ?_))
  · repeat refine fx_n rfl ?_
    refine fx_r rfl rfl ⟨⟨_, rfl⟩, ?_⟩
    repeat refine fx_n rfl ?_
    refine fx_p rfl (em_ir _ _ _ _ _ 0 255 rfl rfl) (fx_zn rfl (fun g' => ?_) (fun _ => ?_))
    · rw [g] at g'; cases g'
    · repeat refine fx_n rfl ?_
      exact fx_r rfl rfl ⟨rfl, h⟩
  · repeat refine fx_n rfl ?_
    refine fx_c rfl (ev_put _ M n a1 a2 v) ?_
    rintro r N hq
    by_cases hn : n = 30
    · rw [if_pos hn] at hq
      obtain ⟨rfl, rfl⟩ := hq
      repeat refine fx_n rfl ?_
      refine fx_r rfl rfl ⟨⟨_, rfl⟩, ?_⟩
      repeat refine fx_n rfl ?_
      refine fx_p rfl (em_ir _ _ _ _ _ 0 255 rfl rfl) (fx_zn rfl (fun _ => ?_) (fun g' => ?_))
      · repeat refine fx_n rfl ?_
        refine fx_bf rfl (fun z => z (by rw [a3, hn]; rfl)) ?_
        repeat refine fx_n rfl ?_
        exact fx_r rfl rfl ⟨rfl, h⟩
      · rw [g] at g'; cases g'
    · rw [if_neg hn] at hq
      obtain ⟨rfl, rfl⟩ := hq
      repeat refine fx_n rfl ?_
      refine fx_r rfl rfl ⟨⟨_, rfl⟩, ?_⟩
      repeat refine fx_n rfl ?_
      refine fx_p rfl (em_ir _ _ _ _ _ 0 255 rfl rfl) (fx_zn rfl (fun _ => ?_) (fun g' => ?_))
      · generalize hN : sy_up (sy_up (sy_up (sy_up M 2 n v) 1 1 (nI (n + 1))) 1 2 (tx_fault (upd (M 2) n v) (n + 1))) 1 3 (nI (tx_st (upd (M 2) n v) (n + 1))) = N
        have c6 : N 30 6 = nI n := by rw [← hN]; exact a3
        repeat refine fx_n rfl ?_
        refine fx_bt rfl (fun z => hn ((nI_eq (b := 30) (by omega) (by omega)).mp (c6.symm.trans z))) ?_
        repeat refine fx_n rfl ?_
        rw [c6]
        refine fx_g rfl (ix_nI (by omega) (by omega)) ?_
        rw [nI_cl (by omega)]
        repeat refine fx_n rfl ?_
        have e36 : sy_up N 35 n v 30 6 + 1 = nI (n + 1) := by rw [up_k (by omega), c6, nI_1]
        rw [e36]
        refine fx_r rfl rfl ⟨by rw [up_s], ?_⟩
        have e2 : N 2 = upd (M 2) n v := by rw [← hN]; rfl
        refine ⟨n + 1, E, ne, L, B, nb, G, F, ⟨by omega, ?_, up_s, ?_, ?_, ?_⟩, h2.cg ?_ ?_ ?_ ?_ ?_ ?_ ?_ ?_, h3.cg ?_ ?_, h4.cg ?_ ?_ ?_ ?_ ?_ ?_, h5.cg ?_ ?_, h6.cg ?_, ?_⟩
        · show N 1 1 = _; rw [← hN]; rfl
        · intro j hj
          show sy_up N 35 n v 35 j = N 2 j
          rw [e2]
          by_cases hq : j = n
          · subst hq; rw [up_s]; simp [upd]
          · rw [up_j hq]
            have e35 : N 35 = M 35 := by rw [← hN]; rfl
            rw [e35, a4 j (by omega)]; simp [upd, hq]
        · show N 1 2 = tx_fault (N 2) (n + 1); rw [e2, ← hN]; rfl
        · show N 1 3 = nI (tx_st (N 2) (n + 1)); rw [e2, ← hN]; rfl
        all_goals (first | (rw [← hN]; rfl; done) | skip)
        · intro k hk1 hk2 hk3
          rw [up_k hk3, up_k (by omega), ← hN, up_k (by omega), up_k (by omega), up_k (by omega), up_k (by omega)]
        · rw [← hN]; exact h7
      · rw [g] at g'; cases g'
set_option maxRecDepth 100000 in
set_option maxHeartbeats 4000000 in
theorem ag_wipe {M : sy_Mm} (h : Inv M) : AG i_X7_wipe i_X8_wipe [] M := by
  intro d
  obtain ⟨n, E, ne, L, B, nb, G, F, h1, h2, h3, h4, h5, h6, h7⟩ := id h
  obtain ⟨a1, a2, a3, a4, a5, a6⟩ := id h1
  unfold Ex
  repeat refine fx_n rfl ?_
  refine fx_c rfl (ex_of (ev_empty _ M)) ?_
  rintro _ _ ⟨rfl, rfl⟩
  refine fx_r rfl rfl ⟨⟨_, rfl⟩, ?_⟩
  repeat refine fx_n rfl ?_
  refine fx_r rfl rfl ⟨?_, ?_⟩
  · rw [a2, ← a3]; rfl
  · refine ⟨0, E, ne, L, B, nb, G, F, ⟨by omega, rfl, rfl, fun j hj => by omega, rfl, rfl⟩, h2.cg rfl rfl rfl rfl rfl rfl rfl rfl, h3.cg rfl rfl, h4.cg rfl rfl rfl rfl rfl rfl, h5.cg rfl rfl, h6.cg ?_, h7⟩
    intro k hk1 hk2 hk3
    rw [up_k hk3, up_k (by omega), up_k (by omega), up_k (by omega)]
/-! ===== lasts ===== -/
set_option maxRecDepth 100000 in
set_option maxHeartbeats 4000000 in
theorem ag_lasts {M : sy_Mm} (h : Inv M) (v : Int32) : AG i_X7_lasts i_X8_lasts [.int v] M := by
  intro d
  obtain ⟨n, E, ne, L, B, nb, G, F, h1, h2, h3, h4, h5, h6, h7⟩ := id h
  unfold Ex
  have bad : inR v 1 99 = false → Fx (d + 30) i_X7_lasts 11 [some (.ref 0), some (.int v), none] [] M (fun r N => (∃ w, r = some (.int w)) ∧ Fx (d + 30) i_X8_lasts 0 (sy_en i_X8_lasts [.ref 30, .int v]) [] N (fun r' N' => r' = r ∧ Inv N')) := by
    intro g
    repeat refine fx_n rfl ?_
    refine fx_r rfl rfl ⟨⟨_, rfl⟩, ?_⟩
    repeat refine fx_n rfl ?_
    refine fx_p rfl (em_ir _ _ _ _ _ 1 99 rfl rfl) (fx_zn rfl (fun g' => ?_) (fun _ => ?_))
    · rw [g] at g'; cases g'
    · repeat refine fx_n rfl ?_
      exact fx_r rfl rfl ⟨rfl, h⟩
  repeat refine fx_n rfl ?_
  refine fx_b rfl (fun q => ?_) (fun q => ?_)
  · exact bad (inR_f.mpr (by rw [Int32.lt_iff_toInt_lt] at q; simp at q; omega))
  repeat refine fx_n rfl ?_
  refine fx_b rfl (fun q2 => ?_) (fun q2 => ?_)
  · have g : inR v 1 99 = true := inR_t.mpr (by rw [Int32.lt_iff_toInt_lt] at q; rw [Int32.le_iff_toInt_le] at q2; simp at q q2; omega)
    repeat refine fx_n rfl ?_
    refine fx_r rfl rfl ⟨⟨_, rfl⟩, ?_⟩
    repeat refine fx_n rfl ?_
    refine fx_p rfl (em_ir _ _ _ _ _ 1 99 rfl rfl) (fx_zn rfl (fun _ => ?_) (fun g' => ?_))
    · repeat refine fx_n rfl ?_
      refine fx_r rfl rfl ⟨?_, ?_⟩
      · show some (Value.int (M 30 11)) = some (Value.int (M 9 6))
        rw [h3.1, h3.2.1]
      · obtain ⟨w, hw, rfl⟩ := inR_nI (x := v) (b := 99) (inR_t.mpr (by have := inR_t.mp g; omega))
        have := inR_t.mp g
        rw [nI_toInt (by omega)] at this
        refine ⟨n, E, ne, w, B, nb, G, F, h1.cg rfl rfl rfl rfl, h2.cg rfl rfl rfl rfl rfl rfl rfl rfl, ⟨rfl, rfl, by omega, by omega⟩, h4.cg rfl rfl rfl rfl rfl rfl, h5.cg rfl rfl, h6.cg ?_, h7⟩
        intro k hk1 hk2 hk3
        rw [up_k hk3, up_k (by omega)]
    · rw [g] at g'; cases g'
  · exact bad (inR_f.mpr (by rw [Int32.le_iff_toInt_le] at q2; simp at q2; omega))
/-! ===== guard ===== -/
set_option maxRecDepth 100000 in
set_option maxHeartbeats 4000000 in
theorem ag_guard {M : sy_Mm} (h : Inv M) (x v : Int32) : AG i_X7_guard i_X8_guard [.int x, .int v] M := by
  intro d
  obtain ⟨n, E, ne, L, B, nb, G, F, h1, h2, h3, h4, h5, h6, h7⟩ := id h
  unfold Ex
  have modBad : (inR x 0 7 && inR v 0 16) = false → ∀ r : Option Value, r = some (.int (-2)) → Fx (d + 30) i_X8_guard 0 (sy_en i_X8_guard [.ref 30, .int x, .int v]) [] M (fun r' N' => r' = r ∧ Inv N') := by
    intro g r hr
    repeat refine fx_n rfl ?_
    refine fx_p rfl (em_isHouse _ _ _) (fx_ze rfl (fun g1 => ?_) (fun g1 => ?_))
    · repeat refine fx_n rfl ?_
      exact fx_r rfl rfl ⟨hr.symm, h⟩
    · repeat refine fx_n rfl ?_
      refine fx_p rfl (em_ir _ _ _ _ _ 0 16 rfl rfl) (fx_zn rfl (fun g2 => ?_) (fun g2 => ?_))
      · rw [g1, g2] at g; cases g
      · repeat refine fx_n rfl ?_
        exact fx_r rfl rfl ⟨hr.symm, h⟩
  repeat refine fx_n rfl ?_
  refine fx_p rfl (ev_isHouse _ _ _) (fx_ze rfl (fun g1 => ?_) (fun g1 => ?_))
  · repeat refine fx_n rfl ?_
    exact fx_r rfl rfl ⟨⟨_, rfl⟩, modBad (by simp [g1]) _ rfl⟩
  repeat refine fx_n rfl ?_
  refine fx_p rfl (ev_wi _ _ _ _ 16 rfl) (fx_zn rfl (fun g2 => ?_) (fun g2 => ?_))
  · obtain ⟨q, hq, rfl⟩ := inR_nI (b := 7) g1
    obtain ⟨w, hw, rfl⟩ := inR_nI (b := 16) g2
    have hg := h5 q (by omega)
    repeat refine fx_n rfl ?_
    refine fx_g rfl (ix_nI (by omega) (by omega)) ?_
    rw [nI_cl (by omega)]
    repeat refine fx_n rfl ?_
    refine fx_g rfl (ix_nI (by omega) (by omega)) ?_
    rw [nI_cl (by omega)]
    repeat refine fx_n rfl ?_
    refine fx_r rfl rfl ⟨⟨_, rfl⟩, ?_⟩
    repeat refine fx_n rfl ?_
    refine fx_p rfl (em_isHouse _ _ _) (fx_ze rfl (fun g' => by rw [g1] at g'; cases g') (fun _ => ?_))
    repeat refine fx_n rfl ?_
    refine fx_p rfl (em_ir _ _ _ _ _ 0 16 rfl rfl) (fx_zn rfl (fun _ => ?_) (fun g' => by rw [g2] at g'; cases g'))
    repeat refine fx_n rfl ?_
    refine fx_g rfl (ix_nI (by omega) (by omega)) ?_
    rw [nI_cl (by omega)]
    repeat refine fx_n rfl ?_
    refine fx_g rfl (ix_nI (by omega) (by omega)) ?_
    rw [nI_cl (by omega)]
    repeat refine fx_n rfl ?_
    refine fx_r rfl rfl ⟨?_, ?_⟩
    · show some (Value.int (M 45 q)) = some (Value.int (M 20 q))
      rw [hg.2.1, hg.2.2]
    · refine ⟨n, E, ne, L, B, nb, fun z => if z = q then w else G z, F, h1.cg rfl rfl rfl rfl, h2.cg rfl rfl rfl rfl rfl rfl rfl rfl, h3.cg rfl rfl, h4.cg rfl rfl rfl rfl rfl rfl, ?_, h6.cg ?_, h7⟩
      · intro z hz
        by_cases e : z = q
        · subst e
          refine ⟨by simp; omega, ?_, ?_⟩
          · rw [up_k (by omega), up_s]; simp
          · rw [up_s]; simp
        · have := h5 z hz
          refine ⟨by simp [e]; omega, ?_, ?_⟩
          · rw [up_k (by omega), up_j e, this.2.1]; simp [e]
          · rw [up_j e, up_k (by omega), this.2.2]; simp [e]
      · intro k hk1 hk2 hk3
        rw [up_k (by omega), up_k (by omega)]
  · repeat refine fx_n rfl ?_
    exact fx_r rfl rfl ⟨⟨_, rfl⟩, modBad (by simp [g2]) _ rfl⟩
