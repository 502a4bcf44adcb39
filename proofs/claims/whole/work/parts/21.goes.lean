/-! ===== the reference's telling ===== -/
def ctM (M : sy_Mm) (E : Evs) (ne S L : Nat) (h0 : Nat → Nat) (fg : Nat → Bool) : Prop := taleOK E ne ∧ taleM M E ne ∧ S ≤ 9 ∧ M 30 8 = nI S ∧ M 30 11 = nI L ∧ (1 ≤ L ∧ L ≤ 99) ∧ (∀ s, s < S → M 36 s = nI (h0 s)) ∧ (∀ s, h0 s < 8) ∧ M 30 10 = nI (bN fg S)
def kpM (M N : sy_Mm) : Prop := (∀ k, k ≠ 30 → k ≠ 38 → k ≠ 39 → k ≠ 40 → N k = M k) ∧ ∀ j, j ≠ 17 → j ≠ 18 → j ≠ 19 → N 30 j = M 30 j
theorem kpM.rf {M : sy_Mm} : kpM M M := ⟨fun _ _ _ _ _ => rfl, fun _ _ _ _ => rfl⟩
theorem kpM.tr {M N K : sy_Mm} (h : kpM M N) (g : kpM N K) : kpM M K := ⟨fun k a b c d => (g.1 k a b c d).trans (h.1 k a b c d), fun j a b c => (g.2 j a b c).trans (h.2 j a b c)⟩
theorem kpM.up30 {M N : sy_Mm} (h : kpM M N) {j : Nat} {x : Int32} (hj : j = 17 ∨ j = 18 ∨ j = 19) : kpM M (sy_up N 30 j x) := ⟨fun k a b c d => by rw [up_k a]; exact h.1 k a b c d, fun i a b c => by rw [up_j (by omega)]; exact h.2 i a b c⟩
theorem kpM.up {M N : sy_Mm} (h : kpM M N) {k j : Nat} {x : Int32} (hk : k = 38 ∨ k = 39 ∨ k = 40) : kpM M (sy_up N k j x) := ⟨fun q a b c d => by rw [up_k (by omega)]; exact h.1 q a b c d, fun i a b c => by rw [up_k (by omega)]; exact h.2 i a b c⟩
theorem ctM.kp {M N : sy_Mm} {E : Evs} {ne S L : Nat} {h0 : Nat → Nat} {fg : Nat → Bool} (h : ctM M E ne S L h0 fg) (k : kpM M N) : ctM N E ne S L h0 fg := by
  obtain ⟨a1, a2, a3, a4, a5, a6, a7, a8, a9⟩ := h
  have k1 := k.1 36 (by omega) (by omega) (by omega) (by omega)
  have k2 := k.1 37 (by omega) (by omega) (by omega) (by omega)
  refine ⟨a1, ⟨by rw [k.2 12 (by omega) (by omega) (by omega)]; exact a2.1, by rw [k2]; exact a2.2⟩, a3, by rw [k.2 8 (by omega) (by omega) (by omega)]; exact a4, by rw [k.2 11 (by omega) (by omega) (by omega)]; exact a5, a6, by rw [k1]; exact a7, a8, by rw [k.2 10 (by omega) (by omega) (by omega)]; exact a9⟩
def yardM (M : sy_Mm) (S : Nat) (Y : Yd) : Prop := (∀ s, s < S → M 38 s = oI (Y.1 s)) ∧ (∀ s, s < S → M 39 s = oI (Y.2.1 s)) ∧ (∀ s, s < S → M 40 s = oI (Y.2.2.1 s)) ∧ M 30 17 = nI Y.2.2.2.1 ∧ M 30 18 = oI Y.2.2.2.2.1 ∧ M 30 19 = nI Y.2.2.2.2.2
theorem fv_nI (e : Nat) : (5 : Int32) * nI e = nI (5 * e) := pk_mul 5 e
theorem nI_p2 (a : Nat) : nI a + 2 = nI (a + 2) := nI_add a 2
theorem nI_p3 (a : Nat) : nI a + 3 = nI (a + 3) := nI_add a 3
theorem nI_p4 (a : Nat) : nI a + 4 = nI (a + 4) := nI_add a 4
theorem nI_p5 (a : Nat) : nI a + 5 = nI (a + 5) := nI_add a 5
set_option maxRecDepth 100000 in
set_option maxHeartbeats 4000000 in
theorem em_isTrue (d : Nat) (M : sy_Mm) (E : Evs) (ne e : Nat) (hE : taleOK E ne) (hT : taleM M E ne) (he : e < ne) : Ev d i_X8_isTrue [.ref 30, .int (nI e)] M (some (.int (zb (yTrue (E e))))) M := by
  obtain ⟨q0, q1, q2, q3, q4⟩ := hE.2.1 e he
  have t := hT.2 e he
  have hne := hE.1
  refine ev_of ?_
  repeat refine fx_n rfl ?_
  rw [fv_nI, nI_p4]
  refine fx_g rfl (ix_nI (by omega) (by omega)) ?_
  rw [nI_cl (by omega), t 4 (by omega)]
  repeat refine fx_n rfl ?_
  rw [fv_nI]
  refine fx_g rfl (ix_nI (by omega) (by omega)) ?_
  rw [nI_cl (by omega), show M 37 (5 * e) = nI (E e 0) from t 0 (by omega)]
  by_cases h0 : E e 0 = 0
  · refine fx_bf rfl (by rw [h0]; decide) ?_
    repeat refine fx_n rfl ?_
    by_cases h4 : E e 4 = 0
    · refine fx_bt rfl (by rw [h4]; decide) ?_
      repeat refine fx_n rfl ?_
      refine fx_r rfl rfl ⟨?_, rfl⟩
      simp [yTrue, h0, h4, zb]
    · refine fx_bf rfl (nI_ne0 (by omega) (by omega)) ?_
      repeat refine fx_n rfl ?_
      refine fx_g rfl (by decide) ?_
      rw [rem2 (by omega)]
      repeat refine fx_n rfl ?_
      by_cases h2 : E e 4 % 2 = 1
      · refine fx_bf rfl (by rw [h2]; decide) ?_
        repeat refine fx_n rfl ?_
        refine fx_r rfl rfl ⟨?_, rfl⟩
        simp [yTrue, h0, h2, zb]
      · refine fx_bt rfl (by rw [show E e 4 % 2 = 0 by omega]; decide) ?_
        repeat refine fx_n rfl ?_
        refine fx_r rfl rfl ⟨?_, rfl⟩
        simp [yTrue, h0, h2, h4, zb]
  · refine fx_bt rfl (nI_ne0 (by omega) (by omega)) ?_
    repeat refine fx_n rfl ?_
    refine fx_r rfl rfl ⟨?_, rfl⟩
    simp [yTrue, h0, zb]
set_option maxRecDepth 100000 in
set_option maxHeartbeats 4000000 in
theorem em_isLawful (d : Nat) (M : sy_Mm) (E : Evs) (ne e S : Nat) (ow : Nat → Option Nat) (hE : taleOK E ne) (hT : taleM M E ne) (he : e < ne) (hS : S ≤ 9) (h3 : M 30 8 = nI S) (hO : ∀ s, s < S → M 38 s = oI (ow s)) (h8 : ∀ s h, ow s = some h → h < 8) : Ev d i_X8_isLawful [.ref 30, .int (nI e)] M (some (.int (zb (yLaw S ow (E e))))) M := by
  obtain ⟨q0, q1, q2, q3, q4⟩ := hE.2.1 e he
  have t := hT.2 e he
  have hne := hE.1
  have hb : ∀ k, ow (E e 2) = some k → k < 2 ^ 31 := fun k hk => by have := h8 _ _ hk; omega
  refine ev_of ?_
  repeat refine fx_n rfl ?_
  rw [fv_nI]
  refine fx_g rfl (ix_nI (by omega) (by omega)) ?_
  rw [nI_cl (by omega), show M 37 (5 * e) = nI (E e 0) from t 0 (by omega)]
  repeat refine fx_n rfl ?_
  rw [fv_nI, nI_p2]
  refine fx_g rfl (ix_nI (by omega) (by omega)) ?_
  rw [nI_cl (by omega), t 2 (by omega)]
  repeat refine fx_n rfl ?_
  rw [fv_nI, nI_p3]
  refine fx_g rfl (ix_nI (by omega) (by omega)) ?_
  rw [nI_cl (by omega), t 3 (by omega)]
  repeat refine fx_n rfl ?_
  rw [h3]
  by_cases h2 : E e 2 < S
  · have hw := hO _ h2
    refine fx_bt rfl (nI_lt h2 (by omega)) ?_
    repeat refine fx_n rfl ?_
    by_cases hk : E e 0 < 3
    · refine fx_bf rfl (nI_ge (a := E e 0) (b := 3) hk (by omega)) ?_
      repeat refine fx_n rfl ?_
      refine fx_g rfl (ix_nI (by omega) (by omega)) ?_
      rw [nI_cl (by omega), hw]
      repeat refine fx_n rfl ?_
      by_cases g1 : ow (E e 2) = none
      · refine fx_bt rfl ((oI_n hb).mpr g1) ?_
        repeat refine fx_n rfl ?_
        refine fx_r rfl rfl ⟨?_, rfl⟩
        simp [yLaw, h2, hk, g1, zb]
      · refine fx_bf rfl (fun z => g1 ((oI_n hb).mp z)) ?_
        repeat refine fx_n rfl ?_
        refine fx_g rfl (ix_nI (by omega) (by omega)) ?_
        rw [nI_cl (by omega), hw]
        repeat refine fx_n rfl ?_
        by_cases g2 : ow (E e 2) = some (E e 3)
        · refine fx_bt rfl ((oI_s hb (by omega)).mpr g2) ?_
          repeat refine fx_n rfl ?_
          refine fx_r rfl rfl ⟨?_, rfl⟩
          simp [yLaw, h2, hk, g2, zb]
        · refine fx_bf rfl (fun z => g2 ((oI_s hb (by omega)).mp z)) ?_
          repeat refine fx_n rfl ?_
          refine fx_r rfl rfl ⟨?_, rfl⟩
          simp [yLaw, h2, hk, g1, g2, zb]
    · refine fx_bt rfl (nI_le (a := 3) (by omega) (by omega)) ?_
      repeat refine fx_n rfl ?_
      by_cases h4 : E e 0 = 4
      · refine fx_bf rfl (by rw [h4]; decide) ?_
        repeat refine fx_n rfl ?_
        refine fx_g rfl (ix_nI (by omega) (by omega)) ?_
        rw [nI_cl (by omega), hw]
        repeat refine fx_n rfl ?_
        by_cases g1 : ow (E e 2) = none
        · refine fx_bf rfl (fun z => z ((oI_n hb).mpr g1)) ?_
          repeat refine fx_n rfl ?_
          refine fx_r rfl rfl ⟨?_, rfl⟩
          simp [yLaw, h2, h4, g1, zb]
        · refine fx_bt rfl (fun z => g1 ((oI_n hb).mp z)) ?_
          repeat refine fx_n rfl ?_
          refine fx_r rfl rfl ⟨?_, rfl⟩
          simp [yLaw, h2, h4, g1, zb]
      · refine fx_bt rfl (fun z => h4 ((nI_eq (b := 4) (by omega) (by omega)).mp z)) ?_
        repeat refine fx_n rfl ?_
        refine fx_g rfl (ix_nI (by omega) (by omega)) ?_
        rw [nI_cl (by omega), hw]
        repeat refine fx_n rfl ?_
        by_cases g2 : ow (E e 2) = some (E e 3)
        · refine fx_bf rfl (fun z => z ((oI_s hb (by omega)).mpr g2)) ?_
          repeat refine fx_n rfl ?_
          refine fx_r rfl rfl ⟨?_, rfl⟩
          simp [yLaw, h2, hk, h4, g2, zb]
        · refine fx_bt rfl (fun z => g2 ((oI_s hb (by omega)).mp z)) ?_
          repeat refine fx_n rfl ?_
          refine fx_r rfl rfl ⟨?_, rfl⟩
          simp [yLaw, h2, hk, h4, g2, zb]
  · refine fx_bf rfl (nI_nlt (by omega) (by omega)) ?_
    repeat refine fx_n rfl ?_
    refine fx_r rfl rfl ⟨?_, rfl⟩
    simp [yLaw, h2, zb]
set_option maxRecDepth 100000 in
set_option maxHeartbeats 4000000 in
theorem em_does (d : Nat) (M : sy_Mm) (E : Evs) (ne e S L k0 : Nat) (h0 : Nat → Nat) (fg : Nat → Bool) (Y : Yd) (hC : ctM M E ne S L h0 fg) (he : e < ne) (hY : yardM M S Y) (hok : yOK k0 Y) (hk0 : k0 ≤ 40) (hl : yLaw S Y.1 (E e) = true) : Ex (d + 1) i_X8_does [.ref 30, .int (nI e)] M (fun r N => r = none ∧ yardM N S (yTell S E e Y) ∧ kpM M N) := by
  obtain ⟨a1, a2, a3, a4, a5, a6, a7, a8, a9⟩ := hC
  obtain ⟨q0, q1, q2, q3, q4⟩ := a1.2.1 e he
  have t := a2.2 e he
  have hne := a1.1
  obtain ⟨o1, o2, o3, o4, o5, o6, o7⟩ := hok
  obtain ⟨y1, y2, y3, y4, y5, y6⟩ := hY
  have hs2 := yLaw_S hl
  have eY : yTell S E e Y = (uO Y.1 (E e 2) (if E e 0 = 3 then none else some (E e 3)), uO Y.2.1 (E e 2) (cond (yTrue (E e)) (some (E e 1)) none), uO Y.2.2.1 (E e 2) (cond (yTrue (E e)) (some e) none), Y.2.2.2.1, Y.2.2.2.2.1, Y.2.2.2.2.2 + cond (yTrue (E e)) 1 0) := by unfold yTell; rw [hl]; rfl
  rw [eY]
  unfold Ex
  repeat refine fx_n rfl ?_
  rw [fv_nI]
  refine fx_g rfl (ix_nI (by omega) (by omega)) ?_
  rw [nI_cl (by omega), show M 37 (5 * e) = nI (E e 0) from t 0 (by omega)]
  repeat refine fx_n rfl ?_
  rw [fv_nI, nI_p2]
  refine fx_g rfl (ix_nI (by omega) (by omega)) ?_
  rw [nI_cl (by omega), t 2 (by omega)]
  repeat refine fx_n rfl ?_
  refine fx_p rfl (em_isTrue _ _ E ne e a1 a2 he) ?_
  repeat refine fx_n rfl ?_
  -- the rest, from the store of 'since' on
  have rest : ∀ (w v u : Int32) (M1 : sy_Mm), w = nI (Y.2.2.2.2.2 + cond (yTrue (E e)) 1 0) → M1 = sy_up M 30 19 w → v = oI (cond (yTrue (E e)) (some (E e 1)) none) → u = oI (cond (yTrue (E e)) (some e) none) →
      Fx (d + 1) i_X8_does 86 [some (.ref 30), some (.int (nI e)), some (.int (nI (E e 0))), some (.int (nI (E e 2))), some (.int (zb (yTrue (E e))))] [.int u, .int (nI (E e 2)), .ref 40] (sy_up M1 39 (E e 2) v) (fun r N => r = none ∧ yardM N S (uO Y.1 (E e 2) (if E e 0 = 3 then none else some (E e 3)), uO Y.2.1 (E e 2) (cond (yTrue (E e)) (some (E e 1)) none), uO Y.2.2.1 (E e 2) (cond (yTrue (E e)) (some e) none), Y.2.2.2.1, Y.2.2.2.2.1, Y.2.2.2.2.2 + cond (yTrue (E e)) 1 0) ∧ kpM M N) := by
    intro w v u M1 hw hM1 hv hu
    refine fx_g rfl (ix_nI (by omega) (by omega)) ?_
    rw [nI_cl (by omega)]
    repeat refine fx_n rfl ?_
    have fin : ∀ x : Int32, x = oI (if E e 0 = 3 then none else some (E e 3)) → Fx (d + 1) i_X8_does 111 [some (.ref 30), some (.int (nI e)), some (.int (nI (E e 0))), some (.int (nI (E e 2))), some (.int (zb (yTrue (E e))))] [.int x, .int (nI (E e 2)), .ref 38] (sy_up (sy_up M1 39 (E e 2) v) 40 (E e 2) u) (fun r N => r = none ∧ yardM N S (uO Y.1 (E e 2) (if E e 0 = 3 then none else some (E e 3)), uO Y.2.1 (E e 2) (cond (yTrue (E e)) (some (E e 1)) none), uO Y.2.2.1 (E e 2) (cond (yTrue (E e)) (some e) none), Y.2.2.2.1, Y.2.2.2.2.1, Y.2.2.2.2.2 + cond (yTrue (E e)) 1 0) ∧ kpM M N) := by
      intro x hx
      refine fx_g rfl (ix_nI (by omega) (by omega)) ?_
      rw [nI_cl (by omega)]
      subst hM1
      refine fx_r rfl rfl ⟨rfl, ⟨?_, ?_, ?_, ?_, ?_, ?_⟩, (((kpM.rf.up30 (by omega)).up (by omega)).up (by omega)).up (by omega)⟩
      · intro s hs
        dsimp only
        by_cases hq : s = E e 2
        · rw [hq, up_s, uO_s, hx]
        · rw [up_j hq, uO_n hq, up_k (by omega), up_k (by omega), up_k (by omega)]; exact y1 s hs
      · intro s hs
        dsimp only
        rw [up_k (by omega), up_k (by omega)]
        by_cases hq : s = E e 2
        · rw [hq, up_s, uO_s, hv]
        · rw [up_j hq, uO_n hq, up_k (by omega)]; exact y2 s hs
      · intro s hs
        dsimp only
        rw [up_k (by omega)]
        by_cases hq : s = E e 2
        · rw [hq, up_s, uO_s, hu]
        · rw [up_j hq, uO_n hq, up_k (by omega), up_k (by omega)]; exact y3 s hs
      · rw [up_k (by omega), up_k (by omega), up_k (by omega), up_j (by omega)]; exact y4
      · rw [up_k (by omega), up_k (by omega), up_k (by omega), up_j (by omega)]; exact y5
      · rw [up_k (by omega), up_k (by omega), up_k (by omega), up_s, hw]
    by_cases hk3 : E e 0 = 3
    · refine fx_bf rfl (by rw [hk3]; decide) ?_
      repeat refine fx_n rfl ?_
      exact fin _ (by rw [if_pos hk3]; rfl)
    · refine fx_bt rfl (fun z => hk3 ((nI_eq (b := 3) (by omega) (by omega)).mp z)) ?_
      repeat refine fx_n rfl ?_
      rw [fv_nI, nI_p3]
      refine fx_g rfl (ix_nI (by omega) (by omega)) ?_
      subst hM1
      rw [nI_cl (by omega), up_k (by omega), up_k (by omega), up_k (by omega), t 3 (by omega)]
      exact fin _ (by rw [if_neg hk3]; rfl)
  cases ht : yTrue (E e) with
  | true =>
    rw [ht] at rest
    refine fx_bf rfl (by decide) ?_
    repeat refine fx_n rfl ?_
    refine fx_bf rfl (by decide) ?_
    repeat refine fx_n rfl ?_
    rw [fv_nI, nI_1]
    refine fx_g rfl (ix_nI (by omega) (by omega)) ?_
    rw [nI_cl (by omega), up_k (by omega), t 1 (by omega)]
    repeat refine fx_n rfl ?_
    refine fx_g rfl (ix_nI (by omega) (by omega)) ?_
    rw [nI_cl (by omega)]
    repeat refine fx_n rfl ?_
    refine fx_bf rfl (by decide) ?_
    repeat refine fx_n rfl ?_
    exact rest _ _ _ _ (by rw [y6, nI_1]; rfl) rfl rfl rfl
  | false =>
    rw [ht] at rest
    refine fx_bt rfl (by decide) ?_
    repeat refine fx_n rfl ?_
    refine fx_bt rfl (by decide) ?_
    repeat refine fx_n rfl ?_
    refine fx_g rfl (ix_nI (by omega) (by omega)) ?_
    rw [nI_cl (by omega)]
    repeat refine fx_n rfl ?_
    refine fx_bt rfl (by decide) ?_
    repeat refine fx_n rfl ?_
    exact rest _ _ _ _ (by rw [y6, Int32.add_zero]; rfl) rfl rfl rfl
set_option maxRecDepth 100000 in
set_option maxHeartbeats 4000000 in
theorem em_begins (d : Nat) (M : sy_Mm) (E : Evs) (ne S L : Nat) (h0 : Nat → Nat) (fg : Nat → Bool) (hC : ctM M E ne S L h0 fg) : Ex d i_X8_begins [.ref 30] M (fun r N => r = none ∧ yardM N S (y0 h0) ∧ kpM M N) := by
  have loop : ∀ (j s : Nat) (M1 : sy_Mm), s + j = S → (∀ i, i < s → M1 38 i = nI (h0 i) ∧ M1 39 i = -1 ∧ M1 40 i = -1) → kpM M M1 → Fx d i_X8_begins 7 [some (.ref 30), some (.int (nI s))] [.int (M1 30 8), .int (nI s)] M1 (fun r N => r = none ∧ yardM N S (y0 h0) ∧ kpM M N) := by
    intro j
    induction j with
    | zero =>
      intro s M1 hs hI hK
      have e : s = S := by omega
      subst e
      obtain ⟨a1, a2, a3, a4, a5, a6, a7, a8, a9⟩ := hC.kp hK
      refine fx_bt rfl (by rw [a4]; exact nI_le (Nat.le_refl _) (by omega)) ?_
      repeat refine fx_n rfl ?_
      refine fx_r rfl rfl ⟨rfl, ⟨?_, ?_, ?_, ?_, ?_, ?_⟩, ((hK.up30 (by omega)).up30 (by omega)).up30 (by omega)⟩
      · intro i hi; rw [up_k (by omega), up_k (by omega), up_k (by omega)]; exact (hI i hi).1
      · intro i hi; rw [up_k (by omega), up_k (by omega), up_k (by omega)]; exact (hI i hi).2.1
      · intro i hi; rw [up_k (by omega), up_k (by omega), up_k (by omega)]; exact (hI i hi).2.2
      · rw [up_j (by omega), up_j (by omega), up_s]; rfl
      · rw [up_j (by omega), up_s]; rfl
      · rw [up_s]; rfl
    | succ j ih =>
      intro s M1 hs hI hK
      obtain ⟨a1, a2, a3, a4, a5, a6, a7, a8, a9⟩ := hC.kp hK
      refine fx_bf rfl (by rw [a4]; exact nI_ge (by omega) (by omega)) ?_
      repeat refine fx_n rfl ?_
      refine fx_g rfl (ix_nI (by omega) (by omega)) ?_
      rw [nI_cl (by omega), a7 s (by omega)]
      refine fx_g rfl (ix_nI (by omega) (by omega)) ?_
      rw [nI_cl (by omega)]
      repeat refine fx_n rfl ?_
      refine fx_g rfl (ix_nI (by omega) (by omega)) ?_
      rw [nI_cl (by omega)]
      repeat refine fx_n rfl ?_
      refine fx_g rfl (ix_nI (by omega) (by omega)) ?_
      rw [nI_cl (by omega)]
      repeat refine fx_n rfl ?_
      rw [nI_1]
      refine ih (s + 1) _ (by omega) (fun i hi => ?_) (((hK.up (by omega)).up (by omega)).up (by omega))
      by_cases hq : i = s
      · subst hq
        exact ⟨by rw [up_k (by omega), up_k (by omega), up_s], by rw [up_k (by omega), up_s], up_s⟩
      · rw [up_k (by omega), up_k (by omega), up_j hq, up_k (by omega), up_j hq, up_j hq, up_k (by omega), up_k (by omega), up_k (by omega)]
        exact hI i (by omega)
  unfold Ex
  repeat refine fx_n rfl ?_
  exact loop S 0 M (by omega) (fun i hi => by omega) kpM.rf
/-- the reference's yard at a night -/
def atM (M : sy_Mm) (E : Evs) (ne S L : Nat) (h0 : Nat → Nat) (fg : Nat → Bool) (aside : Option Nat) (N : Nat) : Prop := ctM M E ne S L h0 fg ∧ yardM M S (yF S h0 E aside N ne)
set_option maxRecDepth 100000 in
set_option maxHeartbeats 4000000 in
theorem em_goes (d : Nat) (M : sy_Mm) (E : Evs) (ne S L N : Nat) (h0 : Nat → Nat) (fg : Nat → Bool) (aside : Option Nat) (hN : N ≤ 299) (ha : ∀ e, aside = some e → e < 2 ^ 31) (hC : ctM M E ne S L h0 fg) : Ex (d + 2) i_X8_goes [.ref 30, .int (nI N), .int (oI aside)] M (fun r M' => r = none ∧ atM M' E ne S L h0 fg aside N ∧ kpM M M') := by
  have loop : ∀ (j k : Nat) (M1 : sy_Mm), k + j = ne → yardM M1 S (yF S h0 E aside N k) → kpM M M1 → Fx (d + 2) i_X8_goes 11 [some (.ref 30), some (.int (nI N)), some (.int (oI aside)), some (.int (nI k))] [.int (M1 30 12), .int (nI k)] M1 (fun r M' => r = none ∧ atM M' E ne S L h0 fg aside N ∧ kpM M M') := by
    intro j
    induction j with
    | zero =>
      intro k M1 hk hY hK
      have e : k = ne := by omega
      subst e
      have hC1 := hC.kp hK
      have hne := hC.1.1
      refine fx_bt rfl (by rw [hC1.2.1.1]; exact nI_le (Nat.le_refl _) (by omega)) ?_
      exact fx_r rfl rfl ⟨rfl, ⟨hC1, hY⟩, hK⟩
    | succ j ih =>
      intro k M1 hk hY hK
      have hC1 := hC.kp hK
      obtain ⟨a1, a2, a3, a4, a5, a6, a7, a8, a9⟩ := id hC1
      have hne := a1.1
      obtain ⟨q0, q1, q2, q3, q4⟩ := a1.2.1 k (by omega)
      have hok := yF_ok (S := S) (h0 := h0) (aside := aside) (N := N) a1 a8 k (by omega)
      refine fx_bf rfl (by rw [a2.1]; exact nI_ge (by omega) (by omega)) ?_
      repeat refine fx_n rfl ?_
      have skip : (some k = aside ∨ N < E k 1) → Fx (d + 2) i_X8_goes 11 [some (.ref 30), some (.int (nI N)), some (.int (oI aside)), some (.int (nI k + 1))] [.int (M1 30 12), .int (nI k + 1)] M1 (fun r M' => r = none ∧ atM M' E ne S L h0 fg aside N ∧ kpM M M') := by
        intro hq
        rw [nI_1]
        refine ih (k + 1) M1 (by omega) ?_ hK
        have : yF S h0 E aside N (k + 1) = yF S h0 E aside N k := if_pos hq
        rw [this]; exact hY
      by_cases has : some k = aside
      · refine fx_bt rfl ((oI_s ha (by omega)).mpr has.symm).symm ?_
        repeat refine fx_n rfl ?_
        exact skip (Or.inl has)
      · refine fx_bf rfl (fun z => has ((oI_s ha (by omega)).mp z.symm).symm) ?_
        repeat refine fx_n rfl ?_
        rw [fv_nI, nI_1]
        refine fx_g rfl (ix_nI (by omega) (by omega)) ?_
        rw [nI_cl (by omega), a2.2 k (by omega) 1 (by omega)]
        repeat refine fx_n rfl ?_
        by_cases hq : N < E k 1
        · refine fx_bt rfl (nI_lt hq (by omega)) ?_
          repeat refine fx_n rfl ?_
          exact skip (Or.inr hq)
        · refine fx_bf rfl (nI_nlt (by omega) (by omega)) ?_
          repeat refine fx_n rfl ?_
          have eF : yF S h0 E aside N (k + 1) = yTell S E k (yF S h0 E aside N k) := if_neg (by rintro (z | z); exact has z; exact hq z)
          refine fx_p rfl (em_isLawful _ _ E ne k S _ a1 a2 (by omega) a3 a4 hY.1 hok.1) ?_
          cases hl : yLaw S (yF S h0 E aside N k).1 (E k) with
          | true =>
            refine fx_bf rfl (by decide) ?_
            repeat refine fx_n rfl ?_
            refine fx_c rfl (em_does _ M1 E ne k S L k h0 fg _ hC1 (by omega) hY hok (by omega) hl) ?_
            rintro _ M2 ⟨rfl, b1, b2⟩
            repeat refine fx_n rfl ?_
            rw [nI_1]
            exact ih (k + 1) M2 (by omega) (by rw [eF]; exact b1) (hK.tr b2)
          | false =>
            obtain ⟨y1, y2, y3, y4, y5, y6⟩ := hY
            obtain ⟨o1, o2, o3, o4, o5, o6, o7⟩ := hok
            have eY : yTell S E k (yF S h0 E aside N k) = ((yF S h0 E aside N k).1, (yF S h0 E aside N k).2.1, (yF S h0 E aside N k).2.2.1, (yF S h0 E aside N k).2.2.2.1 + 1, (if (yF S h0 E aside N k).2.2.2.2.1 = none then some k else (yF S h0 E aside N k).2.2.2.2.1), (yF S h0 E aside N k).2.2.2.2.2) := by unfold yTell; rw [hl]; rfl
            refine fx_bt rfl (by decide) ?_
            repeat refine fx_n rfl ?_
            have fin : ∀ w : Int32, w = oI (if (yF S h0 E aside N k).2.2.2.2.1 = none then some k else (yF S h0 E aside N k).2.2.2.2.1) → Fx (d + 2) i_X8_goes 11 [some (.ref 30), some (.int (nI N)), some (.int (oI aside)), some (.int (nI k + 1))] [.int (sy_up (sy_up M1 30 17 (M1 30 17 + 1)) 30 18 w 30 12), .int (nI k + 1)] (sy_up (sy_up M1 30 17 (M1 30 17 + 1)) 30 18 w) (fun r M' => r = none ∧ atM M' E ne S L h0 fg aside N ∧ kpM M M') := by
              intro w hw
              rw [nI_1]
              refine ih (k + 1) _ (by omega) ?_ ((hK.up30 (by omega)).up30 (by omega))
              rw [eF, eY]
              refine ⟨fun s hs => ?_, fun s hs => ?_, fun s hs => ?_, ?_, ?_, ?_⟩
              · rw [up_k (by omega), up_k (by omega)]; exact y1 s hs
              · rw [up_k (by omega), up_k (by omega)]; exact y2 s hs
              · rw [up_k (by omega), up_k (by omega)]; exact y3 s hs
              · rw [up_j (by omega), up_s, y4, nI_1]
              · rw [up_s, hw]
              · rw [up_j (by omega), up_j (by omega)]; exact y6
            have e18 : sy_up M1 30 17 (M1 30 17 + 1) 30 18 = oI (yF S h0 E aside N k).2.2.2.2.1 := by rw [up_j (by omega)]; exact y5
            rw [e18]
            by_cases hf : (yF S h0 E aside N k).2.2.2.2.1 = none
            · refine fx_bf rfl (fun z => z (by rw [hf]; rfl)) ?_
              repeat refine fx_n rfl ?_
              exact fin _ (by rw [if_pos hf]; rfl)
            · refine fx_bt rfl (fun z => hf ((oI_n (fun e he => by have := o6 e he; omega)).mp z)) ?_
              repeat refine fx_n rfl ?_
              rw [e18]
              exact fin _ (by rw [if_neg hf])
  unfold Ex
  repeat refine fx_n rfl ?_
  refine fx_c rfl (em_begins _ M E ne S L h0 fg hC) ?_
  rintro _ M1 ⟨rfl, b1, b2⟩
  repeat refine fx_n rfl ?_
  exact loop ne 0 M1 (by omega) b1 b2
