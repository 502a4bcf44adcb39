/-! ===== the class: the yard ===== -/
/-- the first night without luck, as the class holds it -/
def uI (L : Nat) : Option Nat → Int32
  | none => 0
  | some t => nI (t + L)
/-- what the yard's rows hold -/
def yardC (M : sy_Mm) (S L : Nat) (Y : Yd) : Prop := ownC M S Y.1 ∧ (∀ s, s < S → M 11 s = uI L (Y.2.1 s)) ∧ (∀ s, s < S → M 12 s = oI (Y.2.2.1 s)) ∧ M 9 8 = nI Y.2.2.2.1 ∧ M 9 9 = oI Y.2.2.2.2.1 ∧ M 9 10 = nI Y.2.2.2.2.2
/-- what telling leaves as it was: all but the yard's scratch -/
def kpY (M N : sy_Mm) : Prop := (∀ k, k ≠ 9 → k ≠ 10 → k ≠ 11 → k ≠ 12 → N k = M k) ∧ ∀ j, j ≠ 5 → j ≠ 7 → j ≠ 8 → j ≠ 9 → j ≠ 10 → N 9 j = M 9 j
theorem kpY.rf {M : sy_Mm} : kpY M M := ⟨fun _ _ _ _ _ => rfl, fun _ _ _ _ _ _ => rfl⟩
theorem kpY.tr {M N K : sy_Mm} (h : kpY M N) (g : kpY N K) : kpY M K := ⟨fun k a b c d => (g.1 k a b c d).trans (h.1 k a b c d), fun j a b c d e => (g.2 j a b c d e).trans (h.2 j a b c d e)⟩
theorem kpY.up9 {M N : sy_Mm} (h : kpY M N) {j : Nat} {x : Int32} (hj : j = 5 ∨ j = 7 ∨ j = 8 ∨ j = 9 ∨ j = 10) : kpY M (sy_up N 9 j x) := ⟨fun k a b c d => by rw [up_k a]; exact h.1 k a b c d, fun i a b c d e => by rw [up_j (by omega)]; exact h.2 i a b c d e⟩
theorem kpY.up {M N : sy_Mm} (h : kpY M N) {k j : Nat} {x : Int32} (hk : k = 10 ∨ k = 11 ∨ k = 12) : kpY M (sy_up N k j x) := ⟨fun q a b c d => by rw [up_k (by omega)]; exact h.1 q a b c d, fun i a b c d e => by rw [up_k (by omega)]; exact h.2 i a b c d e⟩
theorem taleC.kp {M N : sy_Mm} {E : Evs} {ne : Nat} (h : taleC M E ne) (k : kpY M N) : taleC N E ne := by
  refine ⟨by rw [k.1 3 (by omega) (by omega) (by omega) (by omega)]; exact h.1, fun e he => ?_⟩
  rw [k.1 4 (by omega) (by omega) (by omega) (by omega), k.1 5 (by omega) (by omega) (by omega) (by omega), k.1 6 (by omega) (by omega) (by omega) (by omega), k.1 7 (by omega) (by omega) (by omega) (by omega), k.1 8 (by omega) (by omega) (by omega) (by omega)]
  exact h.2 e he
set_option maxRecDepth 100000 in
set_option maxHeartbeats 4000000 in
theorem ex_tell (d : Nat) (M : sy_Mm) (E : Evs) (ne e S L : Nat) (Y : Yd) (k0 : Nat) (hE : taleOK E ne) (hT : taleC M E ne) (he : e < ne) (hS : S ≤ 9) (h3 : M 1 3 = nI S) (h6 : M 9 6 = nI L) (hL : L ≤ 99) (hY : yardC M S L Y) (hok : yOK k0 Y) (hk0 : k0 ≤ 40) : Ex (d + 1) i_X6_tell [.ref 9, .int (nI e)] M (fun r N => r = none ∧ yardC N S L (yTell S E e Y) ∧ kpY M N ∧ N 9 7 = M 9 7 ∧ N 9 5 = M 9 5) := by
  obtain ⟨q0, q1, q2, q3, q4⟩ := hE.2.1 e he
  obtain ⟨t0, t1, t2, t3, t4⟩ := hT.2 e he
  have hne := hE.1
  obtain ⟨o1, o2, o3, o4, o5, o6, o7⟩ := hok
  obtain ⟨y1, y2, y3, y4, y5, y6⟩ := hY
  unfold Ex
  repeat refine fx_n rfl ?_
  refine fx_p rfl (ev_isLawful _ _ E ne e S Y.1 hE hT he hS h3 y1 o1) ?_
  cases hl : yLaw S Y.1 (E e) with
  | false =>
    have eY : yTell S E e Y = (Y.1, Y.2.1, Y.2.2.1, Y.2.2.2.1 + 1, (if Y.2.2.2.2.1 = none then some e else Y.2.2.2.2.1), Y.2.2.2.2.2) := by unfold yTell; rw [hl]; rfl
    rw [eY]
    refine fx_bf rfl (by decide) ?_
    repeat refine fx_n rfl ?_
    rw [y4]
    by_cases ha : Y.2.2.2.1 = 0
    · refine fx_bf rfl (by rw [ha]; decide) ?_
      repeat refine fx_n rfl ?_
      refine fx_r rfl rfl ⟨rfl, ⟨?_, ?_, ?_, ?_, ?_, ?_⟩, (kpY.rf.up9 (by omega)).up9 (by omega), ?_, ?_⟩
      · intro s hs; rw [up_k (by omega), up_k (by omega)]; exact y1 s hs
      · intro s hs; rw [up_k (by omega), up_k (by omega)]; exact y2 s hs
      · intro s hs; rw [up_k (by omega), up_k (by omega)]; exact y3 s hs
      · rw [up_s, up_j (by omega), y4, nI_1]
      · rw [up_j (by omega), up_s, if_pos (o5.mpr ha)]; rfl
      · rw [up_j (by omega), up_j (by omega)]; exact y6
      · rw [up_j (by omega), up_j (by omega)]
      · rw [up_j (by omega), up_j (by omega)]
    · refine fx_bt rfl (nI_ne0 (by omega) (by omega)) ?_
      repeat refine fx_n rfl ?_
      refine fx_r rfl rfl ⟨rfl, ⟨?_, ?_, ?_, ?_, ?_, ?_⟩, kpY.rf.up9 (by omega), ?_, ?_⟩
      · intro s hs; rw [up_k (by omega)]; exact y1 s hs
      · intro s hs; rw [up_k (by omega)]; exact y2 s hs
      · intro s hs; rw [up_k (by omega)]; exact y3 s hs
      · rw [up_s, y4, nI_1]
      · rw [up_j (by omega), if_neg (fun q => ha (o5.mp q))]; exact y5
      · rw [up_j (by omega)]; exact y6
      · rw [up_j (by omega)]
      · rw [up_j (by omega)]
  | true =>
    have hs2 := yLaw_S hl
    have eY : yTell S E e Y = (uO Y.1 (E e 2) (if E e 0 = 3 then none else some (E e 3)), uO Y.2.1 (E e 2) (cond (yTrue (E e)) (some (E e 1)) none), uO Y.2.2.1 (E e 2) (cond (yTrue (E e)) (some e) none), Y.2.2.2.1, Y.2.2.2.2.1, Y.2.2.2.2.2 + cond (yTrue (E e)) 1 0) := by unfold yTell; rw [hl]; rfl
    rw [eY]
    refine fx_bt rfl (by decide) ?_
    repeat refine fx_n rfl ?_
    refine fx_g rfl (ix_nI (by omega) (by omega)) ?_
    rw [nI_cl (by omega), t2]
    repeat refine fx_n rfl ?_
    refine fx_g rfl (ix_nI (by omega) (by omega)) ?_
    rw [nI_cl (by omega)]
    repeat refine fx_n rfl ?_
    refine fx_g rfl (ix_nI (by omega) (by omega)) ?_
    rw [nI_cl (by omega)]
    repeat refine fx_n rfl ?_
    refine fx_g rfl (ix_nI (by omega) (by omega)) ?_
    rw [nI_cl (by omega)]
    generalize hM1 : sy_up (sy_up M 11 (E e 2) 0) 12 (E e 2) (-1) = M1
    have a4 : ∀ k, k ≠ 11 → k ≠ 12 → M1 k = M k := fun k h1 h2 => by rw [← hM1, up_k h2, up_k h1]
    have a11 : ∀ s, s < S → M1 11 s = if s = E e 2 then 0 else uI L (Y.2.1 s) := by
      intro s hs
      rw [← hM1, up_k (by omega)]
      by_cases hq : s = E e 2
      · rw [if_pos hq, hq, up_s]
      · rw [if_neg hq, up_j hq]; exact y2 s hs
    have a12 : ∀ s, s < S → M1 12 s = if s = E e 2 then -1 else oI (Y.2.2.1 s) := by
      intro s hs
      rw [← hM1]
      by_cases hq : s = E e 2
      · rw [if_pos hq, hq, up_s]
      · rw [if_neg hq, up_j hq, up_k (by omega)]; exact y3 s hs
    have aK : kpY M M1 := by rw [← hM1]; exact (kpY.rf.up (by omega)).up (by omega)
    have s0 : M1 4 e = nI (E e 0) := by rw [a4 4 (by omega) (by omega)]; exact t0
    rw [s0]
    repeat refine fx_n rfl ?_
    have rest : ∀ M2 : sy_Mm, (∀ k, k ≠ 10 → M2 k = M1 k) → (∀ s, s < S → M2 10 s = oI (uO Y.1 (E e 2) (if E e 0 = 3 then none else some (E e 3)) s)) → kpY M M2 → Fx (d + 1) i_X6_tell 100 [some (.ref 9), some (.int (nI e)), some (.int (nI (E e 2)))] [] M2 (fun r N => r = none ∧ yardC N S L (uO Y.1 (E e 2) (if E e 0 = 3 then none else some (E e 3)), uO Y.2.1 (E e 2) (cond (yTrue (E e)) (some (E e 1)) none), uO Y.2.2.1 (E e 2) (cond (yTrue (E e)) (some e) none), Y.2.2.2.1, Y.2.2.2.2.1, Y.2.2.2.2.2 + cond (yTrue (E e)) 1 0) ∧ kpY M N ∧ N 9 7 = M 9 7 ∧ N 9 5 = M 9 5) := by
      intro M2 b b10 bK
      have hT2 := hT.kp bK
      have b9 : M2 9 = M 9 := by rw [b 9 (by omega), a4 9 (by omega) (by omega)]
      repeat refine fx_n rfl ?_
      refine fx_p rfl (ev_isTrueTheft _ _ E ne e hE hT2 he) ?_
      cases ht : yTrue (E e) with
      | false =>
        refine fx_bt rfl (by decide) ?_
        repeat refine fx_n rfl ?_
        refine fx_r rfl rfl ⟨rfl, ⟨b10, ?_, ?_, ?_, ?_, ?_⟩, bK, by rw [b9], by rw [b9]⟩
        · intro s hs
          rw [b 11 (by omega), a11 s hs]
          by_cases hq : s = E e 2
          · rw [if_pos hq]; simp [uO, hq, uI]
          · rw [if_neg hq]; simp [uO, hq]
        · intro s hs
          rw [b 12 (by omega), a12 s hs]
          by_cases hq : s = E e 2
          · rw [if_pos hq]; simp [uO, hq, oI]
          · rw [if_neg hq]; simp [uO, hq]
        · rw [b9]; exact y4
        · rw [b9]; exact y5
        · rw [b9]; exact y6
      | true =>
        refine fx_bf rfl (by decide) ?_
        repeat refine fx_n rfl ?_
        refine fx_g rfl (ix_nI (by omega) (by omega)) ?_
        rw [nI_cl (by omega), (hT2.2 e he).2.1]
        repeat refine fx_n rfl ?_
        have e6 : M2 9 6 = nI L := by rw [b9]; exact h6
        rw [e6, nI_add]
        refine fx_g rfl (ix_nI (by omega) (by omega)) ?_
        rw [nI_cl (by omega)]
        repeat refine fx_n rfl ?_
        refine fx_g rfl (ix_nI (by omega) (by omega)) ?_
        rw [nI_cl (by omega)]
        repeat refine fx_n rfl ?_
        refine fx_r rfl rfl ⟨rfl, ⟨?_, ?_, ?_, ?_, ?_, ?_⟩, ((bK.up (by omega)).up (by omega)).up9 (by omega), ?_, ?_⟩
        · intro s hs; rw [up_k (by omega), up_k (by omega), up_k (by omega)]; exact b10 s hs
        · intro s hs
          rw [up_k (by omega), up_k (by omega)]
          by_cases hq : s = E e 2
          · rw [hq, up_s]; simp [uO, uI]
          · rw [up_j hq, b 11 (by omega), a11 s hs, if_neg hq]; simp [uO, hq]
        · intro s hs
          rw [up_k (by omega)]
          by_cases hq : s = E e 2
          · rw [hq, up_s]; simp [uO, oI]
          · rw [up_j hq, up_k (by omega), b 12 (by omega), a12 s hs, if_neg hq]; simp [uO, hq]
        · rw [up_j (by omega), up_k (by omega), up_k (by omega), b9]; exact y4
        · rw [up_j (by omega), up_k (by omega), up_k (by omega), b9]; exact y5
        · rw [up_s, up_k (by omega), up_k (by omega), b9, y6, nI_1]; rfl
        · rw [up_j (by omega), up_k (by omega), up_k (by omega), b9]
        · rw [up_j (by omega), up_k (by omega), up_k (by omega), b9]
    have w10 : ∀ s, s < S → M1 10 s = oI (Y.1 s) := fun s hs => by rw [a4 10 (by omega) (by omega)]; exact y1 s hs
    by_cases h5 : E e 0 = 5
    · refine fx_bt rfl (by rw [h5]; decide) ?_
      refine rest M1 (fun _ _ => rfl) (fun s hs => ?_) aK
      rw [w10 s hs]
      by_cases hq : s = E e 2
      · have : Y.1 (E e 2) = some (E e 3) := by
          simp only [yLaw, Bool.and_eq_true, decide_eq_true_eq] at hl
          rw [if_neg (by omega), if_neg (by omega), decide_eq_true_eq] at hl
          exact hl.2
        rw [hq, uO_s, if_neg (by omega), this]
      · rw [uO_n hq]
    · refine fx_bf rfl (fun z => h5 ((nI_eq (b := 5) (by omega) (by omega)).mp z)) ?_
      repeat refine fx_n rfl ?_
      refine fx_g rfl (ix_nI (by omega) (by omega)) ?_
      rw [nI_cl (by omega), s0]
      repeat refine fx_n rfl ?_
      have put : ∀ w : Int32, w = oI (if E e 0 = 3 then none else some (E e 3)) → Fx (d + 1) i_X6_tell 99 [some (.ref 9), some (.int (nI e)), some (.int (nI (E e 2)))] [.int w, .int (nI (E e 2)), .ref 10] M1 (fun r N => r = none ∧ yardC N S L (uO Y.1 (E e 2) (if E e 0 = 3 then none else some (E e 3)), uO Y.2.1 (E e 2) (cond (yTrue (E e)) (some (E e 1)) none), uO Y.2.2.1 (E e 2) (cond (yTrue (E e)) (some e) none), Y.2.2.2.1, Y.2.2.2.2.1, Y.2.2.2.2.2 + cond (yTrue (E e)) 1 0) ∧ kpY M N ∧ N 9 7 = M 9 7 ∧ N 9 5 = M 9 5) := by
        intro w hw
        refine fx_g rfl (ix_nI (by omega) (by omega)) ?_
        rw [nI_cl (by omega)]
        refine rest _ (fun k hk => up_k hk) (fun s hs => ?_) (aK.up (by omega))
        by_cases hq : s = E e 2
        · rw [hq, up_s, uO_s, hw]
        · rw [up_j hq, uO_n hq]; exact w10 s hs
      by_cases hk3 : E e 0 = 3
      · refine fx_bf rfl (by rw [hk3]; decide) ?_
        repeat refine fx_n rfl ?_
        exact put _ (by rw [if_pos hk3]; rfl)
      · refine fx_bt rfl (fun z => hk3 ((nI_eq (b := 3) (by omega) (by omega)).mp z)) ?_
        repeat refine fx_n rfl ?_
        refine fx_g rfl (ix_nI (by omega) (by omega)) ?_
        rw [nI_cl (by omega), show M1 7 e = nI (E e 3) by rw [a4 7 (by omega) (by omega)]; exact t3]
        exact put _ (by rw [if_neg hk3]; rfl)
