/-! ===== write ===== -/
def kqS (q : Nat) (M N : sy_Mm) : Prop := ∀ k j, k ≠ q → ¬ dead k j → N k j = M k j
theorem kqS.rf {q : Nat} {M : sy_Mm} : kqS q M M := fun _ _ _ _ => rfl
theorem kqS.kq {q : Nat} {M N K : sy_Mm} (h : kqS q M N) (g : kq N K) : kqS q M K := fun k j a b => (g k j b).trans (h k j a b)
theorem kqS.up {q : Nat} {M N : sy_Mm} (h : kqS q M N) {j : Nat} {x : Int32} : kqS q M (sy_up N q j x) := fun k i a b => by rw [up_k a]; exact h k i a b
theorem kqS.row {q : Nat} {M N : sy_Mm} (h : kqS q M N) (k : Nat) (hk : k ≠ q) (d : ∀ j, ¬ dead k j) : N k = M k := funext fun j => h k j hk (d j)
theorem ctC.cg {M N : sy_Mm} {E : Evs} {ne S L : Nat} {h0 : Nat → Nat} {fg : Nat → Bool} (h : ctC M E ne S L h0 fg) (r : ∀ k, k ≤ 12 → N k = M k) : ctC N E ne S L h0 fg := by
  unfold ctC taleC at h ⊢
  rw [r 1 (by omega), r 2 (by omega), r 3 (by omega), r 4 (by omega), r 5 (by omega), r 6 (by omega), r 7 (by omega), r 8 (by omega), r 9 (by omega)]
  exact h
theorem yardC.cg {M N : sy_Mm} {S L : Nat} {Y : Yd} (h : yardC M S L Y) (r : ∀ k, k ≤ 12 → N k = M k) : yardC N S L Y := by
  unfold yardC ownC at h ⊢
  rw [r 9 (by omega), r 10 (by omega), r 11 (by omega), r 12 (by omega)]
  exact h
def egS (S L : Nat) (h0 : Nat → Nat) (fg : Nat → Bool) (E : Evs) (ne h N : Nat) : Int32 := nI (1 + 2 * cnB (lkp (yF S h0 E none N ne).1 (yF S h0 E none N ne).2.1 L N fg h) S)
theorem min_nI {a b : Nat} (ha : a < 2 ^ 31) (hb : b < 2 ^ 31) : (if nI a < nI b then nI a else nI b) = nI (if a < b then a else b) := by
  by_cases h : a < b
  · rw [if_pos (nI_lt h hb), if_pos h]
  · rw [if_neg (nI_nlt (by omega) ha), if_neg h]
set_option maxRecDepth 100000 in
set_option maxHeartbeats 4000000 in
theorem ex_writeL (d : Nat) (M : sy_Mm) (s h N0 m f : Nat) (E : Evs) (ne S L : Nat) (h0 : Nat → Nat) (fg : Nat → Bool) (hs : s < 4) (hh : h < 8) (hm : m ≤ 60) (hN : N0 + m ≤ 300) (h1 : M (22 + 2 * s) 1 = nI f) (hC : ctC M E ne S L h0 fg) : ∀ (j i k : Nat) (M1 : sy_Mm), i + j = m → k ≤ ne → ctC M1 E ne S L h0 fg → yardC M1 S L (yG S h0 E none k) → M1 9 7 = nI k → (∀ e, e < k → E e 1 ≤ N0 + i) → M1 9 5 = nI (bN (rlB fg) S) → (∀ j, j < i → M1 (23 + 2 * s) j = cutS (nI f) (egS S L h0 fg E ne h (N0 + j))) → (∀ j, i ≤ j → M1 (23 + 2 * s) j = M (23 + 2 * s) j) → kqS (23 + 2 * s) M M1 →
    Fx (d + 4) i_X7_write 78 [some (.ref 0), some (.int (nI h)), some (.int (nI N0)), some (.int (nI s)), some (.ref (22 + 2 * s)), some (.int (nI m)), some (.int (nI i))] [.int (nI m), .int (nI i)] M1 (fun r N => r = some (.int (nI m)) ∧ (∀ j, j < m → N (23 + 2 * s) j = cutS (nI f) (egS S L h0 fg E ne h (N0 + j))) ∧ (∀ j, m ≤ j → N (23 + 2 * s) j = M (23 + 2 * s) j) ∧ kqS (23 + 2 * s) M N) := by
  intro j
  induction j with
  | zero =>
    intro i k M1 hi hk hC1 hY h7 hlo h5 c1 c2 c3
    have e : i = m := by omega
    subst e
    rcases (show s = 0 ∨ s = 1 ∨ s = 2 ∨ s = 3 by omega) with rfl | rfl | rfl | rfl
    all_goals
      refine fx_bt rfl (nI_le (Nat.le_refl _) (by omega)) ?_
      repeat refine fx_n rfl ?_
      exact fx_r rfl rfl ⟨rfl, c1, c2, c3⟩
  | succ j ih =>
    intro i k M1 hi hk hC1 hY h7 hlo h5 c1 c2 c3
    have go : ∀ M2 : sy_Mm, atC M2 E ne S L h0 fg none (N0 + i) → kpY M1 M2 → Fx (d + 4) i_X7_write 78 [some (.ref 0), some (.int (nI h)), some (.int (nI N0)), some (.int (nI s)), some (.ref (22 + 2 * s)), some (.int (nI m)), some (.int (nI (i + 1)))] [.int (nI m), .int (nI (i + 1))] (sy_up M2 (23 + 2 * s) i (cutS (M2 (22 + 2 * s) 1) (egS S L h0 fg E ne h (N0 + i)))) (fun r N => r = some (.int (nI m)) ∧ (∀ j, j < m → N (23 + 2 * s) j = cutS (nI f) (egS S L h0 fg E ne h (N0 + j))) ∧ (∀ j, m ≤ j → N (23 + 2 * s) j = M (23 + 2 * s) j) ∧ kqS (23 + 2 * s) M N) := by
      intro M2 b1 b2
      obtain ⟨d1, d2, d3, k', d4, d5⟩ := b1
      rw [yF_stop d1.1 d4] at d3
      obtain ⟨g1, g2⟩ := yStop_next (N' := N0 + (i + 1)) d4 (by omega)
      have r : ∀ k, k ≤ 12 → sy_up M2 (23 + 2 * s) i (cutS (M2 (22 + 2 * s) 1) (egS S L h0 fg E ne h (N0 + i))) k = M2 k := fun k hk => up_k (by omega)
      have eq : M2 (23 + 2 * s) = M1 (23 + 2 * s) := b2.1 _ (by omega) (by omega) (by omega) (by omega)
      have ef : M2 (22 + 2 * s) 1 = nI f := by
        rw [b2.1 _ (by omega) (by omega) (by omega) (by omega), c3 _ _ (by omega) (by unfold dead; omega)]; exact h1
      refine ih (i + 1) k' _ (by omega) g1 (d1.cg r) (d3.cg r) (by rw [r 9 (by omega)]; exact d5) g2 (by rw [r 9 (by omega)]; exact d2) (fun j hj => ?_) (fun j hj => ?_) (c3.kq b2.q).up
      · by_cases e : j = i
        · rw [e, up_s, ef]
        · rw [up_j e, eq]; exact c1 j (by omega)
      · rw [up_j (by omega), eq]; exact c2 j (by omega)
    have sp := fun d M v => ex_sput d M s i v hs (by omega)
    rcases (show s = 0 ∨ s = 1 ∨ s = 2 ∨ s = 3 by omega) with rfl | rfl | rfl | rfl
    all_goals
      refine fx_bf rfl (nI_ge (by omega) (by omega)) ?_
      repeat refine fx_n rfl ?_
      rw [nI_add]
      refine fx_c rfl (ex_tellTo0 _ M1 E ne S L (N0 + i) k h0 fg none (by omega) (fun _ q => by cases q) hC1 hk hY h7 hlo h5) ?_
      rintro _ M2 ⟨rfl, b1, b2⟩
      repeat refine fx_n rfl ?_
      rw [nI_add]
      refine fx_p rfl (ev_eggsOf _ _ S L (N0 + i) h fg _ _ (by omega) hh b1.lk) ?_
      refine fx_c rfl (ex_of (sp _ _ _)) ?_
      rintro _ _ ⟨rfl, rfl⟩
      repeat refine fx_n rfl ?_
      rw [nI_1]
      exact go M2 b1 b2
set_option maxRecDepth 100000 in
set_option maxHeartbeats 4000000 in
theorem em_writeL (d : Nat) (M : sy_Mm) (s h N0 m f : Nat) (E : Evs) (ne S L : Nat) (h0 : Nat → Nat) (fg : Nat → Bool) (hs : s < 4) (hh : h < 8) (hm : m ≤ 60) (hN : N0 + m ≤ 300) (h1 : M 31 s = nI f) : ∀ (j i : Nat) (M1 : sy_Mm), i + j = m → ctM M1 E ne S L h0 fg → (∀ j, j < i → M1 33 (60 * s + j) = cutS (nI f) (egS S L h0 fg E ne h (N0 + j))) → (∀ j, j < 60 * s ∨ 60 * s + i ≤ j → M1 33 j = M 33 j) → kqS 33 M M1 →
    Fx (d + 4) i_X8_write 81 [some (.ref 30), some (.int (nI h)), some (.int (nI N0)), some (.int (nI s)), some (.int (nI m)), some (.int (nI i))] [.int (nI m), .int (nI i)] M1 (fun r N => r = some (.int (nI m)) ∧ (∀ j, j < m → N 33 (60 * s + j) = cutS (nI f) (egS S L h0 fg E ne h (N0 + j))) ∧ (∀ j, j < 60 * s ∨ 60 * s + m ≤ j → N 33 j = M 33 j) ∧ kqS 33 M N) := by
  intro j
  induction j with
  | zero =>
    intro i M1 hi hC1 c1 c2 c3
    have e : i = m := by omega
    subst e
    refine fx_bt rfl (nI_le (Nat.le_refl _) (by omega)) ?_
    repeat refine fx_n rfl ?_
    exact fx_r rfl rfl ⟨rfl, c1, c2, c3⟩
  | succ j ih =>
    intro i M1 hi hC1 c1 c2 c3
    refine fx_bf rfl (nI_ge (by omega) (by omega)) ?_
    repeat refine fx_n rfl ?_
    rw [sx_nI, nI_add]
    refine fx_g rfl (ix_nI (by omega) (by omega)) ?_
    rw [nI_cl (by omega), c3 31 s (by omega) (by unfold dead; omega), h1]
    repeat refine fx_n rfl ?_
    rw [nI_add]
    refine fx_c rfl (em_luckOf _ M1 E ne S L (N0 + i) h 1 h0 fg (by omega) hh hC1) ?_
    rintro _ M2 ⟨rfl, b1, b2⟩
    rw [if_neg (by decide)]
    refine fx_p rfl (em_cut _ _ _ _) ?_
    refine fx_g rfl (ix_nI (by omega) (by omega)) ?_
    rw [nI_cl (by omega)]
    repeat refine fx_n rfl ?_
    rw [nI_1]
    have eq : M2 33 = M1 33 := b2.1 33 (by omega) (by omega) (by omega) (by omega)
    refine ih (i + 1) _ (by omega) ?_ (fun j hj => ?_) (fun j hj => ?_) (c3.kq b2.q).up
    · have := hC1.kp b2
      exact this
    · by_cases e : j = i
      · rw [e, up_s]; rfl
      · rw [up_j (by omega), eq]; exact c1 j (by omega)
    · rw [up_j (by omega), eq]; exact c2 j (by omega)
set_option maxRecDepth 100000 in
set_option maxHeartbeats 4000000 in
theorem ag_write {M : sy_Mm} (h : Inv M) (x t v : Int32) : AG i_X7_write i_X8_write [.int x, .int t, .int v] M := by
  intro d
  obtain ⟨nn, E, ne, L, B, nb, G, F, h1, h2, h3, h4, h5, h6, h7⟩ := id h
  unfold Ex
  have modBad : (inR x 0 7 && (inR t 0 299 && inR v 0 3)) = false → ∀ r : Option Value, r = some (.int (-2)) → Fx (d + 30) i_X8_write 0 (sy_en i_X8_write [.ref 30, .int x, .int t, .int v]) [] M (fun r' N' => r' = r ∧ Inv N') := by
    intro gg r hr
    subst hr
    repeat refine fx_n rfl ?_
    refine fx_p rfl (em_isHouse _ _ _) (fx_ze rfl (fun g1 => by ((repeat refine fx_n rfl ?_); exact fx_r rfl rfl ⟨by simp [g1, zb_f], h⟩)) (fun g1 => ?_))
    repeat refine fx_n rfl ?_
    refine fx_p rfl (em_isNight _ _ _) (fx_ze rfl (fun g2 => by ((repeat refine fx_n rfl ?_); exact fx_r rfl rfl ⟨by simp [g2, zb_f], h⟩)) (fun g2 => ?_))
    repeat refine fx_n rfl ?_
    refine fx_p rfl (em_isSheet _ _ _) (fx_zn rfl (fun g3 => ?_) (fun g3 => ?_))
    · rw [g1, g2, g3] at gg; cases gg
    · repeat refine fx_n rfl ?_
      exact fx_r rfl rfl ⟨rfl, h⟩
  repeat refine fx_n rfl ?_
  refine fx_p rfl (ev_isHouse _ _ _) (fx_ze rfl (fun g1 => by ((repeat refine fx_n rfl ?_); exact fx_r rfl rfl ⟨⟨_, rfl⟩, modBad (by simp [g1]) _ rfl⟩)) (fun g1 => ?_))
  repeat refine fx_n rfl ?_
  refine fx_p rfl (ev_wi _ _ _ _ 299 rfl) (fx_ze rfl (fun g2 => by ((repeat refine fx_n rfl ?_); exact fx_r rfl rfl ⟨⟨_, rfl⟩, modBad (by simp [g2]) _ rfl⟩)) (fun g2 => ?_))
  repeat refine fx_n rfl ?_
  refine fx_p rfl (ev_isSheet _ _ _) (fx_zn rfl (fun g3 => ?_) (fun g3 => by ((repeat refine fx_n rfl ?_); exact fx_r rfl rfl ⟨⟨_, rfl⟩, modBad (by simp [g3]) _ rfl⟩)))
  obtain ⟨hs, hhs, rfl⟩ := inR_nI (b := 7) g1
  obtain ⟨N0, hN0, rfl⟩ := inR_nI (b := 299) g2
  obtain ⟨s, hs4, rfl⟩ := inR_nI (b := 3) g3
  have hsh := h6 s (by omega)
  have hl := fun d => ev_isLost d M s (by omega)
  have modTo : ∀ (N : sy_Mm) (P : Option Value → sy_Mm → Prop), Fx (d + 30) i_X8_write 29 [some (.ref 30), some (.int (nI hs)), some (.int (nI N0)), some (.int (nI s)), none, none] [.int (nI s), .ref 31] N P → Fx (d + 30) i_X8_write 0 (sy_en i_X8_write [.ref 30, .int (nI hs), .int (nI N0), .int (nI s)]) [] N P := by
    intro N P kk
    repeat refine fx_n rfl ?_
    refine fx_p rfl (em_isHouse _ _ _) (fx_ze rfl (fun z => by rw [g1] at z; cases z) (fun _ => ?_))
    repeat refine fx_n rfl ?_
    refine fx_p rfl (em_isNight _ _ _) (fx_ze rfl (fun z => by rw [g2] at z; cases z) (fun _ => ?_))
    repeat refine fx_n rfl ?_
    refine fx_p rfl (em_isSheet _ _ _) (fx_zn rfl (fun _ => ?_) (fun z => by rw [g3] at z; cases z))
    repeat refine fx_n rfl ?_
    exact kk
  cases hF : F s with
  | none =>
    rw [hF] at hsh
    obtain ⟨a1, a2, a3⟩ := hsh
    rw [a1] at hl
    have cls : ∀ Q : Option Value → sy_Mm → Prop, Q (some (.int (-10 - 1))) (sy_up M 0 7 1) → Fx (d + 30) i_X7_write 32 [some (.ref 0), some (.int (nI hs)), some (.int (nI N0)), some (.int (nI s)), none, none, none] [.int (nI s), .ref 21] M Q := by
      intro Q hQ
      rcases (show s = 0 ∨ s = 1 ∨ s = 2 ∨ s = 3 by omega) with rfl | rfl | rfl | rfl
      all_goals
        refine fx_g rfl (by decide) ?_
        repeat refine fx_n rfl ?_
        refine fx_p rfl (hl _) ?_
        refine fx_bf rfl (by decide) ?_
        repeat refine fx_n rfl ?_
        refine fx_c rfl (ex_of (ev_found _ _ _)) ?_
        rintro _ _ ⟨rfl, rfl⟩
        repeat refine fx_n rfl ?_
        exact fx_r rfl rfl hQ
    repeat refine fx_n rfl ?_
    refine cls _ ⟨⟨_, rfl⟩, modTo _ _ ?_⟩
    refine fx_g rfl (ix_nI (by omega) (by omega)) ?_
    rw [nI_cl (by omega), up_k (by omega), a3]
    refine fx_bf rfl (by decide) ?_
    repeat refine fx_n rfl ?_
    refine fx_c rfl (ex_of (em_met _ _ _)) ?_
    rintro _ _ ⟨rfl, rfl⟩
    exact fx_r rfl rfl ⟨rfl, h.fnd 1⟩
  | some q =>
    obtain ⟨f, z⟩ := q
    rw [hF] at hsh
    obtain ⟨a1, a2, a3, a4, a5, a6, a7⟩ := hsh
    rw [a3, decide_eq_false (nI_ne_m1 (by omega))] at hl
    obtain ⟨m, hm⟩ : ∃ m, (if 300 - N0 < z then 300 - N0 else z) = m := ⟨_, rfl⟩
    have hm1 : m ≤ z ∧ N0 + m ≤ 300 := by rw [← hm]; split <;> omega
    have hCC := inv_ctC h1 h2 h3
    have cls : ∀ Q : Option Value → sy_Mm → Prop, (∀ N, (∀ j, j < m → N (23 + 2 * s) j = cutS (nI f) (egS (tx_st (M 2) nn) L (tx_h (M 2)) (tx_fg (M 2)) E ne hs (N0 + j))) → (∀ j, m ≤ j → N (23 + 2 * s) j = M (23 + 2 * s) j) → kqS (23 + 2 * s) M N → Q (some (.int (nI m))) N) → Fx (d + 30) i_X7_write 32 [some (.ref 0), some (.int (nI hs)), some (.int (nI N0)), some (.int (nI s)), none, none, none] [.int (nI s), .ref 21] M Q := by
      intro Q hQ
      have emin : (if (300 : Int32) - nI N0 < M (22 + 2 * s) 2 then (300 : Int32) - nI N0 else M (22 + 2 * s) 2) = nI m := by
        rw [show (300 : Int32) - nI N0 = nI (300 - N0) from pk_sub (a := 300) (b := N0) (by omega), a4, min_nI (by omega) (by omega), hm]
      have lp : ∀ (M1 : sy_Mm), yardC M1 (tx_st (M 2) nn) L (y0 (tx_h (M 2))) → M1 9 7 = nI 0 → M1 9 5 = nI (bN (rlB (tx_fg (M 2))) (tx_st (M 2) nn)) → kpY M M1 → _ := fun M1 b1 b2 b3 b4 => ex_writeL (d + 26) M s hs N0 m f E ne (tx_st (M 2) nn) L (tx_h (M 2)) (tx_fg (M 2)) (by omega) (by omega) (by omega) (by omega) a3 hCC m 0 0 M1 (by omega) (by omega) (hCC.kp b4) b1 b2 (fun e he => by omega) b3 (fun j hj => by omega) (fun j hj => congrFun (b4.1 _ (by omega) (by omega) (by omega) (by omega)) j) (kqS.rf.kq b4.q)
      rcases (show s = 0 ∨ s = 1 ∨ s = 2 ∨ s = 3 by omega) with rfl | rfl | rfl | rfl
      all_goals
        refine fx_g rfl (by decide) ?_
        repeat refine fx_n rfl ?_
        refine fx_p rfl (hl _) ?_
        refine fx_bt rfl (by decide) ?_
        repeat refine fx_n rfl ?_
        refine fx_c rfl (ex_begin _ M E ne _ L _ _ hCC) ?_
        rintro _ M1 ⟨rfl, b1, b2, b3, b4⟩
        repeat refine fx_n rfl ?_
        have lp1 := lp M1 b1 b2 b3 b4
        rw [← emin] at lp1
        refine fx_w lp1 ?_
        rw [emin]
        rintro _ N ⟨rfl, e1, e2, e3⟩
        exact hQ N e1 e2 e3
    repeat refine fx_n rfl ?_
    refine cls _ (fun N b1 b2 b3 => ⟨⟨_, rfl⟩, modTo _ _ ?_⟩)
    have n31 : N 31 = M 31 := b3.row 31 (by omega) (fun j => by unfold dead; omega)
    have n32 : N 32 = M 32 := b3.row 32 (by omega) (fun j => by unfold dead; omega)
    have n33 : N 33 = M 33 := b3.row 33 (by omega) (fun j => by unfold dead; omega)
    have n2 : N 2 = M 2 := b3.row 2 (by omega) (fun j => by unfold dead; omega)
    have h1N : iText N nn := h1.cg (b3.row 1 (by omega) (fun j => by unfold dead; omega)) n2 (b3.row 35 (by omega) (fun j => by unfold dead; omega)) (b3 30 6 (by omega) (by unfold dead; omega))
    have h2N : iTale N E ne := h2.cg (b3.row 3 (by omega) (fun j => by unfold dead; omega)) (b3.row 4 (by omega) (fun j => by unfold dead; omega)) (b3.row 5 (by omega) (fun j => by unfold dead; omega)) (b3.row 6 (by omega) (fun j => by unfold dead; omega)) (b3.row 7 (by omega) (fun j => by unfold dead; omega)) (b3.row 8 (by omega) (fun j => by unfold dead; omega)) (b3.row 37 (by omega) (fun j => by unfold dead; omega)) (b3 30 12 (by omega) (by unfold dead; omega))
    have h3N : iLast N L := h3.cg (b3 9 6 (by omega) (by unfold dead; omega)) (b3 30 11 (by omega) (by unfold dead; omega))
    refine fx_g rfl (ix_nI (by omega) (by omega)) ?_
    rw [nI_cl (by omega), n31, a5]
    refine fx_bt rfl (nI_pos' (by omega)) ?_
    repeat refine fx_n rfl ?_
    refine fx_c rfl (em_reads' _ h1N) ?_
    rintro _ N1 ⟨rfl, hr⟩
    have hCM := inv_ctM h1N h2N h3N hr
    rw [n2] at hCM
    have k1 := hr.q
    repeat refine fx_n rfl ?_
    refine fx_g rfl (ix_nI (by omega) (by omega)) ?_
    rw [nI_cl (by omega), k1 32 s (by unfold dead; omega), n32, a6]
    repeat refine fx_n rfl ?_
    rw [show (300 : Int32) - nI N0 = nI (300 - N0) from pk_sub (a := 300) (b := N0) (by omega)]
    have fin : Fx (d + 30) i_X8_write 81 [some (.ref 30), some (.int (nI hs)), some (.int (nI N0)), some (.int (nI s)), some (.int (nI m)), some (.int (nI 0))] [.int (nI m), .int (nI 0)] N1 (fun r' N' => r' = some (.int (nI m)) ∧ Inv N') := by
      refine fx_w (em_writeL (d + 26) N1 s hs N0 m f E ne (tx_st (M 2) nn) L (tx_h (M 2)) (tx_fg (M 2)) (by omega) (by omega) (by omega) (by omega) (by rw [k1 31 s (by unfold dead; omega), n31]; exact a5) m 0 N1 (by omega) hCM (fun j hj => by omega) (fun j hj => rfl) kqS.rf) ?_
      rintro _ N2 ⟨rfl, c1, c2, c3⟩
      have cK : ∀ k j, k ≠ 33 → k ≠ 23 + 2 * s → ¬ dead k j → N2 k j = M k j := fun k j q1 q2 q3 => by rw [c3 k j q1 q3, k1 k j q3, b3 k j q2 q3]
      have cR : ∀ k, k ≠ 33 → k ≠ 23 + 2 * s → (∀ j, ¬ dead k j) → N2 k = M k := fun k q1 q2 q3 => funext fun j => cK k j q1 q2 (q3 j)
      refine ⟨rfl, nn, E, ne, L, B, nb, G, fun q => if q = s then some (f, z) else F q, h1.cg ?_ ?_ ?_ ?_, h2.cg ?_ ?_ ?_ ?_ ?_ ?_ ?_ ?_, h3.cg ?_ ?_, h4.cg ?_ ?_ ?_ ?_ ?_ ?_, h5.cg ?_ ?_, h6.st (s := s) (some (f, z)) (fun k q1 q2 q3 q4 => cR k (by omega) q4 (fun j => by unfold dead; omega)) ?_ ?_ ?_ ?_, ?_⟩
      all_goals (first | (exact cR _ (by omega) (by omega) (fun j => by unfold dead; omega)) | (exact cK _ _ (by omega) (by omega) (by unfold dead; omega)) | skip)
      · intro q hq; exact cK _ _ (by omega) (by omega) (by unfold dead; omega)
      · intro q hq; exact cK _ _ (by omega) (by omega) (by unfold dead; omega)
      · intro q hq; rw [c2 q (by omega), k1 33 q (by unfold dead; omega), n33]
      · refine ⟨a1, a2, ?_, ?_, ?_, ?_, fun j hj => ?_⟩
        · rw [cK _ _ (by omega) (by omega) (by unfold dead; omega)]; exact a3
        · rw [cK _ _ (by omega) (by omega) (by unfold dead; omega)]; exact a4
        · rw [cK _ _ (by omega) (by omega) (by unfold dead; omega)]; exact a5
        · rw [cK _ _ (by omega) (by omega) (by unfold dead; omega)]; exact a6
        · have eq : N2 (23 + 2 * s) j = N (23 + 2 * s) j := by rw [c3 _ _ (by omega) (by unfold dead; omega), k1 _ _ (by unfold dead; omega)]
          rw [eq]
          by_cases e : j < m
          · rw [c1 j e, b1 j e]
          · rw [c2 _ (by omega), k1 33 _ (by unfold dead; omega), n33, b2 j (by omega)]; exact a7 j hj
      · rw [cK 0 7 (by omega) (by omega) (by unfold dead; omega), cK 30 4 (by omega) (by omega) (by unfold dead; omega)]; exact h7
    by_cases hq : 300 - N0 ≤ z
    · refine fx_bt rfl (nI_le hq (by omega)) ?_
      repeat refine fx_n rfl ?_
      rw [show (300 : Int32) - nI N0 = nI (300 - N0) from pk_sub (a := 300) (b := N0) (by omega), show 300 - N0 = m by rw [← hm]; split <;> omega]
      exact fin
    · refine fx_bf rfl (nI_ge (by omega) (by omega)) ?_
      repeat refine fx_n rfl ?_
      refine fx_g rfl (ix_nI (by omega) (by omega)) ?_
      rw [nI_cl (by omega), k1 32 s (by unfold dead; omega), n32, a6, show z = m by rw [← hm]; split <;> omega]
      repeat refine fx_n rfl ?_
      exact fin
