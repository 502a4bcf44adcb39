set_option maxRecDepth 100000 in
set_option maxHeartbeats 4000000 in
theorem ev_shend (d : Nat) (M : sy_Mm) (s : Nat) (hs : s < 4) : Ev d i_X3_end [.ref (22 + 2 * s)] M (some (.int (M (22 + 2 * s) 2))) (sy_up (sy_up M (22 + 2 * s) 1 (-1)) (22 + 2 * s) 2 0) := by
  rcases (show s = 0 ∨ s = 1 ∨ s = 2 ∨ s = 3 by omega) with rfl | rfl | rfl | rfl
  all_goals
    refine ev_of ?_
    repeat refine fx_n rfl ?_
    exact fx_r rfl rfl ⟨rfl, rfl⟩
set_option maxRecDepth 100000 in
set_option maxHeartbeats 4000000 in
theorem ag_lose {M : sy_Mm} (h : Inv M) (x : Int32) : AG i_X7_lose i_X8_lose [.int x] M := by
  intro d
  obtain ⟨nn, E, ne, L, B, nb, G, F, h1, h2, h3, h4, h5, h6, h7⟩ := id h
  unfold Ex
  repeat refine fx_n rfl ?_
  refine fx_p rfl (ev_isSheet _ _ _) (fx_zn rfl (fun g1 => ?_) (fun g1 => ?_))
  · obtain ⟨s, hs, rfl⟩ := inR_nI (b := 3) g1
    have hsh := h6 s (by omega)
    have hl := fun d => ev_isLost d M s (by omega)
    have modTo : ∀ (N : sy_Mm) (P : Option Value → sy_Mm → Prop), Fx (d + 30) i_X8_lose 15 [some (.ref 30), some (.int (nI s))] [.int (nI s), .ref 31] N P → Fx (d + 30) i_X8_lose 0 (sy_en i_X8_lose [.ref 30, .int (nI s)]) [] N P := by
      intro N P kk
      repeat refine fx_n rfl ?_
      refine fx_p rfl (em_isSheet _ _ _) (fx_zn rfl (fun _ => ?_) (fun z => by rw [g1] at z; cases z))
      repeat refine fx_n rfl ?_
      exact kk
    cases hF : F s with
    | none =>
      rw [hF] at hsh
      obtain ⟨a1, a2, a3⟩ := hsh
      rw [a1] at hl
      have cls : ∀ Q : Option Value → sy_Mm → Prop, Q (some (.int (-10 - 1))) (sy_up M 0 7 1) → Fx (d + 30) i_X7_lose 15 [some (.ref 0), some (.int (nI s))] [.int (nI s), .ref 21] M Q := by
        intro Q hQ
        rcases (show s = 0 ∨ s = 1 ∨ s = 2 ∨ s = 3 by omega) with rfl | rfl | rfl | rfl
        all_goals
          refine fx_g rfl (by decide) ?_
          refine fx_p rfl (hl _) ?_
          refine fx_bf rfl (by decide) ?_
          repeat refine fx_n rfl ?_
          refine fx_c rfl (ex_of (ev_found _ _ _)) ?_
          rintro _ _ ⟨rfl, rfl⟩
          repeat refine fx_n rfl ?_
          exact fx_r rfl rfl hQ
      repeat refine fx_n rfl ?_
      refine cls _ ⟨⟨_, rfl⟩, modTo _ _ ?_⟩
      refine fx_g rfl (ix_nI (by omega) (by omega)) ?_
      rw [nI_cl (by omega), up_k (by omega), a3]
      refine fx_bf rfl (by decide) ?_
      repeat refine fx_n rfl ?_
      refine fx_c rfl (ex_of (em_met _ _ _)) ?_
      rintro _ _ ⟨rfl, rfl⟩
      exact fx_r rfl rfl ⟨rfl, h.fnd 1⟩
    | some q =>
      obtain ⟨g, z⟩ := q
      rw [hF] at hsh
      obtain ⟨a1, a2, a3, a4, a5, a6, a7⟩ := hsh
      rw [a3, decide_eq_false (nI_ne_m1 (by omega))] at hl
      have cls : ∀ Q : Option Value → sy_Mm → Prop, Q (some (.int (nI z))) (sy_up (sy_up M (22 + 2 * s) 1 (-1)) (22 + 2 * s) 2 0) → Fx (d + 30) i_X7_lose 15 [some (.ref 0), some (.int (nI s))] [.int (nI s), .ref 21] M Q := by
        intro Q hQ
        rw [← a4] at hQ
        have he := fun d => ev_shend d M s (by omega)
        rcases (show s = 0 ∨ s = 1 ∨ s = 2 ∨ s = 3 by omega) with rfl | rfl | rfl | rfl
        all_goals
          refine fx_g rfl (by decide) ?_
          refine fx_p rfl (hl _) ?_
          refine fx_bt rfl (by decide) ?_
          repeat refine fx_n rfl ?_
          refine fx_g rfl (by decide) ?_
          refine fx_c rfl (ex_of (he _)) ?_
          rintro _ _ ⟨rfl, rfl⟩
          exact fx_r rfl rfl hQ
      repeat refine fx_n rfl ?_
      refine cls _ ⟨⟨_, rfl⟩, modTo _ _ ?_⟩
      generalize hN : sy_up (sy_up M (22 + 2 * s) 1 (-1)) (22 + 2 * s) 2 0 = N
      have r : ∀ k, k ≠ 22 + 2 * s → N k = M k := fun k hk => by rw [← hN, up_k hk, up_k hk]
      refine fx_g rfl (ix_nI (by omega) (by omega)) ?_
      rw [nI_cl (by omega), r 31 (by omega), a5]
      refine fx_bt rfl (nI_pos' (by omega)) ?_
      repeat refine fx_n rfl ?_
      refine fx_g rfl (ix_nI (by omega) (by omega)) ?_
      rw [nI_cl (by omega)]
      repeat refine fx_n rfl ?_
      refine fx_g rfl (ix_nI (by omega) (by omega)) ?_
      rw [nI_cl (by omega), up_k (by omega), r 32 (by omega), a6]
      have r' : ∀ k, k ≠ 22 + 2 * s → k ≠ 31 → sy_up N 31 s (-1) k = M k := fun k a b => by rw [up_k b, r k a]
      refine fx_r rfl rfl ⟨rfl, nn, E, ne, L, B, nb, G, _, h1.cg ?_ ?_ ?_ ?_, h2.cg ?_ ?_ ?_ ?_ ?_ ?_ ?_ ?_, h3.cg ?_ ?_, h4.cg ?_ ?_ ?_ ?_ ?_ ?_, h5.cg ?_ ?_, h6.st (s := s) none (fun k k1 k2 k3 k4 => r' k k3 (by omega)) ?_ ?_ ?_ ?_, ?_⟩
      all_goals (first | (exact r' _ (by omega) (by omega)) | (exact congrFun (r' _ (by omega) (by omega)) _) | skip)
      · intro q hq; rw [up_j hq, r 31 (by omega)]
      · intro q hq; rw [r' 32 (by omega) (by omega)]
      · intro q hq; rw [r' 33 (by omega) (by omega)]
      · refine ⟨?_, ?_, up_s⟩
        · rw [up_k (by omega), ← hN, up_j (by omega), up_s]
        · rw [up_k (by omega), ← hN, up_s]
      · rw [r' 0 (by omega) (by omega), r' 30 (by omega) (by omega)]; exact h7
  · repeat refine fx_n rfl ?_
    refine fx_r rfl rfl ⟨⟨_, rfl⟩, ?_⟩
    repeat refine fx_n rfl ?_
    refine fx_p rfl (em_isSheet _ _ _) (fx_zn rfl (fun z => by rw [g1] at z; cases z) (fun _ => ?_))
    repeat refine fx_n rfl ?_
    exact fx_r rfl rfl ⟨rfl, h⟩
set_option maxRecDepth 100000 in
set_option maxHeartbeats 4000000 in
theorem ag_get {M : sy_Mm} (h : Inv M) (x f i : Int32) : AG i_X7_get i_X8_get [.int x, .int f, .int i] M := by
  intro d
  obtain ⟨nn, E, ne, L, B, nb, G, F, h1, h2, h3, h4, h5, h6, h7⟩ := id h
  unfold Ex
  have modBad : (inR x 0 3 = false ∨ inR f 0 2 = false) → ∀ r : Option Value, r = some (.int (-2147483648)) → Fx (d + 30) i_X8_get 0 (sy_en i_X8_get [.ref 30, .int x, .int f, .int i]) [] M (fun r' N' => r' = r ∧ Inv N') := by
    intro gg r hr
    subst hr
    repeat refine fx_n rfl ?_
    refine fx_p rfl (em_isSheet _ _ _) (fx_ze rfl (fun g1 => by ((repeat refine fx_n rfl ?_); exact fx_r rfl rfl ⟨by simp [g1, zb_f], h⟩)) (fun g1 => ?_))
    repeat refine fx_n rfl ?_
    refine fx_p rfl (em_ir _ _ _ _ _ 0 2 rfl rfl) (fx_ze rfl (fun g2 => ?_) (fun g2 => ?_))
    · repeat refine fx_n rfl ?_
      exact fx_r rfl rfl ⟨rfl, h⟩
    · rcases gg with z | z
      · rw [g1] at z; cases z
      · rw [g2] at z; cases z
  repeat refine fx_n rfl ?_
  refine fx_p rfl (ev_isSheet _ _ _) (fx_ze rfl (fun g1 => by ((repeat refine fx_n rfl ?_); exact fx_r rfl rfl ⟨⟨_, rfl⟩, modBad (Or.inl g1) _ rfl⟩)) (fun g1 => ?_))
  repeat refine fx_n rfl ?_
  refine fx_p rfl (ev_isForm _ _ _) (fx_zn rfl (fun g2 => ?_) (fun g2 => by ((repeat refine fx_n rfl ?_); exact fx_r rfl rfl ⟨⟨_, rfl⟩, modBad (Or.inr g2) _ rfl⟩)))
  obtain ⟨s, hs, rfl⟩ := inR_nI (b := 3) g1
  have hsh := h6 s (by omega)
  have modTo : ∀ (N : sy_Mm) (P : Option Value → sy_Mm → Prop), Fx (d + 30) i_X8_get 23 [some (.ref 30), some (.int (nI s)), some (.int f), some (.int i)] [.int i, .int f, .int (nI s), .ref 30] N P → Fx (d + 30) i_X8_get 0 (sy_en i_X8_get [.ref 30, .int (nI s), .int f, .int i]) [] N P := by
    intro N P kk
    repeat refine fx_n rfl ?_
    refine fx_p rfl (em_isSheet _ _ _) (fx_ze rfl (fun z => by rw [g1] at z; cases z) (fun _ => ?_))
    repeat refine fx_n rfl ?_
    refine fx_p rfl (em_ir _ _ _ _ _ 0 2 rfl rfl) (fx_ze rfl (fun z => by rw [g2] at z; cases z) (fun _ => ?_))
    repeat refine fx_n rfl ?_
    exact kk
  have hfl := fun d => ev_flawOf d M s (F s) f i (by omega) hsh
  have cls : ∀ Q : Option Value → sy_Mm → Prop, (¬ flS (F s) f i = 0 → Q (some (.int (-2147483648))) (sy_up M 0 7 (nI (flS (F s) f i)))) → (∀ q : Nat, q < 60 → i = nI q → flS (F s) f i = 0 → Q (some (.int (M (23 + 2 * s) q))) M) → Fx (d + 30) i_X7_get 22 [some (.ref 0), some (.int (nI s)), some (.int f), some (.int i), none] [.int (nI s), .ref 21] M Q := by
    intro Q hQ1 hQ2
    by_cases h0 : flS (F s) f i = 0
    · obtain ⟨g, z, e1, e2, e3⟩ := flS_0 h0
      rw [e1] at hsh
      obtain ⟨a1, a2, a3, a4, a5, a6, a7⟩ := hsh
      obtain ⟨q, hq, e4⟩ := inR_S e3
      have hQ := hQ2 q (by omega) e4 h0
      rw [h0] at hfl
      rcases (show s = 0 ∨ s = 1 ∨ s = 2 ∨ s = 3 by omega) with rfl | rfl | rfl | rfl
      all_goals
        refine fx_g rfl (by decide) ?_
        repeat refine fx_n rfl ?_
        refine fx_p rfl (hfl _) ?_
        repeat refine fx_n rfl ?_
        refine fx_bt rfl (by decide) ?_
        repeat refine fx_n rfl ?_
        refine fx_g rfl (by decide) ?_
        repeat refine fx_n rfl ?_
        rw [e4]
        refine fx_g rfl (ix_nI (by omega) (by omega)) ?_
        rw [nI_cl (by omega)]
        exact fx_r rfl rfl hQ
    · have hQ := hQ1 h0
      rcases (show s = 0 ∨ s = 1 ∨ s = 2 ∨ s = 3 by omega) with rfl | rfl | rfl | rfl
      all_goals
        refine fx_g rfl (by decide) ?_
        repeat refine fx_n rfl ?_
        refine fx_p rfl (hfl _) ?_
        repeat refine fx_n rfl ?_
        refine fx_bf rfl (ab_flS h0) ?_
        repeat refine fx_n rfl ?_
        exact fx_r rfl rfl hQ
  repeat refine fx_n rfl ?_
  refine cls _ (fun h0 => ⟨⟨_, rfl⟩, modTo _ _ ?_⟩) (fun q hq hiq h0 => ⟨⟨_, rfl⟩, modTo _ _ ?_⟩)
  · refine fx_c rfl (em_lacks _ _ s (F s) f i (by omega) (by have := (h6.cg (N := sy_up M 0 7 (nI (flS (F s) f i))) (fun k k1 k2 k3 => up_k (by omega))) s (by omega); exact this)) ?_
    rintro r N (⟨z, _⟩ | ⟨_, rfl, rfl⟩)
    · exact absurd z h0
    · refine fx_bf rfl ?_ ?_
      · have := flS_lt (F s) f i
        rcases (show flS (F s) f i = 1 ∨ flS (F s) f i = 2 ∨ flS (F s) f i = 3 by omega) with e | e | e <;> rw [e] <;> decide
      · repeat refine fx_n rfl ?_
        exact fx_r rfl rfl ⟨rfl, h.fnd _⟩
  · refine fx_c rfl (em_lacks _ _ s (F s) f i (by omega) hsh) ?_
    rintro r N (⟨_, rfl, rfl⟩ | ⟨z, _⟩)
    · obtain ⟨g, z, e1, e2, e3⟩ := flS_0 h0
      rw [e1] at hsh
      obtain ⟨a1, a2, a3, a4, a5, a6, a7⟩ := hsh
      have hqz : q < z := by
        obtain ⟨q', hq', e⟩ := inR_S e3
        have := (nI_eq (by omega) (by omega)).mp (hiq.symm.trans e)
        omega
      refine fx_bt rfl (by decide) ?_
      repeat refine fx_n rfl ?_
      rw [sx_nI, hiq, nI_add]
      refine fx_g rfl (ix_nI (by omega) (by omega)) ?_
      rw [nI_cl (by omega), a7 q hqz]
      exact fx_r rfl rfl ⟨rfl, h⟩
    · exact absurd h0 z
/-! ===== count ===== -/
def cuS (M : sy_Mm) (S : Nat) (Y : Yd) (fg : Nat → Bool) (w : Int32) : Int32 := if w = 0 then nI S else if w = 1 then M 1 1 else if w = 2 then M 3 5 else if w = 3 then nI Y.2.2.2.1 else if w = 4 then nI Y.2.2.2.2.2 else if w = 5 then M 9 6 else if w = 6 then M 14 5 else if w = 7 then nI (cnB fg S) else if w = 8 then M 0 7 else -2
theorem cnB_not (p : Nat → Bool) : ∀ n, n - cnB (rlB p) n = cnB p n ∧ cnB (rlB p) n ≤ n
  | 0 => ⟨rfl, Nat.le_refl _⟩
  | n + 1 => by
    obtain ⟨h1, h2⟩ := cnB_not p n
    unfold cnB
    cases q : p n with
    | true => rw [show rlB p n = false by simp [rlB, q]]; simp; omega
    | false => rw [show rlB p n = true by simp [rlB, q]]; simp; omega
theorem sw_in {pc : Nat} {dflt hi : Int} {offs : Array Int} {w : Int32} (h : w.toInt < 0 ∨ hi < w.toInt) : sy_sw pc dflt 0 hi offs w = (pc : Int) + dflt := by unfold sy_sw; rw [if_pos h]
theorem w_cases (w : Int32) : (w = 0 ∨ w = 1 ∨ w = 2 ∨ w = 3 ∨ w = 4 ∨ w = 5 ∨ w = 6 ∨ w = 7 ∨ w = 8) ∨ (w.toInt < 0 ∨ 8 < w.toInt) := by
  by_cases q : w.toInt < 0 ∨ 8 < w.toInt
  · exact Or.inr q
  · left
    obtain ⟨k, hk, rfl⟩ := inR_nI (x := w) (b := 8) (inR_t.mpr (by omega))
    rcases (show k = 0 ∨ k = 1 ∨ k = 2 ∨ k = 3 ∨ k = 4 ∨ k = 5 ∨ k = 6 ∨ k = 7 ∨ k = 8 by omega) with rfl | rfl | rfl | rfl | rfl | rfl | rfl | rfl | rfl <;> decide
theorem cuS_bad {M : sy_Mm} {S : Nat} {Y : Yd} {fg : Nat → Bool} {w : Int32} (h : w.toInt < 0 ∨ 8 < w.toInt) : cuS M S Y fg w = -2 := by
  have n : ∀ k : Nat, k ≤ 8 → ¬ w = nI k := fun k hk e => by rw [e, nI_toInt (by omega)] at h; omega
  unfold cuS
  rw [if_neg (show ¬ w = 0 from n 0 (by omega)), if_neg (show ¬ w = 1 from n 1 (by omega)), if_neg (show ¬ w = 2 from n 2 (by omega)), if_neg (show ¬ w = 3 from n 3 (by omega)), if_neg (show ¬ w = 4 from n 4 (by omega)), if_neg (show ¬ w = 5 from n 5 (by omega)), if_neg (show ¬ w = 6 from n 6 (by omega)), if_neg (show ¬ w = 7 from n 7 (by omega)), if_neg (show ¬ w = 8 from n 8 (by omega))]
set_option maxRecDepth 100000 in
set_option maxHeartbeats 4000000 in
theorem ex_count (d : Nat) (M : sy_Mm) (E : Evs) (ne S L : Nat) (h0 : Nat → Nat) (w : Int32) (hC : ctC M E ne S L h0 (tx_fg (M 2))) : Ex (d + 5) i_X7_count [.ref 0, .int w] M (fun r N => r = some (.int (cuS M S (yF S h0 E none 199 ne) (tx_fg (M 2)) w)) ∧ kpY M N) := by
  obtain ⟨a1, a2, a3, a4, a5, a6, a7, a8, a9⟩ := id hC
  unfold Ex
  repeat refine fx_n rfl ?_
  rcases w_cases w with (rfl | rfl | rfl | rfl | rfl | rfl | rfl | rfl | rfl) | hw
  · refine fx_g rfl (by decide) (show Fx _ _ 52 _ _ _ _ from ?_)
    repeat refine fx_n rfl ?_
    exact fx_r rfl rfl ⟨by rw [a4]; rfl, kpY.rf⟩
  · refine fx_g rfl (by decide) (show Fx _ _ 60 _ _ _ _ from ?_)
    repeat refine fx_n rfl ?_
    exact fx_r rfl rfl ⟨rfl, kpY.rf⟩
  · refine fx_g rfl (by decide) (show Fx _ _ 68 _ _ _ _ from ?_)
    repeat refine fx_n rfl ?_
    exact fx_r rfl rfl ⟨rfl, kpY.rf⟩
  · refine fx_g rfl (by decide) (show Fx _ _ 76 _ _ _ _ from ?_)
    repeat refine fx_n rfl ?_
    refine fx_c rfl (ex_tellAll _ M E ne S L h0 _ hC) ?_
    rintro _ N ⟨rfl, b1, b2⟩
    repeat refine fx_n rfl ?_
    exact fx_r rfl rfl ⟨by rw [b1.2.2.1.2.2.2.1]; rfl, b2⟩
  · refine fx_g rfl (by decide) (show Fx _ _ 91 _ _ _ _ from ?_)
    repeat refine fx_n rfl ?_
    refine fx_c rfl (ex_tellAll _ M E ne S L h0 _ hC) ?_
    rintro _ N ⟨rfl, b1, b2⟩
    repeat refine fx_n rfl ?_
    exact fx_r rfl rfl ⟨by rw [b1.2.2.1.2.2.2.2.2]; rfl, b2⟩
  · refine fx_g rfl (by decide) (show Fx _ _ 106 _ _ _ _ from ?_)
    repeat refine fx_n rfl ?_
    exact fx_r rfl rfl ⟨rfl, kpY.rf⟩
  · refine fx_g rfl (by decide) (show Fx _ _ 114 _ _ _ _ from ?_)
    repeat refine fx_n rfl ?_
    exact fx_r rfl rfl ⟨rfl, kpY.rf⟩
  · refine fx_g rfl (by decide) (show Fx _ _ 122 _ _ _ _ from ?_)
    repeat refine fx_n rfl ?_
    refine fx_p rfl (ev_realStones _ _ S a3 a4) ?_
    refine fx_p rfl (ev_bitCount _ _ _ (bN_9 _ a3)) ?_
    repeat refine fx_n rfl ?_
    rw [a4, pcn_bN _ S a3]
    have hc := cnB_not (tx_fg (M 2)) S
    rw [show (fun s => !tx_fg (M 2) s) = rlB (tx_fg (M 2)) from rfl, pk_sub hc.2, hc.1]
    exact fx_r rfl rfl ⟨rfl, kpY.rf⟩
  · refine fx_g rfl (by decide) (show Fx _ _ 141 _ _ _ _ from ?_)
    repeat refine fx_n rfl ?_
    exact fx_r rfl rfl ⟨rfl, kpY.rf⟩
  · have e := sw_in (pc := 1) (dflt := 145) (offs := #[51, 59, 67, 75, 90, 105, 113, 121, 140]) hw
    rw [cuS_bad hw]
    refine fx_g rfl (by rw [e]; decide) ?_
    rw [e]
    show Fx _ _ 146 _ _ _ _
    repeat refine fx_n rfl ?_
    exact fx_r rfl rfl ⟨rfl, kpY.rf⟩
set_option maxRecDepth 100000 in
set_option maxHeartbeats 4000000 in
theorem em_count (d : Nat) {M : sy_Mm} {n : Nat} {E : Evs} {ne L nb : Nat} {B : Evs} (h1 : iText M n) (h2 : iTale M E ne) (h3 : iLast M L) (h4 : iBook M B nb) (h7 : M 0 7 = M 30 4) (w : Int32) : Ex (d + 5) i_X8_count [.ref 30, .int w] M (fun r N => r = some (.int (cuS M (tx_st (M 2) n) (yF (tx_st (M 2) n) (tx_h (M 2)) E none 199 ne) (tx_fg (M 2)) w)) ∧ kq M N) := by
  unfold Ex
  repeat refine fx_n rfl ?_
  refine fx_c rfl (em_reads' _ h1) ?_
  rintro _ N ⟨rfl, hr⟩
  have hC := inv_ctM h1 h2 h3 hr
  repeat refine fx_n rfl ?_
  refine fx_c rfl (em_goes _ N E ne _ L 199 _ _ none (by omega) (fun _ q => by cases q) hC) ?_
  rintro _ N1 ⟨rfl, c1, c2⟩
  have k : kq M N1 := hr.q.tr c2.q
  obtain ⟨⟨a1, a2, a3, a4, a5, a6, a7, a8, a9⟩, b⟩ := id c1
  repeat refine fx_n rfl ?_
  rcases w_cases w with (rfl | rfl | rfl | rfl | rfl | rfl | rfl | rfl | rfl) | hw
  · refine fx_g rfl (by decide) (show Fx _ _ 64 _ _ _ _ from ?_)
    repeat refine fx_n rfl ?_
    exact fx_r rfl rfl ⟨by rw [a4]; rfl, k⟩
  · refine fx_g rfl (by decide) (show Fx _ _ 69 _ _ _ _ from ?_)
    repeat refine fx_n rfl ?_
    exact fx_r rfl rfl ⟨by rw [k 30 6 (by unfold dead; omega), h1.2.2.1, ← h1.2.1]; rfl, k⟩
  · refine fx_g rfl (by decide) (show Fx _ _ 74 _ _ _ _ from ?_)
    repeat refine fx_n rfl ?_
    exact fx_r rfl rfl ⟨by rw [k 30 12 (by unfold dead; omega), h2.2.2.1, ← h2.2.1.1]; rfl, k⟩
  · refine fx_g rfl (by decide) (show Fx _ _ 79 _ _ _ _ from ?_)
    repeat refine fx_n rfl ?_
    exact fx_r rfl rfl ⟨by rw [b.2.2.2.1]; rfl, k⟩
  · refine fx_g rfl (by decide) (show Fx _ _ 84 _ _ _ _ from ?_)
    repeat refine fx_n rfl ?_
    exact fx_r rfl rfl ⟨by rw [b.2.2.2.2.2]; rfl, k⟩
  · refine fx_g rfl (by decide) (show Fx _ _ 89 _ _ _ _ from ?_)
    repeat refine fx_n rfl ?_
    exact fx_r rfl rfl ⟨by rw [k 30 11 (by unfold dead; omega), h3.2.1, ← h3.1]; rfl, k⟩
  · refine fx_g rfl (by decide) (show Fx _ _ 94 _ _ _ _ from ?_)
    repeat refine fx_n rfl ?_
    exact fx_r rfl rfl ⟨by rw [k 30 20 (by unfold dead; omega), h4.2.2.1, ← h4.2.1]; rfl, k⟩
  · refine fx_g rfl (by decide) (show Fx _ _ 99 _ _ _ _ from ?_)
    repeat refine fx_n rfl ?_
    rw [a9]
    refine fx_p rfl (em_ones _ _ _ (bN_9 _ a3)) ?_
    rw [pcn_bN _ _ a3]
    exact fx_r rfl rfl ⟨rfl, k⟩
  · refine fx_g rfl (by decide) (show Fx _ _ 107 _ _ _ _ from ?_)
    repeat refine fx_n rfl ?_
    exact fx_r rfl rfl ⟨by rw [k 30 4 (by unfold dead; omega), ← h7]; rfl, k⟩
  · have e := sw_in (pc := 14) (dflt := 98) (offs := #[50, 55, 60, 65, 70, 75, 80, 85, 93]) hw
    rw [cuS_bad hw]
    refine fx_g rfl (by rw [e]; decide) ?_
    rw [e]
    show Fx _ _ 112 _ _ _ _
    repeat refine fx_n rfl ?_
    exact fx_r rfl rfl ⟨rfl, k⟩
set_option maxRecDepth 100000 in
set_option maxHeartbeats 4000000 in
theorem ag_count {M : sy_Mm} (h : Inv M) (w : Int32) : AG i_X7_count i_X8_count [.int w] M := by
  intro d
  obtain ⟨n, E, ne, L, B, nb, G, F, h1, h2, h3, h4, h5, h6, h7⟩ := id h
  refine fx_w (ex_count _ M E ne _ L _ w (inv_ctC h1 h2 h3)) ?_
  rintro _ N ⟨rfl, b2⟩
  have k := b2.q
  have e2 : N 2 = M 2 := k.row 2 (fun j => by unfold dead; omega)
  have e7 : N 0 7 = N 30 4 := by rw [k 0 7 (by unfold dead; omega), k 30 4 (by unfold dead; omega)]; exact h7
  refine ⟨⟨_, rfl⟩, fx_w (em_count _ (h1.kp k) (h2.kp k) (h3.kp k) (h4.kp k) e7 w) ?_⟩
  rintro _ N1 ⟨rfl, c2⟩
  rw [e2]
  refine ⟨?_, (h.kp k).kp c2⟩
  unfold cuS
  rw [k 1 1 (by unfold dead; omega), k 3 5 (by unfold dead; omega), k 9 6 (by unfold dead; omega), k 14 5 (by unfold dead; omega), k 0 7 (by unfold dead; omega)]
