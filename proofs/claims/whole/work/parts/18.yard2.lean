def tx_h (b : Nat → Int32) (s : Nat) : Nat := (b (2 * s) - 48).toNatClampNeg % 8
theorem tx_h_lt (b : Nat → Int32) (s : Nat) : tx_h b s < 8 := Nat.mod_lt _ (by omega)
theorem tx_h_eq {b : Nat → Int32} {n s : Nat} (hn : n ≤ 30) (hs : s < tx_st b n) : b (2 * s) - 48 = nI (tx_h b s) := by
  have h := (tx_byte hn hs).1
  rw [← sub48] at h
  obtain ⟨k, hk, e⟩ := inR_nI (b := 7) h
  unfold tx_h
  rw [e, nI_cl (by omega), Nat.mod_eq_of_lt (by omega)]
/-- what the class's questions rest on: events, stones, luck's length, the houses at first, which are forged -/
def ctC (M : sy_Mm) (E : Evs) (ne S L : Nat) (h0 : Nat → Nat) (fg : Nat → Bool) : Prop := taleOK E ne ∧ taleC M E ne ∧ S ≤ 9 ∧ M 1 3 = nI S ∧ M 9 6 = nI L ∧ (1 ≤ L ∧ L ≤ 99) ∧ (∀ s, s < S → M 2 (2 * s) - 48 = nI (h0 s)) ∧ (∀ s, h0 s < 8) ∧ ∀ s, s < S → tx_fg (M 2) s = fg s
theorem ctC.kp {M N : sy_Mm} {E : Evs} {ne S L : Nat} {h0 : Nat → Nat} {fg : Nat → Bool} (h : ctC M E ne S L h0 fg) (k : kpY M N) : ctC N E ne S L h0 fg := by
  obtain ⟨a1, a2, a3, a4, a5, a6, a7, a8, a9⟩ := h
  have k1 := k.1 1 (by omega) (by omega) (by omega) (by omega)
  have k2 := k.1 2 (by omega) (by omega) (by omega) (by omega)
  refine ⟨a1, a2.kp k, a3, by rw [k1]; exact a4, by rw [k.2 6 (by omega) (by omega) (by omega) (by omega) (by omega)]; exact a5, a6, ?_, a8, ?_⟩
  · rw [k2]; exact a7
  · rw [k2]; exact a9
def rlB (fg : Nat → Bool) (s : Nat) : Bool := !fg s
set_option maxRecDepth 100000 in
set_option maxHeartbeats 4000000 in
theorem ex_begin (d : Nat) (M : sy_Mm) (E : Evs) (ne S L : Nat) (h0 : Nat → Nat) (fg : Nat → Bool) (hC : ctC M E ne S L h0 fg) : Ex (d + 2) i_X6_begin [.ref 9] M (fun r N => r = none ∧ yardC N S L (y0 h0) ∧ N 9 7 = nI 0 ∧ N 9 5 = nI (bN (rlB fg) S) ∧ kpY M N) := by
  have loop : ∀ (j s : Nat) (M1 : sy_Mm), s + j = S → (∀ i, i < s → M1 10 i = nI (h0 i) ∧ M1 11 i = 0 ∧ M1 12 i = -1) → kpY M M1 → Fx (d + 2) i_X6_begin 10 [some (.ref 9), some (.int (nI s))] [.int (M1 1 3), .int (nI s)] M1 (fun r N => r = none ∧ yardC N S L (y0 h0) ∧ N 9 7 = nI 0 ∧ N 9 5 = nI (bN (rlB fg) S) ∧ kpY M N) := by
    intro j
    induction j with
    | zero =>
      intro s M1 hs hI hK
      have e : s = S := by omega
      subst e
      obtain ⟨a1, a2, a3, a4, a5, a6, a7, a8, a9⟩ := hC.kp hK
      refine fx_bt rfl (by rw [a4]; exact nI_le (Nat.le_refl _) (by omega)) ?_
      repeat refine fx_n rfl ?_
      refine fx_p rfl (ev_realStones _ _ s a3 a4) ?_
      rw [bN_congr (q := rlB fg) s (fun i hi => by show (!tx_fg (M1 2) i) = !fg i; rw [a9 i hi])]
      repeat refine fx_n rfl ?_
      refine fx_r rfl rfl ⟨rfl, ⟨?_, ?_, ?_, ?_, ?_, ?_⟩, ?_, ?_, ((((hK.up9 (by omega)).up9 (by omega)).up9 (by omega)).up9 (by omega)).up9 (by omega)⟩
      · intro i hi; rw [up_k (by omega), up_k (by omega), up_k (by omega), up_k (by omega), up_k (by omega)]; exact (hI i hi).1
      · intro i hi; rw [up_k (by omega), up_k (by omega), up_k (by omega), up_k (by omega), up_k (by omega)]; exact (hI i hi).2.1
      · intro i hi; rw [up_k (by omega), up_k (by omega), up_k (by omega), up_k (by omega), up_k (by omega)]; exact (hI i hi).2.2
      · rw [up_j (by omega), up_j (by omega), up_s]; rfl
      · rw [up_j (by omega), up_s]; rfl
      · rw [up_s]; rfl
      · rw [up_j (by omega), up_j (by omega), up_j (by omega), up_s]; rfl
      · rw [up_j (by omega), up_j (by omega), up_j (by omega), up_j (by omega), up_s]
    | succ j ih =>
      intro s M1 hs hI hK
      obtain ⟨a1, a2, a3, a4, a5, a6, a7, a8, a9⟩ := hC.kp hK
      refine fx_bf rfl (by rw [a4]; exact nI_ge (by omega) (by omega)) ?_
      repeat refine fx_n rfl ?_
      refine fx_p rfl (ev_houseOf _ _ s (by omega)) ?_
      rw [a7 s (by omega)]
      refine fx_g rfl (ix_nI (by omega) (by omega)) ?_
      rw [nI_cl (by omega)]
      repeat refine fx_n rfl ?_
      refine fx_g rfl (ix_nI (by omega) (by omega)) ?_
      rw [nI_cl (by omega)]
      repeat refine fx_n rfl ?_
      refine fx_g rfl (ix_nI (by omega) (by omega)) ?_
      rw [nI_cl (by omega)]
      repeat refine fx_n rfl ?_
      rw [nI_1]
      refine ih (s + 1) _ (by omega) (fun i hi => ?_) (((hK.up (by omega)).up (by omega)).up (by omega))
      by_cases hq : i = s
      · subst hq
        exact ⟨by rw [up_k (by omega), up_k (by omega), up_s], by rw [up_k (by omega), up_s], up_s⟩
      · rw [up_k (by omega), up_k (by omega), up_j hq, up_k (by omega), up_j hq, up_j hq, up_k (by omega), up_k (by omega), up_k (by omega)]
        exact hI i (by omega)
  unfold Ex
  repeat refine fx_n rfl ?_
  exact loop S 0 M (by omega) (fun i hi => by omega) kpY.rf
set_option maxRecDepth 100000 in
set_option maxHeartbeats 4000000 in
theorem ex_tellTo (d : Nat) (E : Evs) (ne S L N : Nat) (h0 : Nat → Nat) (fg : Nat → Bool) (aside : Option Nat) (hN : N ≤ 299) (ha : ∀ e, aside = some e → e < 2 ^ 31) : ∀ (j k : Nat) (M : sy_Mm), k + j = ne → ctC M E ne S L h0 fg → yardC M S L (yG S h0 E aside k) → M 9 7 = nI k → (∀ e, e < k → E e 1 ≤ N) →
    Fx (d + 2) i_X6_tellTo 11 [some (.ref 9), some (.int (nI N)), some (.int (oI aside))] [.int (M 3 5), .int (M 9 7)] M (fun r M' => r = none ∧ (∃ k', yStop E ne N k' ∧ M' 9 7 = nI k' ∧ yardC M' S L (yG S h0 E aside k')) ∧ M' 9 5 = M 9 5 ∧ kpY M M') := by
  intro j
  induction j with
  | zero =>
    intro k M hk hC hY h7 hlo
    have e : k = ne := by omega
    subst e
    obtain ⟨a1, a2, a3, a4, a5, a6, a7, a8, a9⟩ := hC
    have hne := a1.1
    refine fx_bt rfl (by rw [h7, a2.1]; exact nI_le (Nat.le_refl _) (by omega)) ?_
    exact fx_r rfl rfl ⟨rfl, ⟨k, ⟨Nat.le_refl _, hlo, fun q => by omega⟩, h7, hY⟩, rfl, kpY.rf⟩
  | succ j ih =>
    intro k M hk hC hY h7 hlo
    obtain ⟨a1, a2, a3, a4, a5, a6, a7, a8, a9⟩ := id hC
    have hne := a1.1
    have hok := yG_ok (S := S) (h0 := h0) (aside := aside) a1 a8 k (by omega)
    obtain ⟨q0, q1, q2, q3, q4⟩ := a1.2.1 k (by omega)
    refine fx_bf rfl (by rw [h7, a2.1]; exact nI_ge (by omega) (by omega)) ?_
    repeat refine fx_n rfl ?_
    rw [h7]
    refine fx_g rfl (ix_nI (by omega) (by omega)) ?_
    rw [nI_cl (by omega), (a2.2 k (by omega)).2.1]
    repeat refine fx_n rfl ?_
    by_cases hq : N < E k 1
    · refine fx_bt rfl (nI_lt hq (by omega)) ?_
      exact fx_r rfl rfl ⟨rfl, ⟨k, ⟨by omega, hlo, fun _ => hq⟩, h7, hY⟩, rfl, kpY.rf⟩
    · refine fx_bf rfl (nI_nlt (by omega) (by omega)) ?_
      repeat refine fx_n rfl ?_
      have hlo' : ∀ e, e < k + 1 → E e 1 ≤ N := fun e he => by
        rcases Nat.lt_or_ge e k with h | h
        · exact hlo e h
        · rw [show e = k by omega]; omega
      rw [h7]
      by_cases has : some k = aside
      · refine fx_bt rfl ((oI_s ha (by omega)).mpr has.symm).symm ?_
        repeat refine fx_n rfl ?_
        rw [h7, nI_1]
        have kp : kpY M (sy_up M 9 7 (nI (k + 1))) := kpY.rf.up9 (by omega)
        have eG : yG S h0 E aside (k + 1) = yG S h0 E aside k := if_pos has
        refine fx_w (ih (k + 1) _ (by omega) (hC.kp kp) ?_ up_s hlo') ?_
        · rw [eG]
          obtain ⟨y1, y2, y3, y4, y5, y6⟩ := hY
          refine ⟨fun s hs => ?_, fun s hs => ?_, fun s hs => ?_, ?_, ?_, ?_⟩
          · rw [up_k (by omega)]; exact y1 s hs
          · rw [up_k (by omega)]; exact y2 s hs
          · rw [up_k (by omega)]; exact y3 s hs
          · rw [up_j (by omega)]; exact y4
          · rw [up_j (by omega)]; exact y5
          · rw [up_j (by omega)]; exact y6
        · rintro r M' ⟨h1, h2, h3, h4⟩
          exact ⟨h1, h2, h3.trans (up_j (by omega)), kp.tr h4⟩
      · refine fx_bf rfl (fun z => has ((oI_s ha (by omega)).mp z.symm).symm) ?_
        repeat refine fx_n rfl ?_
        rw [h7]
        refine fx_c rfl (ex_tell _ M E ne k S L _ k a1 a2 (by omega) a3 a4 a5 a6.2 hY hok (by omega)) ?_
        rintro _ M1 ⟨rfl, b1, b2, b3, b4⟩
        repeat refine fx_n rfl ?_
        rw [b3, h7, nI_1]
        have kp : kpY M (sy_up M1 9 7 (nI (k + 1))) := b2.up9 (by omega)
        have eG : yG S h0 E aside (k + 1) = yTell S E k (yG S h0 E aside k) := if_neg has
        refine fx_w (ih (k + 1) _ (by omega) (hC.kp kp) ?_ up_s hlo') ?_
        · rw [eG]
          obtain ⟨y1, y2, y3, y4, y5, y6⟩ := b1
          refine ⟨fun s hs => ?_, fun s hs => ?_, fun s hs => ?_, ?_, ?_, ?_⟩
          · rw [up_k (by omega)]; exact y1 s hs
          · rw [up_k (by omega)]; exact y2 s hs
          · rw [up_k (by omega)]; exact y3 s hs
          · rw [up_j (by omega)]; exact y4
          · rw [up_j (by omega)]; exact y5
          · rw [up_j (by omega)]; exact y6
        · rintro r M' ⟨h1, h2, h3, h4⟩
          exact ⟨h1, h2, by rw [h3, up_j (by omega), b4], kp.tr h4⟩
/-- the yard at a night, as the class's rows hold it: told to k -/
def atC (M : sy_Mm) (E : Evs) (ne S L : Nat) (h0 : Nat → Nat) (fg : Nat → Bool) (aside : Option Nat) (N : Nat) : Prop := ctC M E ne S L h0 fg ∧ M 9 5 = nI (bN (rlB fg) S) ∧ yardC M S L (yF S h0 E aside N ne) ∧ ∃ k, yStop E ne N k ∧ M 9 7 = nI k
theorem yStop_next {E : Evs} {ne N k : Nat} {N' : Nat} (h : yStop E ne N k) (hN : N ≤ N') : k ≤ ne ∧ ∀ e, e < k → E e 1 ≤ N' := ⟨h.1, fun e he => Nat.le_trans (h.2.1 e he) hN⟩
set_option maxRecDepth 100000 in
set_option maxHeartbeats 4000000 in
theorem ex_tellTo0 (d : Nat) (M : sy_Mm) (E : Evs) (ne S L N k : Nat) (h0 : Nat → Nat) (fg : Nat → Bool) (aside : Option Nat) (hN : N ≤ 299) (ha : ∀ e, aside = some e → e < 2 ^ 31) (hC : ctC M E ne S L h0 fg) (hk : k ≤ ne) (hY : yardC M S L (yG S h0 E aside k)) (h7 : M 9 7 = nI k) (hlo : ∀ e, e < k → E e 1 ≤ N) (h5 : M 9 5 = nI (bN (rlB fg) S)) : Ex (d + 2) i_X6_tellTo [.ref 9, .int (nI N), .int (oI aside)] M (fun r M' => r = none ∧ atC M' E ne S L h0 fg aside N ∧ kpY M M') := by
  unfold Ex
  repeat refine fx_n rfl ?_
  refine fx_w (ex_tellTo d E ne S L N h0 fg aside hN ha (ne - k) k M (by omega) hC hY h7 hlo) ?_
  rintro r M' ⟨h1, ⟨k', h2, h3, h4⟩, h6, h8⟩
  exact ⟨h1, ⟨hC.kp h8, h6.trans h5, by rw [yF_stop hC.1 h2]; exact h4, k', h2, h3⟩, h8⟩
set_option maxRecDepth 100000 in
set_option maxHeartbeats 4000000 in
theorem ex_tellFrom (d : Nat) (M : sy_Mm) (E : Evs) (ne S L N : Nat) (h0 : Nat → Nat) (fg : Nat → Bool) (hN : N ≤ 299) (hC : ctC M E ne S L h0 fg) : Ex (d + 3) i_X6_tellFromStart [.ref 9, .int (nI N)] M (fun r M' => r = none ∧ atC M' E ne S L h0 fg none N ∧ kpY M M') := by
  unfold Ex
  repeat refine fx_n rfl ?_
  refine fx_c rfl (ex_begin _ M E ne S L h0 fg hC) ?_
  rintro _ M1 ⟨rfl, b1, b2, b3, b4⟩
  repeat refine fx_n rfl ?_
  refine fx_c rfl (ex_tellTo0 _ M1 E ne S L N 0 h0 fg none hN (fun _ q => by cases q) (hC.kp b4) (by omega) b1 b2 (fun e he => by omega) b3) ?_
  rintro _ M2 ⟨rfl, c1, c2⟩
  exact fx_r rfl rfl ⟨rfl, c1, b4.tr c2⟩
set_option maxRecDepth 100000 in
set_option maxHeartbeats 4000000 in
theorem ex_tellAll (d : Nat) (M : sy_Mm) (E : Evs) (ne S L : Nat) (h0 : Nat → Nat) (fg : Nat → Bool) (hC : ctC M E ne S L h0 fg) : Ex (d + 4) i_X6_tellAll [.ref 9] M (fun r M' => r = none ∧ atC M' E ne S L h0 fg none 199 ∧ kpY M M') := by
  unfold Ex
  repeat refine fx_n rfl ?_
  refine fx_c rfl (ex_tellFrom _ M E ne S L 199 h0 fg (by omega) hC) ?_
  rintro _ M1 ⟨rfl, b1, b2⟩
  exact fx_r rfl rfl ⟨rfl, b1, b2⟩
