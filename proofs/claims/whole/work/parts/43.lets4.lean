/-! ===== lets: the reference's search ===== -/
def bel (a c : Nat) (M M' : sy_Mm) : Prop := (∀ q, q < 9 * (a + 1) → M' 38 q = M 38 q ∧ M' 39 q = M 39 q) ∧ (∀ q, q < c → M' 43 q = M 43 q) ∧ ∀ q, q ≤ a → M' 44 q = M 44 q
theorem bel.rf {a c : Nat} {M : sy_Mm} : bel a c M M := ⟨fun _ _ => ⟨rfl, rfl⟩, fun _ _ => rfl, fun _ _ => rfl⟩
theorem bel.tr {a c : Nat} {M N K : sy_Mm} (h : bel a c M N) (g : bel a c N K) : bel a c M K := ⟨fun q hq => ⟨(g.1 q hq).1.trans (h.1 q hq).1, (g.1 q hq).2.trans (h.1 q hq).2⟩, fun q hq => (g.2.1 q hq).trans (h.2.1 q hq), fun q hq => (g.2.2 q hq).trans (h.2.2 q hq)⟩
theorem bel.up {a c : Nat} {M N : sy_Mm} (h : bel a c M N) {x : Int32} {j : Nat} (hj : c ≤ j) : bel a c M (sy_up N 43 j x) := ⟨fun q hq => by rw [up_k (by omega), up_k (by omega)]; exact h.1 q hq, fun q hq => by rw [up_j (by omega)]; exact h.2.1 q hq, fun q hq => by rw [up_k (by omega)]; exact h.2.2 q hq⟩
theorem gt_m1 {v : Nat} (h : v < 2 ^ 31) : ¬ nI v ≤ -1 := by
  rw [Int32.le_iff_toInt_le, nI_toInt h]
  have : (-1 : Int32).toInt = -1 := rfl
  omega
theorem goF_ok {ok : Nat → Bool} {f : Nat → Nat} {T C : Nat} {pp : Nat → Int32} {b0 : Option Nat × Int32} (hb : ∀ x, b0.1 = some x → x ≤ C) (hf : ∀ q, T + f q ≤ C) : ∀ q, ∀ x, (goF ok f T pp b0 q).1 = some x → x ≤ C
  | 0 => hb
  | q + 1 => by
    have ih := goF_ok (ok := ok) (pp := pp) hb hf q
    cases ha : ok q with
    | false => rw [goF_f ha]; exact ih
    | true => rw [goF_t ha]; exact upB_ok ih (hf q)
theorem lrM.kx {M N : sy_Mm} {S L : Nat} {fg : Nat → Bool} (h : lrM M S L fg) (k : kpX M N) : lrM N S L fg := by
  unfold lrM
  rw [k.2 8 (by omega) (by omega) (by omega), k.2 10 (by omega) (by omega) (by omega), k.2 11 (by omega) (by omega) (by omega)]
  exact h
theorem stQ_ok {σ : St} {N : Nat} (hσ : stOK σ) (hN : N < 400) : ∀ q, stOK (stQ σ N q)
  | 0 => hσ
  | k + 1 => by
    refine ⟨fun s h hs => ?_, fun s x hs => ?_⟩
    · simp only [stQ, stP] at hs
      by_cases e : s = k / 8
      · rw [e, uO_s] at hs; cases hs; omega
      · rw [uO_n e] at hs; exact hσ.1 s h hs
    · simp only [stQ, stP] at hs
      by_cases e : s = k / 8
      · rw [e, uO_s] at hs; cases hs; omega
      · rw [uO_n e] at hs; exact hσ.2 s x hs
theorem cI_72 {q : Nat} (h : q < 73) : ¬ (72 : Int32) ≤ cI q := by
  cases q with
  | zero => decide
  | succ k => exact nI_ge (b := 72) (by omega) (by omega)
theorem cI_n72 {q : Nat} (h : q < 73) : ¬ cI q = (72 : Int32) := by
  cases q with
  | zero => decide
  | succ k => exact fun z => by have := (nI_eq (b := 72) (by omega) (by omega)).mp z; omega
set_option maxRecDepth 100000 in
set_option maxHeartbeats 4000000 in
theorem em_pos (d : Nat) (M0 M : sy_Mm) (S L N n l T m : Nat) (fg : Nat → Bool) (w p : Int32) (σ : St) (b0 : Option Nat × Int32) (K : Option Value → sy_Mm → Prop) (hR : lrM M0 S L fg) (hn : n ≤ 3) (hlm : l + (m + 1) = n) (hN : N ≤ 199) (hT : T ≤ 8 * l) (hb0 : ∀ x, b0.1 = some x → x ≤ 24) (hσ : stOK σ) (hv : lvM M S l σ) (h44 : M 44 l = nI T) (hp : l ≠ 0 → M 43 0 = p)
    (child : ∀ (q : Nat) (M3 : sy_Mm) (b : Option Nat × Int32), q < 73 → okQ S σ q = true → (∀ x, b.1 = some x → x ≤ 24) → lvM M3 S (l + 1) (stQ σ (N + l) q) → M3 43 0 = (if l = 0 then cI q else p) → kpX M0 M3 → (∀ (M4 : sy_Mm) (x7 : Option Value), bel l (l + 1) M3 M4 → kpX M0 M4 → Fx (d + 3) i_X8_letsOf 34 [some (.ref 30), some (.int (nI N)), some (.int (nI n)), some (.int w), some (.int (oI (upB b (T + fQ S L fg m (N + l) σ q) (if l = 0 then cI q else p)).1)), some (.int (upB b (T + fQ S L fg m (N + l) σ q) (if l = 0 then cI q else p)).2), some (.int (nI l)), x7] [.int (nI l)] M4 K) → Fx (d + 3) i_X8_letsOf 212 [some (.ref 30), some (.int (nI N)), some (.int (nI n)), some (.int w), some (.int (oI b.1)), some (.int b.2), some (.int (nI l)), some (.int (nI (T + lkN S L fg (stQ σ (N + l) q) (N + l))))] [.int (nI n), .int (nI (l + 1))] M3 K)
    (fin : ∀ (M4 : sy_Mm) (x7 : Option Value), bel l l M M4 → kpX M0 M4 → Fx (d + 3) i_X8_letsOf 34 [some (.ref 30), some (.int (nI N)), some (.int (nI n)), some (.int w), some (.int (oI (goF (okQ S σ) (fQ S L fg m (N + l) σ) T (fun q => if l = 0 then cI q else p) b0 73).1)), some (.int (goF (okQ S σ) (fQ S L fg m (N + l) σ) T (fun q => if l = 0 then cI q else p) b0 73).2), some (.int (nI l + (-1))), x7] [.int (nI l + (-1))] M4 K) :
    ∀ (j q : Nat) (M1 : sy_Mm) (x7 : Option Value), q + j = 73 → bel l l M M1 → kpX M0 M1 → M1 43 l = cI q → Fx (d + 3) i_X8_letsOf 57 [some (.ref 30), some (.int (nI N)), some (.int (nI n)), some (.int w), some (.int (oI (goF (okQ S σ) (fQ S L fg m (N + l) σ) T (fun q => if l = 0 then cI q else p) b0 q).1)), some (.int (goF (okQ S σ) (fQ S L fg m (N + l) σ) T (fun q => if l = 0 then cI q else p) b0 q).2), some (.int (nI l)), x7] [.int 72, .int (M1 43 l)] M1 K := by
  have hS := hR.1
  have hgo := fun q => goF_ok (ok := okQ S σ) (pp := fun q => if l = 0 then cI q else p) (f := fQ S L fg m (N + l) σ) (T := T) hb0 (fun q => by have := fQ_le S L fg m (N + l) σ q; omega) q
  intro j
  induction j with
  | zero =>
    intro q M1 x7 hq hB hK h43
    have e : q = 73 := by omega
    subst e
    refine fx_bt rfl (by rw [h43]; decide) ?_
    repeat refine fx_n rfl ?_
    refine fx_g rfl (ix_nI (by omega) (by omega)) ?_
    rw [nI_cl (by omega), h43]
    repeat refine fx_n rfl ?_
    refine fx_bf rfl (by decide) ?_
    repeat refine fx_n rfl ?_
    exact fin M1 _ hB hK
  | succ j ih =>
    intro q M1 x7 hq hB hK h43
    have hR1 := hR.kx hK
    have hv1 : lvM M1 S l σ := fun s hs => by
      rw [(hB.1 (9 * l + s) (by omega)).1, (hB.1 (9 * l + s) (by omega)).2]; exact hv s hs
    have h441 : M1 44 l = nI T := (hB.2.2 l (Nat.le_refl _)).trans h44
    have hp1 : M1 43 0 = (if l = 0 then cI q else p) := by
      by_cases e : l = 0
      · rw [if_pos e]; rw [e] at h43; exact h43
      · rw [if_neg e, hB.2.1 0 (by omega)]; exact hp e
    have res : ∀ (M4 : sy_Mm) (x7 : Option Value), bel l l M M4 → kpX M0 M4 → M4 43 l = cI q → Fx (d + 3) i_X8_letsOf 34 [some (.ref 30), some (.int (nI N)), some (.int (nI n)), some (.int w), some (.int (oI (goF (okQ S σ) (fQ S L fg m (N + l) σ) T (fun q => if l = 0 then cI q else p) b0 (q + 1)).1)), some (.int (goF (okQ S σ) (fQ S L fg m (N + l) σ) T (fun q => if l = 0 then cI q else p) b0 (q + 1)).2), some (.int (nI l)), x7] [.int (nI l)] M4 K := by
      intro M4 x7 b4 k4 c4
      refine fx_bf rfl (nI_pos (by omega)) ?_
      repeat refine fx_n rfl ?_
      refine fx_g rfl (ix_nI (by omega) (by omega)) ?_
      rw [nI_cl (by omega), c4]
      repeat refine fx_n rfl ?_
      refine fx_g rfl (ix_nI (by omega) (by omega)) ?_
      rw [nI_cl (by omega), cI_1]
      repeat refine fx_n rfl ?_
      refine fx_g rfl (ix_nI (by omega) (by omega)) ?_
      rw [nI_cl (by omega)]
      repeat refine fx_n rfl ?_
      exact ih (q + 1) _ x7 (by omega) (b4.up (Nat.le_refl _)) (k4.up (by omega)) up_s
    refine fx_bf rfl (by rw [h43]; exact cI_72 (by omega)) ?_
    repeat refine fx_n rfl ?_
    refine fx_g rfl (ix_nI (by omega) (by omega)) ?_
    rw [nI_cl (by omega), h43]
    refine fx_p rfl (em_mayPick _ M1 S l q σ (by omega) (by omega) hS hR1.2.1 hv1 hσ) ?_
    cases hok : okQ S σ q with
    | false =>
      refine fx_bf rfl (by decide) ?_
      repeat refine fx_n rfl ?_
      refine fx_g rfl (ix_nI (by omega) (by omega)) ?_
      rw [nI_cl (by omega), h43]
      repeat refine fx_n rfl ?_
      refine fx_g rfl (ix_nI (by omega) (by omega)) ?_
      rw [nI_cl (by omega), cI_1]
      repeat refine fx_n rfl ?_
      refine fx_g rfl (ix_nI (by omega) (by omega)) ?_
      rw [nI_cl (by omega)]
      repeat refine fx_n rfl ?_
      have i2 := ih (q + 1) (sy_up M1 43 l (cI (q + 1))) x7 (by omega) (hB.up (Nat.le_refl _)) (hK.up (by omega)) up_s
      rw [goF_f hok] at i2
      exact i2
    | true =>
      refine fx_bt rfl (by decide) ?_
      repeat refine fx_n rfl ?_
      refine fx_g rfl (ix_nI (by omega) (by omega)) ?_
      rw [nI_cl (by omega), h43]
      repeat refine fx_n rfl ?_
      refine fx_bt rfl (cI_n72 (by omega)) ?_
      repeat refine fx_n rfl ?_
      refine fx_c rfl (em_copies _ M1 S l σ (by omega) hS hR1.2.1 hv1) ?_
      rintro _ M2 ⟨rfl, d1, d2, d3⟩
      have k2 : kpX M1 M2 := ⟨fun k a1 a2 a3 a4 a5 a6 a7 => d3 k a2 a3, fun j a1 a2 a3 => by rw [d3 30 (by omega) (by omega)]⟩
      have e43 : M2 43 = M1 43 := d3 43 (by omega) (by omega)
      have e44 : M2 44 = M1 44 := d3 44 (by omega) (by omega)
      have b2 : bel l (l + 1) M1 M2 := ⟨d2, fun q _ => by rw [e43], fun q _ => by rw [e44]⟩
      repeat refine fx_n rfl ?_
      refine fx_g rfl (ix_nI (by omega) (by omega)) ?_
      rw [nI_cl (by omega), e43, h43]
      repeat refine fx_n rfl ?_
      have rest : ∀ M3 : sy_Mm, lvM M3 S (l + 1) (stQ σ (N + l) q) → bel l (l + 1) M1 M3 → kpX M0 M3 → Fx (d + 3) i_X8_letsOf 185 [some (.ref 30), some (.int (nI N)), some (.int (nI n)), some (.int w), some (.int (oI (goF (okQ S σ) (fQ S L fg m (N + l) σ) T (fun q => if l = 0 then cI q else p) b0 q).1)), some (.int (goF (okQ S σ) (fQ S L fg m (N + l) σ) T (fun q => if l = 0 then cI q else p) b0 q).2), some (.int (nI l)), x7] [] M3 K := by
        intro M3 f1 f2 f3
        repeat refine fx_n rfl ?_
        refine fx_g rfl (ix_nI (by omega) (by omega)) ?_
        rw [nI_cl (by omega), f2.2.2 l (Nat.le_refl _), h441]
        repeat refine fx_n rfl ?_
        rw [nI_1, nI_add]
        refine fx_p rfl (em_lucky _ M3 S L (l + 1) (N + l) fg _ (by omega) (by omega) (hR.kx f3) f1 (stQ_ok hσ (by omega) q)) ?_
        repeat refine fx_n rfl ?_
        rw [nI_add, nI_1]
        refine child q M3 _ (by omega) hok (hgo q) f1 (by rw [f2.2.1 0 (by omega)]; exact hp1) f3 (fun M4 x7 g1 g2 => ?_)
        have g3 : bel l (l + 1) M1 M4 := f2.tr g1
        have r4 := res M4 x7 ⟨fun q hq => ⟨(g3.1 q hq).1.trans (hB.1 q hq).1, (g3.1 q hq).2.trans (hB.1 q hq).2⟩, fun q hq => (g3.2.1 q (by omega)).trans (hB.2.1 q hq), fun q hq => (g3.2.2 q hq).trans (hB.2.2 q hq)⟩ g2 ((g3.2.1 l (by omega)).trans h43)
        rw [goF_t hok] at r4
        exact r4
      cases q with
      | zero =>
        refine fx_bt rfl rfl ?_
        exact rest M2 d1 b2 (hK.tr k2)
      | succ k =>
        refine fx_bf rfl (nI_ne_m1 (by omega)) ?_
        have h43k : M2 43 l = nI k := by rw [e43]; exact h43
        repeat refine fx_n rfl ?_
        refine fx_g rfl (ix_nI (by omega) (by omega)) ?_
        rw [nI_cl (by omega), h43k]
        repeat refine fx_n rfl ?_
        refine fx_g rfl (by decide) ?_
        rw [div8 (by omega)]
        repeat refine fx_n rfl ?_
        refine fx_g rfl (ix_nI (by omega) (by omega)) ?_
        rw [nI_cl (by omega), h43k]
        repeat refine fx_n rfl ?_
        refine fx_g rfl (by decide) ?_
        rw [rem8 (by omega), nI_1, nn_nI, nI_add]
        refine fx_g rfl (ix_nI (by omega) (by omega)) ?_
        rw [nI_cl (by omega)]
        repeat refine fx_n rfl ?_
        refine fx_g rfl (ix_nI (by omega) (by omega)) ?_
        rw [nI_cl (by omega), up_k (by omega), h43k]
        repeat refine fx_n rfl ?_
        refine fx_g rfl (by decide) ?_
        rw [div8 (by omega), nI_1, nn_nI]
        repeat refine fx_n rfl ?_
        rw [nI_add, nI_add]
        refine fx_g rfl (ix_nI (by omega) (by omega)) ?_
        rw [nI_cl (by omega)]
        refine rest _ (fun s hs => ?_) ⟨fun q hq => ?_, fun q hq => ?_, fun q hq => ?_⟩ (((hK.tr k2).up (by omega)).up (by omega))
        · simp only [stQ, stP]
          by_cases e : s = k / 8
          · rw [e, uO_s, uO_s]
            exact ⟨by rw [up_k (by omega), up_s]; rfl, by rw [up_s]; rfl⟩
          · rw [uO_n e, uO_n e, up_k (by omega), up_j (by omega), up_j (by omega), up_k (by omega)]
            exact d1 s hs
        · rw [up_k (by omega), up_j (by omega), up_j (by omega), up_k (by omega)]; exact d2 q hq
        · rw [up_k (by omega), up_k (by omega), e43]
        · rw [up_k (by omega), up_k (by omega), e44]
set_option maxRecDepth 100000 in
set_option maxHeartbeats 4000000 in
theorem em_leaf (d : Nat) (M3 : sy_Mm) (N n l v : Nat) (w p : Int32) (b : Option Nat × Int32) (K : Option Value → sy_Mm → Prop) (hn : n ≤ 3) (hln : l + 1 = n) (hv : v ≤ 24) (hb : ∀ x, b.1 = some x → x ≤ 24) (hp : M3 43 0 = p) (k : Fx (d + 3) i_X8_letsOf 34 [some (.ref 30), some (.int (nI N)), some (.int (nI n)), some (.int w), some (.int (oI (upB b v p).1)), some (.int (upB b v p).2), some (.int (nI l)), some (.int (nI v))] [.int (nI l)] M3 K) : Fx (d + 3) i_X8_letsOf 212 [some (.ref 30), some (.int (nI N)), some (.int (nI n)), some (.int w), some (.int (oI b.1)), some (.int b.2), some (.int (nI l)), some (.int (nI v))] [.int (nI n), .int (nI (l + 1))] M3 K := by
  subst hln
  refine fx_bf rfl (fun z => z rfl) ?_
  repeat refine fx_n rfl ?_
  obtain ⟨b1, b2⟩ := b
  have win : ¬ nI v ≤ oI b1 → upB (b1, b2) v p = (some v, p) → Fx (d + 3) i_X8_letsOf 219 [some (.ref 30), some (.int (nI N)), some (.int (nI (l + 1))), some (.int w), some (.int (oI ((b1, b2) : Option Nat × Int32).1)), some (.int ((b1, b2) : Option Nat × Int32).2), some (.int (nI l)), some (.int (nI v))] [.int (oI b1), .int (nI v)] M3 K := by
    intro hlt e
    rw [e] at k
    refine fx_bf rfl hlt ?_
    repeat refine fx_n rfl ?_
    refine fx_g rfl (by decide) ?_
    rw [show (M3 43 (Int32.toNatClampNeg 0) : Int32) = p from hp]
    repeat refine fx_n rfl ?_
    refine fx_bf rfl hlt ?_
    repeat refine fx_n rfl ?_
    exact k
  have lose : nI v ≤ oI b1 → upB (b1, b2) v p = (b1, b2) → Fx (d + 3) i_X8_letsOf 219 [some (.ref 30), some (.int (nI N)), some (.int (nI (l + 1))), some (.int w), some (.int (oI ((b1, b2) : Option Nat × Int32).1)), some (.int ((b1, b2) : Option Nat × Int32).2), some (.int (nI l)), some (.int (nI v))] [.int (oI b1), .int (nI v)] M3 K := by
    intro hle e
    rw [e] at k
    refine fx_bt rfl hle ?_
    repeat refine fx_n rfl ?_
    refine fx_bt rfl hle ?_
    repeat refine fx_n rfl ?_
    exact k
  cases b1 with
  | none => exact win (gt_m1 (by omega)) rfl
  | some x =>
    have hx := hb x rfl
    by_cases hq : x < v
    · exact win (nI_ge hq (by omega)) (by simp only [upB]; rw [if_pos hq])
    · exact lose (nI_le (by omega) (by omega)) (by simp only [upB]; rw [if_neg hq])
set_option maxRecDepth 100000 in
set_option maxHeartbeats 4000000 in
theorem em_lvl (d : Nat) (M0 : sy_Mm) (S L N n : Nat) (fg : Nat → Bool) (w : Int32) (K : Option Value → sy_Mm → Prop) (hR : lrM M0 S L fg) (hn : n ≤ 3) (hN : N ≤ 199) : ∀ (m l : Nat) (M : sy_Mm) (T : Nat) (p : Int32) (σ : St) (b0 : Option Nat × Int32) (x7 : Option Value), l + (m + 1) = n → T ≤ 8 * l → (∀ x, b0.1 = some x → x ≤ 24) → stOK σ → lvM M S l σ → M 43 l = -2 → M 44 l = nI T → (l ≠ 0 → M 43 0 = p) → kpX M0 M → (∀ (M4 : sy_Mm) (x7 : Option Value), bel l l M M4 → kpX M0 M4 → Fx (d + 3) i_X8_letsOf 34 [some (.ref 30), some (.int (nI N)), some (.int (nI n)), some (.int w), some (.int (oI (goF (okQ S σ) (fQ S L fg m (N + l) σ) T (fun q => if l = 0 then cI q else p) b0 73).1)), some (.int (goF (okQ S σ) (fQ S L fg m (N + l) σ) T (fun q => if l = 0 then cI q else p) b0 73).2), some (.int (nI l + (-1))), x7] [.int (nI l + (-1))] M4 K) → Fx (d + 3) i_X8_letsOf 34 [some (.ref 30), some (.int (nI N)), some (.int (nI n)), some (.int w), some (.int (oI b0.1)), some (.int b0.2), some (.int (nI l)), x7] [.int (nI l)] M K := by
  intro m
  induction m with
  | zero =>
    intro l M T p σ b0 x7 hlm hT hb0 hσ hv h43 h44 hp hK fin
    refine fx_bf rfl (nI_pos (by omega)) ?_
    repeat refine fx_n rfl ?_
    refine fx_g rfl (ix_nI (by omega) (by omega)) ?_
    rw [nI_cl (by omega), h43]
    repeat refine fx_n rfl ?_
    refine fx_g rfl (ix_nI (by omega) (by omega)) ?_
    rw [nI_cl (by omega)]
    repeat refine fx_n rfl ?_
    refine fx_g rfl (ix_nI (by omega) (by omega)) ?_
    rw [nI_cl (by omega)]
    repeat refine fx_n rfl ?_
    refine em_pos d M0 M S L N n l T 0 fg w p σ b0 K hR hn hlm hN hT hb0 hσ hv h44 hp ?_ fin 73 0 _ x7 (by omega) (bel.rf.up (Nat.le_refl _)) (hK.up (by omega)) up_s
    intro q M3 b hq hok hb c1 c2 c3 k
    have e : fQ S L fg 0 (N + l) σ q = lkN S L fg (stQ σ (N + l) q) (N + l) := by rw [fQ_st]; rfl
    have hle := lkN_le S L fg (stQ σ (N + l) q) (N + l)
    rw [e] at k
    exact em_leaf d M3 N n l _ w _ b K hn (by omega) (by omega) hb c2 (k M3 _ bel.rf c3)
  | succ m ih =>
    intro l M T p σ b0 x7 hlm hT hb0 hσ hv h43 h44 hp hK fin
    refine fx_bf rfl (nI_pos (by omega)) ?_
    repeat refine fx_n rfl ?_
    refine fx_g rfl (ix_nI (by omega) (by omega)) ?_
    rw [nI_cl (by omega), h43]
    repeat refine fx_n rfl ?_
    refine fx_g rfl (ix_nI (by omega) (by omega)) ?_
    rw [nI_cl (by omega)]
    repeat refine fx_n rfl ?_
    refine fx_g rfl (ix_nI (by omega) (by omega)) ?_
    rw [nI_cl (by omega)]
    repeat refine fx_n rfl ?_
    refine em_pos d M0 M S L N n l T (m + 1) fg w p σ b0 K hR hn hlm hN hT hb0 hσ hv h44 hp ?_ fin 73 0 _ x7 (by omega) (bel.rf.up (Nat.le_refl _)) (hK.up (by omega)) up_s
    intro q M3 b hq hok hb c1 c2 c3 k
    have hle := lkN_le S L fg (stQ σ (N + l) q) (N + l)
    refine fx_bt rfl (fun z => by have := (nI_eq (by omega) (by omega)).mp z; omega) ?_
    repeat refine fx_n rfl ?_
    rw [nI_1]
    refine fx_g rfl (ix_nI (by omega) (by omega)) ?_
    rw [nI_cl (by omega)]
    repeat refine fx_n rfl ?_
    refine fx_g rfl (ix_nI (by omega) (by omega)) ?_
    rw [nI_cl (by omega)]
    repeat refine fx_n rfl ?_
    refine ih (l + 1) _ (T + lkN S L fg (stQ σ (N + l) q) (N + l)) (if l = 0 then cI q else p) (stQ σ (N + l) q) b _ (by omega) (by omega) hb (stQ_ok hσ (by omega) q) (fun s hs => ?_) ?_ up_s (fun _ => ?_) ((c3.up (by omega)).up (by omega)) (fun M4 x7 g1 g2 => ?_)
    · rw [up_k (by omega), up_k (by omega), up_k (by omega), up_k (by omega)]; exact c1 s hs
    · rw [up_k (by omega), up_s]
    · rw [up_k (by omega), up_j (by omega)]; exact c2
    · have k4 := k M4 x7 ⟨fun q hq => ?_, fun q hq => ?_, fun q hq => ?_⟩ g2
      · rw [show nI (l + 1) + (-1) = nI l from pk_m1 l]
        rw [show (fun q_1 => if l + 1 = 0 then cI q_1 else if l = 0 then cI q else p) = (fun _ => if l = 0 then cI q else p) from funext fun _ => if_neg (by omega)]
        rw [goF_c, BB_72 _ _ _ _ _ _ hR.1, ← VV_s, show T + lkN S L fg (stQ σ (N + l) q) (N + l) + VV S L fg (m + 1) (N + (l + 1)) (stQ σ (N + l) q) = T + fQ S L fg (m + 1) (N + l) σ q by rw [fQ_st, Nat.add_assoc]; rfl]
        exact k4
      · have := g1.1 q (by omega)
        rw [up_k (by omega), up_k (by omega), up_k (by omega), up_k (by omega)] at this
        exact this
      · have := g1.2.1 q (by omega)
        rw [up_k (by omega), up_j (by omega)] at this
        exact this
      · have := g1.2.2 q (by omega)
        rw [up_j (by omega), up_k (by omega)] at this
        exact this
