/-! ===== fitting, as the reference answers it ===== -/
def kpX (M N : sy_Mm) : Prop := (∀ k, k ≠ 30 → k ≠ 38 → k ≠ 39 → k ≠ 40 → k ≠ 42 → k ≠ 43 → k ≠ 44 → N k = M k) ∧ ∀ j, j ≠ 17 → j ≠ 18 → j ≠ 19 → N 30 j = M 30 j
theorem kpX.rf {M : sy_Mm} : kpX M M := ⟨fun _ _ _ _ _ _ _ _ => rfl, fun _ _ _ _ => rfl⟩
theorem kpX.tr {M N K : sy_Mm} (h : kpX M N) (g : kpX N K) : kpX M K := ⟨fun k a b c d e f i => (g.1 k a b c d e f i).trans (h.1 k a b c d e f i), fun j a b c => (g.2 j a b c).trans (h.2 j a b c)⟩
theorem kpM.x {M N : sy_Mm} (h : kpM M N) : kpX M N := ⟨fun k a b c d _ _ _ => h.1 k a b c d, h.2⟩
theorem kpX.up {M N : sy_Mm} (h : kpX M N) {k j : Nat} {x : Int32} (hk : k = 38 ∨ k = 39 ∨ k = 40 ∨ k = 42 ∨ k = 43 ∨ k = 44) : kpX M (sy_up N k j x) := ⟨fun q a b c d e f i => by rw [up_k (by omega)]; exact h.1 q a b c d e f i, fun i a b c => by rw [up_k (by omega)]; exact h.2 i a b c⟩
theorem kpX.q {M N : sy_Mm} (h : kpX M N) : kq M N := by
  intro k j q
  unfold dead at q
  by_cases h9 : k = 30
  · subst h9
    exact h.2 j (by omega) (by omega) (by omega)
  · rw [h.1 k h9 (by omega) (by omega) (by omega) (by omega) (by omega) (by omega)]
theorem ctM.kx {M N : sy_Mm} {E : Evs} {ne S L : Nat} {h0 : Nat → Nat} {fg : Nat → Bool} (h : ctM M E ne S L h0 fg) (k : kpX M N) : ctM N E ne S L h0 fg := by
  obtain ⟨a1, a2, a3, a4, a5, a6, a7, a8, a9⟩ := h
  have k1 := k.1 36 (by omega) (by omega) (by omega) (by omega) (by omega) (by omega) (by omega)
  have k2 := k.1 37 (by omega) (by omega) (by omega) (by omega) (by omega) (by omega) (by omega)
  refine ⟨a1, ⟨by rw [k.2 12 (by omega) (by omega) (by omega)]; exact a2.1, by rw [k2]; exact a2.2⟩, a3, by rw [k.2 8 (by omega) (by omega) (by omega)]; exact a4, by rw [k.2 11 (by omega) (by omega) (by omega)]; exact a5, a6, by rw [k1]; exact a7, a8, by rw [k.2 10 (by omega) (by omega) (by omega)]; exact a9⟩
theorem bkM.kx {M N : sy_Mm} {B : Evs} {nb : Nat} (h : bkM M B nb) (k : kpX M N) : bkM N B nb := by
  unfold bkM
  rw [k.2 20 (by omega) (by omega) (by omega), k.1 41 (by omega) (by omega) (by omega) (by omega) (by omega) (by omega) (by omega)]
  exact h
theorem bkM.kk {M N : sy_Mm} {B : Evs} {nb : Nat} (h : bkM M B nb) (k : kq M N) : bkM N B nb := by
  unfold bkM
  rw [k 30 20 (by unfold dead; omega), k.row 41 (fun j => by unfold dead; omega)]
  exact h
theorem lkM.cg {M N : sy_Mm} {S L : Nat} {fg : Nat → Bool} {ow si : Nat → Option Nat} (h : lkM M S L fg ow si) (r30 : N 30 = M 30) (r38 : N 38 = M 38) (r39 : N 39 = M 39) : lkM N S L fg ow si := by
  unfold lkM; rw [r30, r38, r39]; exact h
set_option maxRecDepth 100000 in
set_option maxHeartbeats 4000000 in
theorem em_fitL (d : Nat) (M0 : sy_Mm) (S L : Nat) (fg : Nat → Bool) (ow si : Nat → Option Nat) (b h N : Nat) (w : Int32) (hb : b < 8) (hh : h < 8) (hN : N ≤ 299) (hK : lkM M0 S L fg ow si) (h41 : M0 41 (3 * b) = nI h) (h42 : M0 41 (3 * b + 1) = nI N) (K : Option Value → sy_Mm → Prop) (k : ∀ M3 : sy_Mm, M3 42 b = nI (bN (fun s => decide (ow s = some h) && lk1 L N (si s)) S) → (∀ k, k ≠ 42 → M3 k = M0 k) → (∀ q, q ≠ b → M3 42 q = M0 42 q) → Fx (d + 3) i_X8_fittingOf 7 [some (.ref 30), some (.int w), some (.int (nI (b + 1))), some (.int (nI S)), none, none, none, none, none, none] [.int (M3 30 20), .int (nI (b + 1))] M3 K) :
    ∀ (j s : Nat) (M2 : sy_Mm), s + j = S → M2 42 b = nI (bN (fun s => decide (ow s = some h) && lk1 L N (si s)) s) → (∀ k, k ≠ 42 → M2 k = M0 k) → (∀ q, q ≠ b → M2 42 q = M0 42 q) → Fx (d + 3) i_X8_fittingOf 39 [some (.ref 30), some (.int w), some (.int (nI b)), some (.int (nI s)), none, none, none, none, none, none] [.int (M2 30 8), .int (nI s)] M2 K := by
  obtain ⟨hS, h8, hL, h11, h10, hO, hT, hw8, ht⟩ := id hK
  intro j
  induction j with
  | zero =>
    intro s M2 hs m1 m2 m3
    have e : s = S := by omega
    subst e
    refine fx_bt rfl (by rw [m2 30 (by omega), h8]; exact nI_le (Nat.le_refl _) (by omega)) ?_
    repeat refine fx_n rfl ?_
    rw [nI_1]
    exact k M2 m1 m2 m3
  | succ j ih =>
    intro s M2 hs m1 m2 m3
    have hb' : ∀ k, ow s = some k → k < 2 ^ 31 := fun k hk => by have := hw8 _ _ hk; omega
    have hK2 : lkM M2 S L fg ow si := hK.cg (m2 30 (by omega)) (m2 38 (by omega)) (m2 39 (by omega))
    have i2 : ∀ v : Int32, v = nI (bN (fun s => decide (ow s = some h) && lk1 L N (si s)) (s + 1)) → _ := fun v hv => ih (s + 1) (sy_up M2 42 b v) (by omega) (by rw [up_s]; exact hv) (fun k hk => by rw [up_k hk]; exact m2 k hk) (fun q hq => by rw [up_j hq]; exact m3 q hq)
    refine fx_bf rfl (by rw [m2 30 (by omega), h8]; exact nI_ge (by omega) (by omega)) ?_
    repeat refine fx_n rfl ?_
    refine fx_g rfl (ix_nI (by omega) (by omega)) ?_
    rw [nI_cl (by omega), m1]
    repeat refine fx_n rfl ?_
    refine fx_g rfl (ix_nI (by omega) (by omega)) ?_
    rw [nI_cl (by omega), m2 38 (by omega), hO s (by omega)]
    repeat refine fx_n rfl ?_
    rw [th_nI]
    refine fx_g rfl (ix_nI (by omega) (by omega)) ?_
    rw [nI_cl (by omega), m2 41 (by omega), h41]
    by_cases ho : ow s = some h
    · refine fx_bf rfl (fun z => z ((oI_s hb' (by omega)).mpr ho)) ?_
      repeat refine fx_n rfl ?_
      rw [th_nI, nI_1]
      refine fx_g rfl (ix_nI (by omega) (by omega)) ?_
      rw [nI_cl (by omega), m2 41 (by omega), h42]
      refine fx_p rfl (em_leftAt _ _ S L N s fg ow si (by omega) (by omega) hK2) ?_
      have hlf : lfS L N (si s) < 2 ^ 31 := by
        cases hq : si s with
        | none => simp [lfS]
        | some t => have := ht s t hq; simp only [lfS]; omega
      by_cases h0 : 0 < lfS L N (si s)
      · have hl : lk1 L N (si s) = true := by rw [← lf_lk]; exact decide_eq_true h0
        refine fx_bf rfl (nI_nle h0 hlf) ?_
        repeat refine fx_n rfl ?_
        refine fx_g rfl (ix_nI (by omega) (by omega)) ?_
        rw [nI_cl (by omega)]
        repeat refine fx_n rfl ?_
        rw [nI_1]
        exact i2 _ (bN_step (fun s => decide (ow s = some h) && lk1 L N (si s)) (by omega) (by simp [ho, hl]))
      · have hl : lk1 L N (si s) = false := by rw [← lf_lk]; exact decide_eq_false h0
        refine fx_bt rfl (by rw [show lfS L N (si s) = 0 by omega]; decide) ?_
        repeat refine fx_n rfl ?_
        refine fx_g rfl (ix_nI (by omega) (by omega)) ?_
        rw [nI_cl (by omega)]
        repeat refine fx_n rfl ?_
        rw [nI_1]
        exact i2 _ (by rw [Int32.or_zero, bN_skip (fun s => decide (ow s = some h) && lk1 L N (si s)) (by simp [hl])])
    · refine fx_bt rfl (fun z => ho ((oI_s hb' (by omega)).mp z)) ?_
      repeat refine fx_n rfl ?_
      refine fx_g rfl (ix_nI (by omega) (by omega)) ?_
      rw [nI_cl (by omega)]
      repeat refine fx_n rfl ?_
      rw [nI_1]
      exact i2 _ (by rw [Int32.or_zero, bN_skip (fun s => decide (ow s = some h) && lk1 L N (si s)) (by simp [ho])])
set_option maxRecDepth 100000 in
set_option maxHeartbeats 4000000 in
theorem em_fittingOf (d : Nat) (M : sy_Mm) (E : Evs) (ne S L : Nat) (h0 : Nat → Nat) (fg : Nat → Bool) (B : Evs) (nb : Nat) (w : Int32) (hC : ctM M E ne S L h0 fg) (hB : bkM M B nb) : Ex (d + 3) i_X8_fittingOf [.ref 30, .int w] M (fun r N => r = some (.int (ftS (fiT S L h0 E ne B nb) w)) ∧ kpX M N) := by
  have hS := hC.2.2.1
  have hpw := pow_9 hS
  have inner : ∀ (M1 : sy_Mm) (x : Nat) (a3 a4 a5 a6 : Int32) (K : Option Value → sy_Mm → Prop), bkM M1 B nb → (∀ q, q < nb → M1 42 q = nI (wdS S L h0 E ne B q)) → (Fx (d + 3) i_X8_fittingOf 202 [some (.ref 30), some (.int w), some (.int (nI (2 ^ S - 1))), some (.int a3), some (.int a4), some (.int a5), some (.int a6), some (.int (nI x)), some (.int (zb (alB (fpB S L h0 E ne B x) nb))), some (.int (nI nb))] [.int (zb (alB (fpB S L h0 E ne B x) nb))] M1 K) → ∀ (j b : Nat), b + j = nb → Fx (d + 3) i_X8_fittingOf 146 [some (.ref 30), some (.int w), some (.int (nI (2 ^ S - 1))), some (.int a3), some (.int a4), some (.int a5), some (.int a6), some (.int (nI x)), some (.int (zb (alB (fpB S L h0 E ne B x) b))), some (.int (nI b))] [.int (M1 30 20), .int (nI b)] M1 K := by
    intro M1 x a3 a4 a5 a6 K hB1 h42 k j
    obtain ⟨b1, b2, b3⟩ := hB1
    induction j with
    | zero =>
      intro b hb
      have e : b = nb := by omega
      subst e
      refine fx_bt rfl (by rw [b2]; exact nI_le (Nat.le_refl _) (by omega)) ?_
      repeat refine fx_n rfl ?_
      exact k
    | succ j ih =>
      intro b hb
      obtain ⟨⟨l1, l2, l3⟩, c1⟩ := b3 b (by omega)
      have i2 := ih (b + 1) (by omega)
      refine fx_bf rfl (by rw [b2]; exact nI_ge (by omega) (by omega)) ?_
      repeat refine fx_n rfl ?_
      cases hf : alB (fpB S L h0 E ne B x) b with
      | false =>
        rw [show alB (fpB S L h0 E ne B x) (b + 1) = false by unfold alB; rw [hf]; rfl] at i2
        refine fx_bt rfl (by decide) ?_
        repeat refine fx_n rfl ?_
        rw [nI_1]
        exact i2
      | true =>
        rw [show alB (fpB S L h0 E ne B x) (b + 1) = fpB S L h0 E ne B x b by unfold alB; rw [hf]; rfl] at i2
        refine fx_bf rfl (by decide) ?_
        repeat refine fx_n rfl ?_
        refine fx_g rfl (ix_nI (by omega) (by omega)) ?_
        rw [nI_cl (by omega), h42 b (by omega)]
        repeat refine fx_n rfl ?_
        refine fx_p rfl (em_onesA _ _ (show wdS S L h0 E ne B b < 512 from bN_9 _ hS) _) ?_
        repeat refine fx_n rfl ?_
        rw [egg_nI, th_nI, nI_p2]
        refine fx_g rfl (ix_nI (by omega) (by omega)) ?_
        rw [nI_cl (by omega), c1 2 (by omega)]
        have hp : pcA (wdS S L h0 E ne B b) (nI x ^^^ (-1)) ≤ 9 := pcn_le _
        by_cases q : 1 + 2 * pcA (wdS S L h0 E ne B b) (nI x ^^^ (-1)) = B b 2
        · rw [show fpB S L h0 E ne B x b = true from decide_eq_true q] at i2
          refine fx_bf rfl (fun z => z (by rw [q])) ?_
          repeat refine fx_n rfl ?_
          rw [nI_1]
          exact i2
        · rw [show fpB S L h0 E ne B x b = false from decide_eq_false q] at i2
          refine fx_bt rfl (fun z => q ((nI_eq (by omega) (by omega)).mp z)) ?_
          repeat refine fx_n rfl ?_
          rw [nI_1]
          exact i2
  have loop2 : ∀ (M1 : sy_Mm), kpX M M1 → bkM M1 B nb → (∀ q, q < nb → M1 42 q = nI (wdS S L h0 E ne B q)) → ∀ (j x : Nat) (x8 x9 : Option Value), x + j = 2 ^ S → Fx (d + 3) i_X8_fittingOf 131 [some (.ref 30), some (.int w), some (.int (nI (2 ^ S - 1))), some (.int (nI (fsS (fun x => alB (fpB S L h0 E ne B x) nb) (nI (2 ^ S - 1)) x).1)), some (.int (fsS (fun x => alB (fpB S L h0 E ne B x) nb) (nI (2 ^ S - 1)) x).2.1), some (.int (fsS (fun x => alB (fpB S L h0 E ne B x) nb) (nI (2 ^ S - 1)) x).2.2.1), some (.int (fsS (fun x => alB (fpB S L h0 E ne B x) nb) (nI (2 ^ S - 1)) x).2.2.2), some (.int (nI x)), x8, x9] [.int (nI (2 ^ S - 1)), .int (nI x)] M1 (fun r N => r = some (.int (ftS (fiT S L h0 E ne B nb) w)) ∧ kpX M N) := by
    intro M1 hK hB1 h42 j
    induction j with
    | zero =>
      intro x x8 x9 hx
      have e : x = 2 ^ S := by omega
      subst e
      refine fx_bt rfl (nI_lt (by omega) (by omega)) ?_
      have ok : (fiT S L h0 E ne B nb).1 ≤ 2 ^ S := (fsS_ok (fun x => alB (fpB S L h0 E ne B x) nb) (nI (2 ^ S - 1)) (2 ^ S) (by omega)).1
      rw [show fsS (fun x => alB (fpB S L h0 E ne B x) nb) (nI (2 ^ S - 1)) (2 ^ S) = fiT S L h0 E ne B nb from rfl]
      generalize fiT S L h0 E ne B nb = q at ok ⊢
      repeat refine fx_n rfl ?_
      unfold ftS
      by_cases w0 : w = 0
      · refine fx_bf rfl (fun z => z w0) ?_
        repeat refine fx_n rfl ?_
        refine fx_r rfl rfl ⟨?_, hK⟩
        rw [if_pos w0]
      · refine fx_bt rfl w0 ?_
        rw [if_neg w0]
        repeat refine fx_n rfl ?_
        by_cases hq : q.1 = 0
        · refine fx_bf rfl (fun z => z (by rw [hq]; rfl)) ?_
          repeat refine fx_n rfl ?_
          refine fx_r rfl rfl ⟨?_, hK⟩
          rw [if_pos hq]
        · refine fx_bt rfl (nI_ne0 (by omega) (by omega)) ?_
          rw [if_neg hq]
          repeat refine fx_n rfl ?_
          by_cases w1 : w = 1
          · refine fx_bf rfl (fun z => z w1) ?_
            repeat refine fx_n rfl ?_
            refine fx_r rfl rfl ⟨?_, hK⟩
            rw [if_pos w1]
          · refine fx_bt rfl w1 ?_
            rw [if_neg w1]
            repeat refine fx_n rfl ?_
            by_cases w2 : w = 2
            · refine fx_bf rfl (fun z => z w2) ?_
              repeat refine fx_n rfl ?_
              refine fx_r rfl rfl ⟨?_, hK⟩
              rw [if_pos w2]
            · refine fx_bt rfl w2 ?_
              rw [if_neg w2]
              repeat refine fx_n rfl ?_
              exact fx_r rfl rfl ⟨rfl, hK⟩
    | succ j ih =>
      intro x x8 x9 hx
      refine fx_bf rfl (nI_nlt (by omega) (by omega)) ?_
      repeat refine fx_n rfl ?_
      refine inner M1 x _ _ _ _ _ hB1 h42 ?_ nb 0 (by omega)
      have ok := fsS_ok (fun x => alB (fpB S L h0 E ne B x) nb) (nI (2 ^ S - 1)) x (by omega)
      cases hf : alB (fpB S L h0 E ne B x) nb with
      | false =>
        have i2 := ih (x + 1) (some (.int (zb false))) (some (.int (nI nb))) (by omega)
        rw [fsS_f (fit := fun x => alB (fpB S L h0 E ne B x) nb) (x := x) hf] at i2
        refine fx_bt rfl (by decide) ?_
        repeat refine fx_n rfl ?_
        rw [nI_1]
        exact i2
      | true =>
        have i2 := ih (x + 1) (some (.int (zb true))) (some (.int (nI nb))) (by omega)
        rw [fsS_t (fit := fun x => alB (fpB S L h0 E ne B x) nb) (x := x) hf] at i2
        generalize fsS (fun x => alB (fpB S L h0 E ne B x) nb) (nI (2 ^ S - 1)) x = q at i2 ok
        refine fx_bf rfl (by decide) ?_
        repeat refine fx_n rfl ?_
        by_cases hq : q.1 = 0
        · rw [if_pos hq] at i2
          refine fx_bf rfl (fun z => z (ok.2.mp hq)) ?_
          repeat refine fx_n rfl ?_
          rw [nI_1, nI_1]
          exact i2
        · rw [if_neg hq] at i2
          refine fx_bt rfl (fun z => hq (ok.2.mpr z)) ?_
          repeat refine fx_n rfl ?_
          rw [nI_1, nI_1]
          exact i2
  have loop1 : ∀ (j b : Nat) (x3 : Option Value) (M1 : sy_Mm), b + j = nb → kpX M M1 → (∀ q, q < b → M1 42 q = nI (wdS S L h0 E ne B q)) → Fx (d + 3) i_X8_fittingOf 7 [some (.ref 30), some (.int w), some (.int (nI b)), x3, none, none, none, none, none, none] [.int (M1 30 20), .int (nI b)] M1 (fun r N => r = some (.int (ftS (fiT S L h0 E ne B nb) w)) ∧ kpX M N) := by
    intro j
    induction j with
    | zero =>
      intro b x3 M1 hb hK h42
      have e : b = nb := by omega
      subst e
      obtain ⟨b1, b2, b3⟩ := id (hB.kx hK)
      have c8 : M1 30 8 = nI S := (hC.kx hK).2.2.2.1
      refine fx_bt rfl (by rw [b2]; exact nI_le (Nat.le_refl _) (by omega)) ?_
      repeat refine fx_n rfl ?_
      rw [c8, sh_all S (by omega)]
      exact loop2 M1 hK (hB.kx hK) h42 (2 ^ S) 0 none none (by omega)
    | succ j ih =>
      intro b x3 M1 hb hK h42
      obtain ⟨b1, b2, b3⟩ := id (hB.kx hK)
      obtain ⟨⟨l1, l2, l3⟩, c1⟩ := b3 b (by omega)
      refine fx_bf rfl (by rw [b2]; exact nI_ge (by omega) (by omega)) ?_
      repeat refine fx_n rfl ?_
      rw [th_nI, nI_1]
      refine fx_g rfl (ix_nI (by omega) (by omega)) ?_
      rw [nI_cl (by omega), c1 1 (by omega)]
      repeat refine fx_n rfl ?_
      refine fx_c rfl (em_goes _ M1 E ne S L (B b 1) h0 fg none (by omega) (fun _ q => by cases q) (hC.kx hK)) ?_
      rintro _ M2 ⟨rfl, d1, d2⟩
      have e41 : M2 41 = M1 41 := d2.1 41 (by omega) (by omega) (by omega) (by omega)
      have e42 : M2 42 = M1 42 := d2.1 42 (by omega) (by omega) (by omega) (by omega)
      repeat refine fx_n rfl ?_
      refine fx_g rfl (ix_nI (by omega) (by omega)) ?_
      rw [nI_cl (by omega)]
      repeat refine fx_n rfl ?_
      refine em_fitL d (sy_up M2 42 b 0) S L fg _ _ b (B b 0) (B b 1) w (by omega) l1 l2 (d1.lk.cg (up_k (by omega)) (up_k (by omega)) (up_k (by omega))) (by rw [up_k (by omega), e41]; exact c1 0 (by omega)) (by rw [up_k (by omega), e41]; exact c1 1 (by omega)) _ (fun M3 m1 m2 m3 => ?_) S 0 _ (by omega) up_s (fun _ _ => rfl) (fun _ _ => rfl)
      have k3 : kpX M M3 := by
        refine ⟨fun k a1 a2 a3 a4 a5 a6 a7 => ?_, fun j a1 a2 a3 => ?_⟩
        · rw [m2 k a5, up_k a5, d2.1 k a1 a2 a3 a4]; exact hK.1 k a1 a2 a3 a4 a5 a6 a7
        · rw [m2 30 (by omega), up_k (by omega), d2.2 j a1 a2 a3]; exact hK.2 j a1 a2 a3
      refine ih (b + 1) _ M3 (by omega) k3 (fun q hq => ?_)
      by_cases e : q = b
      · rw [e, m1]; rfl
      · rw [m3 q e, up_j e, e42]; exact h42 q (by omega)
  unfold Ex
  repeat refine fx_n rfl ?_
  exact loop1 nb 0 none M (by omega) kpX.rf (fun q hq => by omega)
set_option maxRecDepth 100000 in
set_option maxHeartbeats 4000000 in
theorem ag_fitting {M : sy_Mm} (h : Inv M) (w : Int32) : AG i_X7_fitting i_X8_fitting [.int w] M := by
  intro d
  obtain ⟨n, E, ne, L, B, nb, G, F, h1, h2, h3, h4, h5, h6, h7⟩ := id h
  refine fx_w (ex_fitting _ M E ne _ L _ _ B nb w (inv_ctC h1 h2 h3) h4.c) ?_
  rintro _ N ⟨rfl, k⟩
  have e2 : N 2 = M 2 := k.row 2 (fun j => by unfold dead; omega)
  refine ⟨⟨_, rfl⟩, ?_⟩
  have hI1 := h.kp k
  unfold Ex
  repeat refine fx_n rfl ?_
  refine fx_c rfl (em_reads' _ (h1.kp k)) ?_
  rintro _ N1 ⟨rfl, hr⟩
  have hC := inv_ctM (h1.kp k) (h2.kp k) (h3.kp k) hr
  rw [e2] at hC
  have hI2 := hI1.kp hr.q
  repeat refine fx_n rfl ?_
  refine fx_p rfl (em_ir _ _ _ _ _ 0 3 rfl rfl) (fx_ze rfl (fun g => by ((repeat refine fx_n rfl ?_); exact fx_r rfl rfl ⟨by simp [g, zb_f], hI2⟩)) (fun g => ?_))
  rw [g]
  repeat refine fx_n rfl ?_
  refine fx_c rfl (em_fittingOf _ N1 E ne _ L _ _ B nb w hC ((h4.kp k).kp hr.q).m) ?_
  rintro _ N2 ⟨rfl, c2⟩
  repeat refine fx_n rfl ?_
  exact fx_r rfl rfl ⟨rfl, hI2.kp c2.q⟩
