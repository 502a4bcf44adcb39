def dayN (hs : Nat → Bool) (S L : Nat) (h0 : Nat → Nat) (fg : Nat → Bool) (E : Evs) (aside : Option Nat) (ne N : Nat) : Nat := cnB (fun h => hs h && anyL (yF S h0 E aside N ne).1 (yF S h0 E aside N ne).2.1 L N fg S h) 8
def dayS (f : Nat → Nat) (a : Nat) : Nat → Nat
  | 0 => 0
  | j + 1 => dayS f a j + f (a + j)
theorem dayS_cons (f : Nat → Nat) (a : Nat) : ∀ j, dayS f a (j + 1) = f a + dayS f (a + 1) j
  | 0 => by simp [dayS]
  | j + 1 => by
    have := dayS_cons f a j
    unfold dayS
    rw [this, show a + (j + 1) = a + 1 + j by omega]
    omega
/-- x, as bits, stands for the houses hs -/
def mskH (x : Int32) (hs : Nat → Bool) : Prop := ∀ q : Nat → Bool, nI (bN q 8) &&& x = nI (bN (fun h => hs h && q h) 8)
theorem msk_all : mskH 255 (fun _ => true) := fun q => by rw [nI_and255 _ (bN_lt q 8)]; rfl
theorem msk_one {h : Nat} (hh : h < 8) : mskH ((1 : Int32) <<< (nI h &&& 31)) (fun x => decide (x = h)) := fun q => by
  rw [nI_and8 _ (bN_lt q 8) h hh, ← bN_one hh, bN_and]
  congr 1
  exact bN_congr 8 (fun s _ => Bool.and_comm _ _)
set_option maxRecDepth 100000 in
set_option maxHeartbeats 4000000 in
theorem ex_luckyDays (d : Nat) (M : sy_Mm) (E : Evs) (ne S L a b : Nat) (x : Int32) (hs : Nat → Bool) (h0 : Nat → Nat) (fg : Nat → Bool) (aside : Option Nat) (hb : b ≤ 299) (hab : a ≤ b) (ha : ∀ e, aside = some e → e < 2 ^ 31) (hx : mskH x hs) (hC : ctC M E ne S L h0 fg) : Ex (d + 3) i_X6_luckyDays [.ref 9, .int x, .int (nI a), .int (nI b), .int (oI aside)] M (fun r N => r = some (.int (nI (dayS (dayN hs S L h0 fg E aside ne) a (b + 1 - a)))) ∧ kpY M N) := by
  have loop : ∀ (j N k c : Nat) (M1 : sy_Mm), N + j = b + 1 → ctC M1 E ne S L h0 fg → k ≤ ne → yardC M1 S L (yG S h0 E aside k) → M1 9 7 = nI k → (∀ e, e < k → E e 1 ≤ N) → M1 9 5 = nI (bN (rlB fg) S) → kpY M M1 →
      Fx (d + 3) i_X6_luckyDays 13 [some (.ref 9), some (.int x), some (.int (nI a)), some (.int (nI b)), some (.int (oI aside)), some (.int (nI c)), some (.int (nI N))] [.int (nI b), .int (nI N)] M1 (fun r N' => r = some (.int (nI (c + dayS (dayN hs S L h0 fg E aside ne) N j))) ∧ kpY M N') := by
    intro j
    induction j with
    | zero =>
      intro N k c M1 hN hC1 hk hY h7 hlo h5 hK
      refine fx_bt rfl (nI_lt (by omega) (by omega)) ?_
      repeat refine fx_n rfl ?_
      exact fx_r rfl rfl ⟨rfl, hK⟩
    | succ j ih =>
      intro N k c M1 hN hC1 hk hY h7 hlo h5 hK
      refine fx_bf rfl (nI_nlt (by omega) (by omega)) ?_
      repeat refine fx_n rfl ?_
      refine fx_c rfl (ex_tellTo0 _ M1 E ne S L N k h0 fg aside (by omega) ha hC1 hk hY h7 hlo h5) ?_
      rintro _ M2 ⟨rfl, b1, b2⟩
      repeat refine fx_n rfl ?_
      refine fx_p rfl (ev_luckyHouses _ M2 S L N fg _ _ (by omega) b1.lk) ?_
      repeat refine fx_n rfl ?_
      rw [hx]
      refine fx_p rfl (ev_bitCount _ _ _ (by have := bN_lt (fun h => hs h && anyL (yF S h0 E aside N ne).1 (yF S h0 E aside N ne).2.1 L N fg S h) 8; omega)) ?_
      rw [pcn_bN _ 8 (by omega)]
      repeat refine fx_n rfl ?_
      rw [nI_add, nI_1]
      obtain ⟨c1, c2, c3, k', c4, c5⟩ := b1
      rw [yF_stop c1.1 c4] at c3
      obtain ⟨g1, g2⟩ := yStop_next (N' := N + 1) c4 (by omega)
      have := ih (N + 1) k' (c + dayN hs S L h0 fg E aside ne N) M2 (by omega) c1 g1 c3 c5 g2 c2 (hK.tr b2)
      rw [dayS_cons]
      rw [Nat.add_assoc] at this
      exact this
  unfold Ex
  repeat refine fx_n rfl ?_
  refine fx_c rfl (ex_begin _ M E ne S L h0 fg hC) ?_
  rintro _ M1 ⟨rfl, b1, b2, b3, b4⟩
  repeat refine fx_n rfl ?_
  have := loop (b + 1 - a) a 0 0 M1 (by omega) (hC.kp b4) (by omega) b1 b2 (fun e he => by omega) b3 b4
  rw [Nat.zero_add] at this
  exact this
set_option maxRecDepth 100000 in
set_option maxHeartbeats 4000000 in
theorem ev_luckyIfReal (d : Nat) (M : sy_Mm) (S L N h : Nat) (fg : Nat → Bool) (ow si : Nat → Option Nat) (hN : N ≤ 400) (hh : h < 8) (hK : lkC M S L fg ow si) : Ev d i_X6_luckyIfReal [.ref 9, .int (nI h), .int (nI N)] M (some (.int (nI (bN (fun s => decide (ow s = some h) && lk1 L N (si s)) S)))) M := by
  obtain ⟨hS, h3, hL, h5, hO, h11, hw8, ht⟩ := hK
  have loop : ∀ j s, s + j = S → Fx d i_X6_luckyIfReal 14 [some (.ref 9), some (.int (nI h)), some (.int (nI N)), some (.int (nI (bN (fun s => decide (ow s = some h) && lk1 L N (si s)) s))), some (.int (nI s))] [.int (M 1 3), .int (nI s)] M (fun r M' => r = some (.int (nI (bN (fun s => decide (ow s = some h) && lk1 L N (si s)) S))) ∧ M' = M) := by
    intro j
    induction j with
    | zero =>
      intro s hs
      have e : s = S := by omega
      subst e
      refine fx_bt rfl (by rw [h3]; exact nI_le (Nat.le_refl _) (by omega)) ?_
      repeat refine fx_n rfl ?_
      exact fx_r rfl rfl ⟨rfl, rfl⟩
    | succ j ih =>
      intro s hs
      have i2 := ih (s + 1) (by omega)
      have hb : ∀ k, ow s = some k → k < 2 ^ 31 := fun k hk => by have := hw8 _ _ hk; omega
      have hu := uI_lt (t := si s) hL hN (fun x => ht s x)
      refine fx_bf rfl (by rw [h3]; exact nI_ge (by omega) (by omega)) ?_
      repeat refine fx_n rfl ?_
      refine fx_g rfl (ix_nI (by omega) (by omega)) ?_
      rw [nI_cl (by omega), hO s (by omega)]
      repeat refine fx_n rfl ?_
      by_cases ho : ow s = some h
      · refine fx_bf rfl (fun z => z ((oI_s hb (by omega)).mpr ho)) ?_
        repeat refine fx_n rfl ?_
        refine fx_g rfl (ix_nI (by omega) (by omega)) ?_
        rw [nI_cl (by omega), h11 s (by omega)]
        repeat refine fx_n rfl ?_
        cases hq : lk1 L N (si s) with
        | true =>
          refine fx_bf rfl (hu.mpr hq) ?_
          repeat refine fx_n rfl ?_
          rw [bN_step (fun s => decide (ow s = some h) && lk1 L N (si s)) (by omega) (by simp [ho, hq]), nI_1]
          exact i2
        | false =>
          refine fx_bt rfl (Decidable.byContradiction fun z => by have := hu.mp z; rw [hq] at this; cases this) ?_
          repeat refine fx_n rfl ?_
          rw [bN_skip (fun s => decide (ow s = some h) && lk1 L N (si s)) (by simp [hq])] at i2
          rw [nI_1]
          exact i2
      · refine fx_bt rfl (fun z => ho ((oI_s hb (by omega)).mp z)) ?_
        repeat refine fx_n rfl ?_
        rw [bN_skip (fun s => decide (ow s = some h) && lk1 L N (si s)) (by simp [ho])] at i2
        rw [nI_1]
        exact i2
  refine ev_of ?_
  repeat refine fx_n rfl ?_
  exact loop S 0 (by omega)
