/-! ===== luck, as the class answers it ===== -/
def lk1 (L N : Nat) : Option Nat → Bool
  | none => false
  | some t => decide (N < t + L)
def lkS (L N : Nat) (f : Bool) (t : Option Nat) : Bool := !f && lk1 L N t
/-- the stone s is lucky in the house h -/
def ylk (Y : Yd) (L N : Nat) (fg : Nat → Bool) (h s : Nat) : Bool := decide (Y.1 s = some h) && lkS L N (fg s) (Y.2.1 s)
def cnB (p : Nat → Bool) : Nat → Nat
  | 0 => 0
  | n + 1 => cnB p n + cond (p n) 1 0
theorem cnB_le (p : Nat → Bool) : ∀ n, cnB p n ≤ n
  | 0 => Nat.le_refl _
  | n + 1 => by have := cnB_le p n; unfold cnB; cases p n <;> simp <;> omega
theorem cnB_t {p : Nat → Bool} {n : Nat} (h : p n = true) : cnB p (n + 1) = cnB p n + 1 := by simp [cnB, h]
theorem cnB_f {p : Nat → Bool} {n : Nat} (h : p n = false) : cnB p (n + 1) = cnB p n := by simp [cnB, h]
theorem cnB_congr {p q : Nat → Bool} : ∀ n, (∀ s, s < n → p s = q s) → cnB p n = cnB q n
  | 0, _ => rfl
  | n + 1, h => by
    unfold cnB
    rw [cnB_congr n (fun s hs => h s (by omega)), h n (by omega)]
def ledS (p : Nat → Bool) (th : Nat → Option Nat) (i : Int32) : Nat → Nat → Nat → Int32
  | 0, _, _ => -1
  | j + 1, s, c => cond (p s) (if nI c = i then oI (th s) else ledS p th i j (s + 1) (c + 1)) (ledS p th i j (s + 1) c)
theorem uI_lt {L N : Nat} {t : Option Nat} (hL : L ≤ 99) (hN : N ≤ 400) (ht : ∀ x, t = some x → x < 400) : ¬ uI L t ≤ nI N ↔ lk1 L N t = true := by
  cases t with
  | none =>
    simp only [uI]
    constructor
    · intro h; exact absurd (nI_pos' (by omega)) h
    · intro h; cases h
  | some x =>
    have := ht x rfl
    simp only [uI, lk1, decide_eq_true_eq]
    rw [nI_leI (by omega) (by omega)]
    omega
set_option maxRecDepth 100000 in
set_option maxHeartbeats 4000000 in
theorem ev_isReal (d : Nat) (M : sy_Mm) (S s : Nat) (fg : Nat → Bool) (hS : S ≤ 9) (hs : s < S) (h5 : M 9 5 = nI (bN (rlB fg) S)) : Ev d i_X6_isReal [.ref 9, .int (nI s)] M (some (.int (zb (!fg s)))) M := by
  refine ev_of ?_
  repeat refine fx_n rfl ?_
  rw [h5, bN_sh _ hs hS]
  cases hf : rlB fg s with
  | true =>
    refine fx_bf rfl (by decide) ?_
    repeat refine fx_n rfl ?_
    refine fx_r rfl rfl ⟨?_, rfl⟩
    have : (!fg s) = true := hf
    rw [this]; rfl
  | false =>
    refine fx_bt rfl (by decide) ?_
    repeat refine fx_n rfl ?_
    refine fx_r rfl rfl ⟨?_, rfl⟩
    have : (!fg s) = false := hf
    rw [this]; rfl
set_option maxRecDepth 100000 in
set_option maxHeartbeats 4000000 in
theorem ev_isLucky (d : Nat) (M : sy_Mm) (S L N s : Nat) (fg : Nat → Bool) (si : Nat → Option Nat) (hS : S ≤ 9) (hs : s < S) (hN : N ≤ 400) (hL : L ≤ 99) (h5 : M 9 5 = nI (bN (rlB fg) S)) (h11 : ∀ s, s < S → M 11 s = uI L (si s)) (ht : ∀ s x, si s = some x → x < 400) : Ev (d + 1) i_X6_isLucky [.ref 9, .int (nI s), .int (nI N)] M (some (.int (zb (lkS L N (fg s) (si s))))) M := by
  refine ev_of ?_
  repeat refine fx_n rfl ?_
  refine fx_g rfl (ix_nI (by omega) (by omega)) ?_
  rw [nI_cl (by omega), h11 s hs]
  repeat refine fx_n rfl ?_
  have hu := uI_lt (t := si s) hL hN (fun x => ht s x)
  unfold lkS
  cases hq : lk1 L N (si s) with
  | false =>
    rw [hq] at hu
    refine fx_bt rfl (Decidable.byContradiction fun z => by have := hu.mp z; cases this) ?_
    repeat refine fx_n rfl ?_
    refine fx_r rfl rfl ⟨?_, rfl⟩
    cases fg s <;> rfl
  | true =>
    rw [hq] at hu
    refine fx_bf rfl (hu.mpr rfl) ?_
    repeat refine fx_n rfl ?_
    refine fx_p rfl (ev_isReal _ _ S s fg hS hs h5) ?_
    cases hf : fg s with
    | true =>
      refine fx_bt rfl (by decide) ?_
      repeat refine fx_n rfl ?_
      exact fx_r rfl rfl ⟨rfl, rfl⟩
    | false =>
      refine fx_bf rfl (by decide) ?_
      repeat refine fx_n rfl ?_
      exact fx_r rfl rfl ⟨rfl, rfl⟩
/-- what a question on luck needs of the yard's rows -/
def lkC (M : sy_Mm) (S L : Nat) (fg : Nat → Bool) (ow si : Nat → Option Nat) : Prop := S ≤ 9 ∧ M 1 3 = nI S ∧ L ≤ 99 ∧ M 9 5 = nI (bN (rlB fg) S) ∧ ownC M S ow ∧ (∀ s, s < S → M 11 s = uI L (si s)) ∧ (∀ s h, ow s = some h → h < 8) ∧ ∀ s x, si s = some x → x < 400
theorem yF_ok {S : Nat} {h0 : Nat → Nat} {E : Evs} {aside : Option Nat} {ne N : Nat} (hE : taleOK E ne) (h8 : ∀ s, h0 s < 8) : ∀ k, k ≤ ne → yOK k (yF S h0 E aside N k)
  | 0, _ => ⟨fun s h e => by cases e; exact h8 s, fun s t e => by (cases e), fun s t e => by (cases e), Nat.le_refl _, by simp [yF, y0], fun e q => by (cases q), Nat.le_refl _⟩
  | k + 1, hk => by
    have ih := yF_ok (S := S) (h0 := h0) (aside := aside) (N := N) hE h8 k (by omega)
    unfold yF
    split
    · obtain ⟨h1, h2, h3, h4, h5, h6, h7⟩ := ih
      exact ⟨h1, h2, h3, by omega, h5, h6, by omega⟩
    · exact yTell_ok hE (by omega) ih
theorem atC.lk {M : sy_Mm} {E : Evs} {ne S L : Nat} {h0 : Nat → Nat} {fg : Nat → Bool} {aside : Option Nat} {N : Nat} (h : atC M E ne S L h0 fg aside N) : lkC M S L fg (yF S h0 E aside N ne).1 (yF S h0 E aside N ne).2.1 := by
  obtain ⟨⟨a1, a2, a3, a4, a5, a6, a7, a8, a9⟩, b1, b2, b3⟩ := h
  have hok := yF_ok (S := S) (h0 := h0) (aside := aside) (N := N) a1 a8 ne (Nat.le_refl _)
  exact ⟨a3, a4, a6.2, b1, b2.1, b2.2.1, hok.1, fun s x hx => by have := hok.2.1 s x hx; omega⟩
def lkp (ow si : Nat → Option Nat) (L N : Nat) (fg : Nat → Bool) (h s : Nat) : Bool := decide (ow s = some h) && lkS L N (fg s) (si s)
set_option maxRecDepth 100000 in
set_option maxHeartbeats 4000000 in
theorem ev_luckOf (d : Nat) (M : sy_Mm) (S L N h : Nat) (fg : Nat → Bool) (ow si : Nat → Option Nat) (hN : N ≤ 400) (hh : h < 8) (hK : lkC M S L fg ow si) : Ev (d + 2) i_X6_luckOf [.ref 9, .int (nI h), .int (nI N)] M (some (.int (nI (cnB (lkp ow si L N fg h) S)))) M := by
  obtain ⟨hS, h3, hL, h5, hO, h11, hw8, ht⟩ := hK
  have loop : ∀ j s, s + j = S → Fx (d + 2) i_X6_luckOf 14 [some (.ref 9), some (.int (nI h)), some (.int (nI N)), some (.int (nI (cnB (lkp ow si L N fg h) s))), some (.int (nI s))] [.int (M 1 3), .int (nI s)] M (fun r M' => r = some (.int (nI (cnB (lkp ow si L N fg h) S))) ∧ M' = M) := by
    intro j
    induction j with
    | zero =>
      intro s hs
      have e : s = S := by omega
      subst e
      refine fx_bt rfl (by rw [h3]; exact nI_le (Nat.le_refl _) (by omega)) ?_
      repeat refine fx_n rfl ?_
      exact fx_r rfl rfl ⟨rfl, rfl⟩
    | succ j ih =>
      intro s hs
      have i2 := ih (s + 1) (by omega)
      have hb : ∀ k, ow s = some k → k < 2 ^ 31 := fun k hk => by have := hw8 _ _ hk; omega
      refine fx_bf rfl (by rw [h3]; exact nI_ge (by omega) (by omega)) ?_
      repeat refine fx_n rfl ?_
      refine fx_g rfl (ix_nI (by omega) (by omega)) ?_
      rw [nI_cl (by omega), hO s (by omega)]
      repeat refine fx_n rfl ?_
      by_cases ho : ow s = some h
      · refine fx_bf rfl (fun z => z ((oI_s hb (by omega)).mpr ho)) ?_
        repeat refine fx_n rfl ?_
        refine fx_p rfl (ev_isLucky _ _ S L N s fg si hS (by omega) hN hL h5 h11 ht) ?_
        cases hq : lkS L N (fg s) (si s) with
        | true =>
          refine fx_bf rfl (by decide) ?_
          repeat refine fx_n rfl ?_
          rw [cnB_t (by simp [lkp, ho, hq])] at i2
          rw [nI_1, nI_1]
          exact i2
        | false =>
          refine fx_bt rfl (by decide) ?_
          repeat refine fx_n rfl ?_
          rw [cnB_f (by simp [lkp, ho, hq])] at i2
          rw [nI_1]
          exact i2
      · refine fx_bt rfl (fun z => ho ((oI_s hb (by omega)).mp z)) ?_
        repeat refine fx_n rfl ?_
        rw [cnB_f (by simp [lkp, ho])] at i2
        rw [nI_1]
        exact i2
  refine ev_of ?_
  repeat refine fx_n rfl ?_
  exact loop S 0 (by omega)
theorem egg_nI (c : Nat) : (1 : Int32) + 2 * nI c = nI (1 + 2 * c) := by
  rw [tw_nI, show (1 : Int32) = nI 1 from rfl, nI_add]
set_option maxRecDepth 100000 in
set_option maxHeartbeats 4000000 in
theorem ev_eggsOf (d : Nat) (M : sy_Mm) (S L N h : Nat) (fg : Nat → Bool) (ow si : Nat → Option Nat) (hN : N ≤ 400) (hh : h < 8) (hK : lkC M S L fg ow si) : Ev (d + 3) i_X6_eggsOf [.ref 9, .int (nI h), .int (nI N)] M (some (.int (nI (1 + 2 * cnB (lkp ow si L N fg h) S)))) M := by
  refine ev_of ?_
  repeat refine fx_n rfl ?_
  refine fx_p rfl (ev_luckOf _ _ S L N h fg ow si hN hh hK) ?_
  repeat refine fx_n rfl ?_
  rw [egg_nI]
  exact fx_r rfl rfl ⟨rfl, rfl⟩
set_option maxRecDepth 100000 in
set_option maxHeartbeats 4000000 in
theorem ev_theftBehind (d : Nat) (M : sy_Mm) (S L N h : Nat) (i : Int32) (fg : Nat → Bool) (ow si th : Nat → Option Nat) (hN : N ≤ 400) (hh : h < 8) (hK : lkC M S L fg ow si) (h12 : ∀ s, s < S → M 12 s = oI (th s)) : Ev (d + 2) i_X6_theftBehind [.ref 9, .int (nI h), .int (nI N), .int i] M (some (.int (ledS (lkp ow si L N fg h) th i S 0 0))) M := by
  obtain ⟨hS, h3, hL, h5, hO, h11, hw8, ht⟩ := hK
  have loop : ∀ j s c, s + j = S → Fx (d + 2) i_X6_theftBehind 15 [some (.ref 9), some (.int (nI h)), some (.int (nI N)), some (.int i), some (.int (nI c)), some (.int (nI s))] [.int (M 1 3), .int (nI s)] M (fun r M' => r = some (.int (ledS (lkp ow si L N fg h) th i j s c)) ∧ M' = M) := by
    intro j
    induction j with
    | zero =>
      intro s c hs
      have e : s = S := by omega
      subst e
      refine fx_bt rfl (by rw [h3]; exact nI_le (Nat.le_refl _) (by omega)) ?_
      repeat refine fx_n rfl ?_
      exact fx_r rfl rfl ⟨rfl, rfl⟩
    | succ j ih =>
      intro s c hs
      have i2 := fun c => ih (s + 1) c (by omega)
      have hb : ∀ k, ow s = some k → k < 2 ^ 31 := fun k hk => by have := hw8 _ _ hk; omega
      refine fx_bf rfl (by rw [h3]; exact nI_ge (by omega) (by omega)) ?_
      repeat refine fx_n rfl ?_
      refine fx_g rfl (ix_nI (by omega) (by omega)) ?_
      rw [nI_cl (by omega), hO s (by omega)]
      repeat refine fx_n rfl ?_
      unfold ledS
      by_cases ho : ow s = some h
      · refine fx_bf rfl (fun z => z ((oI_s hb (by omega)).mpr ho)) ?_
        repeat refine fx_n rfl ?_
        refine fx_p rfl (ev_isLucky _ _ S L N s fg si hS (by omega) hN hL h5 h11 ht) ?_
        cases hq : lkS L N (fg s) (si s) with
        | true =>
          rw [show lkp ow si L N fg h s = true by simp [lkp, ho, hq]]
          refine fx_bf rfl (by decide) ?_
          repeat refine fx_n rfl ?_
          by_cases hc : nI c = i
          · refine fx_bf rfl (fun z => z hc) ?_
            repeat refine fx_n rfl ?_
            refine fx_g rfl (ix_nI (by omega) (by omega)) ?_
            rw [nI_cl (by omega), h12 s (by omega)]
            refine fx_r rfl rfl ⟨?_, rfl⟩
            rw [if_pos hc]; rfl
          · refine fx_bt rfl hc ?_
            repeat refine fx_n rfl ?_
            rw [nI_1, nI_1, if_neg hc]
            exact i2 (c + 1)
        | false =>
          rw [show lkp ow si L N fg h s = false by simp [lkp, ho, hq]]
          refine fx_bt rfl (by decide) ?_
          repeat refine fx_n rfl ?_
          rw [nI_1]
          exact i2 c
      · rw [show lkp ow si L N fg h s = false by simp [lkp, ho]]
        refine fx_bt rfl (fun z => ho ((oI_s hb (by omega)).mp z)) ?_
        repeat refine fx_n rfl ?_
        rw [nI_1]
        exact i2 c
  refine ev_of ?_
  repeat refine fx_n rfl ?_
  exact loop S 0 0 (by omega)
/-! houses as bits -/
theorem bN_ge (p : Nat → Bool) {n s : Nat} (h : n ≤ s) : bN p n / 2 ^ s % 2 = 0 := by
  have h1 := bN_lt p n
  have h2 : 2 ^ n ≤ 2 ^ s := Nat.pow_le_pow_right (by omega) h
  rw [Nat.div_eq_of_lt (by omega)]
theorem bN_tb (p : Nat → Bool) (n s : Nat) : (bN p n).testBit s = (decide (s < n) && p s) := by
  rw [Nat.testBit_eq_decide_div_mod_eq]
  by_cases h : s < n
  · rw [bN_bit p s n h]
    cases p s <;> simp [h]
  · rw [bN_ge p (by omega)]
    simp [h]
theorem bN_or (p q : Nat → Bool) (n : Nat) : bN p n ||| bN q n = bN (fun s => p s || q s) n := by
  apply Nat.eq_of_testBit_eq
  intro i
  rw [Nat.testBit_or, bN_tb, bN_tb, bN_tb]
  cases decide (i < n) <;> simp
theorem bN_and (p q : Nat → Bool) (n : Nat) : bN p n &&& bN q n = bN (fun s => p s && q s) n := by
  apply Nat.eq_of_testBit_eq
  intro i
  rw [Nat.testBit_and, bN_tb, bN_tb, bN_tb]
  cases decide (i < n) <;> simp
theorem bN_one {n h : Nat} (hh : h < n) : bN (fun x => decide (x = h)) n = 2 ^ h := by
  apply Nat.eq_of_testBit_eq
  intro i
  rw [bN_tb, Nat.testBit_two_pow]
  by_cases e : i = h
  · subst e; simp [hh]
  · simp [e, Ne.symm e]
theorem nI_or : ∀ a, a < 256 → ∀ h, h < 8 → nI a ||| ((1 : Int32) <<< (nI h &&& 31)) = nI (a ||| 2 ^ h) := by decide +kernel
theorem nI_and8 : ∀ a, a < 256 → ∀ h, h < 8 → nI a &&& ((1 : Int32) <<< (nI h &&& 31)) = nI (a &&& 2 ^ h) := by decide +kernel
theorem nI_and255 : ∀ a, a < 256 → nI a &&& (255 : Int32) = nI a := by decide +kernel
theorem pcn_bN (p : Nat → Bool) : ∀ n, n ≤ 9 → pcn (bN p n) = cnB p n := by
  intro n hn
  have b : ∀ s, bN p n / 2 ^ s % 2 = cond (decide (s < n) && p s) 1 0 := by
    intro s
    by_cases h : s < n
    · rw [bN_bit p s n h]; simp [h]
    · rw [bN_ge p (by omega)]; simp [h]
  have e : pcn (bN p n) = cond (decide (0 < n) && p 0) 1 0 + cond (decide (1 < n) && p 1) 1 0 + cond (decide (2 < n) && p 2) 1 0 + cond (decide (3 < n) && p 3) 1 0 + cond (decide (4 < n) && p 4) 1 0 + cond (decide (5 < n) && p 5) 1 0 + cond (decide (6 < n) && p 6) 1 0 + cond (decide (7 < n) && p 7) 1 0 + cond (decide (8 < n) && p 8) 1 0 := by
    rw [← b 0, ← b 1, ← b 2, ← b 3, ← b 4, ← b 5, ← b 6, ← b 7, ← b 8]
    unfold pcn
    simp
  rw [e]
  rcases (show n = 0 ∨ n = 1 ∨ n = 2 ∨ n = 3 ∨ n = 4 ∨ n = 5 ∨ n = 6 ∨ n = 7 ∨ n = 8 ∨ n = 9 by omega) with rfl | rfl | rfl | rfl | rfl | rfl | rfl | rfl | rfl | rfl <;> simp [cnB]
/-- some stone of the first n is lucky in the house h -/
def anyL (ow si : Nat → Option Nat) (L N : Nat) (fg : Nat → Bool) (n h : Nat) : Bool := decide (0 < cnB (lkp ow si L N fg h) n)
theorem anyL_t {ow si : Nat → Option Nat} {L N : Nat} {fg : Nat → Bool} {n h : Nat} (q : lkp ow si L N fg h n = true) : anyL ow si L N fg (n + 1) h = true := by
  simp [anyL, cnB_t q]
theorem anyL_f {ow si : Nat → Option Nat} {L N : Nat} {fg : Nat → Bool} {n h : Nat} (q : lkp ow si L N fg h n = false) : anyL ow si L N fg (n + 1) h = anyL ow si L N fg n h := by
  simp [anyL, cnB_f q]
set_option maxRecDepth 100000 in
set_option maxHeartbeats 4000000 in
theorem ev_luckyHouses (d : Nat) (M : sy_Mm) (S L N : Nat) (fg : Nat → Bool) (ow si : Nat → Option Nat) (hN : N ≤ 400) (hK : lkC M S L fg ow si) : Ev (d + 2) i_X6_luckyHouses [.ref 9, .int (nI N)] M (some (.int (nI (bN (anyL ow si L N fg S) 8)))) M := by
  obtain ⟨hS, h3, hL, h5, hO, h11, hw8, ht⟩ := hK
  have loop : ∀ j s, s + j = S → Fx (d + 2) i_X6_luckyHouses 12 [some (.ref 9), some (.int (nI N)), some (.int (nI (bN (anyL ow si L N fg s) 8))), some (.int (nI s))] [.int (M 1 3), .int (nI s)] M (fun r M' => r = some (.int (nI (bN (anyL ow si L N fg S) 8))) ∧ M' = M) := by
    intro j
    induction j with
    | zero =>
      intro s hs
      have e : s = S := by omega
      subst e
      refine fx_bt rfl (by rw [h3]; exact nI_le (Nat.le_refl _) (by omega)) ?_
      repeat refine fx_n rfl ?_
      exact fx_r rfl rfl ⟨rfl, rfl⟩
    | succ j ih =>
      intro s hs
      have i2 := ih (s + 1) (by omega)
      have hb : ∀ k, ow s = some k → k < 2 ^ 31 := fun k hk => by have := hw8 _ _ hk; omega
      refine fx_bf rfl (by rw [h3]; exact nI_ge (by omega) (by omega)) ?_
      repeat refine fx_n rfl ?_
      refine fx_g rfl (ix_nI (by omega) (by omega)) ?_
      rw [nI_cl (by omega), hO s (by omega)]
      repeat refine fx_n rfl ?_
      have skip : (∀ h, lkp ow si L N fg h s = false) → bN (anyL ow si L N fg (s + 1)) 8 = bN (anyL ow si L N fg s) 8 := fun q => bN_congr 8 (fun h _ => anyL_f (q h))
      cases ho : ow s with
      | none =>
        refine fx_bt rfl rfl ?_
        repeat refine fx_n rfl ?_
        rw [skip (fun h => by simp [lkp, ho])] at i2
        rw [nI_1]
        exact i2
      | some h =>
        have h8 := hw8 s h ho
        refine fx_bf rfl (nI_ne_m1 (by omega)) ?_
        repeat refine fx_n rfl ?_
        refine fx_p rfl (ev_isLucky _ _ S L N s fg si hS (by omega) hN hL h5 h11 ht) ?_
        cases hq : lkS L N (fg s) (si s) with
        | true =>
          refine fx_bf rfl (by decide) ?_
          repeat refine fx_n rfl ?_
          refine fx_g rfl (ix_nI (by omega) (by omega)) ?_
          rw [nI_cl (by omega), hO s (by omega), ho]
          repeat refine fx_n rfl ?_
          have eb : nI (bN (anyL ow si L N fg s) 8) ||| ((1 : Int32) <<< (oI (some h) &&& 31)) = nI (bN (anyL ow si L N fg (s + 1)) 8) := by
            have h256 : bN (anyL ow si L N fg s) 8 < 256 := bN_lt _ 8
            rw [show oI (some h) = nI h from rfl, nI_or _ h256 h h8, ← bN_one h8, bN_or]
            congr 1
            refine bN_congr 8 (fun x _ => ?_)
            by_cases hx : x = h
            · subst hx
              rw [anyL_t (by simp [lkp, ho, hq])]; simp
            · rw [anyL_f (by simp [lkp, ho, Ne.symm hx])]; simp [hx]
          rw [eb, nI_1]
          exact i2
        | false =>
          refine fx_bt rfl (by decide) ?_
          repeat refine fx_n rfl ?_
          rw [skip (fun h => by simp [lkp, hq])] at i2
          rw [nI_1]
          exact i2
  refine ev_of ?_
  repeat refine fx_n rfl ?_
  have e0 : bN (anyL ow si L N fg 0) 8 = 0 := by
    have : anyL ow si L N fg 0 = fun _ => false := by funext h; simp [anyL, cnB]
    rw [this]; rfl
  have := loop S 0 (by omega)
  rw [e0] at this
  exact this
