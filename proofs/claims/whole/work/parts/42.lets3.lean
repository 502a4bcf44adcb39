/-! ===== lets: the reference's search, its parts ===== -/
def lvM (M : sy_Mm) (S l : Nat) (σ : St) : Prop := ∀ s, s < S → M 38 (9 * l + s) = oI (σ.1 s) ∧ M 39 (9 * l + s) = oI (σ.2 s)
theorem nn_nI (s : Nat) : (9 : Int32) * nI s = nI (9 * s) := pk_mul 9 s
set_option maxRecDepth 100000 in
set_option maxHeartbeats 4000000 in
theorem em_copies (d : Nat) (M : sy_Mm) (S l : Nat) (σ : St) (hl : l ≤ 2) (hS : S ≤ 9) (h8 : M 30 8 = nI S) (hv : lvM M S l σ) : Ex d i_X8_copies [.ref 30, .int (nI l)] M (fun r N => r = none ∧ lvM N S (l + 1) σ ∧ (∀ q, q < 9 * (l + 1) → N 38 q = M 38 q ∧ N 39 q = M 39 q) ∧ ∀ k, k ≠ 38 → k ≠ 39 → N k = M k) := by
  have loop : ∀ (j s : Nat) (M1 : sy_Mm), s + j = S → (∀ i, i < s → M1 38 (9 * (l + 1) + i) = oI (σ.1 i) ∧ M1 39 (9 * (l + 1) + i) = oI (σ.2 i)) → (∀ q, q < 9 * (l + 1) → M1 38 q = M 38 q ∧ M1 39 q = M 39 q) → (∀ k, k ≠ 38 → k ≠ 39 → M1 k = M k) → Fx d i_X8_copies 7 [some (.ref 30), some (.int (nI l)), some (.int (nI s))] [.int (M1 30 8), .int (nI s)] M1 (fun r N => r = none ∧ lvM N S (l + 1) σ ∧ (∀ q, q < 9 * (l + 1) → N 38 q = M 38 q ∧ N 39 q = M 39 q) ∧ ∀ k, k ≠ 38 → k ≠ 39 → N k = M k) := by
    intro j
    induction j with
    | zero =>
      intro s M1 hs c1 c2 c3
      have e : s = S := by omega
      subst e
      refine fx_bt rfl (by rw [c3 30 (by omega) (by omega), h8]; exact nI_le (Nat.le_refl _) (by omega)) ?_
      exact fx_r rfl rfl ⟨rfl, c1, c2, c3⟩
    | succ j ih =>
      intro s M1 hs c1 c2 c3
      refine fx_bf rfl (by rw [c3 30 (by omega) (by omega), h8]; exact nI_ge (by omega) (by omega)) ?_
      repeat refine fx_n rfl ?_
      rw [nI_1, nn_nI, nn_nI, nI_add, nI_add]
      refine fx_g rfl (ix_nI (by omega) (by omega)) ?_
      rw [nI_cl (by omega), (c2 _ (by omega)).1, (hv s (by omega)).1]
      refine fx_g rfl (ix_nI (by omega) (by omega)) ?_
      rw [nI_cl (by omega)]
      repeat refine fx_n rfl ?_
      rw [nI_1, nn_nI, nn_nI, nI_add, nI_add]
      refine fx_g rfl (ix_nI (by omega) (by omega)) ?_
      rw [nI_cl (by omega), up_k (by omega), (c2 _ (by omega)).2, (hv s (by omega)).2]
      refine fx_g rfl (ix_nI (by omega) (by omega)) ?_
      rw [nI_cl (by omega)]
      repeat refine fx_n rfl ?_
      rw [nI_1]
      refine ih (s + 1) _ (by omega) (fun i hi => ?_) (fun q hq => ?_) (fun k k1 k2 => ?_)
      · by_cases e : i = s
        · rw [e]
          exact ⟨by rw [up_k (by omega), up_s], up_s⟩
        · rw [up_k (by omega), up_j (by omega), up_j (by omega), up_k (by omega)]
          exact c1 i (by omega)
      · rw [up_k (by omega), up_j (by omega), up_j (by omega), up_k (by omega)]
        exact c2 q hq
      · rw [up_k k2, up_k k1]; exact c3 k k1 k2
  unfold Ex
  repeat refine fx_n rfl ?_
  exact loop S 0 M (by omega) (fun i hi => by omega) (fun _ _ => ⟨rfl, rfl⟩) (fun _ _ _ => rfl)
def lrM (M : sy_Mm) (S L : Nat) (fg : Nat → Bool) : Prop := S ≤ 9 ∧ M 30 8 = nI S ∧ L ≤ 99 ∧ M 30 11 = nI L ∧ M 30 10 = nI (bN fg S)
def stOK (σ : St) : Prop := (∀ s h, σ.1 s = some h → h < 8) ∧ ∀ s x, σ.2 s = some x → x < 400
theorem bN_zsh (p : Nat → Bool) {s n : Nat} (h : s < n) (hn : n ≤ 9) : (nI (bN p n) >>> (nI s &&& 31)) &&& 1 = zb (p s) := bN_sh p h hn
set_option maxRecDepth 100000 in
set_option maxHeartbeats 4000000 in
theorem em_lucky (d : Nat) (M : sy_Mm) (S L l N : Nat) (fg : Nat → Bool) (σ : St) (hl : l ≤ 3) (hN : N ≤ 400) (hR : lrM M S L fg) (hv : lvM M S l σ) (hσ : stOK σ) : Ev (d + 1) i_X8_lucky [.ref 30, .int (nI l), .int (nI N)] M (some (.int (nI (lkN S L fg σ N)))) M := by
  obtain ⟨hS, h8, hL, h11, h10⟩ := hR
  obtain ⟨hw8, ht⟩ := hσ
  have loop : ∀ (j s : Nat) (x5 x6 : Option Value), s + j = S → Fx (d + 1) i_X8_lucky 11 [some (.ref 30), some (.int (nI l)), some (.int (nI N)), some (.int (nI (bN (anyL σ.1 σ.2 L N fg s) 8))), some (.int (nI s)), x5, x6] [.int (M 30 8), .int (nI s)] M (fun r M' => r = some (.int (nI (lkN S L fg σ N))) ∧ M' = M) := by
    intro j
    induction j with
    | zero =>
      intro s x5 x6 hs
      have e : s = S := by omega
      subst e
      refine fx_bt rfl (by rw [h8]; exact nI_le (Nat.le_refl _) (by omega)) ?_
      repeat refine fx_n rfl ?_
      refine fx_p rfl (em_ones _ _ _ (bN_256 _)) ?_
      rw [pcn_bN _ 8 (by omega)]
      exact fx_r rfl rfl ⟨rfl, rfl⟩
    | succ j ih =>
      intro s x5 x6 hs
      have i2 := fun x5 x6 => ih (s + 1) x5 x6 (by omega)
      have skip : (∀ x, lkp σ.1 σ.2 L N fg x s = false) → bN (anyL σ.1 σ.2 L N fg (s + 1)) 8 = bN (anyL σ.1 σ.2 L N fg s) 8 := fun q => bN_congr 8 (fun x _ => anyL_f (q x))
      refine fx_bf rfl (by rw [h8]; exact nI_ge (by omega) (by omega)) ?_
      repeat refine fx_n rfl ?_
      rw [nn_nI, nI_add]
      refine fx_g rfl (ix_nI (by omega) (by omega)) ?_
      rw [nI_cl (by omega), (hv s (by omega)).2]
      repeat refine fx_n rfl ?_
      rw [h10, bN_sh _ (show s < S by omega) hS]
      have off : lkS L N (fg s) (σ.2 s) = false → Fx (d + 1) i_X8_lucky 61 [some (.ref 30), some (.int (nI l)), some (.int (nI N)), some (.int (nI (bN (anyL σ.1 σ.2 L N fg s) 8))), some (.int (nI s)), some (.int (oI (σ.2 s))), x6] [] M (fun r M' => r = some (.int (nI (lkN S L fg σ N))) ∧ M' = M) := by
        intro hq
        rw [skip (fun x => by simp [lkp, hq])] at i2
        repeat refine fx_n rfl ?_
        refine fx_bt rfl (by decide) ?_
        repeat refine fx_n rfl ?_
        rw [Int32.or_zero, nI_1]
        exact i2 _ _
      cases hf : fg s with
      | true =>
        refine fx_bt rfl (by decide) ?_
        exact off (by simp [lkS, hf])
      | false =>
        refine fx_bf rfl (by decide) ?_
        repeat refine fx_n rfl ?_
        cases hsi : σ.2 s with
        | none =>
          rw [hsi] at off
          refine fx_bt rfl rfl ?_
          exact off (by simp [lkS, hf, lk1])
        | some t =>
          rw [hsi] at off
          have := ht s t hsi
          rw [show oI (some t) = nI t from rfl] at off ⊢
          refine fx_bf rfl (nI_ne_m1 (by omega)) ?_
          repeat refine fx_n rfl ?_
          rw [h11, nI_add]
          by_cases hlt : N < t + L
          · refine fx_bf rfl (nI_ge hlt (by omega)) ?_
            have hq : lkS L N (fg s) (σ.2 s) = true := by simp [lkS, hf, hsi, lk1, hlt]
            repeat refine fx_n rfl ?_
            refine fx_bf rfl (by decide) ?_
            repeat refine fx_n rfl ?_
            rw [nn_nI, nI_add]
            refine fx_g rfl (ix_nI (by omega) (by omega)) ?_
            rw [nI_cl (by omega), (hv s (by omega)).1]
            repeat refine fx_n rfl ?_
            cases ho : σ.1 s with
            | none =>
              rw [skip (fun x => by simp [lkp, ho])] at i2
              refine fx_bt rfl rfl ?_
              repeat refine fx_n rfl ?_
              rw [Int32.or_zero, nI_1]
              exact i2 _ _
            | some h =>
              have h8' := hw8 s h ho
              refine fx_bf rfl (nI_ne_m1 (by omega)) ?_
              repeat refine fx_n rfl ?_
              rw [nn_nI, nI_add]
              refine fx_g rfl (ix_nI (by omega) (by omega)) ?_
              rw [nI_cl (by omega), (hv s (by omega)).1, ho]
              repeat refine fx_n rfl ?_
              have eb : nI (bN (anyL σ.1 σ.2 L N fg s) 8) ||| ((1 : Int32) <<< (oI (some h) &&& 31)) = nI (bN (anyL σ.1 σ.2 L N fg (s + 1)) 8) := by
                have h256 : bN (anyL σ.1 σ.2 L N fg s) 8 < 256 := bN_lt _ 8
                rw [show oI (some h) = nI h from rfl, nI_or _ h256 h h8', ← bN_one h8', bN_or]
                congr 1
                refine bN_congr 8 (fun x _ => ?_)
                by_cases hx : x = h
                · subst hx
                  rw [anyL_t (by simp [lkp, ho, hq])]; simp
                · rw [anyL_f (by simp [lkp, ho, Ne.symm hx])]; simp [hx]
              rw [eb, nI_1]
              exact i2 _ _
          · refine fx_bt rfl (nI_le (by omega) (by omega)) ?_
            exact off (by simp [lkS, hf, lk1, hlt])
  refine ev_of ?_
  repeat refine fx_n rfl ?_
  have e0 : bN (anyL σ.1 σ.2 L N fg 0) 8 = 0 := by
    have : anyL σ.1 σ.2 L N fg 0 = fun _ => false := by funext h; simp [anyL, cnB]
    rw [this]; rfl
  have := loop S 0 none none (by omega)
  rw [e0] at this
  exact this
def cI : Nat → Int32
  | 0 => -1
  | k + 1 => nI k
theorem cI_1 (q : Nat) : cI q + 1 = cI (q + 1) := by
  cases q with
  | zero => rfl
  | succ k => exact nI_1 k
def okQ (S : Nat) (σ : St) : Nat → Bool
  | 0 => true
  | k + 1 => alR S σ k
theorem div8 {k : Nat} (h : k < 2 ^ 31) : nI k / 8 = nI (k / 8) := pk_div (d := 8) h (by omega) (by omega)
theorem rem8 {k : Nat} (h : k < 2 ^ 31) : nI k - nI k / 8 * 8 = nI (k % 8) := pk_rem (d := 8) h (by omega) (by omega)
set_option maxRecDepth 100000 in
set_option maxHeartbeats 4000000 in
theorem em_mayPick (d : Nat) (M : sy_Mm) (S l q : Nat) (σ : St) (hl : l ≤ 2) (hq : q < 73) (hS : S ≤ 9) (h8 : M 30 8 = nI S) (hv : lvM M S l σ) (hσ : stOK σ) : Ev d i_X8_mayPick [.ref 30, .int (nI l), .int (cI q)] M (some (.int (zb (okQ S σ q)))) M := by
  refine ev_of ?_
  cases q with
  | zero =>
    repeat refine fx_n rfl ?_
    refine fx_g rfl (by decide) ?_
    repeat refine fx_n rfl ?_
    refine fx_bt rfl rfl ?_
    repeat refine fx_n rfl ?_
    exact fx_r rfl rfl ⟨rfl, rfl⟩
  | succ k =>
    have hb : ∀ x, σ.1 (k / 8) = some x → x < 2 ^ 31 := fun x hx => by have := hσ.1 _ _ hx; omega
    show Fx d i_X8_mayPick 0 (sy_en i_X8_mayPick [.ref 30, .int (nI l), .int (nI k)]) [] M (fun r N => r = some (.int (zb (alR S σ k))) ∧ N = M)
    repeat refine fx_n rfl ?_
    refine fx_g rfl (by decide) ?_
    rw [div8 (by omega)]
    repeat refine fx_n rfl ?_
    refine fx_bf rfl (nI_ne_m1 (by omega)) ?_
    repeat refine fx_n rfl ?_
    rw [h8]
    unfold alR
    by_cases h1 : k / 8 < S
    · refine fx_bf rfl (nI_ge h1 (by omega)) ?_
      repeat refine fx_n rfl ?_
      rw [nn_nI, nI_add]
      refine fx_g rfl (ix_nI (by omega) (by omega)) ?_
      rw [nI_cl (by omega), (hv _ h1).1]
      repeat refine fx_n rfl ?_
      by_cases h2 : σ.1 (k / 8) = none
      · refine fx_bt rfl ((oI_n hb).mpr h2) ?_
        repeat refine fx_n rfl ?_
        exact fx_r rfl rfl ⟨by simp [h2, zb], rfl⟩
      · refine fx_bf rfl (fun z => h2 ((oI_n hb).mp z)) ?_
        repeat refine fx_n rfl ?_
        rw [nn_nI, nI_add]
        refine fx_g rfl (ix_nI (by omega) (by omega)) ?_
        rw [nI_cl (by omega), (hv _ h1).1]
        repeat refine fx_n rfl ?_
        refine fx_g rfl (by decide) ?_
        rw [rem8 (by omega)]
        by_cases h3 : σ.1 (k / 8) = some (k % 8)
        · refine fx_bt rfl ((oI_s hb (by omega)).mpr h3) ?_
          repeat refine fx_n rfl ?_
          exact fx_r rfl rfl ⟨by simp [h3, zb], rfl⟩
        · refine fx_bf rfl (fun z => h3 ((oI_s hb (by omega)).mp z)) ?_
          repeat refine fx_n rfl ?_
          exact fx_r rfl rfl ⟨by simp [h1, h2, h3, zb], rfl⟩
    · refine fx_bt rfl (nI_le (by omega) (by omega)) ?_
      repeat refine fx_n rfl ?_
      exact fx_r rfl rfl ⟨by simp [h1, zb], rfl⟩
/-! the order of the tries -/
def upB (b : Option Nat × Int32) (v : Nat) (p : Int32) : Option Nat × Int32 := match b.1 with
  | none => (some v, p)
  | some x => if x < v then (some v, p) else b
def goF (ok : Nat → Bool) (f : Nat → Nat) (T : Nat) (pp : Nat → Int32) (b0 : Option Nat × Int32) : Nat → Option Nat × Int32
  | 0 => b0
  | q + 1 => cond (ok q) (upB (goF ok f T pp b0 q) (T + f q) (pp q)) (goF ok f T pp b0 q)
def fQ (S L : Nat) (fg : Nat → Bool) (n N : Nat) (σ : St) : Nat → Nat
  | 0 => fO S L fg n N σ
  | k + 1 => fK S L fg n N σ k
def stQ (σ : St) (N : Nat) : Nat → St
  | 0 => σ
  | k + 1 => stP σ k N
theorem fQ_st (S L : Nat) (fg : Nat → Bool) (n N : Nat) (σ : St) (q : Nat) : fQ S L fg n N σ q = lkN S L fg (stQ σ N q) N + VV S L fg n (N + 1) (stQ σ N q) := by
  cases q <;> rfl
theorem fQ_le (S L : Nat) (fg : Nat → Bool) (n N : Nat) (σ : St) (q : Nat) : fQ S L fg n N σ q ≤ 8 * (n + 1) := by
  cases q with
  | zero => exact fO_le S L fg n N σ
  | succ k => exact fK_le S L fg n N σ k
theorem upB_up (b : Option Nat × Int32) (a c : Nat) (p : Int32) : upB (upB b a p) c p = upB b (if a < c then c else a) p := by
  obtain ⟨b1, b2⟩ := b
  cases b1 with
  | none =>
    simp only [upB]
    split <;> rfl
  | some x =>
    simp only [upB]
    by_cases h1 : x < a
    · rw [if_pos h1]
      by_cases h2 : a < c
      · simp only [if_pos h2]
        rw [if_pos (by omega)]
      · simp only [if_neg h2]
        rw [if_pos h1]
    · rw [if_neg h1]
      by_cases h2 : a < c
      · simp only [if_pos h2]
      · simp only [if_neg h2]
        rw [if_neg (by omega), if_neg h1]
theorem goF_t {ok : Nat → Bool} {f : Nat → Nat} {T : Nat} {pp : Nat → Int32} {b0 : Option Nat × Int32} {q : Nat} (h : ok q = true) : goF ok f T pp b0 (q + 1) = upB (goF ok f T pp b0 q) (T + f q) (pp q) := by
  show cond _ _ _ = _
  rw [h]; rfl
theorem goF_f {ok : Nat → Bool} {f : Nat → Nat} {T : Nat} {pp : Nat → Int32} {b0 : Option Nat × Int32} {q : Nat} (h : ok q = false) : goF ok f T pp b0 (q + 1) = goF ok f T pp b0 q := by
  show cond _ _ _ = _
  rw [h]; rfl
theorem goF_c (S L : Nat) (fg : Nat → Bool) (n N : Nat) (σ : St) (T : Nat) (p : Int32) (b0 : Option Nat × Int32) : ∀ q, goF (okQ S σ) (fQ S L fg n N σ) T (fun _ => p) b0 (q + 1) = upB b0 (T + (bfP (alR S σ) (fK S L fg n N σ) (fO S L fg n N σ) q).1) p
  | 0 => rfl
  | q + 1 => by
    have ih := goF_c S L fg n N σ T p b0 q
    cases ha : alR S σ q with
    | false => rw [goF_f (q := q + 1) ha, ih, bf_f ha]
    | true =>
      rw [goF_t (q := q + 1) ha, ih, upB_up]
      congr 1
      show (if T + _ < T + fK S L fg n N σ q then _ else _) = _
      by_cases hq : (bfP (alR S σ) (fK S L fg n N σ) (fO S L fg n N σ) q).1 < fK S L fg n N σ q
      · rw [bf_t ha hq, if_pos (by omega)]; rfl
      · rw [bf_l (by omega), if_neg (by omega)]
theorem goF_0 (S L : Nat) (fg : Nat → Bool) (n N : Nat) (σ : St) : ∀ q, goF (okQ S σ) (fQ S L fg n N σ) 0 cI (none, -1) (q + 1) = (some (bfP (alR S σ) (fK S L fg n N σ) (fO S L fg n N σ) q).1, oI (bfP (alR S σ) (fK S L fg n N σ) (fO S L fg n N σ) q).2)
  | 0 => by
    show (some (0 + fO S L fg n N σ), _) = (some (fO S L fg n N σ), _)
    rw [Nat.zero_add]; rfl
  | q + 1 => by
    have ih := goF_0 S L fg n N σ q
    cases ha : alR S σ q with
    | false => rw [goF_f (q := q + 1) ha, ih, bf_f ha]
    | true =>
      rw [goF_t (q := q + 1) ha, ih]
      show (if _ < 0 + fK S L fg n N σ q then (some (0 + fK S L fg n N σ q), nI q) else _) = _
      rw [Nat.zero_add]
      by_cases hq : (bfP (alR S σ) (fK S L fg n N σ) (fO S L fg n N σ) q).1 < fK S L fg n N σ q
      · rw [bf_t ha hq, if_pos hq]; rfl
      · rw [bf_l (by omega), if_neg hq]
theorem BB_72 (S L : Nat) (fg : Nat → Bool) (n N : Nat) (σ : St) (hS : S ≤ 9) : bfP (alR S σ) (fK S L fg n N σ) (fO S L fg n N σ) 72 = BB S L fg n N σ := by
  unfold BB
  rw [BB_R, show 72 = 8 * S + (72 - 8 * S) by omega]
  exact bf_skip _ (fun i hi => by
    have : ¬ (8 * S + i) / 8 < S := by omega
    simp [alP, alR, this])
theorem upB_ok {b : Option Nat × Int32} {v C : Nat} {p : Int32} (hb : ∀ x, b.1 = some x → x ≤ C) (hv : v ≤ C) : ∀ x, (upB b v p).1 = some x → x ≤ C := by
  obtain ⟨b1, b2⟩ := b
  intro x hx
  cases b1 with
  | none => simp only [upB] at hx; cases hx; exact hv
  | some y =>
    simp only [upB] at hx
    split at hx
    · cases hx; exact hv
    · exact hb x hx
