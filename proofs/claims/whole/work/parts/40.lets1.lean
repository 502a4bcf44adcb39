/-! ===== lets: the class's search ===== -/
/-- all but what was picked is as it was -/
def kL (M N : sy_Mm) : Prop := ∀ k j, (k = 13 → j ≠ 1) → N k j = M k j
theorem kL.rf {M : sy_Mm} : kL M M := fun _ _ _ => rfl
theorem kL.tr {M N K : sy_Mm} (h : kL M N) (g : kL N K) : kL M K := fun k j q => (g k j q).trans (h k j q)
theorem kL.row {M N : sy_Mm} (h : kL M N) {k : Nat} (hk : k ≠ 13) : N k = M k := funext fun j => h k j (fun e => absurd e hk)
theorem kL.up {M N : sy_Mm} (h : kL M N) {x : Int32} : kL M (sy_up N 13 1 x) := fun k j q => by
  by_cases e : k = 13
  · subst e; rw [up_j (q rfl)]; exact h 13 j q
  · rw [up_k e]; exact h k j q
def lsC (M : sy_Mm) (S L : Nat) (fg : Nat → Bool) (σ : St) : Prop := lkC M S L fg σ.1 σ.2 ∧ M 9 6 = nI L ∧ 1 ≤ L
theorem lsC.kl {M N : sy_Mm} {S L : Nat} {fg : Nat → Bool} {σ : St} (h : lsC M S L fg σ) (k : kL M N) : lsC N S L fg σ := by
  unfold lsC lkC ownC at h ⊢
  rw [k.row (k := 1) (by omega), k.row (k := 9) (by omega), k.row (k := 10) (by omega), k.row (k := 11) (by omega)]
  exact h
set_option maxRecDepth 100000 in
set_option maxHeartbeats 4000000 in
theorem ev_worth (d : Nat) (M : sy_Mm) (S L s : Nat) (fg : Nat → Bool) (σ : St) (hs : s < S) (h : lsC M S L fg σ) : Ev (d + 1) i_X2_isWorthStealing [.ref 13, .int (nI s)] M (some (.int (zb (woB fg σ s)))) M := by
  obtain ⟨⟨hS, h3, hL, h5, hO, h11, hw8, ht⟩, h6, hL1⟩ := h
  refine ev_of ?_
  repeat refine fx_n rfl ?_
  refine fx_g rfl (ix_nI (by omega) (by omega)) ?_
  rw [nI_cl (by omega), hO s hs]
  repeat refine fx_n rfl ?_
  unfold woB
  cases ho : σ.1 s with
  | none =>
    refine fx_bt rfl rfl ?_
    repeat refine fx_n rfl ?_
    refine fx_r rfl rfl ⟨?_, rfl⟩
    simp [zb]
  | some o =>
    have := hw8 s o ho
    refine fx_bf rfl (nI_ne_m1 (by omega)) ?_
    repeat refine fx_n rfl ?_
    refine fx_p rfl (ev_isReal _ _ S s fg hS hs h5) ?_
    cases hf : fg s with
    | true =>
      refine fx_bt rfl (by decide) ?_
      repeat refine fx_n rfl ?_
      exact fx_r rfl rfl ⟨rfl, rfl⟩
    | false =>
      refine fx_bf rfl (by decide) ?_
      repeat refine fx_n rfl ?_
      refine fx_r rfl rfl ⟨?_, rfl⟩
      simp [zb]
theorem lkN_le (S L : Nat) (fg : Nat → Bool) (σ : St) (N : Nat) : lkN S L fg σ N ≤ 8 := cnB_le _ 8
theorem VV_le (S L : Nat) (fg : Nat → Bool) : ∀ (n N : Nat) (σ : St), VV S L fg n N σ ≤ 8 * n
  | 0, _, _ => Nat.le_refl _
  | n + 1, N, σ => bf_le (C := 8 * (n + 1)) (by have := VV_le S L fg n (N + 1) σ; have := lkN_le S L fg σ N; omega) (fun k _ => by
      show lkN S L fg (stP σ k N) N + VV S L fg n (N + 1) (stP σ k N) ≤ _
      have := VV_le S L fg n (N + 1) (stP σ k N)
      have := lkN_le S L fg (stP σ k N) N
      omega) _
theorem bN_256 (p : Nat → Bool) : bN p 8 < 512 := by have := bN_lt p 8; omega
set_option maxRecDepth 100000 in
set_option maxHeartbeats 4000000 in
theorem ev_ceiling (d : Nat) (M : sy_Mm) (S L N n : Nat) (fg : Nat → Bool) (σ : St) (hN : N ≤ 300) (hn : n ≤ 3) (h : lsC M S L fg σ) : Ev (d + 3) i_X2_ceiling [.ref 13, .int (nI N), .int (nI n)] M (some (.int (nI (ceS S L fg σ N n)))) M := by
  obtain ⟨⟨hS, h3, hL, h5, hO, h11, hw8, ht⟩, h6, hL1⟩ := id h
  have loop2 : ∀ (j i : Nat) (x6 x7 : Option Value), i + j = n → Fx (d + 3) i_X2_ceiling 52 [some (.ref 13), some (.int (nI N)), some (.int (nI n)), some (.int (nI (stN S fg σ))), some (.int (nI (dayS (gC S L fg σ N) 0 i))), some (.int (nI i)), x6, x7] [.int (nI n), .int (nI i)] M (fun r M' => r = some (.int (nI (ceS S L fg σ N n))) ∧ M' = M) := by
    intro j
    induction j with
    | zero =>
      intro i x6 x7 hi
      have e : i = n := by omega
      subst e
      refine fx_bt rfl (nI_le (Nat.le_refl _) (by omega)) ?_
      repeat refine fx_n rfl ?_
      exact fx_r rfl rfl ⟨rfl, rfl⟩
    | succ j ih =>
      intro i x6 x7 hi
      refine fx_bf rfl (nI_ge (by omega) (by omega)) ?_
      repeat refine fx_n rfl ?_
      rw [nI_add]
      refine fx_p rfl (ev_luckyHouses _ M S L (N + i) fg σ.1 σ.2 (by omega) h.1) ?_
      refine fx_p rfl (ev_bitCount _ _ _ (bN_256 _)) ?_
      rw [pcn_bN _ 8 (by omega)]
      repeat refine fx_n rfl ?_
      have l8 := lkN_le S L fg σ (N + i)
      have s9 : stN S fg σ ≤ S := cnB_le _ S
      have mL := mN_le (a := L) (b := i + 1)
      have e1 : (if M 9 6 < nI i + 1 then M 9 6 else nI i + 1) = nI (mN L (i + 1)) := by rw [h6, nI_1, min_nI (by omega) (by omega)]; rfl
      have e2 : (if (8 : Int32) < nI (stN S fg σ) then (8 : Int32) else nI (stN S fg σ)) = nI (mN 8 (stN S fg σ)) := min_nI (a := 8) (by omega) (by omega)
      have m8 := mN_le (a := 8) (b := stN S fg σ)
      rw [e1, e2, show cnB (anyL σ.1 σ.2 L (N + i) fg S) 8 = lkN S L fg σ (N + i) from rfl, nI_add, min_nI (by omega) (by omega), nI_add, nI_1]
      have := ih (i + 1) (some (.int (nI (lkN S L fg σ (N + i))))) (some (.int (nI (mN L (i + 1))))) (by omega)
      have eD : dayS (gC S L fg σ N) 0 (i + 1) = dayS (gC S L fg σ N) 0 i + (if lkN S L fg σ (N + i) + mN L (i + 1) < mN 8 (stN S fg σ) then lkN S L fg σ (N + i) + mN L (i + 1) else mN 8 (stN S fg σ)) := by
        show dayS (gC S L fg σ N) 0 i + gC S L fg σ N (0 + i) = _
        rw [Nat.zero_add]; rfl
      rw [eD] at this
      exact this
  have loop1 : ∀ (j s : Nat), s + j = S → Fx (d + 3) i_X2_ceiling 17 [some (.ref 13), some (.int (nI N)), some (.int (nI n)), some (.int (nI (cnB (woB fg σ) s))), some (.int (nI s)), none, none, none] [.int (M 1 3), .int (nI s)] M (fun r M' => r = some (.int (nI (ceS S L fg σ N n))) ∧ M' = M) := by
    intro j
    induction j with
    | zero =>
      intro s hs
      have e : s = S := by omega
      subst e
      refine fx_bt rfl (by rw [h3]; exact nI_le (Nat.le_refl _) (by omega)) ?_
      repeat refine fx_n rfl ?_
      exact loop2 n 0 none none (by omega)
    | succ j ih =>
      intro s hs
      have i2 := ih (s + 1) (by omega)
      refine fx_bf rfl (by rw [h3]; exact nI_ge (by omega) (by omega)) ?_
      repeat refine fx_n rfl ?_
      refine fx_p rfl (ev_worth _ M S L s fg σ (by omega) h) ?_
      cases hw : woB fg σ s with
      | true =>
        rw [cnB_t hw] at i2
        refine fx_bf rfl (by decide) ?_
        repeat refine fx_n rfl ?_
        rw [nI_1, nI_1]
        exact i2
      | false =>
        rw [cnB_f hw] at i2
        refine fx_bt rfl (by decide) ?_
        repeat refine fx_n rfl ?_
        rw [Int32.add_zero, nI_1]
        exact i2
  refine ev_of ?_
  repeat refine fx_n rfl ?_
  exact loop1 S 0 (by omega)
/-! the last night -/
theorem or_nI {a b : Nat} (ha : a < 256) (hb : b < 256) : nI a ||| nI b = nI (a ||| b) := by
  have h : a ||| b < 256 := Nat.or_lt_two_pow (n := 8) ha hb
  apply Int32.toBitVec_inj.mp
  apply BitVec.eq_of_toNat_eq
  rw [Int32.toBitVec_or, BitVec.toNat_or, pk_tn (by omega), pk_tn (by omega), pk_tn (by omega)]
theorem not_255 : ∀ a, a < 256 → (255 : Int32) &&& (nI a ^^^ (-1)) = nI (255 - a) := by decide +kernel
theorem and_nbit : ∀ o, o < 8 → ∀ a, a < 256 → nI a &&& (((1 : Int32) <<< (nI o &&& 31)) ^^^ (-1)) = nI (a &&& (255 - 2 ^ o)) := by decide +kernel
theorem bN_not (p : Nat → Bool) : ∀ n, bN p n + bN (fun x => !p x) n = 2 ^ n - 1
  | 0 => rfl
  | n + 1 => by
    have ih := bN_not p n
    have := Nat.two_pow_pos n
    unfold bN
    rw [Nat.pow_succ]
    cases p n <;> simp <;> omega
theorem bN_0 (p : Nat → Bool) : ∀ n, bN p n = 0 → ∀ x, x < n → p x = false
  | 0, _, x, hx => by omega
  | n + 1, h, x, hx => by
    unfold bN at h
    cases hp : p n with
    | true => rw [hp] at h; have := Nat.two_pow_pos n; simp at h
    | false =>
      rw [hp] at h
      by_cases e : x = n
      · rw [e]; exact hp
      · exact bN_0 p n (by simpa using h) x (by omega)
theorem bN_ne (p : Nat → Bool) : ∀ n, bN p n ≠ 0 → ∃ x, x < n ∧ p x = true
  | 0, h => absurd rfl h
  | n + 1, h => by
    cases hp : p n with
    | true => exact ⟨n, by omega, hp⟩
    | false =>
      rw [bN_skip p hp] at h
      obtain ⟨x, h1, h2⟩ := bN_ne p n h
      exact ⟨x, by omega, h2⟩
theorem fr_bits {S L : Nat} {fg : Nat → Bool} {σ : St} {N o : Nat} (ho : o < 8) : ((255 : Int32) &&& (nI (bN (anyL σ.1 σ.2 L N fg S) 8) ^^^ (-1))) &&& (((1 : Int32) <<< (nI o &&& 31)) ^^^ (-1)) = nI (bN (frB S L fg σ N o) 8) := by
  have h1 := bN_lt (anyL σ.1 σ.2 L N fg S) 8
  have e1 := bN_not (anyL σ.1 σ.2 L N fg S) 8
  have e2 := bN_not (fun x => decide (x = o)) 8
  rw [bN_one ho] at e2
  rw [not_255 _ (by omega), and_nbit o ho _ (by omega)]
  rw [show 255 - bN (anyL σ.1 σ.2 L N fg S) 8 = bN (fun x => !anyL σ.1 σ.2 L N fg S x) 8 by omega, show 255 - 2 ^ o = bN (fun x => !decide (x = o)) 8 by omega, bN_and]
  rfl
theorem tw_bits {S L : Nat} {fg : Nat → Bool} {σ : St} {N o : Nat} (ho : o < 8) : nI (bN (twB S L fg σ N) 8) &&& ((1 : Int32) <<< (nI o &&& 31)) = 0 ↔ twB S L fg σ N o = false := by
  rw [nI_and8 _ (bN_lt _ 8) o ho, ← bN_one ho, bN_and]
  have hlt := bN_lt (fun s => twB S L fg σ N s && decide (s = o)) 8
  constructor
  · intro q
    have q := (nI_eq (b := 0) (by omega) (by omega)).mp q
    have := bN_0 _ 8 q o ho
    simpa using this
  · intro q
    have : bN (fun s => twB S L fg σ N s && decide (s = o)) 8 = 0 := by
      apply Decidable.byContradiction
      intro z
      obtain ⟨x, h1, h2⟩ := bN_ne _ 8 z
      simp at h2
      rw [h2.2, q] at h2
      cases h2.1
    rw [this]; rfl
set_option maxRecDepth 100000 in
set_option maxHeartbeats 4000000 in
theorem ev_mostInLast (d : Nat) (M : sy_Mm) (S L N : Nat) (fg : Nat → Bool) (σ : St) (hN : N ≤ 300) (h : lsC M S L fg σ) : Ev (d + 2) i_X2_mostInLast [.ref 13, .int (nI N)] M (some (.int (nI (VV S L fg 1 N σ)))) M := by
  obtain ⟨⟨hS, h3, hL, h5, hO, h11, hw8, ht⟩, h6, hL1⟩ := id h
  have l8 := lkN_le S L fg σ N
  have loop2 : ∀ (j s : Nat) (x6 x7 : Option Value), s + j = S → (∀ i o, i < s → σ.1 i = some o → fg i = false → (lkS L N (fg i) (σ.2 i) = false ∨ twB S L fg σ N o = true) → ∀ x, x < 8 → frB S L fg σ N o x = false) → Fx (d + 2) i_X2_mostInLast 102 [some (.ref 13), some (.int (nI N)), some (.int (nI (bN (anyL σ.1 σ.2 L N fg S) 8))), some (.int (nI (bN (twB S L fg σ N) 8))), some (.int (nI (lkN S L fg σ N))), some (.int (nI s)), x6, x7] [.int (M 1 3), .int (nI s)] M (fun r M' => r = some (.int (nI (VV S L fg 1 N σ))) ∧ M' = M) := by
    intro j
    induction j with
    | zero =>
      intro s x6 x7 hs hno
      have e : s = S := by omega
      subst e
      refine fx_bt rfl (by rw [h3]; exact nI_le (Nat.le_refl _) (by omega)) ?_
      repeat refine fx_n rfl ?_
      exact fx_r rfl rfl ⟨by rw [VV1_f hw8 hno], rfl⟩
    | succ j ih =>
      intro s x6 x7 hs hno
      have i2 : ∀ x6 x7 : Option Value, (∀ o, σ.1 s = some o → fg s = false → (lkS L N (fg s) (σ.2 s) = false ∨ twB S L fg σ N o = true) → ∀ x, x < 8 → frB S L fg σ N o x = false) → _ := fun x6 x7 hq => ih (s + 1) x6 x7 (by omega) (fun i o hi => by
        by_cases e : i = s
        · subst e; exact hq o
        · exact hno i o (by omega))
      refine fx_bf rfl (by rw [h3]; exact nI_ge (by omega) (by omega)) ?_
      repeat refine fx_n rfl ?_
      refine fx_p rfl (ev_worth _ M S L s fg σ (by omega) h) ?_
      cases hw : woB fg σ s with
      | false =>
        refine fx_bt rfl (by decide) ?_
        repeat refine fx_n rfl ?_
        rw [nI_1]
        refine i2 _ _ (fun o h1 h2 => ?_)
        simp [woB, h1, h2] at hw
      | true =>
        refine fx_bf rfl (by decide) ?_
        simp only [woB, Bool.and_eq_true, Bool.not_eq_true', decide_eq_true_eq] at hw
        obtain ⟨hf, hno2⟩ := hw
        cases ho : σ.1 s with
        | none => exact absurd ho hno2
        | some o =>
          have ho8 := hw8 s o ho
          repeat refine fx_n rfl ?_
          refine fx_g rfl (ix_nI (by omega) (by omega)) ?_
          rw [nI_cl (by omega), hO s (by omega), ho, show oI (some o) = nI o from rfl]
          repeat refine fx_n rfl ?_
          refine fx_p rfl (ev_isLucky _ _ S L N s fg σ.2 hS (by omega) (by omega) hL h5 h11 ht) ?_
          have go : (lkS L N (fg s) (σ.2 s) = false ∨ twB S L fg σ N o = true) → Fx (d + 2) i_X2_mostInLast 157 [some (.ref 13), some (.int (nI N)), some (.int (nI (bN (anyL σ.1 σ.2 L N fg S) 8))), some (.int (nI (bN (twB S L fg σ N) 8))), some (.int (nI (lkN S L fg σ N))), some (.int (nI s)), some (.int ((1 : Int32) <<< (nI o &&& 31))), some (.int 1)] [.int 1] M (fun r M' => r = some (.int (nI (VV S L fg 1 N σ))) ∧ M' = M) := by
            intro hsp
            refine fx_bf rfl (by decide) ?_
            repeat refine fx_n rfl ?_
            rw [fr_bits ho8]
            have hlt := bN_lt (frB S L fg σ N o) 8
            by_cases hz : bN (frB S L fg σ N o) 8 = 0
            · refine fx_bt rfl (by rw [hz]; rfl) ?_
              repeat refine fx_n rfl ?_
              rw [nI_1]
              refine i2 _ _ (fun o' h1 _ _ => ?_)
              rw [ho] at h1; injection h1 with h1
              subst h1
              exact bN_0 _ 8 hz
            · refine fx_bf rfl (nI_ne0 (by omega) (by omega)) ?_
              repeat refine fx_n rfl ?_
              obtain ⟨x, hx, hfr⟩ := bN_ne _ 8 hz
              rw [nI_1]
              exact fx_r rfl rfl ⟨by rw [VV1_t hL1 (by omega) ho hf hsp hx hfr], rfl⟩
          cases hl : lkS L N (fg s) (σ.2 s) with
          | false =>
            refine fx_bt rfl (by decide) ?_
            repeat refine fx_n rfl ?_
            exact go (Or.inl hl)
          | true =>
            refine fx_bf rfl (by decide) ?_
            repeat refine fx_n rfl ?_
            by_cases htw : twB S L fg σ N o = true
            · refine fx_bf rfl (fun z => by rw [tw_bits ho8, htw] at z; cases z) ?_
              repeat refine fx_n rfl ?_
              exact go (Or.inr htw)
            · have htf : twB S L fg σ N o = false := by
                cases q : twB S L fg σ N o with
                | false => rfl
                | true => exact absurd q htw
              refine fx_bt rfl ((tw_bits ho8).mpr htf) ?_
              repeat refine fx_n rfl ?_
              refine fx_bt rfl (by decide) ?_
              repeat refine fx_n rfl ?_
              rw [nI_1]
              refine i2 _ _ (fun o' h1 _ h3' => ?_)
              rw [ho] at h1; injection h1 with h1
              subst h1
              rcases h3' with z | z
              · rw [hl] at z; cases z
              · rw [htf] at z; cases z
  have loop1 : ∀ (j s : Nat) (x5 : Option Value), s + j = S → Fx (d + 2) i_X2_mostInLast 19 [some (.ref 13), some (.int (nI N)), some (.int (nI (bN (anyL σ.1 σ.2 L N fg s) 8))), some (.int (nI (bN (twB s L fg σ N) 8))), some (.int (nI s)), x5, none, none] [.int (M 1 3), .int (nI s)] M (fun r M' => r = some (.int (nI (VV S L fg 1 N σ))) ∧ M' = M) := by
    intro j
    induction j with
    | zero =>
      intro s x5 hs
      have e : s = S := by omega
      subst e
      refine fx_bt rfl (by rw [h3]; exact nI_le (Nat.le_refl _) (by omega)) ?_
      repeat refine fx_n rfl ?_
      refine fx_p rfl (ev_bitCount _ _ _ (bN_256 _)) ?_
      rw [pcn_bN _ 8 (by omega)]
      repeat refine fx_n rfl ?_
      exact loop2 s 0 none none (by omega) (fun i o hi => by omega)
    | succ j ih =>
      intro s x5 hs
      have i2 := fun x5 => ih (s + 1) x5 (by omega)
      refine fx_bf rfl (by rw [h3]; exact nI_ge (by omega) (by omega)) ?_
      repeat refine fx_n rfl ?_
      refine fx_g rfl (ix_nI (by omega) (by omega)) ?_
      rw [nI_cl (by omega), hO s (by omega)]
      repeat refine fx_n rfl ?_
      have skip : (∀ x, lkp σ.1 σ.2 L N fg x s = false) → bN (anyL σ.1 σ.2 L N fg (s + 1)) 8 = bN (anyL σ.1 σ.2 L N fg s) 8 ∧ bN (twB (s + 1) L fg σ N) 8 = bN (twB s L fg σ N) 8 := fun q => ⟨bN_congr 8 (fun x _ => anyL_f (q x)), bN_congr 8 (fun x _ => by unfold twB; rw [cnB_f (q x)])⟩
      cases ho : σ.1 s with
      | none =>
        obtain ⟨k1, k2⟩ := skip (fun x => by simp [lkp, ho])
        rw [k1, k2] at i2
        refine fx_bt rfl rfl ?_
        repeat refine fx_n rfl ?_
        rw [nI_1]
        exact i2 _
      | some o =>
        have ho8 := hw8 s o ho
        refine fx_bf rfl (nI_ne_m1 (by omega)) ?_
        repeat refine fx_n rfl ?_
        refine fx_p rfl (ev_isLucky _ _ S L N s fg σ.2 hS (by omega) (by omega) hL h5 h11 ht) ?_
        cases hq : lkS L N (fg s) (σ.2 s) with
        | false =>
          obtain ⟨k1, k2⟩ := skip (fun x => by simp [lkp, hq])
          rw [k1, k2] at i2
          refine fx_bt rfl (by decide) ?_
          repeat refine fx_n rfl ?_
          rw [nI_1]
          exact i2 _
        | true =>
          refine fx_bf rfl (by decide) ?_
          repeat refine fx_n rfl ?_
          refine fx_g rfl (ix_nI (by omega) (by omega)) ?_
          rw [nI_cl (by omega), hO s (by omega), ho, show oI (some o) = nI o from rfl]
          repeat refine fx_n rfl ?_
          have la := bN_lt (anyL σ.1 σ.2 L N fg s) 8
          have lt := bN_lt (twB s L fg σ N) 8
          have e1 : nI (bN (anyL σ.1 σ.2 L N fg s) 8) ||| ((1 : Int32) <<< (nI o &&& 31)) = nI (bN (anyL σ.1 σ.2 L N fg (s + 1)) 8) := by
            rw [nI_or _ la o ho8, ← bN_one ho8, bN_or]
            congr 1
            refine bN_congr 8 (fun x _ => ?_)
            by_cases hx : x = o
            · subst hx
              rw [anyL_t (by simp [lkp, ho, hq])]; simp
            · rw [anyL_f (by simp [lkp, ho, Ne.symm hx])]; simp [hx]
          have e2 : nI (bN (twB s L fg σ N) 8) ||| (nI (bN (anyL σ.1 σ.2 L N fg s) 8) &&& ((1 : Int32) <<< (nI o &&& 31))) = nI (bN (twB (s + 1) L fg σ N) 8) := by
            rw [nI_and8 _ la o ho8, ← bN_one ho8, bN_and, or_nI lt (bN_lt _ 8), bN_or]
            congr 1
            refine bN_congr 8 (fun x _ => ?_)
            by_cases hx : x = o
            · subst hx
              unfold twB anyL
              rw [cnB_t (n := s) (p := lkp σ.1 σ.2 L N fg x) (by simp [lkp, ho, hq])]
              apply bool_ext <;> simp <;> omega
            · unfold twB
              rw [cnB_f (n := s) (p := lkp σ.1 σ.2 L N fg x) (by simp [lkp, ho, Ne.symm hx])]; simp [hx]
          rw [e1, e2, nI_1]
          exact i2 _
  refine ev_of ?_
  repeat refine fx_n rfl ?_
  have z1 : bN (anyL σ.1 σ.2 L N fg 0) 8 = 0 := by
    have : anyL σ.1 σ.2 L N fg 0 = fun _ => false := by funext x; simp [anyL, cnB]
    rw [this]; rfl
  have z2 : bN (twB 0 L fg σ N) 8 = 0 := by
    have : twB 0 L fg σ N = fun _ => false := by funext x; simp [twB, cnB]
    rw [this]; rfl
  have := loop1 S 0 none (by omega)
  rw [z1, z2] at this
  exact this
