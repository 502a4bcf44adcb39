set_option maxRecDepth 100000 in
set_option maxHeartbeats 4000000 in
theorem ev_put (d : Nat) (M : sy_Mm) (n : Nat) (hn : n ≤ 30) (h1 : M 1 1 = nI n) (v : Int32) : Ex (d + 3) i_X5_put [.ref 1, .int v] M (fun r N => if n = 30 then r = some (.int (-4)) ∧ N = M else r = some (.int (nI (n + 1))) ∧ N = sy_up (sy_up (sy_up (sy_up M 2 n v) 1 1 (nI (n + 1))) 1 2 (tx_fault (upd (M 2) n v) (n + 1))) 1 3 (nI (tx_st (upd (M 2) n v) (n + 1)))) := by
  unfold Ex
  repeat refine fx_n rfl ?_
  by_cases h : n = 30
  · refine fx_bf rfl (by rw [h1, h]; decide) ?_
    repeat refine fx_n rfl ?_
    refine fx_r rfl rfl ?_
    rw [if_pos h]
    exact ⟨rfl, rfl⟩
  · refine fx_bt rfl (by rw [h1]; exact nI_lt (b := 30) (by omega) (by omega)) ?_
    repeat refine fx_n rfl ?_
    refine fx_g rfl (by rw [h1]; exact ix_nI (by omega) (by omega)) ?_
    repeat refine fx_n rfl ?_
    rw [h1, nI_cl (by omega)]
    have e1 : sy_up M 2 n v 1 1 + 1 = nI (n + 1) := by rw [up_k (by omega), h1, nI_1]
    rw [e1]
    refine fx_c rfl (ex_of (ev_lookThrough _ _ (n + 1) (by omega) up_s)) ?_
    rintro _ _ ⟨rfl, rfl⟩
    repeat refine fx_n rfl ?_
    have e2 : (sy_up (sy_up M 2 n v) 1 1 (nI (n + 1))) 2 = upd (M 2) n v := by rw [up_k (by omega), up_r]
    rw [e2]
    refine fx_r rfl rfl ?_
    rw [if_neg h]
    refine ⟨?_, rfl⟩
    rw [up_j (by omega), up_j (by omega), up_s]
set_option maxRecDepth 100000 in
set_option maxHeartbeats 4000000 in
theorem ev_empty (d : Nat) (M : sy_Mm) : Ev (d + 3) i_X5_empty [.ref 1] M (some (.int (M 1 1))) (sy_up (sy_up (sy_up M 1 1 0) 1 2 (-1)) 1 3 0) := by
  refine ev_of ?_
  repeat refine fx_n rfl ?_
  refine fx_c rfl (ex_of (ev_lookThrough _ _ 0 (by omega) up_s)) ?_
  rintro _ _ ⟨rfl, rfl⟩
  repeat refine fx_n rfl ?_
  exact fx_r rfl rfl ⟨rfl, rfl⟩
theorem tw_nI (s : Nat) : (2 : Int32) * nI s = nI (2 * s) := pk_mul 2 s
set_option maxRecDepth 100000 in
set_option maxHeartbeats 4000000 in
theorem ev_houseOf (d : Nat) (M : sy_Mm) (s : Nat) (hs : s < 9) : Ev d i_X5_houseOf [.ref 1, .int (nI s)] M (some (.int (M 2 (2 * s) - 48))) M := by
  refine ev_of ?_
  repeat refine fx_n rfl ?_
  rw [tw_nI]
  refine fx_g rfl (ix_nI (by omega) (by omega)) ?_
  repeat refine fx_n rfl ?_
  rw [nI_cl (by omega)]
  exact fx_r rfl rfl ⟨rfl, rfl⟩
set_option maxRecDepth 100000 in
set_option maxHeartbeats 4000000 in
theorem ev_isForged (d : Nat) (M : sy_Mm) (s : Nat) (hs : s < 9) : Ev d i_X5_isForged [.ref 1, .int (nI s)] M (some (.int (zb (tx_fg (M 2) s)))) M := by
  refine ev_of ?_
  repeat refine fx_n rfl ?_
  rw [tw_nI, nI_1]
  refine fx_g rfl (ix_nI (by omega) (by omega)) ?_
  repeat refine fx_n rfl ?_
  rw [nI_cl (by omega)]
  repeat' (first | refine fx_n rfl ?_ | refine fx_b rfl (fun _ => ?_) (fun _ => ?_) | refine fx_r rfl rfl ?_)
  all_goals
    refine ⟨?_, rfl⟩
    simp_all [zb, tx_fg]
set_option maxRecDepth 100000 in
set_option maxHeartbeats 4000000 in
theorem ev_has (d : Nat) (M : sy_Mm) (v : Int32) (S : Nat) (hS : S ≤ 9) (h3 : M 1 3 = nI S) : Ev d i_X5_has [.ref 1, .int v] M (some (.int (zb (inR v 0 ((S : Int) - 1))))) M := by
  have e : (nI S).toInt = (S : Int) := nI_toInt (by omega)
  refine ev_of ?_
  repeat' (first | refine fx_n rfl ?_ | refine fx_b rfl (fun _ => ?_) (fun _ => ?_) | refine fx_r rfl rfl ?_)
  all_goals
    refine ⟨?_, rfl⟩
    try rw [h3] at *
    simp only [Int32.lt_iff_toInt_lt, Int32.le_iff_toInt_le, e] at *
    simp at *
    first
      | (rw [inR_f.mpr (by omega)]; rfl)
      | (rw [inR_t.mpr (by omega)]; rfl)
set_option maxRecDepth 100000 in
set_option maxHeartbeats 4000000 in
theorem ev_realStones (d : Nat) (M : sy_Mm) (S : Nat) (hS : S ≤ 9) (h3 : M 1 3 = nI S) : Ev (d + 1) i_X5_realStones [.ref 1] M (some (.int (nI (bN (fun s => !tx_fg (M 2) s) S)))) M := by
  have loop : ∀ j s, s + j = S → Fx (d + 1) i_X5_realStones 9 [some (.ref 1), some (.int (nI (bN (fun s => !tx_fg (M 2) s) s))), some (.int (nI s))] [.int (M 1 3), .int (nI s)] M (fun r N => r = some (.int (nI (bN (fun s => !tx_fg (M 2) s) S))) ∧ N = M) := by
    intro j
    induction j with
    | zero =>
      intro s hs
      have e : s = S := by omega
      subst e
      refine fx_bt rfl (by rw [h3]; exact nI_le (Nat.le_refl _) (by omega)) ?_
      repeat refine fx_n rfl ?_
      exact fx_r rfl rfl ⟨rfl, rfl⟩
    | succ j ih =>
      intro s hs
      refine fx_bf rfl (by rw [h3]; exact nI_ge (by omega) (by omega)) ?_
      repeat refine fx_n rfl ?_
      refine fx_p rfl (ev_isForged _ _ _ (by omega)) ?_
      have i2 := ih (s + 1) (by omega)
      rw [← nI_1] at i2
      cases q : tx_fg (M 2) s with
      | true =>
        refine fx_bt rfl (by decide) ?_
        repeat refine fx_n rfl ?_
        rw [bN_skip _ (by simp [q])] at i2
        exact i2
      | false =>
        refine fx_bf rfl (by decide) ?_
        repeat refine fx_n rfl ?_
        rw [bN_step (fun s => !tx_fg (M 2) s) (by omega) (by simp [q])]
        exact i2
  refine ev_of ?_
  repeat refine fx_n rfl ?_
  exact loop S 0 (by omega)
/-! ===== the reference's text ===== -/
set_option maxRecDepth 100000 in
set_option maxHeartbeats 4000000 in
theorem em_here (d : Nat) (M : sy_Mm) (n a : Nat) (hn : n ≤ 30) (ha : a ≤ n) (h6 : M 30 6 = nI n) (h7 : M 30 7 = nI a) : Ev d i_X8_here [.ref 30] M (some (.int (if a < n then M 35 a else -1))) M := by
  refine ev_of ?_
  repeat refine fx_n rfl ?_
  by_cases h : a < n
  · rw [if_pos h]
    refine fx_bf rfl (by rw [h6, h7]; exact nI_ge h (by omega)) ?_
    repeat refine fx_n rfl ?_
    refine fx_g rfl (by rw [h7]; exact ix_nI (by omega) (by omega)) ?_
    repeat refine fx_n rfl ?_
    rw [h7, nI_cl (by omega)]
    exact fx_r rfl rfl ⟨rfl, rfl⟩
  · rw [if_neg h]
    refine fx_bt rfl (by rw [h6, h7]; exact nI_le (by omega) (by omega)) ?_
    repeat' (first | refine fx_n rfl ?_ | refine fx_b rfl (fun _ => ?_) (fun _ => ?_) | refine fx_r rfl rfl ?_)
    exact ⟨rfl, rfl⟩
set_option maxRecDepth 100000 in
set_option maxHeartbeats 4000000 in
theorem em_none (d : Nat) (M : sy_Mm) : Ev d i_X8_none [.ref 30] M (some (.int (M 30 7))) (sy_up (sy_up M 30 8 0) 30 10 0) := by
  refine ev_of ?_
  repeat' (first | refine fx_n rfl ?_ | refine fx_b rfl (fun _ => ?_) (fun _ => ?_) | refine fx_r rfl rfl ?_)
  exact ⟨rfl, rfl⟩
theorem sub48 (x : Int32) : inR (x - 48) 0 7 = inR x 48 55 := by
  have h1 := Int32.toInt_lt x
  have h2 := Int32.le_toInt x
  have e : (x - 48).toInt = (x.toInt - 48).bmod 4294967296 := Int32.toInt_sub x 48
  rw [Int.bmod_def] at e
  unfold inR
  congr 1
  apply propext
  split at e <;> omega
/-- what reads() leaves: the fault's answer, the stones, their houses and which are forged; nothing else -/
def rdOK (b : Nat → Int32) (n : Nat) (M N : sy_Mm) : Prop := N 30 8 = nI (tx_st b n) ∧ N 30 10 = nI (bN (tx_fg b) (tx_st b n)) ∧ (∀ s, s < tx_st b n → N 36 s = b (2 * s) - 48) ∧ (∀ k, k ≠ 30 → k ≠ 36 → N k = M k) ∧ ∀ j, j ≠ 7 → j ≠ 8 → j ≠ 10 → N 30 j = M 30 j
theorem rd_bad {b : Nat → Int32} {n a : Nat} {M M1 : sy_Mm} (ha : a < 2 ^ 31) (hf : tx_fault b n = nI a) (aK : ∀ k, k ≠ 30 → k ≠ 36 → M1 k = M k) (a30 : ∀ j, j ≠ 7 → j ≠ 8 → j ≠ 10 → M1 30 j = M 30 j) : rdOK b n M (sy_up (sy_up M1 30 8 0) 30 10 0) := by
  have hs : tx_st b n = 0 := by unfold tx_st; rw [if_neg (by rw [hf]; exact nI_ne_m1 ha)]
  unfold rdOK
  rw [hs]
  refine ⟨?_, ?_, fun s h => by omega, fun k h1 h2 => ?_, fun j h1 h2 h3 => ?_⟩
  · rw [up_j (by omega), up_s]; rfl
  · rw [up_s]; rfl
  · rw [up_k h1, up_k h1]; exact aK k h1 h2
  · rw [up_j h3, up_j h2]; exact a30 j h1 h2 h3
set_option maxRecDepth 100000 in
set_option maxHeartbeats 4000000 in
theorem em_reads (d : Nat) (M : sy_Mm) (b : Nat → Int32) (n : Nat) (hn : n ≤ 30) (h6 : M 30 6 = nI n) (hb : ∀ j, j < n → M 35 j = b j) : Ex (d + 2) i_X8_reads [.ref 30] M (fun r N => r = some (.int (tx_fault b n)) ∧ rdOK b n M N) := by
  have loop : ∀ (j p : Nat) (x : Option Value) (M1 : sy_Mm), 2 * p + j = n → p ≤ 9 → tx_fault b n = tx_f b n j (2 * p) → M1 30 7 = nI (2 * p) → M1 30 8 = nI p → M1 30 10 = nI (bN (tx_fg b) p) → (∀ s, s < p → M1 36 s = b (2 * s) - 48) → (∀ k, k ≠ 30 → k ≠ 36 → M1 k = M k) → (∀ j, j ≠ 7 → j ≠ 8 → j ≠ 10 → M1 30 j = M 30 j) →
      Fx (d + 2) i_X8_reads 23 [some (.ref 30), x] [.int (M1 30 6), .int (M1 30 7)] M1 (fun r N => r = some (.int (tx_fault b n)) ∧ rdOK b n M N) := by
    intro j
    induction j using Nat.strongRecOn with
    | ind j ih =>
    intro p x M1 hj hp hF a7 a8 a10 a36 aK a30
    have a6 : M1 30 6 = nI n := (a30 6 (by omega) (by omega) (by omega)).trans h6
    have a35 : M1 35 = M 35 := aK 35 (by omega) (by omega)
    cases j with
    | zero =>
      refine fx_bt rfl (by rw [a6, a7]; exact nI_le (by omega) (by omega)) ?_
      have hf : tx_fault b n = -1 := by
        rw [hF]; unfold tx_f; rw [if_pos (by omega)]
      have hs : tx_st b n = p := by unfold tx_st; rw [if_pos hf]; omega
      repeat refine fx_n rfl ?_
      refine fx_r rfl rfl ⟨by rw [hf], ?_⟩
      unfold rdOK
      rw [hs]
      exact ⟨a8, a10, a36, aK, a30⟩
    | succ j =>
      refine fx_bf rfl (by rw [a6, a7]; exact nI_ge (by omega) (by omega)) ?_
      repeat refine fx_n rfl ?_
      refine fx_p rfl (em_here _ _ n (2 * p) hn (by omega) a6 a7) ?_
      rw [if_pos (by omega), a35, hb _ (by omega)]
      repeat refine fx_n rfl ?_
      by_cases hp9 : p = 9
      · refine fx_bt rfl (by rw [a8, hp9]; decide) ?_
        have hf : tx_fault b n = nI (2 * p) := by
          rw [hF]
          unfold tx_f
          have : tx_ok b (2 * p) = false := by simp [tx_ok, hp9]
          rw [this]; rfl
        repeat refine fx_n rfl ?_
        refine fx_c rfl (ex_of (em_none _ _)) ?_
        rintro _ _ ⟨rfl, rfl⟩
        refine fx_r rfl rfl ⟨by rw [a7, hf], rd_bad (by omega) hf aK a30⟩
      · refine fx_bf rfl (by rw [a8]; exact fun q => hp9 ((nI_eq (b := 9) (by omega) (by omega)).mp q)) ?_
        repeat refine fx_n rfl ?_
        refine fx_p rfl (em_isHouse _ _ _) ?_
        rw [sub48]
        have o1 : tx_ok b (2 * p) = inR (b (2 * p)) 48 55 := by
          have : 2 * p < 18 := by omega
          simp [tx_ok, this]
        have o2 : tx_ok b (2 * p + 1) = decide (b (2 * p + 1) = 114 ∨ b (2 * p + 1) = 102) := by
          have h1 : 2 * p + 1 < 18 := by omega
          have h2 : ¬ (2 * p + 1) % 2 = 0 := by omega
          simp [tx_ok, h1, h2]
        unfold tx_f at hF
        rw [o1] at hF
        cases q : inR (b (2 * p)) 48 55 with
        | false =>
          rw [q] at hF
          refine fx_bf rfl (by decide) ?_
          repeat refine fx_n rfl ?_
          refine fx_c rfl (ex_of (em_none _ _)) ?_
          rintro _ _ ⟨rfl, rfl⟩
          refine fx_r rfl rfl ⟨by rw [a7, hF]; rfl, rd_bad (by omega) hF aK a30⟩
        | true =>
          rw [q] at hF
          have hF : tx_fault b n = tx_f b n j (2 * p + 1) := hF
          refine fx_bt rfl (by decide) ?_
          repeat refine fx_n rfl ?_
          rw [a7, nI_1]
          generalize hM2 : sy_up M1 30 7 (nI (2 * p + 1)) = M2
          have c6 : M2 30 6 = nI n := by rw [← hM2, up_j (by omega)]; exact a6
          have c7 : M2 30 7 = nI (2 * p + 1) := by rw [← hM2, up_s]
          have c8 : M2 30 8 = nI p := by rw [← hM2, up_j (by omega)]; exact a8
          have c10 : M2 30 10 = nI (bN (tx_fg b) p) := by rw [← hM2, up_j (by omega)]; exact a10
          have cK : ∀ k, k ≠ 30 → k ≠ 36 → M2 k = M k := fun k h1 h2 => by rw [← hM2, up_k h1]; exact aK k h1 h2
          have c36 : ∀ s, s < p → M2 36 s = b (2 * s) - 48 := fun s hs => by rw [← hM2, up_k (by omega)]; exact a36 s hs
          have c30 : ∀ j, j ≠ 7 → j ≠ 8 → j ≠ 10 → M2 30 j = M 30 j := fun j h1 h2 h3 => by rw [← hM2, up_j h1]; exact a30 j h1 h2 h3
          have c35 : M2 35 = M 35 := cK 35 (by omega) (by omega)
          have hh := fun d => em_here d M2 n (2 * p + 1) hn (by omega) c6 c7
          cases j with
          | zero =>
            rw [if_neg (by omega)] at hh
            refine fx_p rfl (hh _) ?_
            repeat refine fx_n rfl ?_
            refine fx_bf rfl (by decide) ?_
            repeat refine fx_n rfl ?_
            refine fx_p rfl (hh _) ?_
            repeat refine fx_n rfl ?_
            refine fx_bf rfl (by decide) ?_
            repeat refine fx_n rfl ?_
            refine fx_c rfl (ex_of (em_none _ _)) ?_
            rintro _ _ ⟨rfl, rfl⟩
            have hf : tx_fault b n = nI (2 * p + 1) := by
              rw [hF]; unfold tx_f; rw [if_neg (by omega)]; congr 1; omega
            refine fx_r rfl rfl ⟨by rw [c7, hf], rd_bad (by omega) hf cK c30⟩
          | succ j =>
            rw [if_pos (by omega), c35, hb _ (by omega)] at hh
            unfold tx_f at hF
            rw [o2] at hF
            refine fx_p rfl (hh _) ?_
            repeat refine fx_n rfl ?_
            have go88 : (b (2 * p + 1) = 114 ∨ b (2 * p + 1) = 102) → Fx (d + 2) i_X8_reads 88 [some (.ref 30), some (.int (b (2 * p) - 48))] [] M2 (fun r N => r = some (.int (tx_fault b n)) ∧ rdOK b n M N) := by
              intro hrf
              rw [decide_eq_true hrf] at hF
              have hF : tx_fault b n = tx_f b n j (2 * p + 1 + 1) := hF
              repeat refine fx_n rfl ?_
              refine fx_p rfl (hh _) ?_
              repeat refine fx_n rfl ?_
              have fin : ∀ (w : Int32), w = nI (bN (tx_fg b) (p + 1)) → Fx (d + 2) i_X8_reads 125 [some (.ref 30), some (.int (b (2 * p) - 48))] [.int (b (2 * p) - 48), .int (sy_up M2 30 10 w 30 8), .ref 36] (sy_up M2 30 10 w) (fun r N => r = some (.int (tx_fault b n)) ∧ rdOK b n M N) := by
                intro w hw
                have e8 : sy_up M2 30 10 w 30 8 = nI p := by rw [up_j (by omega)]; exact c8
                rw [e8]
                refine fx_g rfl (ix_nI (by omega) (by omega)) ?_
                rw [nI_cl (by omega)]
                repeat refine fx_n rfl ?_
                refine ih j (by omega) (p + 1) _ _ (by omega) (by omega) ?_ ?_ ?_ ?_ ?_ ?_ ?_
                · rw [hF]; rfl
                · rw [up_s, up_j (by omega), up_k (by omega), up_j (by omega), c7, nI_1]; rfl
                · rw [up_j (by omega), up_s, up_k (by omega), up_j (by omega), c8, nI_1]
                · rw [up_j (by omega), up_j (by omega), up_k (by omega), up_s, hw]
                · intro s hs
                  rw [up_k (by omega), up_k (by omega)]
                  by_cases hsp : s = p
                  · subst hsp; rw [up_s]
                  · rw [up_j hsp, up_k (by omega)]; exact c36 s (by omega)
                · intro k h1 h2
                  rw [up_k h1, up_k h1, up_k h2, up_k h1]; exact cK k h1 h2
                · intro j h1 h2 h3
                  rw [up_j h1, up_j h2, up_k (by omega), up_j h3]; exact c30 j h1 h2 h3
              by_cases h102 : b (2 * p + 1) = 102
              · refine fx_bf rfl (fun q => q h102) ?_
                repeat refine fx_n rfl ?_
                rw [c8, c10]
                exact fin _ (bN_step (tx_fg b) (by omega) (by simp [tx_fg, h102]))
              · refine fx_bt rfl h102 ?_
                repeat refine fx_n rfl ?_
                rw [c10]
                refine fin _ ?_
                rw [Int32.or_zero, bN_skip (tx_fg b) (by simp [tx_fg, h102])]
            by_cases h114 : b (2 * p + 1) = 114
            · refine fx_bt rfl h114 ?_
              exact go88 (Or.inl h114)
            · refine fx_bf rfl h114 ?_
              repeat refine fx_n rfl ?_
              refine fx_p rfl (hh _) ?_
              repeat refine fx_n rfl ?_
              by_cases h102 : b (2 * p + 1) = 102
              · refine fx_bt rfl h102 ?_
                exact go88 (Or.inr h102)
              · refine fx_bf rfl h102 ?_
                rw [decide_eq_false (by simp [h114, h102])] at hF
                repeat refine fx_n rfl ?_
                refine fx_c rfl (ex_of (em_none _ _)) ?_
                rintro _ _ ⟨rfl, rfl⟩
                refine fx_r rfl rfl ⟨by rw [c7, hF]; rfl, rd_bad (by omega) hF cK c30⟩
  unfold Ex
  repeat refine fx_n rfl ?_
  refine loop n 0 _ _ (by omega) (by omega) rfl ?_ ?_ ?_ ?_ ?_ ?_
  · rw [up_j (by omega), up_j (by omega), up_s]; rfl
  · rw [up_j (by omega), up_s]; rfl
  · rw [up_s]; rfl
  · intro s hs; omega
  · intro k h1 h2; rw [up_k h1, up_k h1, up_k h1]
  · intro j h1 h2 h3; rw [up_j h3, up_j h2, up_j h1]
