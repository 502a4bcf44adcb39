/-! ===== bits ===== -/
def bN (p : Nat → Bool) : Nat → Nat
  | 0 => 0
  | n + 1 => bN p n + cond (p n) (2 ^ n) 0
theorem bN_lt (p : Nat → Bool) : ∀ n, bN p n < 2 ^ n
  | 0 => by simp [bN]
  | n + 1 => by
    have := bN_lt p n
    unfold bN
    rw [Nat.pow_succ]
    cases p n <;> simp <;> omega
theorem bN_9 (p : Nat → Bool) {n : Nat} (h : n ≤ 9) : bN p n < 512 := Nat.lt_of_lt_of_le (bN_lt p n) (Nat.le_trans (Nat.pow_le_pow_right (by omega) h) (by decide))
theorem or_bit : ∀ n, n < 9 → ∀ a, a < 512 → a < 2 ^ n → nI a ||| ((1 : Int32) <<< (nI n &&& 31)) = nI (a + 2 ^ n) := by decide +kernel
theorem sh_bit : ∀ s, s < 9 → ∀ a, a < 512 → (nI a >>> (nI s &&& 31)) &&& 1 = nI (a / 2 ^ s % 2) := by decide +kernel
theorem bN_step (p : Nat → Bool) {n : Nat} (h : n < 9) (hp : p n = true) : nI (bN p n) ||| ((1 : Int32) <<< (nI n &&& 31)) = nI (bN p (n + 1)) := by
  rw [or_bit n h _ (bN_9 p (by omega)) (bN_lt p n)]
  simp [bN, hp]
theorem bN_skip (p : Nat → Bool) {n : Nat} (hp : p n = false) : bN p (n + 1) = bN p n := by simp [bN, hp]
theorem bN_bit (p : Nat → Bool) (s : Nat) : ∀ n, s < n → bN p n / 2 ^ s % 2 = cond (p s) 1 0
  | 0, h => by omega
  | n + 1, h => by
    unfold bN
    by_cases e : s = n
    · subst e
      have := bN_lt p s
      cases hp : p s
      · simp [Nat.div_eq_of_lt this]
      · simp only [cond_true]
        rw [Nat.add_div_right _ (Nat.two_pow_pos s), Nat.div_eq_of_lt this]
    · have ih := bN_bit p s n (by omega)
      cases hp : p n
      · simpa using ih
      · simp only [cond_true]
        have h2 : 2 ^ n = 2 ^ s * (2 * 2 ^ (n - s - 1)) := by
          rw [← Nat.pow_succ', ← Nat.pow_add]
          congr 1
          omega
        rw [h2, Nat.add_mul_div_left _ _ (Nat.two_pow_pos s), Nat.add_mul_mod_self_left]
        exact ih
theorem bN_congr {p q : Nat → Bool} : ∀ n, (∀ s, s < n → p s = q s) → bN p n = bN q n
  | 0, _ => rfl
  | n + 1, h => by
    unfold bN
    rw [bN_congr n (fun s hs => h s (by omega)), h n (by omega)]
theorem bN_sh (p : Nat → Bool) {s n : Nat} (h : s < n) (hn : n ≤ 9) : (nI (bN p n) >>> (nI s &&& 31)) &&& 1 = zb (p s) := by
  rw [sh_bit s (by omega) _ (bN_9 p hn), bN_bit p s n h]
  cases p s <;> rfl
/-! ===== the text ===== -/
def tx_ok (b : Nat → Int32) (i : Nat) : Bool := decide (i < 18) && (if i % 2 = 0 then inR (b i) 48 55 else decide (b i = 114 ∨ b i = 102))
def tx_f (b : Nat → Int32) (n : Nat) : Nat → Nat → Int32
  | 0, _ => if n % 2 = 0 then -1 else nI n
  | j + 1, i => cond (tx_ok b i) (tx_f b n j (i + 1)) (nI i)
def tx_fault (b : Nat → Int32) (n : Nat) : Int32 := tx_f b n n 0
def tx_st (b : Nat → Int32) (n : Nat) : Nat := if tx_fault b n = -1 then n / 2 else 0
def tx_fg (b : Nat → Int32) (s : Nat) : Bool := decide (b (2 * s + 1) = 102)
theorem nI_ne_m1 {k : Nat} (h : k < 2 ^ 31) : ¬ nI k = -1 := by
  intro e
  have := congrArg Int32.toInt e
  rw [nI_toInt h] at this
  have h2 : (-1 : Int32).toInt = -1 := rfl
  rw [h2] at this
  omega
theorem tx_f_ok (b : Nat → Int32) (n : Nat) : ∀ j i, i + j = n → n < 2 ^ 31 → tx_f b n j i = -1 → n % 2 = 0 ∧ ∀ k, i ≤ k → k < n → tx_ok b k = true
  | 0, i, h, hn, e => by
    unfold tx_f at e
    split at e
    · rename_i q
      exact ⟨q, fun k h1 h2 => by omega⟩
    · exact absurd e (nI_ne_m1 hn)
  | j + 1, i, h, hn, e => by
    unfold tx_f at e
    cases q : tx_ok b i with
    | false => rw [q] at e; exact absurd e (nI_ne_m1 (by omega))
    | true =>
      rw [q] at e
      obtain ⟨h1, h2⟩ := tx_f_ok b n j (i + 1) (by omega) hn e
      refine ⟨h1, fun k h3 h4 => ?_⟩
      rcases Nat.lt_or_ge i k with h5 | h5
      · exact h2 k h5 h4
      · have : k = i := by omega
        rw [this]; exact q
theorem tx_good {b : Nat → Int32} {n : Nat} (hn : n < 2 ^ 31) (h : tx_fault b n = -1) : n % 2 = 0 ∧ n ≤ 18 ∧ ∀ k, k < n → tx_ok b k = true := by
  obtain ⟨h1, h2⟩ := tx_f_ok b n n 0 (by omega) hn h
  refine ⟨h1, ?_, fun k hk => h2 k (by omega) hk⟩
  rcases Nat.lt_or_ge 18 n with q | q
  · have := h2 18 (by omega) q
    simp [tx_ok] at this
  · exact q
theorem tx_st_le {b : Nat → Int32} {n : Nat} (hn : n ≤ 30) : tx_st b n ≤ 9 ∧ 2 * tx_st b n ≤ n := by
  unfold tx_st
  split
  · rename_i h
    obtain ⟨-, h2, -⟩ := tx_good (by omega) h
    omega
  · omega
theorem tx_byte {b : Nat → Int32} {n s : Nat} (hn : n ≤ 30) (hs : s < tx_st b n) : inR (b (2 * s)) 48 55 = true ∧ (b (2 * s + 1) = 114 ∨ b (2 * s + 1) = 102) := by
  unfold tx_st at hs
  split at hs
  · rename_i h
    obtain ⟨h1, h2, h3⟩ := tx_good (by omega) h
    have a1 := h3 (2 * s) (by omega)
    have a2 := h3 (2 * s + 1) (by omega)
    simp only [tx_ok, Bool.and_eq_true, decide_eq_true_eq] at a1 a2
    have e1 : 2 * s % 2 = 0 := by omega
    have e2 : ¬ (2 * s + 1) % 2 = 0 := by omega
    rw [if_pos e1] at a1
    rw [if_neg e2, decide_eq_true_eq] at a2
    exact ⟨a1.2, a2.2⟩
  · omega
theorem tx_f_congr {b b' : Nat → Int32} {n : Nat} : ∀ j i, i + j = n → (∀ k, k < n → b k = b' k) → tx_f b n j i = tx_f b' n j i
  | 0, _, _, _ => rfl
  | j + 1, i, h, hb => by
    unfold tx_f
    have e : tx_ok b i = tx_ok b' i := by unfold tx_ok; rw [hb i (by omega)]
    rw [e, tx_f_congr j (i + 1) (by omega) hb]
theorem rem2 {k : Nat} (hk : k < 2 ^ 31) : nI k - nI k / 2 * 2 = nI (k % 2) := pk_rem (d := 2) hk (by omega) (by omega)
theorem ix_nI {k n : Nat} (h : k < n) (hn : n < 2 ^ 31) : 0 ≤ (nI k).toInt ∧ (nI k).toInt < (n : Int) := by
  rw [nI_toInt (by omega)]
  omega
theorem nI_cl {k : Nat} (h : k < 2 ^ 31) : (nI k).toNatClampNeg = k := nI_clamp h
set_option maxRecDepth 100000 in
set_option maxHeartbeats 4000000 in
theorem ev_fits (d : Nat) (M : sy_Mm) (k : Nat) (hk : k < 30) : Ev d i_X5_fits [.ref 1, .int (nI k)] M (some (.int (zb (tx_ok (M 2) k)))) M := by
  refine ev_of ?_
  repeat refine fx_n rfl ?_
  refine fx_b rfl (fun h => ?_) (fun h => ?_)
  · have hk18 : k < 18 := by
      rw [Int32.lt_iff_toInt_lt, nI_toInt (by omega)] at h
      simp at h
      omega
    repeat refine fx_n rfl ?_
    refine fx_g rfl (ix_nI hk (by omega)) ?_
    repeat refine fx_n rfl ?_
    refine fx_g rfl (by decide) ?_
    rw [rem2 (by omega), nI_cl (by omega)]
    by_cases h2 : k % 2 = 0
    · have e : tx_ok (M 2) k = inR (M 2 k) 48 55 := by simp [tx_ok, hk18, h2]
      rw [e, h2]
      refine fx_bf rfl (by decide) ?_
      repeat' (first | refine fx_n rfl ?_ | refine fx_b rfl (fun _ => ?_) (fun _ => ?_) | refine fx_r rfl rfl ?_)
      all_goals
        refine ⟨?_, rfl⟩
        simp only [Int32.lt_iff_toInt_lt] at *
        simp at *
        first
          | (rw [inR_f.mpr (by omega)]; rfl)
          | (rw [inR_t.mpr (by omega)]; rfl)
    · have e : tx_ok (M 2) k = decide (M 2 k = 114 ∨ M 2 k = 102) := by simp [tx_ok, hk18, h2]
      have e1 : k % 2 = 1 := by omega
      rw [e, e1]
      refine fx_bt rfl (by decide) ?_
      repeat' (first | refine fx_n rfl ?_ | refine fx_b rfl (fun _ => ?_) (fun _ => ?_) | refine fx_r rfl rfl ?_)
      all_goals
        refine ⟨?_, rfl⟩
        simp_all [zb]
  · have hk18 : ¬ k < 18 := by
      rw [Int32.lt_iff_toInt_lt, nI_toInt (by omega)] at h
      simp at h
      omega
    have e : tx_ok (M 2) k = false := by simp [tx_ok, hk18]
    rw [e]
    repeat' (first | refine fx_n rfl ?_ | refine fx_b rfl (fun _ => ?_) (fun _ => ?_) | refine fx_r rfl rfl ?_)
    exact ⟨rfl, rfl⟩
set_option maxRecDepth 100000 in
set_option maxHeartbeats 4000000 in
theorem ev_firstFault (d : Nat) (M : sy_Mm) (n : Nat) (hn : n ≤ 30) (h1 : M 1 1 = nI n) : Ev (d + 1) i_X5_firstFault [.ref 1] M (some (.int (tx_fault (M 2) n))) M := by
  have loop : ∀ j i, i + j = n → Fx (d + 1) i_X5_firstFault 7 [some (.ref 1), some (.int (nI i))] [.int (M 1 1), .int (nI i)] M (fun r N => r = some (.int (tx_f (M 2) n j i)) ∧ N = M) := by
    intro j
    induction j with
    | zero =>
      intro i hi
      have e : i = n := by omega
      subst e
      refine fx_bt rfl (by rw [h1]; exact nI_le (Nat.le_refl _) (by omega)) ?_
      repeat refine fx_n rfl ?_
      refine fx_g rfl (by decide) ?_
      rw [h1, rem2 (by omega)]
      unfold tx_f
      by_cases h2 : i % 2 = 0
      · rw [if_pos h2, h2]
        refine fx_bf rfl (by decide) ?_
        repeat' (first | refine fx_n rfl ?_ | refine fx_b rfl (fun _ => ?_) (fun _ => ?_) | refine fx_r rfl rfl ?_)
        exact ⟨rfl, rfl⟩
      · rw [if_neg h2, show i % 2 = 1 by omega]
        refine fx_bt rfl (by decide) ?_
        repeat refine fx_n rfl ?_
        refine fx_r rfl rfl ⟨?_, rfl⟩
        rw [h1]
    | succ j ih =>
      intro i hi
      refine fx_bf rfl (by rw [h1]; exact nI_ge (by omega) (by omega)) ?_
      repeat refine fx_n rfl ?_
      refine fx_p rfl (ev_fits _ _ _ (by omega)) ?_
      unfold tx_f
      cases q : tx_ok (M 2) i with
      | true =>
        refine fx_bt rfl (by decide) ?_
        repeat refine fx_n rfl ?_
        have := ih (i + 1) (by omega)
        rw [← nI_1] at this
        exact this
      | false =>
        refine fx_bf rfl (by decide) ?_
        repeat refine fx_n rfl ?_
        exact fx_r rfl rfl ⟨rfl, rfl⟩
  refine ev_of ?_
  repeat refine fx_n rfl ?_
  exact loop n 0 (by omega)
set_option maxRecDepth 100000 in
set_option maxHeartbeats 4000000 in
theorem ev_lookThrough (d : Nat) (M : sy_Mm) (n : Nat) (hn : n ≤ 30) (h1 : M 1 1 = nI n) : Ev (d + 2) i_X5_lookThrough [.ref 1] M none (sy_up (sy_up M 1 2 (tx_fault (M 2) n)) 1 3 (nI (tx_st (M 2) n))) := by
  refine ev_of ?_
  repeat refine fx_n rfl ?_
  refine fx_p rfl (ev_firstFault _ _ n hn h1) ?_
  repeat refine fx_n rfl ?_
  by_cases h : tx_fault (M 2) n = -1
  · refine fx_bf rfl (by intro q; exact q (by rw [← h]; exact up_s)) ?_
    repeat refine fx_n rfl ?_
    refine fx_g rfl (by decide) ?_
    repeat refine fx_n rfl ?_
    refine fx_r rfl rfl ⟨rfl, ?_⟩
    have e : (sy_up M 1 2 (tx_fault (M 2) n)) 1 1 / 2 = nI (tx_st (M 2) n) := by
      rw [up_j (by omega), h1]
      unfold tx_st
      rw [if_pos h]
      exact pk_div (d := 2) (by omega) (by omega) (by omega)
    rw [e]
  · refine fx_bt rfl (by intro q; exact h (by rw [← q]; exact up_s.symm)) ?_
    repeat refine fx_n rfl ?_
    refine fx_r rfl rfl ⟨rfl, ?_⟩
    unfold tx_st
    rw [if_neg h]
    rfl
