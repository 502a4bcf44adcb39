/-! ===== small methods ===== -/
def zb (p : Bool) : Int32 := cond p 1 0
theorem zb_0 {p : Bool} : zb p = 0 ↔ p = false := by cases p <;> decide
theorem zb_1 {p : Bool} : zb p = 1 ↔ p = true := by cases p <;> decide
theorem zb_ok (p : Bool) : decide (zb p = 0 ∨ zb p = 1) = true := by cases p <;> decide
theorem zb_t : zb true = 1 := rfl
theorem zb_f : zb false = 0 := rfl
def inR (x : Int32) (a b : Int) : Bool := decide (a ≤ x.toInt ∧ x.toInt ≤ b)
theorem inR_t {x : Int32} {a b : Int} : inR x a b = true ↔ a ≤ x.toInt ∧ x.toInt ≤ b := by simp [inR]
theorem inR_f {x : Int32} {a b : Int} : inR x a b = false ↔ ¬ (a ≤ x.toInt ∧ x.toInt ≤ b) := by simp [inR]
theorem inR_nI {x : Int32} {b : Nat} (h : inR x 0 b = true) : ∃ k : Nat, k ≤ b ∧ x = nI k := by
  obtain ⟨h1, h2⟩ := inR_t.mp h
  have hb := Int32.toInt_lt x
  refine ⟨x.toInt.toNat, by omega, ?_⟩
  apply Int32.toInt_inj.mp
  rw [nI_toInt (by omega)]
  omega
theorem lcmp_lt {x y : Int64} : lg_cmp x y < 0 ↔ x < y := by
  unfold lg_cmp
  simp only [gt_iff_lt, Int64.lt_iff_toInt_lt, ← Int64.toInt_inj]
  split
  · constructor
    · intro h; exact absurd h (by decide)
    · intro h; omega
  · split
    · constructor
      · intro h; exact absurd h (by decide)
      · intro h; omega
    · constructor
      · intro _; omega
      · intro _; decide
theorem lcmp_gt {x y : Int64} : 0 < lg_cmp x y ↔ y < x := by
  unfold lg_cmp
  simp only [gt_iff_lt, Int64.lt_iff_toInt_lt, ← Int64.toInt_inj]
  split
  · constructor
    · intro _; omega
    · intro _; decide
  · split
    · constructor
      · intro h; exact absurd h (by decide)
      · intro h; omega
    · constructor
      · intro h; exact absurd h (by decide)
      · intro h; omega
theorem lcmp_eq {x y : Int64} : lg_cmp x y = 0 ↔ x = y := by
  unfold lg_cmp
  simp only [gt_iff_lt, Int64.lt_iff_toInt_lt, ← Int64.toInt_inj]
  split
  · constructor
    · intro h; exact absurd h (by decide)
    · intro h; omega
  · split
    · constructor
      · intro _; omega
      · intro _; rfl
    · constructor
      · intro h; exact absurd h (by decide)
      · intro h; omega
set_option maxRecDepth 100000 in
set_option maxHeartbeats 4000000 in
theorem ev_within (d : Nat) (M : sy_Mm) (v m : Int32) : Ev d i_X7_within [.int v, .int m] M (some (.int (zb (inR v 0 m.toInt)))) M := by
  refine ev_of ?_
  repeat' (first | refine fx_n rfl ?_ | refine fx_b rfl (fun _ => ?_) (fun _ => ?_) | refine fx_r rfl rfl ?_)
  all_goals
    refine ⟨?_, rfl⟩
    simp only [Int32.lt_iff_toInt_lt] at *
    simp at *
    first
      | (rw [inR_f.mpr (by omega)]; rfl)
      | (rw [inR_t.mpr (by omega)]; rfl)
set_option maxRecDepth 100000 in
set_option maxHeartbeats 4000000 in
theorem ev_isHouse (d : Nat) (M : sy_Mm) (v : Int32) : Ev d i_X7_isHouse [.int v] M (some (.int (zb (inR v 0 7)))) M := by
  refine ev_of ?_
  repeat' (first | refine fx_n rfl ?_ | refine fx_b rfl (fun _ => ?_) (fun _ => ?_) | refine fx_r rfl rfl ?_)
  all_goals
    refine ⟨?_, rfl⟩
    simp only [Int32.lt_iff_toInt_lt, Int32.le_iff_toInt_le] at *
    simp at *
    first
      | (rw [inR_f.mpr (by omega)]; rfl)
      | (rw [inR_t.mpr (by omega)]; rfl)
set_option maxRecDepth 100000 in
set_option maxHeartbeats 4000000 in
theorem ev_isSheet (d : Nat) (M : sy_Mm) (v : Int32) : Ev d i_X7_isSheet [.int v] M (some (.int (zb (inR v 0 3)))) M := by
  refine ev_of ?_
  repeat' (first | refine fx_n rfl ?_ | refine fx_b rfl (fun _ => ?_) (fun _ => ?_) | refine fx_r rfl rfl ?_)
  all_goals
    refine ⟨?_, rfl⟩
    simp only [Int32.lt_iff_toInt_lt, Int32.le_iff_toInt_le] at *
    simp at *
    first
      | (rw [inR_f.mpr (by omega)]; rfl)
      | (rw [inR_t.mpr (by omega)]; rfl)
set_option maxRecDepth 100000 in
set_option maxHeartbeats 4000000 in
theorem ev_found (d : Nat) (M : sy_Mm) (v : Int32) : Ev d i_X7_found [.ref 0, .int v] M (some (.int (-10 - v))) (sy_up M 0 7 v) := by
  refine ev_of ?_
  repeat' (first | refine fx_n rfl ?_ | refine fx_b rfl (fun _ => ?_) (fun _ => ?_) | refine fx_r rfl rfl ?_)
  exact ⟨rfl, rfl⟩
set_option maxRecDepth 100000 in
set_option maxHeartbeats 4000000 in
theorem em_in (d : Nat) (M : sy_Mm) (v a b : Int64) : Ev d i_X8_in [.long v, .long a, .long b] M (some (.int (zb (decide (a ≤ v ∧ v ≤ b))))) M := by
  refine ev_of ?_
  repeat' (first | refine fx_n rfl ?_ | refine fx_b rfl (fun _ => ?_) (fun _ => ?_) | refine fx_r rfl rfl ?_)
  all_goals
    refine ⟨?_, rfl⟩
    simp only [lcmp_lt, lcmp_gt, Int64.lt_iff_toInt_lt, Int64.le_iff_toInt_le] at *
    first
      | (rw [decide_eq_false (by omega)]; rfl)
      | (rw [decide_eq_true (by omega)]; rfl)
theorem in_R (v : Int32) {a b : Int64} {a' b' : Int} (ha : a.toInt = a') (hb : b.toInt = b') : decide (a ≤ v.toInt64 ∧ v.toInt64 ≤ b) = inR v a' b' := by
  unfold inR
  simp only [Int64.le_iff_toInt_le, Int32.toInt_toInt64, ha, hb]
set_option maxRecDepth 100000 in
set_option maxHeartbeats 4000000 in
theorem em_isTwo (d : Nat) (M : sy_Mm) (v : Int32) : Ev (d + 1) i_X8_isTwo [.int v] M (some (.int (zb (inR v 0 1)))) M := by
  refine ev_of ?_
  repeat refine fx_n rfl ?_
  refine fx_p rfl (em_in _ _ _ _ _) ?_
  rw [in_R v (a' := 0) (b' := 1) rfl rfl]
  exact fx_r rfl (zb_ok _) ⟨rfl, rfl⟩
set_option maxRecDepth 100000 in
set_option maxHeartbeats 4000000 in
theorem em_isSheet (d : Nat) (M : sy_Mm) (v : Int32) : Ev (d + 1) i_X8_isSheet [.int v] M (some (.int (zb (inR v 0 3)))) M := by
  refine ev_of ?_
  repeat refine fx_n rfl ?_
  refine fx_p rfl (em_in _ _ _ _ _) ?_
  rw [in_R v (a' := 0) (b' := 3) rfl rfl]
  exact fx_r rfl (zb_ok _) ⟨rfl, rfl⟩
set_option maxRecDepth 100000 in
set_option maxHeartbeats 4000000 in
theorem em_isHouse (d : Nat) (M : sy_Mm) (v : Int32) : Ev (d + 1) i_X8_isHouse [.int v] M (some (.int (zb (inR v 0 7)))) M := by
  refine ev_of ?_
  repeat refine fx_n rfl ?_
  refine fx_p rfl (em_in _ _ _ _ _) ?_
  rw [in_R v (a' := 0) (b' := 7) rfl rfl]
  exact fx_r rfl (zb_ok _) ⟨rfl, rfl⟩
set_option maxRecDepth 100000 in
set_option maxHeartbeats 4000000 in
theorem em_isNight (d : Nat) (M : sy_Mm) (v : Int32) : Ev (d + 1) i_X8_isNight [.int v] M (some (.int (zb (inR v 0 299)))) M := by
  refine ev_of ?_
  repeat refine fx_n rfl ?_
  refine fx_p rfl (em_in _ _ _ _ _) ?_
  rw [in_R v (a' := 0) (b' := 299) rfl rfl]
  exact fx_r rfl (zb_ok _) ⟨rfl, rfl⟩
set_option maxRecDepth 100000 in
set_option maxHeartbeats 4000000 in
theorem em_no (d : Nat) (M : sy_Mm) (v : Int32) : Ev d i_X8_no [.int v] M (some (.long (-9223372036854775808 - v.toInt64))) M := by
  refine ev_of ?_
  repeat' (first | refine fx_n rfl ?_ | refine fx_b rfl (fun _ => ?_) (fun _ => ?_) | refine fx_r rfl rfl ?_)
  exact ⟨rfl, rfl⟩
set_option maxRecDepth 100000 in
set_option maxHeartbeats 4000000 in
theorem em_met (d : Nat) (M : sy_Mm) (v : Int32) : Ev d i_X8_met [.ref 30, .int v] M (some (.int (-10 - v))) (sy_up M 30 4 v) := by
  refine ev_of ?_
  repeat' (first | refine fx_n rfl ?_ | refine fx_b rfl (fun _ => ?_) (fun _ => ?_) | refine fx_r rfl rfl ?_)
  exact ⟨rfl, rfl⟩
def cutS (f v : Int32) : Int32 := if f = 0 then v.toInt8.toInt32 else if f = 1 then v.toInt16.toInt32 else v
set_option maxRecDepth 100000 in
set_option maxHeartbeats 4000000 in
theorem em_cut (d : Nat) (M : sy_Mm) (f v : Int32) : Ev d i_X8_cut [.int f, .int v] M (some (.int (cutS f v))) M := by
  refine ev_of ?_
  repeat' (first | refine fx_n rfl ?_ | refine fx_b rfl (fun _ => ?_) (fun _ => ?_) | refine fx_r rfl rfl ?_)
  all_goals
    refine ⟨?_, rfl⟩
    simp_all [cutS]
/-- how many of the lowest nine bits are set -/
def pcn (n : Nat) : Nat := n % 2 + n / 2 % 2 + n / 4 % 2 + n / 8 % 2 + n / 16 % 2 + n / 32 % 2 + n / 64 % 2 + n / 128 % 2 + n / 256 % 2
def bcE (x : Int32) : Int32 :=
  let u := fun (a b : Int32) => (a.toUInt32 >>> (b.toUInt32 &&& Int32.toUInt32 31)).toInt32
  let x1 := x - (u x 1 &&& 1431655765)
  let x2 := (x1 &&& 858993459) + (u x1 2 &&& 858993459)
  let x3 := (x2 + u x2 4) &&& 252645135
  let x4 := x3 + u x3 8
  let x5 := x4 + u x4 16
  x5 &&& 63
theorem bcE_all : ∀ k, k < 512 → bcE (nI k) = nI (pcn k) := by decide +kernel
set_option maxRecDepth 100000 in
set_option maxHeartbeats 4000000 in
theorem ev_bitCount (d : Nat) (M : sy_Mm) (k : Nat) (hk : k < 512) : Ev d i_J6_bitCount [.int (nI k)] M (some (.int (nI (pcn k)))) M := by
  refine ev_of ?_
  repeat' (first | refine fx_n rfl ?_ | refine fx_b rfl (fun _ => ?_) (fun _ => ?_) | refine fx_r rfl rfl ?_)
  exact ⟨congrArg (fun z => some (Value.int z)) (bcE_all k hk), rfl⟩
theorem ones_and : ∀ k, k < 512 → nI k &&& (nI k - 1) = nI (k &&& (k - 1)) := by decide +kernel
theorem ones_pc : ∀ k, k < 512 → 0 < k → pcn (k &&& (k - 1)) + 1 = pcn k ∧ (k &&& (k - 1)) < 512 := by decide +kernel
theorem pcn_0 : ∀ k, k < 512 → pcn k = 0 → k = 0 := by decide +kernel
theorem nI_acc (c : Int32) (j : Nat) : c + 1 + nI j = c + nI (j + 1) := by rw [nI_succ, Int32.add_assoc, Int32.add_comm 1]
set_option maxRecDepth 100000 in
set_option maxHeartbeats 4000000 in
theorem em_ones (d : Nat) (M : sy_Mm) (k : Nat) (hk : k < 512) : Ev d i_X8_ones [.int (nI k)] M (some (.int (nI (pcn k)))) M := by
  have loop : ∀ (j : Nat) (x c : Int32) (k : Nat), k < 512 → pcn k = j → Fx d i_X8_ones 5 [some (.int x), some (.int c), some (.int (nI k))] [.int (nI k)] M (fun r N => r = some (.int (c + nI j)) ∧ N = M) := by
    intro j
    induction j with
    | zero =>
      intro x c k hk hp
      have := pcn_0 k hk hp
      subst this
      refine fx_bt rfl (by decide) ?_
      repeat refine fx_n rfl ?_
      exact fx_r rfl rfl ⟨by rw [nI_0, Int32.add_zero], rfl⟩
    | succ j ih =>
      intro x c k hk hp
      have h0 : 0 < k := by
        rcases Nat.eq_zero_or_pos k with h | h
        · subst h; simp [pcn] at hp
        · exact h
      obtain ⟨h1, h2⟩ := ones_pc k hk h0
      refine fx_bf rfl (nI_ne0 h0 (by omega)) ?_
      repeat refine fx_n rfl ?_
      have := ih x (c + 1) (k &&& (k - 1)) h2 (by omega)
      rw [← ones_and k hk, nI_acc] at this
      exact this
  refine ev_of ?_
  repeat refine fx_n rfl ?_
  have := loop (pcn k) (nI k) 0 k hk rfl
  rw [Int32.zero_add] at this
  exact this
