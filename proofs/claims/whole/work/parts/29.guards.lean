/-! ===== guards: thief, careless, chance, waits; robs ===== -/
def lpw (v : Int64) : Nat → Int64
  | 0 => 1
  | n + 1 => lpw v n * v
set_option maxRecDepth 100000 in
set_option maxHeartbeats 4000000 in
theorem ev_power (d : Nat) (M : sy_Mm) (v : Int64) (n : Nat) (hn : n < 2 ^ 31) : Ev d i_X1_power [.long v, .int (nI n)] M (some (.long (lpw v n))) M := by
  have loop : ∀ j i, i + j = n → Fx d i_X1_power 8 [some (.long v), none, some (.int (nI n)), some (.long (lpw v i)), none, some (.int (nI i))] [.int (nI n), .int (nI i)] M (fun r N => r = some (.long (lpw v n)) ∧ N = M) := by
    intro j
    induction j with
    | zero =>
      intro i hi
      have e : i = n := by omega
      subst e
      refine fx_bt rfl (nI_le (Nat.le_refl _) hn) ?_
      repeat refine fx_n rfl ?_
      exact fx_r rfl rfl ⟨rfl, rfl⟩
    | succ j ih =>
      intro i hi
      refine fx_bf rfl (nI_ge (by omega) hn) ?_
      repeat refine fx_n rfl ?_
      rw [nI_1]
      exact ih (i + 1) (by omega)
  refine ev_of ?_
  repeat refine fx_n rfl ?_
  exact loop n 0 (by omega)
set_option maxRecDepth 100000 in
set_option maxHeartbeats 4000000 in
theorem em_power (d : Nat) (M : sy_Mm) (v : Int64) (n : Nat) (hn : n < 2 ^ 31) : Ev d i_X8_power [.long v, .int (nI n)] M (some (.long (lpw v n))) M := by
  have loop : ∀ j i, i + j = n → Fx d i_X8_power 8 [some (.long v), none, some (.int (nI n)), some (.long (lpw v i)), none, some (.int (nI i))] [.int (nI n), .int (nI i)] M (fun r N => r = some (.long (lpw v n)) ∧ N = M) := by
    intro j
    induction j with
    | zero =>
      intro i hi
      have e : i = n := by omega
      subst e
      refine fx_bt rfl (nI_le (Nat.le_refl _) hn) ?_
      repeat refine fx_n rfl ?_
      exact fx_r rfl rfl ⟨rfl, rfl⟩
    | succ j ih =>
      intro i hi
      refine fx_bf rfl (nI_ge (by omega) hn) ?_
      repeat refine fx_n rfl ?_
      rw [nI_1]
      exact ih (i + 1) (by omega)
  refine ev_of ?_
  repeat refine fx_n rfl ?_
  exact loop n 0 (by omega)
def lwF : Nat → Int64 → Int64 → Int64 × Int64
  | 0, a, b => (a, b)
  | j + 1, a, b => if a - a / 2 * 2 = 0 ∧ b - b / 2 * 2 = 0 then lwF j (a / 2) (b / 2) else (a, b)
set_option maxRecDepth 100000 in
set_option maxHeartbeats 4000000 in
theorem ev_lowest (d : Nat) (M : sy_Mm) (a b : Int64) (w : Int32) : Ev d i_X1_lowest [.long a, .long b, .int w] M (some (.long (if w = 0 then (lwF 64 a b).1 else (lwF 64 a b).2))) M := by
  have fin : ∀ (x y : Int64) (i : Int32), Fx d i_X1_lowest 62 [some (.long a), none, some (.long b), none, some (.int w), some (.long x), none, some (.long y), none, some (.int i)] [.int w] M (fun r N => r = some (.long (if w = 0 then x else y)) ∧ N = M) := by
    intro x y i
    by_cases hw : w = 0
    · refine fx_bf rfl (fun z => z hw) ?_
      repeat refine fx_n rfl ?_
      exact fx_r rfl rfl ⟨by rw [if_pos hw], rfl⟩
    · refine fx_bt rfl hw ?_
      repeat refine fx_n rfl ?_
      exact fx_r rfl rfl ⟨by rw [if_neg hw], rfl⟩
  have loop : ∀ j i (x y : Int64), i + j = 64 → Fx d i_X1_lowest 13 [some (.long a), none, some (.long b), none, some (.int w), some (.long x), none, some (.long y), none, some (.int (nI i))] [.int 64, .int (nI i)] M (fun r N => r = some (.long (if w = 0 then (lwF j x y).1 else (lwF j x y).2)) ∧ N = M) := by
    intro j
    induction j with
    | zero =>
      intro i x y hi
      refine fx_bt rfl (nI_le (a := 64) (by omega) (by omega)) ?_
      repeat refine fx_n rfl ?_
      exact fin x y _
    | succ j ih =>
      intro i x y hi
      refine fx_bf rfl (nI_ge (b := 64) (by omega) (by omega)) ?_
      repeat refine fx_n rfl ?_
      refine fx_g rfl (by decide) ?_
      repeat refine fx_n rfl ?_
      by_cases h1 : x - x / 2 * 2 = 0
      · refine fx_bf rfl (fun z => z (lcmp_eq.mpr h1)) ?_
        repeat refine fx_n rfl ?_
        refine fx_g rfl (by decide) ?_
        repeat refine fx_n rfl ?_
        by_cases h2 : y - y / 2 * 2 = 0
        · refine fx_bf rfl (fun z => z (lcmp_eq.mpr h2)) ?_
          rw [show lwF (j + 1) x y = lwF j (x / 2) (y / 2) from if_pos ⟨h1, h2⟩]
          repeat refine fx_n rfl ?_
          refine fx_g rfl (by decide) ?_
          repeat refine fx_n rfl ?_
          refine fx_g rfl (by decide) ?_
          repeat refine fx_n rfl ?_
          rw [nI_1]
          exact ih (i + 1) _ _ (by omega)
        · rw [show lwF (j + 1) x y = (x, y) from if_neg (fun z => h2 z.2)]
          refine fx_bt rfl (fun z => h2 (lcmp_eq.mp z)) ?_
          repeat refine fx_n rfl ?_
          exact fin x y _
      · rw [show lwF (j + 1) x y = (x, y) from if_neg (fun z => h1 z.1)]
        refine fx_bt rfl (fun z => h1 (lcmp_eq.mp z)) ?_
        repeat refine fx_n rfl ?_
        exact fin x y _
  refine ev_of ?_
  repeat refine fx_n rfl ?_
  exact loop 64 0 a b (by omega)
def gcF : Nat → Int64 → Int64 → Option Int64
  | 0, _, _ => none
  | j + 1, a, b => if b = 0 then some a else gcF j b (a - a / b * b)
set_option maxRecDepth 100000 in
set_option maxHeartbeats 4000000 in
theorem em_part (d : Nat) (M : sy_Mm) (a b g : Int64) (w : Int32) (n : Nat) (h : gcF n a b = some g) (hg : ¬ g = 0) : Ev d i_X8_part [.long a, .long b, .int w] M (some (.long ((if w = 0 then a else b) / g))) M := by
  have loop : ∀ j (x y : Int64) (q1 q2 : Option Value), gcF j x y = some g → Fx d i_X8_part 10 [some (.long a), none, some (.long b), none, some (.int w), some (.long x), none, some (.long y), none, q1, q2] [.int (lg_cmp y 0)] M (fun r N => r = some (.long ((if w = 0 then a else b) / g)) ∧ N = M) := by
    intro j
    induction j with
    | zero => intro x y q1 q2 h; cases h
    | succ j ih =>
      intro x y q1 q2 h
      unfold gcF at h
      by_cases h0 : y = 0
      · rw [if_pos h0] at h
        cases h
        refine fx_bt rfl (lcmp_eq.mpr h0) ?_
        repeat refine fx_n rfl ?_
        by_cases hw : w = 0
        · refine fx_bf rfl (fun z => z hw) ?_
          repeat refine fx_n rfl ?_
          refine fx_g rfl hg ?_
          exact fx_r rfl rfl ⟨by rw [if_pos hw], rfl⟩
        · refine fx_bt rfl hw ?_
          repeat refine fx_n rfl ?_
          refine fx_g rfl hg ?_
          exact fx_r rfl rfl ⟨by rw [if_neg hw], rfl⟩
      · rw [if_neg h0] at h
        refine fx_bf rfl (fun z => h0 (lcmp_eq.mp z)) ?_
        repeat refine fx_n rfl ?_
        refine fx_g rfl h0 ?_
        repeat refine fx_n rfl ?_
        exact ih _ _ _ _ h
  refine ev_of ?_
  repeat refine fx_n rfl ?_
  exact loop n a b _ _ h
/-- the chance's two parts agree, by trying all -/
def chOK (n g : Nat) : Bool := match gcF 100 (lpw 16 n - lpw (nI g).toInt64 n) (lpw 16 n) with
  | some q => decide (¬ q = 0) && (decide ((lwF 64 (lpw 16 n - lpw (nI g).toInt64 n) (lpw 16 n)).1 = (lpw 16 n - lpw (nI g).toInt64 n) / q) && decide ((lwF 64 (lpw 16 n - lpw (nI g).toInt64 n) (lpw 16 n)).2 = lpw 16 n / q))
  | none => false
theorem chOK_all : ∀ n, n < 13 → ∀ g, g < 17 → chOK n g = true := by decide +kernel
def waOK (g : Nat) : Bool := match gcF 100 16 (16 - (nI g).toInt64) with
  | some q => decide (¬ q = 0) && (decide ((lwF 64 16 ((16 : Int32) - nI g).toInt64).1 = 16 / q) && (decide ((lwF 64 16 ((16 : Int32) - nI g).toInt64).2 = (16 - (nI g).toInt64) / q) && decide (¬ (16 : Int32) - nI g = 0)))
  | none => false
theorem waOK_all : ∀ g, g < 16 → waOK g = true := by decide +kernel
set_option maxRecDepth 100000 in
set_option maxHeartbeats 4000000 in
theorem ev_chance (d : Nat) (M : sy_Mm) (G : Nat → Nat) (x t w : Int32) (hG : ∀ h, h < 8 → G h ≤ 16 ∧ M 20 h = nI (G h)) : Ev (d + 1) i_X7_chance [.ref 0, .int x, .int t, .int w] M (some (.long (cond (inR x 0 7 && (inR t 0 12 && inR w 0 1)) (if w = 0 then (lwF 64 (lpw 16 t.toNatClampNeg - lpw (nI (G x.toNatClampNeg)).toInt64 t.toNatClampNeg) (lpw 16 t.toNatClampNeg)).1 else (lwF 64 (lpw 16 t.toNatClampNeg - lpw (nI (G x.toNatClampNeg)).toInt64 t.toNatClampNeg) (lpw 16 t.toNatClampNeg)).2) (-9223372036854775806)))) M := by
  refine ev_of ?_
  repeat refine fx_n rfl ?_
  refine fx_p rfl (ev_isHouse _ _ _) (fx_ze rfl (fun g1 => by ((repeat refine fx_n rfl ?_); exact fx_r rfl rfl ⟨by simp [g1, zb_f], rfl⟩)) (fun g1 => ?_))
  repeat refine fx_n rfl ?_
  refine fx_p rfl (ev_wi _ _ _ _ 12 rfl) (fx_ze rfl (fun g2 => by ((repeat refine fx_n rfl ?_); exact fx_r rfl rfl ⟨by simp [g2, zb_f], rfl⟩)) (fun g2 => ?_))
  repeat refine fx_n rfl ?_
  refine fx_p rfl (ev_wi _ _ _ _ 1 rfl) (fx_zn rfl (fun g3 => ?_) (fun g3 => by ((repeat refine fx_n rfl ?_); exact fx_r rfl rfl ⟨by simp [g3, zb_f], rfl⟩)))
  obtain ⟨h, hh, rfl⟩ := inR_nI (b := 7) g1
  obtain ⟨n, hn, rfl⟩ := inR_nI (b := 12) g2
  rw [g1, g2, g3, nI_cl (by omega), nI_cl (by omega)]
  repeat refine fx_n rfl ?_
  refine fx_p rfl (ev_power _ _ _ n (by omega)) ?_
  repeat refine fx_n rfl ?_
  refine fx_g rfl (ix_nI (by omega) (by omega)) ?_
  rw [nI_cl (by omega), (hG h (by omega)).2]
  repeat refine fx_n rfl ?_
  refine fx_p rfl (ev_power _ _ _ n (by omega)) ?_
  repeat refine fx_n rfl ?_
  refine fx_p rfl (ev_lowest _ _ _ _ w) ?_
  exact fx_r rfl rfl ⟨rfl, rfl⟩
set_option maxRecDepth 100000 in
set_option maxHeartbeats 4000000 in
theorem em_chanceOf (d : Nat) (M : sy_Mm) (h n g : Nat) (w : Int32) (hh : h < 8) (hn : n ≤ 12) (hg : g ≤ 16) (h45 : M 45 h = nI g) : Ev (d + 1) i_X8_chanceOf [.ref 30, .int (nI h), .int (nI n), .int w] M (some (.long (if w = 0 then (lwF 64 (lpw 16 n - lpw (nI g).toInt64 n) (lpw 16 n)).1 else (lwF 64 (lpw 16 n - lpw (nI g).toInt64 n) (lpw 16 n)).2))) M := by
  have ok := chOK_all n (by omega) g (by omega)
  unfold chOK at ok
  refine ev_of ?_
  repeat refine fx_n rfl ?_
  refine fx_p rfl (em_power _ _ _ n (by omega)) ?_
  repeat refine fx_n rfl ?_
  refine fx_g rfl (ix_nI (by omega) (by omega)) ?_
  rw [nI_cl (by omega), h45]
  repeat refine fx_n rfl ?_
  refine fx_p rfl (em_power _ _ _ n (by omega)) ?_
  repeat refine fx_n rfl ?_
  split at ok
  · rename_i q e
    simp only [Bool.and_eq_true, decide_eq_true_eq] at ok
    refine fx_p rfl (em_part _ _ _ _ q w 100 e ok.1) ?_
    refine fx_r rfl rfl ⟨?_, rfl⟩
    rw [ok.2.1, ok.2.2]
    by_cases hw : w = 0 <;> simp [hw]
  · cases ok
set_option maxRecDepth 100000 in
set_option maxHeartbeats 4000000 in
theorem ag_chance {M : sy_Mm} (h : Inv M) (x t w : Int32) : AGl i_X7_chance i_X8_chance [.int x, .int t, .int w] M := by
  intro d
  obtain ⟨nn, E, ne, L, B, nb, G, F, h1, h2, h3, h4, h5, h6, h7⟩ := id h
  refine fx_w (ex_of (ev_chance _ M G x t w (fun q hq => ⟨(h5 q hq).1, (h5 q hq).2.1⟩))) ?_
  rintro _ N0 ⟨rfl, hN0⟩
  rw [hN0]
  refine ⟨⟨_, rfl⟩, ?_⟩
  have bad : (inR x 0 7 && (inR t 0 12 && inR w 0 1)) = false → Fx (d + 30) i_X8_chance 38 [some (.ref 30), some (.int x), some (.int t), some (.int w)] [.int (-2)] M (fun r' N' => r' = some (.long (cond (inR x 0 7 && (inR t 0 12 && inR w 0 1)) (if w = 0 then (lwF 64 (lpw 16 t.toNatClampNeg - lpw (nI (G x.toNatClampNeg)).toInt64 t.toNatClampNeg) (lpw 16 t.toNatClampNeg)).1 else (lwF 64 (lpw 16 t.toNatClampNeg - lpw (nI (G x.toNatClampNeg)).toInt64 t.toNatClampNeg) (lpw 16 t.toNatClampNeg)).2) (-9223372036854775806))) ∧ Inv N') := by
    intro g
    refine fx_p rfl (em_no _ _ _) ?_
    refine fx_r rfl rfl ⟨?_, h⟩
    rw [g]; rfl
  unfold Ex
  repeat refine fx_n rfl ?_
  refine fx_p rfl (em_isHouse _ _ _) (fx_ze rfl (fun g1 => by ((repeat refine fx_n rfl ?_); exact bad (by simp [g1]))) (fun g1 => ?_))
  repeat refine fx_n rfl ?_
  refine fx_p rfl (em_ir _ _ _ _ _ 0 12 rfl rfl) (fx_ze rfl (fun g2 => by ((repeat refine fx_n rfl ?_); exact bad (by simp [g2]))) (fun g2 => ?_))
  repeat refine fx_n rfl ?_
  refine fx_p rfl (em_isTwo _ _ _) (fx_ze rfl (fun g3 => by ((repeat refine fx_n rfl ?_); exact bad (by simp [g3]))) (fun g3 => ?_))
  repeat refine fx_n rfl ?_
  obtain ⟨q, hq, rfl⟩ := inR_nI (b := 7) g1
  obtain ⟨n, hn, rfl⟩ := inR_nI (b := 12) g2
  rw [g1, g2, g3, nI_cl (by omega), nI_cl (by omega)]
  refine fx_p rfl (em_chanceOf _ _ q n (G q) w (by omega) hn (h5 q (by omega)).1 (h5 q (by omega)).2.2) ?_
  repeat refine fx_n rfl ?_
  exact fx_r rfl rfl ⟨rfl, h⟩
def waS (g : Nat) (w : Int32) : Int64 := if g = 16 then -9223372036854775805 else if w = 0 then (lwF 64 16 ((16 : Int32) - nI g).toInt64).1 else (lwF 64 16 ((16 : Int32) - nI g).toInt64).2
set_option maxRecDepth 100000 in
set_option maxHeartbeats 4000000 in
theorem ev_waits (d : Nat) (M : sy_Mm) (G : Nat → Nat) (x w : Int32) (hG : ∀ h, h < 8 → G h ≤ 16 ∧ M 20 h = nI (G h)) : Ev (d + 1) i_X7_waits [.ref 0, .int x, .int w] M (some (.long (cond (inR x 0 7 && inR w 0 1) (waS (G x.toNatClampNeg) w) (-9223372036854775806)))) M := by
  refine ev_of ?_
  repeat refine fx_n rfl ?_
  refine fx_p rfl (ev_isHouse _ _ _) (fx_ze rfl (fun g1 => by ((repeat refine fx_n rfl ?_); exact fx_r rfl rfl ⟨by simp [g1, zb_f], rfl⟩)) (fun g1 => ?_))
  repeat refine fx_n rfl ?_
  refine fx_p rfl (ev_wi _ _ _ _ 1 rfl) (fx_zn rfl (fun g3 => ?_) (fun g3 => by ((repeat refine fx_n rfl ?_); exact fx_r rfl rfl ⟨by simp [g3, zb_f], rfl⟩)))
  obtain ⟨h, hh, rfl⟩ := inR_nI (b := 7) g1
  rw [g1, g3, nI_cl (by omega)]
  have hg := hG h (by omega)
  repeat refine fx_n rfl ?_
  refine fx_g rfl (ix_nI (by omega) (by omega)) ?_
  rw [nI_cl (by omega), hg.2]
  repeat refine fx_n rfl ?_
  unfold waS
  by_cases q : G h = 16
  · refine fx_bf rfl (fun z => z (by rw [q]; decide)) ?_
    repeat refine fx_n rfl ?_
    refine fx_r rfl rfl ⟨?_, rfl⟩
    rw [if_pos q]; rfl
  · have ok := waOK_all (G h) (by omega)
    unfold waOK at ok
    split at ok
    · simp only [Bool.and_eq_true, decide_eq_true_eq] at ok
      refine fx_bt rfl ok.2.2.2 ?_
      repeat refine fx_n rfl ?_
      refine fx_p rfl (ev_lowest _ _ _ _ w) ?_
      refine fx_r rfl rfl ⟨?_, rfl⟩
      rw [if_neg q]; rfl
    · cases ok
set_option maxRecDepth 100000 in
set_option maxHeartbeats 4000000 in
theorem em_waitsOf (d : Nat) (M : sy_Mm) (h g : Nat) (w : Int32) (hh : h < 8) (hg : g ≤ 16) (h45 : M 45 h = nI g) : Ev (d + 1) i_X8_waitsOf [.ref 30, .int (nI h), .int w] M (some (.long (waS g w))) M := by
  refine ev_of ?_
  repeat refine fx_n rfl ?_
  refine fx_g rfl (ix_nI (by omega) (by omega)) ?_
  rw [nI_cl (by omega), h45]
  repeat refine fx_n rfl ?_
  unfold waS
  by_cases q : g = 16
  · refine fx_bf rfl (fun z => z (by rw [q]; rfl)) ?_
    repeat refine fx_n rfl ?_
    refine fx_p rfl (em_no _ _ _) ?_
    repeat refine fx_n rfl ?_
    refine fx_r rfl rfl ⟨?_, rfl⟩
    rw [if_pos q]; rfl
  · refine fx_bt rfl (fun z => q ((nI_eq (b := 16) (by omega) (by omega)).mp z)) ?_
    repeat refine fx_n rfl ?_
    refine fx_g rfl (ix_nI (by omega) (by omega)) ?_
    rw [nI_cl (by omega), h45]
    repeat refine fx_n rfl ?_
    have ok := waOK_all g (by omega)
    unfold waOK at ok
    split at ok
    · rename_i z e
      simp only [Bool.and_eq_true, decide_eq_true_eq] at ok
      refine fx_p rfl (em_part _ _ _ _ z w 100 e ok.1) ?_
      refine fx_r rfl rfl ⟨?_, rfl⟩
      rw [if_neg q, ok.2.1, ok.2.2.1]
      by_cases hw : w = 0 <;> simp [hw]
    · cases ok
set_option maxRecDepth 100000 in
set_option maxHeartbeats 4000000 in
theorem ag_waits {M : sy_Mm} (h : Inv M) (x w : Int32) : AGl i_X7_waits i_X8_waits [.int x, .int w] M := by
  intro d
  obtain ⟨nn, E, ne, L, B, nb, G, F, h1, h2, h3, h4, h5, h6, h7⟩ := id h
  refine fx_w (ex_of (ev_waits _ M G x w (fun q hq => ⟨(h5 q hq).1, (h5 q hq).2.1⟩))) ?_
  rintro _ N0 ⟨rfl, hN0⟩
  rw [hN0]
  refine ⟨⟨_, rfl⟩, ?_⟩
  have bad : (inR x 0 7 && inR w 0 1) = false → Fx (d + 30) i_X8_waits 25 [some (.ref 30), some (.int x), some (.int w)] [.int (-2)] M (fun r' N' => r' = some (.long (cond (inR x 0 7 && inR w 0 1) (waS (G x.toNatClampNeg) w) (-9223372036854775806))) ∧ Inv N') := by
    intro g
    refine fx_p rfl (em_no _ _ _) ?_
    refine fx_r rfl rfl ⟨?_, h⟩
    rw [g]; rfl
  unfold Ex
  repeat refine fx_n rfl ?_
  refine fx_p rfl (em_isHouse _ _ _) (fx_ze rfl (fun g1 => by ((repeat refine fx_n rfl ?_); exact bad (by simp [g1]))) (fun g1 => ?_))
  repeat refine fx_n rfl ?_
  refine fx_p rfl (em_isTwo _ _ _) (fx_ze rfl (fun g3 => by ((repeat refine fx_n rfl ?_); exact bad (by simp [g3]))) (fun g3 => ?_))
  repeat refine fx_n rfl ?_
  obtain ⟨q, hq, rfl⟩ := inR_nI (b := 7) g1
  rw [g1, g3, nI_cl (by omega)]
  refine fx_p rfl (em_waitsOf _ _ q (G q) w (by omega) (h5 q (by omega)).1 (h5 q (by omega)).2.2) ?_
  repeat refine fx_n rfl ?_
  exact fx_r rfl rfl ⟨rfl, h⟩
