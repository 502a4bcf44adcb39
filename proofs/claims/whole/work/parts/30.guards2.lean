def crF (n : Nat) (c : Int32) : Nat → Nat → Nat
  | 0, _ => 16
  | j + 1, v => if 0 < lg_cmp (100 * (lpw 16 n - lpw (nI v).toInt64 n)) (c.toInt64 * lpw 16 n) then crF n c j (v + 1) else v
set_option maxRecDepth 100000 in
set_option maxHeartbeats 4000000 in
theorem ev_leastFor (d : Nat) (M : sy_Mm) (n : Nat) (c : Int32) (hn : n ≤ 12) : Ev (d + 1) i_X1_leastFor [.int (nI n), .int c] M (some (.int (nI (crF n c 16 0)))) M := by
  have loop : ∀ j v, v + j = 16 → Fx (d + 1) i_X1_leastFor 15 [some (.int (nI n)), some (.int c), some (.long (lpw 16 n)), none, some (.int (nI v))] [.int 16, .int (nI v)] M (fun r N => r = some (.int (nI (crF n c j v))) ∧ N = M) := by
    intro j
    induction j with
    | zero =>
      intro v hv
      refine fx_bt rfl (nI_le (a := 16) (by omega) (by omega)) ?_
      repeat refine fx_n rfl ?_
      exact fx_r rfl rfl ⟨rfl, rfl⟩
    | succ j ih =>
      intro v hv
      refine fx_bf rfl (nI_ge (b := 16) (by omega) (by omega)) ?_
      repeat refine fx_n rfl ?_
      refine fx_p rfl (ev_power _ _ _ n (by omega)) ?_
      repeat refine fx_n rfl ?_
      by_cases q : 0 < lg_cmp (100 * (lpw 16 n - lpw (nI v).toInt64 n)) (c.toInt64 * lpw 16 n)
      · rw [show crF n c (j + 1) v = crF n c j (v + 1) from if_pos q]
        refine fx_bt rfl q ?_
        repeat refine fx_n rfl ?_
        rw [nI_1]
        exact ih (v + 1) (by omega)
      · rw [show crF n c (j + 1) v = v from if_neg q]
        refine fx_bf rfl q ?_
        repeat refine fx_n rfl ?_
        exact fx_r rfl rfl ⟨rfl, rfl⟩
  refine ev_of ?_
  repeat refine fx_n rfl ?_
  refine fx_p rfl (ev_power _ _ _ n (by omega)) ?_
  repeat refine fx_n rfl ?_
  exact loop 16 0 (by omega)
theorem cr16 : ∀ n, n < 13 → ∀ c, c < 101 → ¬ 0 < lg_cmp (100 * (lpw 16 n - lpw (nI 16).toInt64 n)) ((nI c).toInt64 * lpw 16 n) := by decide +kernel
set_option maxRecDepth 100000 in
set_option maxHeartbeats 4000000 in
theorem em_carelessOf (d : Nat) (M : sy_Mm) (n c : Nat) (hn : n ≤ 12) (hc : c ≤ 100) : Ev (d + 1) i_X8_carelessOf [.int (nI n), .int (nI c)] M (some (.int (nI (crF n (nI c) 16 0)))) M := by
  have loop : ∀ j v, v + j = 16 → Fx (d + 1) i_X8_carelessOf 16 [some (.int (nI n)), some (.int (nI c)), some (.long (lpw 16 n)), none, some (.int (nI v))] [.int (nI n), .long (nI v).toInt64, .long (lpw 16 n)] M (fun r N => r = some (.int (nI (crF n (nI c) j v))) ∧ N = M) := by
    intro j
    induction j with
    | zero =>
      intro v hv
      have e : v = 16 := by omega
      subst e
      refine fx_p rfl (em_power _ _ _ n (by omega)) ?_
      repeat refine fx_n rfl ?_
      rw [Int64.mul_comm (lpw 16 n - lpw (nI 16).toInt64 n) 100]
      refine fx_bt rfl (Int32.not_lt.mp (cr16 n (by omega) c (by omega))) ?_
      repeat refine fx_n rfl ?_
      exact fx_r rfl rfl ⟨rfl, rfl⟩
    | succ j ih =>
      intro v hv
      refine fx_p rfl (em_power _ _ _ n (by omega)) ?_
      repeat refine fx_n rfl ?_
      rw [Int64.mul_comm (lpw 16 n - lpw (nI v).toInt64 n) 100]
      by_cases q : 0 < lg_cmp (100 * (lpw 16 n - lpw (nI v).toInt64 n)) ((nI c).toInt64 * lpw 16 n)
      · rw [show crF n (nI c) (j + 1) v = crF n (nI c) j (v + 1) from if_pos q]
        refine fx_bf rfl (Int32.not_le.mpr q) ?_
        repeat refine fx_n rfl ?_
        rw [nI_1]
        exact ih (v + 1) (by omega)
      · rw [show crF n (nI c) (j + 1) v = v from if_neg q]
        refine fx_bt rfl (Int32.not_lt.mp q) ?_
        repeat refine fx_n rfl ?_
        exact fx_r rfl rfl ⟨rfl, rfl⟩
  refine ev_of ?_
  repeat refine fx_n rfl ?_
  refine fx_p rfl (em_power _ _ _ n (by omega)) ?_
  repeat refine fx_n rfl ?_
  exact loop 16 0 (by omega)
def caS (n c : Int32) : Int32 := cond (inR n 1 12 && inR c 0 100) (nI (crF n.toNatClampNeg c 16 0)) (-2)
theorem inR_1 {x : Int32} {b : Nat} (hb : b < 2 ^ 31) (h : inR x 1 b = true) : ∃ k : Nat, 1 ≤ k ∧ k ≤ b ∧ x = nI k := by
  have h1 := inR_t.mp h
  obtain ⟨k, hk, e⟩ := inR_nI (x := x) (b := b) (inR_t.mpr (by omega))
  rw [e, nI_toInt (by omega)] at h1
  exact ⟨k, by omega, hk, e⟩
set_option maxRecDepth 100000 in
set_option maxHeartbeats 4000000 in
theorem ev_careless (d : Nat) (M : sy_Mm) (n c : Int32) : Ev (d + 2) i_X7_careless [.ref 0, .int n, .int c] M (some (.int (caS n c))) M := by
  refine ev_of ?_
  unfold caS
  repeat refine fx_n rfl ?_
  refine fx_b rfl (fun q => ?_) (fun q => ?_)
  · have g : inR n 1 12 = false := inR_f.mpr (by rw [Int32.lt_iff_toInt_lt] at q; simp at q; omega)
    repeat refine fx_n rfl ?_
    exact fx_r rfl rfl ⟨by simp [g], rfl⟩
  repeat refine fx_n rfl ?_
  refine fx_b rfl (fun q2 => ?_) (fun q2 => ?_)
  · have g : inR n 1 12 = false := inR_f.mpr (by rw [Int32.lt_iff_toInt_lt] at q2; simp at q2; omega)
    repeat refine fx_n rfl ?_
    exact fx_r rfl rfl ⟨by simp [g], rfl⟩
  have g : inR n 1 12 = true := inR_t.mpr (by rw [Int32.lt_iff_toInt_lt] at q q2; simp at q q2; omega)
  repeat refine fx_n rfl ?_
  refine fx_p rfl (ev_wi _ _ _ _ 100 rfl) (fx_zn rfl (fun g3 => ?_) (fun g3 => by ((repeat refine fx_n rfl ?_); exact fx_r rfl rfl ⟨by simp [g3, zb_f], rfl⟩)))
  obtain ⟨k, hk1, hk2, rfl⟩ := inR_1 (b := 12) (by omega) g
  rw [g, g3, nI_cl (by omega)]
  repeat refine fx_n rfl ?_
  refine fx_p rfl (ev_leastFor _ _ k c hk2) ?_
  exact fx_r rfl rfl ⟨rfl, rfl⟩
set_option maxRecDepth 100000 in
set_option maxHeartbeats 4000000 in
theorem ag_careless {M : sy_Mm} (h : Inv M) (n c : Int32) : AG i_X7_careless i_X8_careless [.int n, .int c] M := by
  intro d
  refine fx_w (ex_of (ev_careless _ M n c)) ?_
  rintro _ N0 ⟨rfl, hN0⟩
  rw [hN0]
  refine ⟨⟨_, rfl⟩, ?_⟩
  unfold Ex caS
  repeat refine fx_n rfl ?_
  refine fx_p rfl (em_ir _ _ _ _ _ 1 12 rfl rfl) (fx_ze rfl (fun g1 => by ((repeat refine fx_n rfl ?_); exact fx_r rfl rfl ⟨by simp [g1, zb_f], h⟩)) (fun g1 => ?_))
  repeat refine fx_n rfl ?_
  refine fx_p rfl (em_ir _ _ _ _ _ 0 100 rfl rfl) (fx_ze rfl (fun g2 => by ((repeat refine fx_n rfl ?_); exact fx_r rfl rfl ⟨by simp [g2, zb_f], h⟩)) (fun g2 => ?_))
  obtain ⟨k, hk1, hk2, rfl⟩ := inR_1 (b := 12) (by omega) g1
  obtain ⟨q, hq, rfl⟩ := inR_nI (b := 100) g2
  rw [g1, g2, nI_cl (by omega)]
  repeat refine fx_n rfl ?_
  refine fx_p rfl (em_carelessOf _ _ k q hk2 hq) ?_
  repeat refine fx_n rfl ?_
  exact fx_r rfl rfl ⟨rfl, h⟩
/-! thief -/
def lot (x : Int32) : Int32 := ((1103515245 * x + 12345).toUInt32 >>> ((16 : Int32).toUInt32 &&& Int32.toUInt32 31)).toInt32 - ((1103515245 * x + 12345).toUInt32 >>> ((16 : Int32).toUInt32 &&& Int32.toUInt32 31)).toInt32 / 16 * 16
def thF (g : Int32) : Nat → Nat → Int32 → Int32
  | 0, _, _ => -1
  | j + 1, i, x => if lot x < g then thF g j (i + 1) (1103515245 * x + 12345) else nI i
set_option maxRecDepth 100000 in
set_option maxHeartbeats 4000000 in
theorem ev_nightOfTheft (d : Nat) (M : sy_Mm) (h n : Nat) (x : Int32) (hh : h < 8) (hn : n ≤ 200) : Ev d i_X1_nightOfTheft [.ref 19, .int (nI h), .int x, .int (nI n)] M (some (.int (thF (M 20 h) n 0 x))) M := by
  have loop : ∀ j i (y : Int32), i + j = n → Fx d i_X1_nightOfTheft 9 [some (.ref 19), some (.int (nI h)), some (.int x), some (.int (nI n)), some (.int y), some (.int (nI i))] [.int (nI n), .int (nI i)] M (fun r N => r = some (.int (thF (M 20 h) j i y)) ∧ N = M) := by
    intro j
    induction j with
    | zero =>
      intro i y hi
      refine fx_bt rfl (nI_le (by omega) (by omega)) ?_
      repeat refine fx_n rfl ?_
      exact fx_r rfl rfl ⟨rfl, rfl⟩
    | succ j ih =>
      intro i y hi
      refine fx_bf rfl (nI_ge (by omega) (by omega)) ?_
      repeat refine fx_n rfl ?_
      refine fx_g rfl (by decide) ?_
      repeat refine fx_n rfl ?_
      refine fx_g rfl (ix_nI (by omega) (by omega)) ?_
      rw [nI_cl (by omega)]
      by_cases q : lot y < M 20 h
      · rw [show thF (M 20 h) (j + 1) i y = thF (M 20 h) j (i + 1) (1103515245 * y + 12345) from if_pos q]
        refine fx_bt rfl q ?_
        repeat refine fx_n rfl ?_
        rw [nI_1]
        exact ih (i + 1) _ (by omega)
      · rw [show thF (M 20 h) (j + 1) i y = nI i from if_neg q]
        refine fx_bf rfl q ?_
        repeat refine fx_n rfl ?_
        exact fx_r rfl rfl ⟨rfl, rfl⟩
  refine ev_of ?_
  repeat refine fx_n rfl ?_
  exact loop n 0 x (by omega)
set_option maxRecDepth 100000 in
set_option maxHeartbeats 4000000 in
theorem em_thiefOf (d : Nat) (M : sy_Mm) (h n : Nat) (x : Int32) (hh : h < 8) (hn : n ≤ 200) : Ev d i_X8_thiefOf [.ref 30, .int (nI h), .int x, .int (nI n)] M (some (.int (thF (M 45 h) n 0 x))) M := by
  have loop : ∀ j i (y : Int32), i + j = n → Fx d i_X8_thiefOf 9 [some (.ref 30), some (.int (nI h)), some (.int x), some (.int (nI n)), some (.int y), some (.int (nI i))] [.int (nI n), .int (nI i)] M (fun r N => r = some (.int (thF (M 45 h) j i y)) ∧ N = M) := by
    intro j
    induction j with
    | zero =>
      intro i y hi
      refine fx_bt rfl (nI_le (by omega) (by omega)) ?_
      repeat refine fx_n rfl ?_
      exact fx_r rfl rfl ⟨rfl, rfl⟩
    | succ j ih =>
      intro i y hi
      refine fx_bf rfl (nI_ge (by omega) (by omega)) ?_
      repeat refine fx_n rfl ?_
      refine fx_g rfl (by decide) ?_
      repeat refine fx_n rfl ?_
      refine fx_g rfl (ix_nI (by omega) (by omega)) ?_
      rw [nI_cl (by omega)]
      by_cases q : lot y < M 45 h
      · rw [show thF (M 45 h) (j + 1) i y = thF (M 45 h) j (i + 1) (1103515245 * y + 12345) from if_pos q]
        refine fx_bt rfl q ?_
        repeat refine fx_n rfl ?_
        rw [nI_1]
        exact ih (i + 1) _ (by omega)
      · rw [show thF (M 45 h) (j + 1) i y = nI i from if_neg q]
        refine fx_bf rfl q ?_
        repeat refine fx_n rfl ?_
        exact fx_r rfl rfl ⟨rfl, rfl⟩
  refine ev_of ?_
  repeat refine fx_n rfl ?_
  exact loop n 0 x (by omega)
def tfS (G : Nat → Nat) (h x n : Int32) : Int32 := cond (inR h 0 7 && inR n 0 200) (thF (nI (G h.toNatClampNeg)) n.toNatClampNeg 0 x) (-2)
set_option maxRecDepth 100000 in
set_option maxHeartbeats 4000000 in
theorem ev_thief (d : Nat) (M : sy_Mm) (G : Nat → Nat) (h x n : Int32) (hG : ∀ h, h < 8 → G h ≤ 16 ∧ M 20 h = nI (G h)) : Ev (d + 1) i_X7_thief [.ref 0, .int h, .int x, .int n] M (some (.int (tfS G h x n))) M := by
  refine ev_of ?_
  unfold tfS
  repeat refine fx_n rfl ?_
  refine fx_p rfl (ev_isHouse _ _ _) (fx_ze rfl (fun g1 => by ((repeat refine fx_n rfl ?_); exact fx_r rfl rfl ⟨by simp [g1, zb_f], rfl⟩)) (fun g1 => ?_))
  repeat refine fx_n rfl ?_
  refine fx_p rfl (ev_wi _ _ _ _ 200 rfl) (fx_zn rfl (fun g2 => ?_) (fun g2 => by ((repeat refine fx_n rfl ?_); exact fx_r rfl rfl ⟨by simp [g2, zb_f], rfl⟩)))
  obtain ⟨q, hq, rfl⟩ := inR_nI (b := 7) g1
  obtain ⟨m, hm, rfl⟩ := inR_nI (b := 200) g2
  rw [g1, g2, nI_cl (by omega), nI_cl (by omega)]
  repeat refine fx_n rfl ?_
  refine fx_p rfl (ev_nightOfTheft _ _ q m x (by omega) hm) ?_
  rw [(hG q (by omega)).2]
  exact fx_r rfl rfl ⟨rfl, rfl⟩
set_option maxRecDepth 100000 in
set_option maxHeartbeats 4000000 in
theorem ag_thief {M : sy_Mm} (h : Inv M) (s x n : Int32) : AG i_X7_thief i_X8_thief [.int s, .int x, .int n] M := by
  intro d
  obtain ⟨nn, E, ne, L, B, nb, G, F, h1, h2, h3, h4, h5, h6, h7⟩ := id h
  refine fx_w (ex_of (ev_thief _ M G s x n (fun q hq => ⟨(h5 q hq).1, (h5 q hq).2.1⟩))) ?_
  rintro _ N0 ⟨rfl, hN0⟩
  rw [hN0]
  refine ⟨⟨_, rfl⟩, ?_⟩
  unfold Ex tfS
  repeat refine fx_n rfl ?_
  refine fx_p rfl (em_isHouse _ _ _) (fx_ze rfl (fun g1 => by ((repeat refine fx_n rfl ?_); exact fx_r rfl rfl ⟨by simp [g1, zb_f], h⟩)) (fun g1 => ?_))
  repeat refine fx_n rfl ?_
  refine fx_p rfl (em_ir _ _ _ _ _ 0 200 rfl rfl) (fx_ze rfl (fun g2 => by ((repeat refine fx_n rfl ?_); exact fx_r rfl rfl ⟨by simp [g2, zb_f], h⟩)) (fun g2 => ?_))
  obtain ⟨q, hq, rfl⟩ := inR_nI (b := 7) g1
  obtain ⟨m, hm, rfl⟩ := inR_nI (b := 200) g2
  rw [g1, g2, nI_cl (by omega), nI_cl (by omega)]
  repeat refine fx_n rfl ?_
  refine fx_p rfl (em_thiefOf _ _ q m x (by omega) hm) ?_
  rw [(h5 q (by omega)).2.2]
  repeat refine fx_n rfl ?_
  exact fx_r rfl rfl ⟨rfl, h⟩
/-! robs -/
def rbW (L w i : Nat) : Int32 := if i % w < L then nI (i / w % 2) else 2
def rbF (L w : Nat) (x : Int32) : Nat → Nat
  | 0 => 0
  | n + 1 => rbF L w x n + if rbW L w n = x then 1 else 0
def rbS (L : Nat) (w n x : Int32) : Int32 := cond (inR w 1 30 && (inR n 1 200 && inR x 0 2)) (nI (rbF L w.toNatClampNeg x n.toNatClampNeg)) (-2)
theorem rem_nI {a b : Nat} (ha : a < 2 ^ 31) (h0 : 0 < b) (hb : b < 2 ^ 31) : nI a - nI a / nI b * nI b = nI (a % b) := pk_rem ha h0 hb
set_option maxRecDepth 100000 in
set_option maxHeartbeats 4000000 in
theorem ev_robs (d : Nat) (M : sy_Mm) (L : Nat) (w n x : Int32) (hL : L ≤ 99) (h6 : M 9 6 = nI L) : Ev (d + 1) i_X7_robs [.ref 0, .int w, .int n, .int x] M (some (.int (rbS L w n x))) M := by
  refine ev_of ?_
  unfold rbS
  have bad : (inR w 1 30 && (inR n 1 200 && inR x 0 2)) = false → Fx (d + 1) i_X7_robs 31 [some (.ref 0), some (.int w), some (.int n), some (.int x), none, none, none, none] [] M (fun r N => r = some (.int (cond (inR w 1 30 && (inR n 1 200 && inR x 0 2)) (nI (rbF L w.toNatClampNeg x n.toNatClampNeg)) (-2))) ∧ N = M) := by
    intro g
    rw [g]
    repeat refine fx_n rfl ?_
    exact fx_r rfl rfl ⟨rfl, rfl⟩
  repeat refine fx_n rfl ?_
  refine fx_b rfl (fun q => bad (by rw [show inR w 1 30 = false from inR_f.mpr (by rw [Int32.lt_iff_toInt_lt] at q; simp at q; omega)]; rfl)) (fun q1 => ?_)
  repeat refine fx_n rfl ?_
  refine fx_b rfl (fun q => bad (by rw [show inR w 1 30 = false from inR_f.mpr (by rw [Int32.lt_iff_toInt_lt] at q; simp at q; omega)]; rfl)) (fun q2 => ?_)
  repeat refine fx_n rfl ?_
  refine fx_b rfl (fun q => bad (by rw [show inR n 1 200 = false from inR_f.mpr (by rw [Int32.lt_iff_toInt_lt] at q; simp at q; omega)]; simp)) (fun q3 => ?_)
  repeat refine fx_n rfl ?_
  refine fx_b rfl (fun q => bad (by rw [show inR n 1 200 = false from inR_f.mpr (by rw [Int32.lt_iff_toInt_lt] at q; simp at q; omega)]; simp)) (fun q4 => ?_)
  have g1 : inR w 1 30 = true := inR_t.mpr (by rw [Int32.lt_iff_toInt_lt] at q1 q2; simp at q1 q2; omega)
  have g2 : inR n 1 200 = true := inR_t.mpr (by rw [Int32.lt_iff_toInt_lt] at q3 q4; simp at q3 q4; omega)
  repeat refine fx_n rfl ?_
  refine fx_p rfl (ev_wi _ _ _ _ 2 rfl) (fx_zn rfl (fun g3 => ?_) (fun g3 => bad (by simp [g3])))
  obtain ⟨W, hW1, hW2, rfl⟩ := inR_1 (b := 30) (by omega) g1
  obtain ⟨m, hm1, hm2, rfl⟩ := inR_1 (b := 200) (by omega) g2
  rw [g1, g2, g3, nI_cl (by omega), nI_cl (by omega)]
  simp only [Bool.and_self, cond_true]
  have loop : ∀ j i (y z : Option Value), i + j = m → Fx (d + 1) i_X7_robs 43 [some (.ref 0), some (.int (nI W)), some (.int (nI m)), some (.int x), some (.int (nI (rbF L W x i))), some (.int (nI i)), y, z] [.int (nI m), .int (nI i)] M (fun r N => r = some (.int (nI (rbF L W x m))) ∧ N = M) := by
    intro j
    induction j with
    | zero =>
      intro i y z hi
      have e : i = m := by omega
      subst e
      refine fx_bt rfl (nI_le (by omega) (by omega)) ?_
      repeat refine fx_n rfl ?_
      exact fx_r rfl rfl ⟨rfl, rfl⟩
    | succ j ih =>
      intro i y z hi
      refine fx_bf rfl (nI_ge (by omega) (by omega)) ?_
      repeat refine fx_n rfl ?_
      refine fx_g rfl (nI_ne0 (by omega) (by omega)) ?_
      rw [rem_nI (by omega) (by omega) (by omega)]
      repeat refine fx_n rfl ?_
      rw [h6]
      have hmod : i % W < W := Nat.mod_lt _ (by omega)
      have hdv : i / W ≤ i := Nat.div_le_self _ _
      have fin : ∀ (b v : Int32), v = rbW L W i → Fx (d + 1) i_X7_robs 87 [some (.ref 0), some (.int (nI W)), some (.int (nI m)), some (.int x), some (.int (nI (rbF L W x i))), some (.int (nI i)), some (.int b), some (.int v)] [.int x, .int v] M (fun r N => r = some (.int (nI (rbF L W x m))) ∧ N = M) := by
        intro b v hv
        have i2 := ih (i + 1) (some (.int b)) (some (.int v)) (by omega)
        rw [show rbF L W x (i + 1) = rbF L W x i + (if rbW L W i = x then 1 else 0) from rfl] at i2
        by_cases q : v = x
        · refine fx_bf rfl (fun z => z q) ?_
          repeat refine fx_n rfl ?_
          rw [if_pos (hv.symm.trans q)] at i2
          rw [nI_1, nI_1]
          exact i2
        · refine fx_bt rfl q ?_
          repeat refine fx_n rfl ?_
          rw [if_neg (fun z => q (hv.trans z)), Nat.add_zero] at i2
          rw [nI_1]
          exact i2
      by_cases hl : i % W < L
      · refine fx_bf rfl (nI_ge hl (by omega)) ?_
        repeat refine fx_n rfl ?_
        refine fx_bf rfl (by decide) ?_
        repeat refine fx_n rfl ?_
        refine fx_g rfl (nI_ne0 (by omega) (by omega)) ?_
        rw [pk_div (by omega) (by omega) (by omega)]
        repeat refine fx_n rfl ?_
        refine fx_g rfl (by decide) ?_
        rw [rem2 (by omega)]
        repeat refine fx_n rfl ?_
        exact fin _ _ (by unfold rbW; rw [if_pos hl])
      · refine fx_bt rfl (nI_le (by omega) (by omega)) ?_
        repeat refine fx_n rfl ?_
        refine fx_bt rfl (by decide) ?_
        repeat refine fx_n rfl ?_
        exact fin _ _ (by unfold rbW; rw [if_neg hl])
  repeat refine fx_n rfl ?_
  exact loop m 0 _ _ (by omega)
set_option maxRecDepth 100000 in
set_option maxHeartbeats 4000000 in
theorem em_robsOf (d : Nat) (M : sy_Mm) (L W m : Nat) (x : Int32) (hL : L ≤ 99) (hW1 : 1 ≤ W) (hW2 : W ≤ 30) (hm : m ≤ 200) (h6 : M 30 11 = nI L) : Ev d i_X8_robsOf [.ref 30, .int (nI W), .int (nI m), .int x] M (some (.int (nI (rbF L W x m)))) M := by
  have loop : ∀ j i (z : Option Value), i + j = m → Fx d i_X8_robsOf 9 [some (.ref 30), some (.int (nI W)), some (.int (nI m)), some (.int x), some (.int (nI (rbF L W x i))), some (.int (nI i)), z] [.int (nI m), .int (nI i)] M (fun r N => r = some (.int (nI (rbF L W x m))) ∧ N = M) := by
    intro j
    induction j with
    | zero =>
      intro i z hi
      have e : i = m := by omega
      subst e
      refine fx_bt rfl (nI_le (by omega) (by omega)) ?_
      repeat refine fx_n rfl ?_
      exact fx_r rfl rfl ⟨rfl, rfl⟩
    | succ j ih =>
      intro i z hi
      refine fx_bf rfl (nI_ge (by omega) (by omega)) ?_
      repeat refine fx_n rfl ?_
      refine fx_g rfl (nI_ne0 (by omega) (by omega)) ?_
      rw [rem_nI (by omega) (by omega) (by omega)]
      repeat refine fx_n rfl ?_
      rw [h6]
      have hmod : i % W < W := Nat.mod_lt _ (by omega)
      have hdv : i / W ≤ i := Nat.div_le_self _ _
      have fin : ∀ (v : Int32), v = rbW L W i → Fx d i_X8_robsOf 40 [some (.ref 30), some (.int (nI W)), some (.int (nI m)), some (.int x), some (.int (nI (rbF L W x i))), some (.int (nI i)), some (.int v)] [.int x, .int v, .int (nI (rbF L W x i))] M (fun r N => r = some (.int (nI (rbF L W x m))) ∧ N = M) := by
        intro v hv
        have i2 := ih (i + 1) (some (.int v)) (by omega)
        rw [show rbF L W x (i + 1) = rbF L W x i + (if rbW L W i = x then 1 else 0) from rfl] at i2
        by_cases q : v = x
        · refine fx_bf rfl (fun z => z q) ?_
          repeat refine fx_n rfl ?_
          rw [if_pos (hv.symm.trans q)] at i2
          rw [nI_1, nI_1]
          exact i2
        · refine fx_bt rfl q ?_
          repeat refine fx_n rfl ?_
          rw [if_neg (fun z => q (hv.trans z)), Nat.add_zero] at i2
          rw [nI_1, Int32.add_zero]
          exact i2
      by_cases hl : i % W < L
      · refine fx_bf rfl (nI_ge hl (by omega)) ?_
        repeat refine fx_n rfl ?_
        refine fx_g rfl (nI_ne0 (by omega) (by omega)) ?_
        rw [pk_div (by omega) (by omega) (by omega)]
        repeat refine fx_n rfl ?_
        refine fx_g rfl (by decide) ?_
        rw [rem2 (by omega)]
        repeat refine fx_n rfl ?_
        exact fin _ (by unfold rbW; rw [if_pos hl])
      · refine fx_bt rfl (nI_le (by omega) (by omega)) ?_
        repeat refine fx_n rfl ?_
        exact fin _ (by unfold rbW; rw [if_neg hl])
  refine ev_of ?_
  repeat refine fx_n rfl ?_
  exact loop m 0 _ (by omega)
set_option maxRecDepth 100000 in
set_option maxHeartbeats 4000000 in
theorem ag_robs {M : sy_Mm} (h : Inv M) (w n x : Int32) : AG i_X7_robs i_X8_robs [.int w, .int n, .int x] M := by
  intro d
  obtain ⟨nn, E, ne, L, B, nb, G, F, h1, h2, h3, h4, h5, h6, h7⟩ := id h
  refine fx_w (ex_of (ev_robs _ M L w n x h3.2.2.2 h3.1)) ?_
  rintro _ N0 ⟨rfl, hN0⟩
  rw [hN0]
  refine ⟨⟨_, rfl⟩, ?_⟩
  unfold Ex rbS
  repeat refine fx_n rfl ?_
  refine fx_p rfl (em_ir _ _ _ _ _ 1 30 rfl rfl) (fx_ze rfl (fun g1 => by ((repeat refine fx_n rfl ?_); exact fx_r rfl rfl ⟨by simp [g1, zb_f], h⟩)) (fun g1 => ?_))
  repeat refine fx_n rfl ?_
  refine fx_p rfl (em_ir _ _ _ _ _ 1 200 rfl rfl) (fx_ze rfl (fun g2 => by ((repeat refine fx_n rfl ?_); exact fx_r rfl rfl ⟨by simp [g2, zb_f], h⟩)) (fun g2 => ?_))
  repeat refine fx_n rfl ?_
  refine fx_p rfl (em_ir _ _ _ _ _ 0 2 rfl rfl) (fx_ze rfl (fun g3 => by ((repeat refine fx_n rfl ?_); exact fx_r rfl rfl ⟨by simp [g3, zb_f], h⟩)) (fun g3 => ?_))
  obtain ⟨W, hW1, hW2, rfl⟩ := inR_1 (b := 30) (by omega) g1
  obtain ⟨m, hm1, hm2, rfl⟩ := inR_1 (b := 200) (by omega) g2
  rw [g1, g2, g3, nI_cl (by omega), nI_cl (by omega)]
  repeat refine fx_n rfl ?_
  refine fx_p rfl (em_robsOf _ _ L W m x h3.2.2.2 hW1 hW2 hm2 h3.2.1) ?_
  repeat refine fx_n rfl ?_
  exact fx_r rfl rfl ⟨rfl, h⟩
