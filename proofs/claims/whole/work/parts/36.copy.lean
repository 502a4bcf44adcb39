/-! ===== copy ===== -/
def spB (z : Nat) (i n : Int32) : Bool := decide (0 ≤ i.toInt ∧ 0 ≤ n.toInt ∧ i.toInt + n.toInt ≤ (z : Int))
theorem spB_t {z : Nat} {i n : Int32} (h : spB z i n = true) (hz : z ≤ 60) : ∃ a c : Nat, i = nI a ∧ n = nI c ∧ a + c ≤ z := by
  have h' := of_decide_eq_true h
  obtain ⟨a, ha, rfl⟩ := inR_nI (x := i) (b := 60) (inR_t.mpr (by omega))
  obtain ⟨c, hc, rfl⟩ := inR_nI (x := n) (b := 60) (inR_t.mpr (by omega))
  rw [nI_toInt (by omega), nI_toInt (by omega)] at h'
  exact ⟨a, c, rfl, rfl, by omega⟩
set_option maxRecDepth 100000 in
set_option maxHeartbeats 4000000 in
theorem ev_hasSpan (d : Nat) (M : sy_Mm) (s z : Nat) (i n : Int32) (hs : s < 4) (hz : z ≤ 60) (h2 : M (22 + 2 * s) 2 = nI z) : Ev d i_X3_hasSpan [.ref (22 + 2 * s), .int i, .int n] M (some (.int (zb (spB z i n)))) M := by
  have ht : (nI z).toInt = (z : Int) := nI_toInt (by omega)
  rcases (show s = 0 ∨ s = 1 ∨ s = 2 ∨ s = 3 by omega) with rfl | rfl | rfl | rfl
  all_goals
    refine ev_of ?_
    repeat refine fx_n rfl ?_
    refine fx_b rfl (fun q => ?_) (fun q => ?_)
    · repeat refine fx_n rfl ?_
      refine fx_r rfl rfl ⟨?_, rfl⟩
      rw [show spB z i n = false from decide_eq_false (by rw [Int32.lt_iff_toInt_lt] at q; simp at q; omega)]; rfl
    repeat refine fx_n rfl ?_
    refine fx_b rfl (fun q2 => ?_) (fun q2 => ?_)
    · repeat refine fx_n rfl ?_
      refine fx_r rfl rfl ⟨?_, rfl⟩
      rw [show spB z i n = false from decide_eq_false (by rw [Int32.lt_iff_toInt_lt] at q2; simp at q2; omega)]; rfl
    repeat refine fx_n rfl ?_
    refine fx_b rfl (fun q3 => ?_) (fun q3 => ?_)
    · have q4 : nI z < n := by rw [← h2]; exact q3
      repeat refine fx_n rfl ?_
      refine fx_r rfl rfl ⟨?_, rfl⟩
      rw [show spB z i n = false from decide_eq_false (by rw [Int32.lt_iff_toInt_lt] at q q2 q4; simp at q q2; omega)]; rfl
    have q4 : ¬ nI z < n := by rw [← h2]; exact q3
    rw [Int32.lt_iff_toInt_lt] at q q2 q4
    simp at q q2
    obtain ⟨c, hc, e⟩ := inR_nI (x := n) (b := z) (inR_t.mpr (by omega))
    have es : (nI z - nI c).toInt = (z : Int) - c := pk_sub_toInt (by omega) (by omega)
    have en : n.toInt = (c : Int) := by rw [e]; exact nI_toInt (by omega)
    repeat refine fx_n rfl ?_
    refine fx_b rfl (fun q5 => ?_) (fun q5 => ?_)
    · have q6 : nI z - nI c < i := by rw [← h2, ← e]; exact q5
      rw [Int32.lt_iff_toInt_lt] at q6
      repeat refine fx_n rfl ?_
      refine fx_r rfl rfl ⟨?_, rfl⟩
      rw [show spB z i n = false from decide_eq_false (by omega)]; rfl
    · have q6 : ¬ nI z - nI c < i := by rw [← h2, ← e]; exact q5
      rw [Int32.lt_iff_toInt_lt] at q6
      repeat refine fx_n rfl ?_
      refine fx_r rfl rfl ⟨?_, rfl⟩
      rw [show spB z i n = true from decide_eq_true (by omega)]; rfl
theorem ladd32 (i n : Int32) : (i.toInt64 + n.toInt64).toInt = i.toInt + n.toInt := by
  have h1 := Int32.toInt_lt i
  have h2 := Int32.le_toInt i
  have h3 := Int32.toInt_lt n
  have h4 := Int32.le_toInt n
  have e := Int64.toInt_add i.toInt64 n.toInt64
  rw [Int32.toInt_toInt64, Int32.toInt_toInt64, Int.bmod_def] at e
  rw [e]
  split <;> omega
set_option maxRecDepth 100000 in
set_option maxHeartbeats 4000000 in
theorem ex_copy (d : Nat) (M : sy_Mm) (s t z w : Nat) (i j n : Int32) (hs : s < 4) (ht : t < 4) (hz : z ≤ 60) (hw : w ≤ 60) (s2 : M (22 + 2 * s) 2 = nI z) (t2 : M (22 + 2 * t) 2 = nI w) (Q : Option Value → sy_Mm → Prop)
    (hQ1 : (M (22 + 2 * s) 1 = -1 ∨ M (22 + 2 * t) 1 = -1) → Q (some (.int (-10 - 1))) (sy_up M 0 7 1))
    (hQ4 : ¬ M (22 + 2 * s) 1 = -1 → ¬ M (22 + 2 * t) 1 = -1 → ¬ M (22 + 2 * s) 1 = M (22 + 2 * t) 1 → Q (some (.int (-10 - 4))) (sy_up M 0 7 4))
    (hQ2 : ¬ M (22 + 2 * s) 1 = -1 → ¬ M (22 + 2 * t) 1 = -1 → M (22 + 2 * s) 1 = M (22 + 2 * t) 1 → (spB z i n = false ∨ spB w j n = false) → Q (some (.int (-10 - 2))) (sy_up M 0 7 2))
    (hQ0 : ¬ M (22 + 2 * s) 1 = -1 → ¬ M (22 + 2 * t) 1 = -1 → M (22 + 2 * s) 1 = M (22 + 2 * t) 1 → ∀ a b c : Nat, i = nI a → j = nI b → n = nI c → a + c ≤ z → b + c ≤ w → Q (some (.int 1)) (sy_row M (23 + 2 * t) (va_cpy (M (23 + 2 * s)) (M (23 + 2 * t)) a b c))) :
    Fx (d + 1) i_X7_copy 22 [some (.ref 0), some (.int (nI s)), some (.int i), some (.int (nI t)), some (.int j), some (.int n), none, none] [.int (nI s), .ref 21] M Q := by
  have ls := fun d => ev_isLost d M s hs
  have lt := fun d => ev_isLost d M t ht
  have ps := fun d => ev_hasSpan d M s z i n hs hz s2
  have pt := fun d => ev_hasSpan d M t w j n ht hw t2
  rcases (show s = 0 ∨ s = 1 ∨ s = 2 ∨ s = 3 by omega) with rfl | rfl | rfl | rfl <;> rcases (show t = 0 ∨ t = 1 ∨ t = 2 ∨ t = 3 by omega) with rfl | rfl | rfl | rfl
  all_goals
    refine fx_g rfl (by decide) ?_
    repeat refine fx_n rfl ?_
    refine fx_g rfl (by decide) ?_
    repeat refine fx_n rfl ?_
    refine fx_p rfl (ls _) (fx_zn rfl (fun g1 => ?_) (fun g1 => ?_))
    · repeat refine fx_n rfl ?_
      refine fx_c rfl (ex_of (ev_found _ _ _)) ?_
      rintro _ _ ⟨rfl, rfl⟩
      repeat refine fx_n rfl ?_
      exact fx_r rfl rfl (hQ1 (Or.inl (of_decide_eq_true g1)))
    have g1 := of_decide_eq_false g1
    repeat refine fx_n rfl ?_
    refine fx_p rfl (lt _) (fx_ze rfl (fun g2 => ?_) (fun g2 => ?_))
    · have g2 := of_decide_eq_false g2
      repeat refine fx_n rfl ?_
      refine fx_b rfl (fun g3 => ?_) (fun g3 => ?_)
      · repeat refine fx_n rfl ?_
        refine fx_p rfl (ps _) (fx_ze rfl (fun g4 => ?_) (fun g4 => ?_))
        · repeat refine fx_n rfl ?_
          refine fx_c rfl (ex_of (ev_found _ _ _)) ?_
          rintro _ _ ⟨rfl, rfl⟩
          repeat refine fx_n rfl ?_
          exact fx_r rfl rfl (hQ2 g1 g2 g3 (Or.inl g4))
        · repeat refine fx_n rfl ?_
          refine fx_p rfl (pt _) (fx_zn rfl (fun g5 => ?_) (fun g5 => ?_))
          · obtain ⟨a, c, rfl, rfl, h1⟩ := spB_t g4 hz
            obtain ⟨b, c', rfl, e, h2⟩ := spB_t g5 hw
            have e := (nI_eq (by omega) (by omega)).mp e
            subst e
            repeat refine fx_n rfl ?_
            refine fx_g rfl ⟨⟨nI_pos (by omega), nI_pos (by omega), nI_pos (by omega)⟩, by rw [nI_cl (by omega), nI_cl (by omega)]; omega, by rw [nI_cl (by omega), nI_cl (by omega)]; omega⟩ ?_
            rw [nI_cl (by omega), nI_cl (by omega), nI_cl (by omega)]
            repeat refine fx_n rfl ?_
            exact fx_r rfl rfl (hQ0 g1 g2 g3 a b c rfl rfl rfl h1 h2)
          · repeat refine fx_n rfl ?_
            refine fx_c rfl (ex_of (ev_found _ _ _)) ?_
            rintro _ _ ⟨rfl, rfl⟩
            repeat refine fx_n rfl ?_
            exact fx_r rfl rfl (hQ2 g1 g2 g3 (Or.inr g5))
      · repeat refine fx_n rfl ?_
        refine fx_c rfl (ex_of (ev_found _ _ _)) ?_
        rintro _ _ ⟨rfl, rfl⟩
        repeat refine fx_n rfl ?_
        exact fx_r rfl rfl (hQ4 g1 g2 g3)
    · repeat refine fx_n rfl ?_
      refine fx_c rfl (ex_of (ev_found _ _ _)) ?_
      rintro _ _ ⟨rfl, rfl⟩
      repeat refine fx_n rfl ?_
      exact fx_r rfl rfl (hQ1 (Or.inr (of_decide_eq_true g2)))
set_option maxRecDepth 100000 in
set_option maxHeartbeats 4000000 in
theorem em_copy1 (d : Nat) (M : sy_Mm) (s a c : Nat) (x y z : Option Value) (hs : s < 4) (hac : a + c ≤ 60) (K : Option Value → sy_Mm → Prop) (k : ∀ N, (∀ q, q < c → N 34 q = M 33 (60 * s + a + q)) → (∀ p, p ≠ 34 → N p = M p) → Fx d i_X8_copy 154 [some (.ref 30), some (.int (nI s)), some (.int (nI a)), x, y, some (.int (nI c)), some (.int (nI c))] [] N K) : ∀ (m i : Nat) (M1 : sy_Mm), i + m = c → (∀ q, q < i → M1 34 q = M 33 (60 * s + a + q)) → (∀ p, p ≠ 34 → M1 p = M p) → Fx d i_X8_copy 124 [some (.ref 30), some (.int (nI s)), some (.int (nI a)), x, y, some (.int (nI c)), some (.int (nI i))] [.int (nI c), .int (nI i)] M1 K := by
  intro m
  induction m with
  | zero =>
    intro i M1 hi c1 c2
    have e : i = c := by omega
    subst e
    refine fx_bt rfl (nI_le (Nat.le_refl _) (by omega)) ?_
    exact k M1 c1 c2
  | succ m ih =>
    intro i M1 hi c1 c2
    refine fx_bf rfl (nI_ge (by omega) (by omega)) ?_
    repeat refine fx_n rfl ?_
    rw [sx_nI, nI_add, nI_add]
    refine fx_g rfl (ix_nI (by omega) (by omega)) ?_
    rw [nI_cl (by omega), c2 33 (by omega)]
    refine fx_g rfl (ix_nI (by omega) (by omega)) ?_
    rw [nI_cl (by omega)]
    repeat refine fx_n rfl ?_
    rw [nI_1]
    refine ih (i + 1) _ (by omega) (fun q hq => ?_) (fun p hp => by rw [up_k hp]; exact c2 p hp)
    by_cases e : q = i
    · rw [e, up_s]
    · rw [up_j e]; exact c1 q (by omega)
set_option maxRecDepth 100000 in
set_option maxHeartbeats 4000000 in
theorem em_copy2 (d : Nat) (M : sy_Mm) (t b c : Nat) (x y : Option Value) (ht : t < 4) (hbc : b + c ≤ 60) : ∀ (m i : Nat) (M1 : sy_Mm), i + m = c → (∀ q, q < i → M1 33 (60 * t + b + q) = M 34 q) → (∀ q, q < 60 * t + b ∨ 60 * t + b + i ≤ q → M1 33 q = M 33 q) → (∀ p, p ≠ 33 → M1 p = M p) → Fx d i_X8_copy 161 [some (.ref 30), x, y, some (.int (nI t)), some (.int (nI b)), some (.int (nI c)), some (.int (nI i))] [.int (nI c), .int (nI i)] M1 (fun r N => r = some (.int 1) ∧ (∀ q, q < c → N 33 (60 * t + b + q) = M 34 q) ∧ (∀ q, q < 60 * t + b ∨ 60 * t + b + c ≤ q → N 33 q = M 33 q) ∧ ∀ p, p ≠ 33 → N p = M p) := by
  intro m
  induction m with
  | zero =>
    intro i M1 hi c1 c2 c3
    have e : i = c := by omega
    subst e
    refine fx_bt rfl (nI_le (Nat.le_refl _) (by omega)) ?_
    repeat refine fx_n rfl ?_
    exact fx_r rfl rfl ⟨rfl, c1, c2, c3⟩
  | succ m ih =>
    intro i M1 hi c1 c2 c3
    refine fx_bf rfl (nI_ge (by omega) (by omega)) ?_
    repeat refine fx_n rfl ?_
    rw [sx_nI, nI_add, nI_add]
    refine fx_g rfl (ix_nI (by omega) (by omega)) ?_
    rw [nI_cl (by omega), c3 34 (by omega)]
    refine fx_g rfl (ix_nI (by omega) (by omega)) ?_
    rw [nI_cl (by omega)]
    repeat refine fx_n rfl ?_
    rw [nI_1]
    refine ih (i + 1) _ (by omega) (fun q hq => ?_) (fun q hq => ?_) (fun p hp => by rw [up_k hp]; exact c3 p hp)
    · by_cases e : q = i
      · rw [e, up_s]
      · rw [up_j (by omega)]; exact c1 q (by omega)
    · rw [up_j (by omega)]; exact c2 q (by omega)
theorem row_s {M : sy_Mm} {k : Nat} {f : Nat → Int32} : sy_row M k f k = f := sy_row_s
theorem row_n {M : sy_Mm} {k q : Nat} {f : Nat → Int32} (h : q ≠ k) : sy_row M k f q = M q := sy_row_n h
set_option maxRecDepth 100000 in
set_option maxHeartbeats 4000000 in
theorem ag_copy {M : sy_Mm} (h : Inv M) (x i y j n : Int32) : AG i_X7_copy i_X8_copy [.int x, .int i, .int y, .int j, .int n] M := by
  intro d
  obtain ⟨nn, E, ne, L, B, nb, G, F, h1, h2, h3, h4, h5, h6, h7⟩ := id h
  unfold Ex
  have modBad : (inR x 0 3 && inR y 0 3) = false → ∀ r : Option Value, r = some (.int (-2)) → Fx (d + 30) i_X8_copy 0 (sy_en i_X8_copy [.ref 30, .int x, .int i, .int y, .int j, .int n]) [] M (fun r' N' => r' = r ∧ Inv N') := by
    intro gg r hr
    subst hr
    repeat refine fx_n rfl ?_
    refine fx_p rfl (em_isSheet _ _ _) (fx_ze rfl (fun g1 => by ((repeat refine fx_n rfl ?_); exact fx_r rfl rfl ⟨by simp [g1, zb_f], h⟩)) (fun g1 => ?_))
    repeat refine fx_n rfl ?_
    refine fx_p rfl (em_isSheet _ _ _) (fx_zn rfl (fun g3 => ?_) (fun g3 => ?_))
    · rw [g1, g3] at gg; cases gg
    · repeat refine fx_n rfl ?_
      exact fx_r rfl rfl ⟨rfl, h⟩
  repeat refine fx_n rfl ?_
  refine fx_p rfl (ev_isSheet _ _ _) (fx_ze rfl (fun g1 => by ((repeat refine fx_n rfl ?_); exact fx_r rfl rfl ⟨⟨_, rfl⟩, modBad (by simp [g1]) _ rfl⟩)) (fun g1 => ?_))
  repeat refine fx_n rfl ?_
  refine fx_p rfl (ev_isSheet _ _ _) (fx_zn rfl (fun g2 => ?_) (fun g2 => by ((repeat refine fx_n rfl ?_); exact fx_r rfl rfl ⟨⟨_, rfl⟩, modBad (by simp [g2]) _ rfl⟩)))
  obtain ⟨s, hs, rfl⟩ := inR_nI (b := 3) g1
  obtain ⟨t, ht, rfl⟩ := inR_nI (b := 3) g2
  have hss := h6 s (by omega)
  have hst := h6 t (by omega)
  have modTo : ∀ (N : sy_Mm) (P : Option Value → sy_Mm → Prop), Fx (d + 30) i_X8_copy 22 [some (.ref 30), some (.int (nI s)), some (.int i), some (.int (nI t)), some (.int j), some (.int n), none] [.int (nI s), .ref 31] N P → Fx (d + 30) i_X8_copy 0 (sy_en i_X8_copy [.ref 30, .int (nI s), .int i, .int (nI t), .int j, .int n]) [] N P := by
    intro N P kk
    repeat refine fx_n rfl ?_
    refine fx_p rfl (em_isSheet _ _ _) (fx_ze rfl (fun z => by rw [g1] at z; cases z) (fun _ => ?_))
    repeat refine fx_n rfl ?_
    refine fx_p rfl (em_isSheet _ _ _) (fx_zn rfl (fun _ => ?_) (fun z => by rw [g2] at z; cases z))
    repeat refine fx_n rfl ?_
    exact kk
  have siz : ∀ q, q < 4 → ∃ z, z ≤ 60 ∧ M (22 + 2 * q) 2 = nI z := by
    intro q hq
    have := h6 q hq
    cases hF : F q with
    | none => rw [hF] at this; exact ⟨0, by omega, this.2.1⟩
    | some fz => rw [hF] at this; exact ⟨fz.2, this.2.1, this.2.2.2.1⟩
  obtain ⟨z, hz, ez⟩ := siz s (by omega)
  obtain ⟨w, hw, ew⟩ := siz t (by omega)
  have some_of : ∀ q, q < 4 → ¬ M (22 + 2 * q) 1 = -1 → ∃ f zz, F q = some (f, zz) := by
    intro q hq hn
    have := h6 q hq
    cases hF : F q with
    | none => rw [hF] at this; exact absurd this.1 hn
    | some fz => exact ⟨fz.1, fz.2, rfl⟩
  repeat refine fx_n rfl ?_
  refine ex_copy _ M s t z w i j n (by omega) (by omega) hz hw ez ew _ (fun l => ⟨⟨_, rfl⟩, modTo _ _ ?_⟩) (fun l1 l2 l3 => ⟨⟨_, rfl⟩, modTo _ _ ?_⟩) (fun l1 l2 l3 l4 => ⟨⟨_, rfl⟩, modTo _ _ ?_⟩) (fun l1 l2 l3 a b c ei ej en hac hbc => ⟨⟨_, rfl⟩, modTo _ _ ?_⟩)
  · refine fx_g rfl (ix_nI (by omega) (by omega)) ?_
    rw [nI_cl (by omega), up_k (by omega)]
    cases hF : F s with
    | none =>
      rw [hF] at hss
      rw [hss.2.2]
      refine fx_bt rfl (by decide) ?_
      repeat refine fx_n rfl ?_
      refine fx_c rfl (ex_of (em_met _ _ _)) ?_
      rintro _ _ ⟨rfl, rfl⟩
      exact fx_r rfl rfl ⟨rfl, h.fnd 1⟩
    | some fz =>
      obtain ⟨f, zz⟩ := fz
      rw [hF] at hss
      obtain ⟨a1, a2, a3, a4, a5, a6, a7⟩ := hss
      rw [a5]
      refine fx_bf rfl (nI_pos (by omega)) ?_
      repeat refine fx_n rfl ?_
      refine fx_g rfl (ix_nI (by omega) (by omega)) ?_
      rw [nI_cl (by omega), up_k (by omega)]
      cases hG : F t with
      | none =>
        rw [hG] at hst
        rw [hst.2.2]
        refine fx_bf rfl (by decide) ?_
        repeat refine fx_n rfl ?_
        refine fx_c rfl (ex_of (em_met _ _ _)) ?_
        rintro _ _ ⟨rfl, rfl⟩
        exact fx_r rfl rfl ⟨rfl, h.fnd 1⟩
      | some gz =>
        obtain ⟨g, zt⟩ := gz
        rw [hG] at hst
        obtain ⟨b1, b2, b3, -⟩ := hst
        rw [a3, b3] at l
        rcases l with l | l
        · exact absurd l (nI_ne_m1 (by omega))
        · exact absurd l (nI_ne_m1 (by omega))
  all_goals
    obtain ⟨f, zs, hF⟩ := some_of s (by omega) l1
    obtain ⟨g, zt, hG⟩ := some_of t (by omega) l2
    rw [hF] at hss
    rw [hG] at hst
    obtain ⟨a1, a2, a3, a4, a5, a6, a7⟩ := hss
    obtain ⟨b1, b2, b3, b4, b5, b6, b7⟩ := hst
    rw [a3, b3] at l3
    have ezz : z = zs := (nI_eq (by omega) (by omega)).mp (ez.symm.trans a4)
    have eww : w = zt := (nI_eq (by omega) (by omega)).mp (ew.symm.trans b4)
    subst ezz
    subst eww
  · refine fx_g rfl (ix_nI (by omega) (by omega)) ?_
    rw [nI_cl (by omega), up_k (by omega), a5]
    refine fx_bf rfl (nI_pos (by omega)) ?_
    repeat refine fx_n rfl ?_
    refine fx_g rfl (ix_nI (by omega) (by omega)) ?_
    rw [nI_cl (by omega), up_k (by omega), b5]
    refine fx_bt rfl (nI_pos' (by omega)) ?_
    repeat refine fx_n rfl ?_
    refine fx_g rfl (ix_nI (by omega) (by omega)) ?_
    rw [nI_cl (by omega), up_k (by omega), a5]
    repeat refine fx_n rfl ?_
    refine fx_g rfl (ix_nI (by omega) (by omega)) ?_
    rw [nI_cl (by omega), up_k (by omega), b5]
    refine fx_bf rfl l3 ?_
    repeat refine fx_n rfl ?_
    refine fx_c rfl (ex_of (em_met _ _ _)) ?_
    rintro _ _ ⟨rfl, rfl⟩
    exact fx_r rfl rfl ⟨rfl, h.fnd 4⟩
  · refine fx_g rfl (ix_nI (by omega) (by omega)) ?_
    rw [nI_cl (by omega), up_k (by omega), a5]
    refine fx_bf rfl (nI_pos (by omega)) ?_
    repeat refine fx_n rfl ?_
    refine fx_g rfl (ix_nI (by omega) (by omega)) ?_
    rw [nI_cl (by omega), up_k (by omega), b5]
    refine fx_bt rfl (nI_pos' (by omega)) ?_
    repeat refine fx_n rfl ?_
    refine fx_g rfl (ix_nI (by omega) (by omega)) ?_
    rw [nI_cl (by omega), up_k (by omega), a5]
    repeat refine fx_n rfl ?_
    refine fx_g rfl (ix_nI (by omega) (by omega)) ?_
    rw [nI_cl (by omega), up_k (by omega), b5]
    refine fx_bt rfl l3 ?_
    have fin : ∀ x5 : Option Value, Fx (d + 30) i_X8_copy 111 [some (.ref 30), some (.int (nI s)), some (.int i), some (.int (nI t)), some (.int j), some (.int n), x5] [] (sy_up M 0 7 2) (fun r' N' => r' = some (.int (-10 - 2)) ∧ Inv N') := by
      intro x5
      repeat refine fx_n rfl ?_
      refine fx_c rfl (ex_of (em_met _ _ _)) ?_
      rintro _ _ ⟨rfl, rfl⟩
      exact fx_r rfl rfl ⟨rfl, h.fnd 2⟩
    repeat refine fx_n rfl ?_
    refine fx_b rfl (fun _ => fin _) (fun q1 => ?_)
    repeat refine fx_n rfl ?_
    refine fx_b rfl (fun _ => fin _) (fun q2 => ?_)
    repeat refine fx_n rfl ?_
    refine fx_b rfl (fun _ => fin _) (fun q3 => ?_)
    rw [Int32.lt_iff_toInt_lt] at q1 q2 q3
    simp at q1 q2 q3
    repeat refine fx_n rfl ?_
    refine fx_g rfl (ix_nI (by omega) (by omega)) ?_
    rw [nI_cl (by omega), up_k (by omega), a6]
    repeat refine fx_n rfl ?_
    refine fx_b rfl (fun _ => fin _) (fun q4 => ?_)
    repeat refine fx_n rfl ?_
    refine fx_g rfl (ix_nI (by omega) (by omega)) ?_
    rw [nI_cl (by omega), up_k (by omega), b6]
    repeat refine fx_n rfl ?_
    refine fx_b rfl (fun q5 => ?_) (fun _ => fin _)
    exfalso
    rw [lcmp_gt, Int64.lt_iff_toInt_lt, ladd32, Int32.toInt_toInt64, nI_toInt (by omega)] at q4
    have q6 : ¬ 0 < lg_cmp (j.toInt64 + n.toInt64) (nI w).toInt64 := Int32.not_lt.mpr q5
    rw [lcmp_gt, Int64.lt_iff_toInt_lt, ladd32, Int32.toInt_toInt64, nI_toInt (by omega)] at q6
    rcases l4 with l4 | l4
    · exact absurd (of_decide_eq_false l4) (fun k => k (by omega))
    · exact absurd (of_decide_eq_false l4) (fun k => k (by omega))
  · subst ei ej en
    generalize hN : sy_row M (23 + 2 * t) (va_cpy (M (23 + 2 * s)) (M (23 + 2 * t)) a b c) = N
    have r : ∀ k, k ≠ 23 + 2 * t → N k = M k := fun k hk => by rw [← hN, row_n hk]
    refine fx_g rfl (ix_nI (by omega) (by omega)) ?_
    rw [nI_cl (by omega), r 31 (by omega), a5]
    refine fx_bf rfl (nI_pos (by omega)) ?_
    repeat refine fx_n rfl ?_
    refine fx_g rfl (ix_nI (by omega) (by omega)) ?_
    rw [nI_cl (by omega), r 31 (by omega), b5]
    refine fx_bt rfl (nI_pos' (by omega)) ?_
    repeat refine fx_n rfl ?_
    refine fx_g rfl (ix_nI (by omega) (by omega)) ?_
    rw [nI_cl (by omega), r 31 (by omega), a5]
    repeat refine fx_n rfl ?_
    refine fx_g rfl (ix_nI (by omega) (by omega)) ?_
    rw [nI_cl (by omega), r 31 (by omega), b5]
    refine fx_bt rfl l3 ?_
    repeat refine fx_n rfl ?_
    refine fx_bf rfl (nI_pos (by omega)) ?_
    repeat refine fx_n rfl ?_
    refine fx_bf rfl (nI_pos (by omega)) ?_
    repeat refine fx_n rfl ?_
    refine fx_bf rfl (nI_pos (by omega)) ?_
    repeat refine fx_n rfl ?_
    refine fx_g rfl (ix_nI (by omega) (by omega)) ?_
    rw [nI_cl (by omega), r 32 (by omega), a6]
    repeat refine fx_n rfl ?_
    refine fx_bf rfl (by rw [lcmp_gt, Int64.lt_iff_toInt_lt, ladd32, Int32.toInt_toInt64, nI_toInt (by omega), nI_toInt (by omega), nI_toInt (by omega)]; omega) ?_
    repeat refine fx_n rfl ?_
    refine fx_g rfl (ix_nI (by omega) (by omega)) ?_
    rw [nI_cl (by omega), r 32 (by omega), b6]
    repeat refine fx_n rfl ?_
    refine fx_bt rfl (Int32.not_lt.mp (by rw [lcmp_gt, Int64.lt_iff_toInt_lt, ladd32, Int32.toInt_toInt64, nI_toInt (by omega), nI_toInt (by omega), nI_toInt (by omega)]; omega)) ?_
    repeat refine fx_n rfl ?_
    refine em_copy1 _ N s a c _ _ none (by omega) (by omega) _ (fun N1 m1 m2 => ?_) c 0 N (by omega) (fun q hq => by omega) (fun _ _ => rfl)
    repeat refine fx_n rfl ?_
    refine fx_w (em_copy2 _ N1 t b c _ _ (by omega) (by omega) c 0 N1 (by omega) (fun q hq => by omega) (fun _ _ => rfl) (fun _ _ => rfl)) ?_
    rintro _ N2 ⟨rfl, p1, p2, p3⟩
    have cR : ∀ k, k ≠ 33 → k ≠ 34 → k ≠ 23 + 2 * t → N2 k = M k := fun k k1 k2 k3 => by rw [p3 k k1, m2 k k2, r k k3]
    have e33 : N1 33 = M 33 := by rw [m2 33 (by omega), r 33 (by omega)]
    have n33 : N 33 = M 33 := r 33 (by omega)
    refine ⟨rfl, nn, E, ne, L, B, nb, G, fun q => if q = t then some (g, w) else F q, h1.cg ?_ ?_ ?_ ?_, h2.cg ?_ ?_ ?_ ?_ ?_ ?_ ?_ ?_, h3.cg ?_ ?_, h4.cg ?_ ?_ ?_ ?_ ?_ ?_, h5.cg ?_ ?_, h6.st (s := t) (some (g, w)) (fun k q1 q2 q3 q4 => cR k (by omega) (by omega) q4) ?_ ?_ ?_ ?_, ?_⟩
    all_goals (first | (exact cR _ (by omega) (by omega) (by omega)) | (exact congrFun (cR _ (by omega) (by omega) (by omega)) _) | skip)
    · intro q hq; rw [cR 31 (by omega) (by omega) (by omega)]
    · intro q hq; rw [cR 32 (by omega) (by omega) (by omega)]
    · intro q hq; rw [p2 q (by omega), e33]
    · refine ⟨b1, b2, ?_, ?_, ?_, ?_, fun q hq => ?_⟩
      · rw [cR _ (by omega) (by omega) (by omega)]; exact b3
      · rw [cR _ (by omega) (by omega) (by omega)]; exact b4
      · rw [cR _ (by omega) (by omega) (by omega)]; exact b5
      · rw [cR _ (by omega) (by omega) (by omega)]; exact b6
      · rw [p3 (23 + 2 * t) (by omega), m2 (23 + 2 * t) (by omega), ← hN, row_s]
        by_cases e : b ≤ q ∧ q < b + c
        · rw [pk_cpy_in e.1 e.2, show 60 * t + q = 60 * t + b + (q - b) by omega, p1 _ (by omega), m1 _ (by omega), n33, show 60 * s + a + (q - b) = 60 * s + (a + (q - b)) by omega]
          exact a7 _ (by omega)
        · rw [pk_cpy_out (by omega), p2 _ (by omega), e33]; exact b7 q hq
    · rw [cR 0 (by omega) (by omega) (by omega), cR 30 (by omega) (by omega) (by omega)]; exact h7
