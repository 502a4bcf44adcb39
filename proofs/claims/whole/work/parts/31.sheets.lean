/-! ===== sheets ===== -/
theorem Inv.fnd {M : sy_Mm} (h : Inv M) (v : Int32) : Inv (sy_up (sy_up M 0 7 v) 30 4 v) := by
  obtain ⟨n, E, ne, L, B, nb, G, F, h1, h2, h3, h4, h5, h6, h7⟩ := h
  refine ⟨n, E, ne, L, B, nb, G, F, h1.cg rfl rfl rfl rfl, h2.cg rfl rfl rfl rfl rfl rfl rfl rfl, h3.cg rfl rfl, h4.cg rfl rfl rfl rfl rfl rfl, h5.cg rfl rfl, h6.cg ?_, rfl⟩
  intro z z1 z2 z3
  rw [up_k z3, up_k (by omega)]
theorem iSht.st {M N : sy_Mm} {F : Nat → Option (Nat × Nat)} {s : Nat} (h : iSht M F) (o : Option (Nat × Nat)) (hk : ∀ k, 22 ≤ k → k < 30 → k ≠ 22 + 2 * s → k ≠ 23 + 2 * s → N k = M k) (h31 : ∀ q, q ≠ s → N 31 q = M 31 q) (h32 : ∀ q, q ≠ s → N 32 q = M 32 q) (h33 : ∀ q, q < 60 * s ∨ 60 * s + 60 ≤ q → N 33 q = M 33 q) (hs : iSh1 N s o) : iSht N (fun q => if q = s then o else F q) := by
  intro q hq
  by_cases e : q = s
  · subst e
    simp only [if_true]
    exact hs
  · have h1 := h q hq
    simp only [e, if_false]
    unfold iSh1 at h1 ⊢
    rw [hk (22 + 2 * q) (by omega) (by omega) (by omega) (by omega), hk (23 + 2 * q) (by omega) (by omega) (by omega) (by omega), h31 q e, h32 q e]
    cases hF : F q with
    | none => rw [hF] at h1; exact h1
    | some fz =>
      rw [hF] at h1
      obtain ⟨a1, a2, a3, a4, a5, a6, a7⟩ := h1
      refine ⟨a1, a2, a3, a4, a5, a6, fun j hj => ?_⟩
      rw [h33 _ (by omega)]
      exact a7 j hj
set_option maxRecDepth 100000 in
set_option maxHeartbeats 4000000 in
theorem ev_isForm (d : Nat) (M : sy_Mm) (v : Int32) : Ev (d + 1) i_X3_isForm [.int v] M (some (.int (zb (inR v 0 2)))) M := by
  refine ev_of ?_
  repeat refine fx_n rfl ?_
  refine fx_p rfl (ev_wi _ _ _ _ 2 rfl) ?_
  exact fx_r rfl (zb_ok _) ⟨rfl, rfl⟩
set_option maxRecDepth 100000 in
set_option maxHeartbeats 4000000 in
theorem ev_isLost (d : Nat) (M : sy_Mm) (s : Nat) (hs : s < 4) : Ev d i_X3_isLost [.ref (22 + 2 * s)] M (some (.int (zb (decide (M (22 + 2 * s) 1 = -1))))) M := by
  rcases (show s = 0 ∨ s = 1 ∨ s = 2 ∨ s = 3 by omega) with rfl | rfl | rfl | rfl
  all_goals
    refine ev_of ?_
    repeat' (first | refine fx_n rfl ?_ | refine fx_b rfl (fun _ => ?_) (fun _ => ?_) | refine fx_r rfl rfl ?_)
    all_goals
      refine ⟨?_, rfl⟩
      simp_all [zb]
def sheetN (M N : sy_Mm) (s : Nat) (f n : Int32) : Prop := N (22 + 2 * s) 1 = f ∧ N (22 + 2 * s) 2 = n ∧ (∀ j, j < 60 → N (23 + 2 * s) j = 0) ∧ ∀ k, k ≠ 22 + 2 * s → k ≠ 23 + 2 * s → N k = M k
set_option maxRecDepth 100000 in
set_option maxHeartbeats 4000000 in
theorem ex_shbegin (d : Nat) (M : sy_Mm) (s : Nat) (f n : Int32) (hs : s < 4) : Ex d i_X3_begin [.ref (22 + 2 * s), .int f, .int n] M (fun r N => r = some (.int n) ∧ sheetN M N s f n) := by
  rcases (show s = 0 ∨ s = 1 ∨ s = 2 ∨ s = 3 by omega) with rfl | rfl | rfl | rfl
  all_goals
    have loop : ∀ (p : Nat), (p = 22 ∨ p = 24 ∨ p = 26 ∨ p = 28) → ∀ (s : Nat), p = 22 + 2 * s → ∀ (j i : Nat) (M1 : sy_Mm), i + j = 60 → M1 p 1 = f → M1 p 2 = n → (∀ q, q < i → M1 (p + 1) q = 0) → (∀ k, k ≠ p → k ≠ p + 1 → M1 k = M k) → Fx d i_X3_begin 15 [some (.ref p), some (.int f), some (.int n), some (.int (nI i))] [.int 60, .int (nI i)] M1 (fun r N => r = some (.int n) ∧ sheetN M N s f n) := by
      intro p hp s hps j
      induction j with
      | zero =>
        intro i M1 hi h1 h2 h3 h4
        have e : i = 60 := by omega
        subst e
        have fin : sheetN M M1 s f n := by
          unfold sheetN
          rw [← hps, show 23 + 2 * s = p + 1 by omega]
          exact ⟨h1, h2, h3, h4⟩
        rcases hp with rfl | rfl | rfl | rfl
        all_goals
          refine fx_bt rfl (by decide) ?_
          repeat refine fx_n rfl ?_
          exact fx_r rfl rfl ⟨rfl, fin⟩
      | succ j ih =>
        intro i M1 hi h1 h2 h3 h4
        have i2 := ih (i + 1) (sy_up M1 (p + 1) i 0) (by omega) (by rw [up_k (by omega)]; exact h1) (by rw [up_k (by omega)]; exact h2) (fun q hq => by
          by_cases e : q = i
          · rw [e, up_s]
          · rw [up_j e]; exact h3 q (by omega)) (fun k k1 k2 => by rw [up_k k2]; exact h4 k k1 k2)
        rcases hp with rfl | rfl | rfl | rfl
        all_goals
          refine fx_bf rfl (nI_ge (b := 60) (by omega) (by omega)) ?_
          repeat refine fx_n rfl ?_
          refine fx_g rfl (ix_nI (by omega) (by omega)) ?_
          rw [nI_cl (by omega)]
          repeat refine fx_n rfl ?_
          rw [nI_1]
          exact i2
    unfold Ex
    repeat refine fx_n rfl ?_
    refine loop _ (by omega) _ rfl 60 0 _ (by omega) rfl rfl (fun q hq => by omega) (fun k k1 k2 => ?_)
    rw [up_k k1, up_k k1]
theorem sx_nI (s : Nat) : (60 : Int32) * nI s = nI (60 * s) := pk_mul 60 s
/-- a place of the four -/
theorem four {Q : Nat → Prop} (h0 : Q 0) (h1 : Q 1) (h2 : Q 2) (h3 : Q 3) {s : Nat} (hs : s < 4) : Q s := co_4 h0 h1 h2 h3 hs
set_option maxRecDepth 100000 in
set_option maxHeartbeats 4000000 in
theorem ag_sheet {M : sy_Mm} (h : Inv M) (x f n : Int32) : AG i_X7_sheet i_X8_sheet [.int x, .int f, .int n] M := by
  intro d
  obtain ⟨nn, E, ne, L, B, nb, G, F, h1, h2, h3, h4, h5, h6, h7⟩ := id h
  have modTo : inR x 0 3 = true → inR f 0 2 = true → n ≤ 60 → ∀ (N : sy_Mm) (P : Option Value → sy_Mm → Prop), Fx (d + 30) i_X8_sheet 29 [some (.ref 30), some (.int x), some (.int f), some (.int n), none] [.int n] N P → Fx (d + 30) i_X8_sheet 0 (sy_en i_X8_sheet [.ref 30, .int x, .int f, .int n]) [] N P := by
    intro g1 g2 g3 N P kk
    repeat refine fx_n rfl ?_
    refine fx_p rfl (em_isSheet _ _ _) (fx_ze rfl (fun z => by rw [g1] at z; cases z) (fun _ => ?_))
    repeat refine fx_n rfl ?_
    refine fx_p rfl (em_ir _ _ _ _ _ 0 2 rfl rfl) (fx_ze rfl (fun z => by rw [g2] at z; cases z) (fun _ => ?_))
    repeat refine fx_n rfl ?_
    refine fx_bt rfl g3 ?_
    repeat refine fx_n rfl ?_
    exact kk
  have modBad : (inR x 0 3 = false ∨ inR f 0 2 = false ∨ ¬ n ≤ 60) → ∀ r : Option Value, r = some (.int (-2)) → Fx (d + 30) i_X8_sheet 0 (sy_en i_X8_sheet [.ref 30, .int x, .int f, .int n]) [] M (fun r' N' => r' = r ∧ Inv N') := by
    intro gg r hr
    subst hr
    repeat refine fx_n rfl ?_
    refine fx_p rfl (em_isSheet _ _ _) (fx_ze rfl (fun g1 => by ((repeat refine fx_n rfl ?_); exact fx_r rfl rfl ⟨by simp [g1, zb_f], h⟩)) (fun g1 => ?_))
    repeat refine fx_n rfl ?_
    refine fx_p rfl (em_ir _ _ _ _ _ 0 2 rfl rfl) (fx_ze rfl (fun g2 => by ((repeat refine fx_n rfl ?_); exact fx_r rfl rfl ⟨by simp [g2, zb_f], h⟩)) (fun g2 => ?_))
    repeat refine fx_n rfl ?_
    refine fx_b rfl (fun g3 => ?_) (fun g3 => ?_)
    · rcases gg with z | z | z
      · rw [g1] at z; cases z
      · rw [g2] at z; cases z
      · exact absurd g3 z
    · repeat refine fx_n rfl ?_
      exact fx_r rfl rfl ⟨rfl, h⟩
  unfold Ex
  repeat refine fx_n rfl ?_
  refine fx_p rfl (ev_isSheet _ _ _) (fx_ze rfl (fun g1 => by ((repeat refine fx_n rfl ?_); exact fx_r rfl rfl ⟨⟨_, rfl⟩, modBad (Or.inl g1) _ rfl⟩)) (fun g1 => ?_))
  repeat refine fx_n rfl ?_
  refine fx_p rfl (ev_isForm _ _ _) (fx_ze rfl (fun g2 => by ((repeat refine fx_n rfl ?_); exact fx_r rfl rfl ⟨⟨_, rfl⟩, modBad (Or.inr (Or.inl g2)) _ rfl⟩)) (fun g2 => ?_))
  repeat refine fx_n rfl ?_
  refine fx_b rfl (fun g3 => ?_) (fun g3 => by ((repeat refine fx_n rfl ?_); exact fx_r rfl rfl ⟨⟨_, rfl⟩, modBad (Or.inr (Or.inr g3)) _ rfl⟩))
  repeat refine fx_n rfl ?_
  refine fx_b rfl (fun g4 => ?_) (fun g4 => ?_)
  · obtain ⟨s, hs, rfl⟩ := inR_nI (b := 3) g1
    obtain ⟨z, hz, rfl⟩ := inR_nI (x := n) (b := 60) (inR_t.mpr (by rw [Int32.le_iff_toInt_le] at g3 g4; simp at g3 g4; omega))
    obtain ⟨fm, hf, rfl⟩ := inR_nI (b := 2) g2
    have cls : ∀ Q : Option Value → sy_Mm → Prop, (∀ N, sheetN M N s (nI fm) (nI z) → Q (some (.int (nI z))) N) → Fx (d + 30) i_X7_sheet 40 [some (.ref 0), some (.int (nI s)), some (.int (nI fm)), some (.int (nI z))] [.int (nI s), .ref 21] M Q := by
      intro Q hQ
      have hb := fun d => ex_shbegin d M s (nI fm) (nI z) (by omega)
      rcases (show s = 0 ∨ s = 1 ∨ s = 2 ∨ s = 3 by omega) with rfl | rfl | rfl | rfl
      all_goals
        refine fx_g rfl (by decide) ?_
        repeat refine fx_n rfl ?_
        refine fx_c rfl (hb _) ?_
        rintro _ N ⟨rfl, hN⟩
        exact fx_r rfl rfl (hQ N hN)
    repeat refine fx_n rfl ?_
    refine cls _ (fun N hN => ⟨⟨_, rfl⟩, modTo g1 g2 g3 N _ ?_⟩)
    obtain ⟨n1, n2, n3, n4⟩ := hN
    refine fx_bt rfl g4 ?_
    repeat refine fx_n rfl ?_
    refine fx_g rfl (ix_nI (by omega) (by omega)) ?_
    rw [nI_cl (by omega)]
    repeat refine fx_n rfl ?_
    refine fx_g rfl (ix_nI (by omega) (by omega)) ?_
    rw [nI_cl (by omega)]
    repeat refine fx_n rfl ?_
    have loop : ∀ (j i : Nat) (M1 : sy_Mm), i + j = z → (∀ q, q < i → M1 33 (60 * s + q) = 0) → (∀ q, q < 60 * s ∨ 60 * s + 60 ≤ q → M1 33 q = M 33 q) → (∀ k, k ≠ 33 → M1 k = (sy_up (sy_up N 31 s (nI fm)) 32 s (nI z)) k) → Fx (d + 30) i_X8_sheet 58 [some (.ref 30), some (.int (nI s)), some (.int (nI fm)), some (.int (nI z)), some (.int (nI i))] [.int (nI z), .int (nI i)] M1 (fun r' N' => r' = some (.int (nI z)) ∧ Inv N') := by
      intro j
      induction j with
      | zero =>
        intro i M1 hi c1 c2 c3
        have e : i = z := by omega
        subst e
        refine fx_bt rfl (nI_le (Nat.le_refl _) (by omega)) ?_
        repeat refine fx_n rfl ?_
        have cK : ∀ k, k ≠ 33 → k ≠ 32 → k ≠ 31 → k ≠ 22 + 2 * s → k ≠ 23 + 2 * s → M1 k = M k := fun k k1 k2 k3 k4 k5 => by rw [c3 k k1, up_k k2, up_k k3, n4 k k4 k5]
        have r30 : M1 30 = M 30 := cK 30 (by omega) (by omega) (by omega) (by omega) (by omega)
        refine fx_r rfl rfl ⟨rfl, nn, E, ne, L, B, nb, G, _, h1.cg ?_ ?_ ?_ ?_, h2.cg ?_ ?_ ?_ ?_ ?_ ?_ ?_ ?_, h3.cg ?_ ?_, h4.cg ?_ ?_ ?_ ?_ ?_ ?_, h5.cg ?_ ?_, h6.st (s := s) (some (fm, i)) (fun k k1 k2 k3 k4 => cK k (by omega) (by omega) (by omega) k3 k4) ?_ ?_ c2 ?_, ?_⟩
        all_goals (first | (rw [r30]; done) | (exact cK _ (by omega) (by omega) (by omega) (by omega) (by omega)) | (exact congrFun (cK _ (by omega) (by omega) (by omega) (by omega) (by omega)) _) | skip)
        · intro q hq; rw [c3 31 (by omega), up_k (by omega), up_j hq, n4 31 (by omega) (by omega)]
        · intro q hq; rw [c3 32 (by omega), up_j hq, up_k (by omega), n4 32 (by omega) (by omega)]
        · refine ⟨hf, hz, ?_, ?_, ?_, ?_, ?_⟩
          · rw [c3 _ (by omega), up_k (by omega), up_k (by omega)]; exact n1
          · rw [c3 _ (by omega), up_k (by omega), up_k (by omega)]; exact n2
          · rw [c3 31 (by omega), up_k (by omega), up_s]
          · rw [c3 32 (by omega), up_s]
          · intro j hj
            rw [c1 j hj, c3 _ (by omega), up_k (by omega), up_k (by omega)]
            exact (n3 j (by omega)).symm
        · rw [r30, cK 0 (by omega) (by omega) (by omega) (by omega) (by omega)]; exact h7
      | succ j ih =>
        intro i M1 hi c1 c2 c3
        refine fx_bf rfl (nI_ge (by omega) (by omega)) ?_
        repeat refine fx_n rfl ?_
        rw [sx_nI, nI_add]
        refine fx_g rfl (ix_nI (by omega) (by omega)) ?_
        rw [nI_cl (by omega)]
        repeat refine fx_n rfl ?_
        rw [nI_1]
        refine ih (i + 1) _ (by omega) (fun q hq => ?_) (fun q hq => ?_) (fun k hk => ?_)
        · by_cases e : q = i
          · rw [e, up_s]
          · rw [up_j (by omega)]; exact c1 q (by omega)
        · rw [up_j (by omega)]; exact c2 q hq
        · rw [up_k hk]; exact c3 k hk
    refine loop z 0 _ (by omega) (fun q hq => by omega) (fun q hq => ?_) (fun k hk => rfl)
    rw [up_k (by omega), up_k (by omega), n4 33 (by omega) (by omega)]
  · repeat refine fx_n rfl ?_
    refine fx_c rfl (ex_of (ev_found _ _ _)) ?_
    rintro _ _ ⟨rfl, rfl⟩
    repeat refine fx_n rfl ?_
    refine fx_r rfl rfl ⟨⟨_, rfl⟩, modTo g1 g2 g3 _ _ ?_⟩
    refine fx_bf rfl g4 ?_
    repeat refine fx_n rfl ?_
    refine fx_c rfl (ex_of (em_met _ _ _)) ?_
    rintro _ _ ⟨rfl, rfl⟩
    exact fx_r rfl rfl ⟨rfl, h.fnd 5⟩
/-- which finding keeps item i from being used as of a form; 0 for none -/
def flS (o : Option (Nat × Nat)) (f i : Int32) : Nat := match o with
  | none => 1
  | some (g, z) => if f = nI g then cond (inR i 0 ((z : Int) - 1)) 0 2 else 3
theorem flS_lt (o : Option (Nat × Nat)) (f i : Int32) : flS o f i < 4 := by
  unfold flS
  split
  · omega
  · split
    · cases inR i 0 _ <;> decide
    · omega
theorem flS_0 {o : Option (Nat × Nat)} {f i : Int32} (h : flS o f i = 0) : ∃ g z : Nat, o = some (g, z) ∧ f = nI g ∧ inR i 0 ((z : Int) - 1) = true := by
  cases o with
  | none => cases h
  | some q =>
    obtain ⟨g, z⟩ := q
    simp only [flS] at h
    split at h
    · rename_i e
      refine ⟨g, z, rfl, e, ?_⟩
      cases q : inR i 0 ((z : Int) - 1) with
      | true => rfl
      | false => rw [q] at h; cases h
    · cases h
set_option maxRecDepth 100000 in
set_option maxHeartbeats 4000000 in
theorem ev_flawOf (d : Nat) (M : sy_Mm) (s : Nat) (o : Option (Nat × Nat)) (f i : Int32) (hs : s < 4) (h : iSh1 M s o) : Ev (d + 1) i_X3_flawOf [.ref (22 + 2 * s), .int f, .int i] M (some (.int (nI (flS o f i)))) M := by
  have hl := fun d => ev_isLost d M s hs
  cases o with
  | none =>
    obtain ⟨a1, a2, a3⟩ := h
    rw [a1] at hl
    rcases (show s = 0 ∨ s = 1 ∨ s = 2 ∨ s = 3 by omega) with rfl | rfl | rfl | rfl
    all_goals
      refine ev_of ?_
      repeat refine fx_n rfl ?_
      refine fx_p rfl (hl _) ?_
      refine fx_bf rfl (by decide) ?_
      repeat refine fx_n rfl ?_
      exact fx_r rfl rfl ⟨rfl, rfl⟩
  | some q =>
    obtain ⟨g, z⟩ := q
    obtain ⟨a1, a2, a3, a4, -⟩ := h
    have ht : (nI z).toInt = (z : Int) := nI_toInt (by omega)
    rw [a3, decide_eq_false (nI_ne_m1 (by omega))] at hl
    simp only [flS]
    rcases (show s = 0 ∨ s = 1 ∨ s = 2 ∨ s = 3 by omega) with rfl | rfl | rfl | rfl
    all_goals
      refine ev_of ?_
      repeat refine fx_n rfl ?_
      refine fx_p rfl (hl _) ?_
      refine fx_bt rfl (by decide) ?_
      repeat refine fx_n rfl ?_
      by_cases hf : f = nI g
      · rw [if_pos hf]
        refine fx_bt rfl (hf.trans a3.symm) ?_
        repeat refine fx_n rfl ?_
        refine fx_b rfl (fun q => ?_) (fun q => ?_)
        · rw [show inR i 0 ((z : Int) - 1) = false from inR_f.mpr (by rw [Int32.lt_iff_toInt_lt] at q; simp at q; omega)]
          repeat refine fx_n rfl ?_
          exact fx_r rfl rfl ⟨rfl, rfl⟩
        · repeat refine fx_n rfl ?_
          refine fx_b rfl (fun q2 => ?_) (fun q2 => ?_)
          · have q3 : nI z ≤ i := by rw [← a4]; exact q2
            rw [show inR i 0 ((z : Int) - 1) = false from inR_f.mpr (by rw [Int32.le_iff_toInt_le, ht] at q3; omega)]
            repeat refine fx_n rfl ?_
            exact fx_r rfl rfl ⟨rfl, rfl⟩
          · have q3 : ¬ nI z ≤ i := by rw [← a4]; exact q2
            rw [show inR i 0 ((z : Int) - 1) = true from inR_t.mpr (by rw [Int32.lt_iff_toInt_lt] at q; rw [Int32.le_iff_toInt_le, ht] at q3; simp at q; omega)]
            repeat refine fx_n rfl ?_
            exact fx_r rfl rfl ⟨rfl, rfl⟩
      · rw [if_neg hf]
        refine fx_bf rfl (fun z => hf (z.trans a3)) ?_
        repeat refine fx_n rfl ?_
        exact fx_r rfl rfl ⟨rfl, rfl⟩
set_option maxRecDepth 100000 in
set_option maxHeartbeats 4000000 in
theorem em_lacks (d : Nat) (M : sy_Mm) (s : Nat) (o : Option (Nat × Nat)) (f i : Int32) (hs : s < 4) (h : iSh1 M s o) : Ex (d + 1) i_X8_lacks [.ref 30, .int (nI s), .int f, .int i] M (fun r N => (flS o f i = 0 ∧ r = some (.int 0) ∧ N = M) ∨ (¬ flS o f i = 0 ∧ r = some (.int (-10 - nI (flS o f i))) ∧ N = sy_up M 30 4 (nI (flS o f i)))) := by
  unfold Ex
  repeat refine fx_n rfl ?_
  refine fx_g rfl (ix_nI (by omega) (by omega)) ?_
  rw [nI_cl (by omega)]
  cases o with
  | none =>
    rw [h.2.2]
    refine fx_bf rfl (by decide) ?_
    repeat refine fx_n rfl ?_
    refine fx_c rfl (ex_of (em_met _ _ _)) ?_
    rintro _ _ ⟨rfl, rfl⟩
    exact fx_r rfl rfl (Or.inr ⟨(fun z => by cases z), rfl, rfl⟩)
  | some q =>
    obtain ⟨g, z⟩ := q
    obtain ⟨a1, a2, a3, a4, a5, a6, a7⟩ := h
    rw [a5]
    refine fx_bt rfl (nI_pos' (by omega)) ?_
    repeat refine fx_n rfl ?_
    refine fx_g rfl (ix_nI (by omega) (by omega)) ?_
    rw [nI_cl (by omega), a5]
    repeat refine fx_n rfl ?_
    simp only [flS]
    by_cases hf : f = nI g
    · rw [if_pos hf]
      refine fx_bt rfl hf.symm ?_
      repeat refine fx_n rfl ?_
      refine fx_g rfl (ix_nI (by omega) (by omega)) ?_
      rw [nI_cl (by omega), a6]
      repeat refine fx_n rfl ?_
      refine fx_p rfl (em_ir _ _ _ _ _ 0 ((z : Int) - 1) rfl (by rw [Int32.toInt_toInt64]; exact pk_sub_toInt (a := z) (b := 1) (by omega) (by omega))) (fx_ze rfl (fun q => ?_) (fun q => ?_))
      · rw [q]
        repeat refine fx_n rfl ?_
        refine fx_c rfl (ex_of (em_met _ _ _)) ?_
        rintro _ _ ⟨rfl, rfl⟩
        exact fx_r rfl rfl (Or.inr ⟨by decide, rfl, rfl⟩)
      · rw [q]
        repeat refine fx_n rfl ?_
        exact fx_r rfl rfl (Or.inl ⟨rfl, rfl, rfl⟩)
    · rw [if_neg hf]
      refine fx_bf rfl (fun z => hf z.symm) ?_
      repeat refine fx_n rfl ?_
      refine fx_c rfl (ex_of (em_met _ _ _)) ?_
      rintro _ _ ⟨rfl, rfl⟩
      exact fx_r rfl rfl (Or.inr ⟨by decide, rfl, rfl⟩)
