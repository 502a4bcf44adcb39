theorem ab_flS {o : Option (Nat × Nat)} {f i : Int32} (h : ¬ flS o f i = 0) : ¬ nI (flS o f i) = 0 := nI_ne0 (by omega) (by have := flS_lt o f i; omega)
set_option maxRecDepth 100000 in
set_option maxHeartbeats 4000000 in
theorem ex_sput (d : Nat) (M : sy_Mm) (s i : Nat) (v : Int32) (hs : s < 4) (hi : i < 60) : Ev d i_X3_put [.ref (22 + 2 * s), .int (nI i), .int v] M none (sy_up M (23 + 2 * s) i (cutS (M (22 + 2 * s) 1) v)) := by
  rcases (show s = 0 ∨ s = 1 ∨ s = 2 ∨ s = 3 by omega) with rfl | rfl | rfl | rfl
  all_goals
    refine ev_of ?_
    unfold cutS
    repeat refine fx_n rfl ?_
    refine fx_b rfl (fun q => ?_) (fun q => ?_)
    · rw [if_neg q]
      repeat refine fx_n rfl ?_
      refine fx_b rfl (fun q2 => ?_) (fun q2 => ?_)
      · rw [if_neg q2]
        repeat refine fx_n rfl ?_
        refine fx_g rfl (ix_nI (by omega) (by omega)) ?_
        rw [nI_cl (by omega)]
        exact fx_r rfl rfl ⟨rfl, rfl⟩
      · rw [if_pos (Decidable.byContradiction q2)]
        repeat refine fx_n rfl ?_
        refine fx_g rfl (ix_nI (by omega) (by omega)) ?_
        rw [nI_cl (by omega)]
        exact fx_r rfl rfl ⟨rfl, rfl⟩
    · rw [if_pos (Decidable.byContradiction q)]
      repeat refine fx_n rfl ?_
      refine fx_g rfl (ix_nI (by omega) (by omega)) ?_
      rw [nI_cl (by omega)]
      exact fx_r rfl rfl ⟨rfl, rfl⟩
/-- an item of a sheet laid on both sides -/
theorem Inv.laid {M : sy_Mm} {n : Nat} {E : Evs} {ne L : Nat} {B : Evs} {nb : Nat} {G : Nat → Nat} {F : Nat → Option (Nat × Nat)} (h1 : iText M n) (h2 : iTale M E ne) (h3 : iLast M L) (h4 : iBook M B nb) (h5 : iGrd M G) (h6 : iSht M F) (h7 : M 0 7 = M 30 4) {s i : Nat} (hs : s < 4) (hi : i < 60) (w : Int32) : Inv (sy_up (sy_up M (23 + 2 * s) i w) 33 (60 * s + i) w) := by
  have r : ∀ k, k ≠ 33 → k ≠ 23 + 2 * s → (sy_up (sy_up M (23 + 2 * s) i w) 33 (60 * s + i) w) k = M k := fun k a b => by rw [up_k a, up_k b]
  refine ⟨n, E, ne, L, B, nb, G, fun q => if q = s then F s else F q, h1.cg (r _ (by omega) (by omega)) (r _ (by omega) (by omega)) (r _ (by omega) (by omega)) (congrFun (r _ (by omega) (by omega)) _), h2.cg (r _ (by omega) (by omega)) (r _ (by omega) (by omega)) (r _ (by omega) (by omega)) (r _ (by omega) (by omega)) (r _ (by omega) (by omega)) (r _ (by omega) (by omega)) (r _ (by omega) (by omega)) (congrFun (r _ (by omega) (by omega)) _), h3.cg (congrFun (r _ (by omega) (by omega)) _) (congrFun (r _ (by omega) (by omega)) _), h4.cg (congrFun (r _ (by omega) (by omega)) _) (congrFun (r _ (by omega) (by omega)) _) (r _ (by omega) (by omega)) (r _ (by omega) (by omega)) (r _ (by omega) (by omega)) (r _ (by omega) (by omega)), h5.cg (r _ (by omega) (by omega)) (r _ (by omega) (by omega)), h6.st (s := s) (F s) (fun k k1 k2 k3 k4 => r k (by omega) k4) (fun q hq => congrFun (r _ (by omega) (by omega)) _) (fun q hq => congrFun (r _ (by omega) (by omega)) _) (fun q hq => ?_) ?_, ?_⟩
  · rw [up_j (by omega), up_k (by omega)]
  · have a := h6 s hs
    unfold iSh1 at a ⊢
    cases hF : F s with
    | none =>
      rw [hF] at a
      obtain ⟨a1, a2, a3⟩ := a
      exact ⟨by rw [r _ (by omega) (by omega)]; exact a1, by rw [r _ (by omega) (by omega)]; exact a2, by rw [r _ (by omega) (by omega)]; exact a3⟩
    | some q =>
      rw [hF] at a
      obtain ⟨a1, a2, a3, a4, a5, a6, a7⟩ := a
      refine ⟨a1, a2, by rw [r _ (by omega) (by omega)]; exact a3, by rw [r _ (by omega) (by omega)]; exact a4, by rw [r _ (by omega) (by omega)]; exact a5, by rw [r _ (by omega) (by omega)]; exact a6, fun j hj => ?_⟩
      by_cases e : j = i
      · rw [e, up_s, up_k (by omega), up_s]
      · rw [up_j (by omega), up_k (by omega), up_k (by omega), up_j e]; exact a7 j hj
  · rw [r 0 (by omega) (by omega), r 30 (by omega) (by omega)]; exact h7
set_option maxRecDepth 100000 in
set_option maxHeartbeats 4000000 in
theorem ag_lay {M : sy_Mm} (h : Inv M) (x f i v : Int32) : AG i_X7_lay i_X8_lay [.int x, .int f, .int i, .int v] M := by
  intro d
  obtain ⟨nn, E, ne, L, B, nb, G, F, h1, h2, h3, h4, h5, h6, h7⟩ := id h
  unfold Ex
  have modBad : (inR x 0 3 = false ∨ inR f 0 2 = false) → ∀ r : Option Value, r = some (.int (-2)) → Fx (d + 30) i_X8_lay 0 (sy_en i_X8_lay [.ref 30, .int x, .int f, .int i, .int v]) [] M (fun r' N' => r' = r ∧ Inv N') := by
    intro gg r hr
    subst hr
    repeat refine fx_n rfl ?_
    refine fx_p rfl (em_isSheet _ _ _) (fx_ze rfl (fun g1 => by ((repeat refine fx_n rfl ?_); exact fx_r rfl rfl ⟨by simp [g1, zb_f], h⟩)) (fun g1 => ?_))
    repeat refine fx_n rfl ?_
    refine fx_p rfl (em_ir _ _ _ _ _ 0 2 rfl rfl) (fx_zn rfl (fun g2 => ?_) (fun g2 => ?_))
    · rcases gg with z | z
      · rw [g1] at z; cases z
      · rw [g2] at z; cases z
    · repeat refine fx_n rfl ?_
      exact fx_r rfl rfl ⟨rfl, h⟩
  repeat refine fx_n rfl ?_
  refine fx_p rfl (ev_isSheet _ _ _) (fx_ze rfl (fun g1 => by ((repeat refine fx_n rfl ?_); exact fx_r rfl rfl ⟨⟨_, rfl⟩, modBad (Or.inl g1) _ rfl⟩)) (fun g1 => ?_))
  repeat refine fx_n rfl ?_
  refine fx_p rfl (ev_isForm _ _ _) (fx_zn rfl (fun g2 => ?_) (fun g2 => by ((repeat refine fx_n rfl ?_); exact fx_r rfl rfl ⟨⟨_, rfl⟩, modBad (Or.inr g2) _ rfl⟩)))
  obtain ⟨s, hs, rfl⟩ := inR_nI (b := 3) g1
  have hsh := h6 s (by omega)
  have modTo : ∀ (N : sy_Mm) (P : Option Value → sy_Mm → Prop), Fx (d + 30) i_X8_lay 26 [some (.ref 30), some (.int (nI s)), some (.int f), some (.int i), some (.int v), none] [.int i, .int f, .int (nI s), .ref 30] N P → Fx (d + 30) i_X8_lay 0 (sy_en i_X8_lay [.ref 30, .int (nI s), .int f, .int i, .int v]) [] N P := by
    intro N P kk
    repeat refine fx_n rfl ?_
    refine fx_p rfl (em_isSheet _ _ _) (fx_ze rfl (fun z => by rw [g1] at z; cases z) (fun _ => ?_))
    repeat refine fx_n rfl ?_
    refine fx_p rfl (em_ir _ _ _ _ _ 0 2 rfl rfl) (fx_zn rfl (fun _ => ?_) (fun z => by rw [g2] at z; cases z))
    repeat refine fx_n rfl ?_
    exact kk
  have hfl := fun d => ev_flawOf d M s (F s) f i (by omega) hsh
  have cls : ∀ Q : Option Value → sy_Mm → Prop, (¬ flS (F s) f i = 0 → Q (some (.int (-10 - nI (flS (F s) f i)))) (sy_up M 0 7 (nI (flS (F s) f i)))) → (∀ q : Nat, q < 60 → i = nI q → flS (F s) f i = 0 → Q (some (.int 1)) (sy_up M (23 + 2 * s) q (cutS f v))) → Fx (d + 30) i_X7_lay 22 [some (.ref 0), some (.int (nI s)), some (.int f), some (.int i), some (.int v), none] [.int (nI s), .ref 21] M Q := by
    intro Q hQ1 hQ2
    by_cases h0 : flS (F s) f i = 0
    · obtain ⟨g, z, e1, e2, e3⟩ := flS_0 h0
      rw [e1] at hsh
      obtain ⟨a1, a2, a3, a4, a5, a6, a7⟩ := hsh
      obtain ⟨q, hq, e4⟩ := inR_S e3
      have hp := fun d => ex_sput d M s q v (by omega) (by omega)
      have hQ := hQ2 q (by omega) e4 h0
      rw [h0] at hfl
      rw [a3, ← e2] at hp
      rw [← e4] at hp
      rcases (show s = 0 ∨ s = 1 ∨ s = 2 ∨ s = 3 by omega) with rfl | rfl | rfl | rfl
      all_goals
        refine fx_g rfl (by decide) ?_
        repeat refine fx_n rfl ?_
        refine fx_p rfl (hfl _) ?_
        repeat refine fx_n rfl ?_
        refine fx_bt rfl (by decide) ?_
        repeat refine fx_n rfl ?_
        refine fx_g rfl (by decide) ?_
        repeat refine fx_n rfl ?_
        refine fx_c rfl (ex_of (hp _)) ?_
        rintro _ _ ⟨rfl, rfl⟩
        repeat refine fx_n rfl ?_
        exact fx_r rfl rfl hQ
    · have hQ := hQ1 h0
      rcases (show s = 0 ∨ s = 1 ∨ s = 2 ∨ s = 3 by omega) with rfl | rfl | rfl | rfl
      all_goals
        refine fx_g rfl (by decide) ?_
        repeat refine fx_n rfl ?_
        refine fx_p rfl (hfl _) ?_
        repeat refine fx_n rfl ?_
        refine fx_bf rfl (ab_flS h0) ?_
        repeat refine fx_n rfl ?_
        refine fx_c rfl (ex_of (ev_found _ _ _)) ?_
        rintro _ _ ⟨rfl, rfl⟩
        exact fx_r rfl rfl hQ
  repeat refine fx_n rfl ?_
  refine cls _ (fun h0 => ⟨⟨_, rfl⟩, modTo _ _ ?_⟩) (fun q hq hiq h0 => ⟨⟨_, rfl⟩, modTo _ _ ?_⟩)
  · refine fx_c rfl (em_lacks _ _ s (F s) f i (by omega) (by have := (h6.cg (N := sy_up M 0 7 (nI (flS (F s) f i))) (fun k k1 k2 k3 => up_k (by omega))) s (by omega); exact this)) ?_
    rintro r N (⟨z, _⟩ | ⟨_, rfl, rfl⟩)
    · exact absurd z h0
    · repeat refine fx_n rfl ?_
      refine fx_bf rfl ?_ ?_
      · have := flS_lt (F s) f i
        rcases (show flS (F s) f i = 1 ∨ flS (F s) f i = 2 ∨ flS (F s) f i = 3 by omega) with e | e | e <;> rw [e] <;> decide
      · repeat refine fx_n rfl ?_
        exact fx_r rfl rfl ⟨rfl, h.fnd _⟩
  · have hN : iSh1 (sy_up M (23 + 2 * s) q (cutS f v)) s (F s) ∨ True := Or.inr trivial
    obtain ⟨g, z, e1, e2, e3⟩ := flS_0 h0
    have hM : ∃ o', iSh1 (sy_up M (23 + 2 * s) q (cutS f v)) s (some (g, z)) ∨ o' = 0 := ⟨0, Or.inr rfl⟩
    rw [e1] at hsh
    obtain ⟨a1, a2, a3, a4, a5, a6, a7⟩ := hsh
    generalize hNN : sy_up M (23 + 2 * s) q (cutS f v) = N
    have n31 : N 31 = M 31 := by rw [← hNN, up_k (by omega)]
    have n32 : N 32 = M 32 := by rw [← hNN, up_k (by omega)]
    refine fx_c (P1 := fun r K => r = some (.int 0) ∧ K = N) rfl ?_ ?_
    · unfold Ex
      repeat refine fx_n rfl ?_
      refine fx_g rfl (ix_nI (by omega) (by omega)) ?_
      rw [nI_cl (by omega), n31, a5]
      refine fx_bt rfl (nI_pos' (by omega)) ?_
      repeat refine fx_n rfl ?_
      refine fx_g rfl (ix_nI (by omega) (by omega)) ?_
      rw [nI_cl (by omega), n31, a5]
      repeat refine fx_n rfl ?_
      refine fx_bt rfl e2.symm ?_
      repeat refine fx_n rfl ?_
      refine fx_g rfl (ix_nI (by omega) (by omega)) ?_
      rw [nI_cl (by omega), n32, a6]
      repeat refine fx_n rfl ?_
      refine fx_p rfl (em_ir _ _ _ _ _ 0 ((z : Int) - 1) rfl (by rw [Int32.toInt_toInt64]; exact pk_sub_toInt (a := z) (b := 1) (by omega) (by omega))) (fx_ze rfl (fun y => by rw [e3] at y; cases y) (fun _ => ?_))
      repeat refine fx_n rfl ?_
      exact fx_r rfl rfl ⟨rfl, rfl⟩
    · rintro _ _ ⟨rfl, rfl⟩
      repeat refine fx_n rfl ?_
      refine fx_bt rfl (by decide) ?_
      repeat refine fx_n rfl ?_
      rw [sx_nI, hiq, nI_add]
      refine fx_p rfl (em_cut _ _ _ _) ?_
      refine fx_g rfl (ix_nI (by omega) (by omega)) ?_
      rw [nI_cl (by omega)]
      repeat refine fx_n rfl ?_
      refine fx_r rfl rfl ⟨rfl, ?_⟩
      rw [← hNN]
      exact Inv.laid h1 h2 h3 h4 h5 h6 h7 (by omega) hq _
