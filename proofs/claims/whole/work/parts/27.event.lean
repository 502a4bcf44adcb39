/-! ===== event, undo ===== -/
def lastN (E : Evs) (ne : Nat) : Nat := if ne = 0 then 0 else E (ne - 1) 1
def evG (E : Evs) (ne : Nat) (k n s h w : Int32) : Bool := inR k 0 5 && (inR n (lastN E ne) 199 && (inR s 0 8 && (inR h 0 7 && inR w 0 (if k = 0 then 9 else 0))))
def addE (E : Evs) (ne : Nat) (k n s h w : Int32) : Evs := fun e c => if e = ne then (if c = 0 then k else if c = 1 then n else if c = 2 then s else if c = 3 then h else w).toNatClampNeg else E e c
def putC (M : sy_Mm) (ne : Nat) (k n s h w : Int32) : sy_Mm := sy_up (sy_up (sy_up (sy_up (sy_up (sy_up M 4 ne k) 5 ne n) 6 ne s) 7 ne h) 8 ne w) 3 5 (nI (ne + 1))
def putM (M : sy_Mm) (ne : Nat) (k n s h w : Int32) : sy_Mm := sy_up (sy_up (sy_up (sy_up (sy_up (sy_up M 37 (5 * ne) k) 37 (5 * ne + 1) n) 37 (5 * ne + 2) s) 37 (5 * ne + 3) h) 37 (5 * ne + 4) w) 30 12 (nI (ne + 1))
theorem evG_nI {E : Evs} {ne : Nat} {k n s h w : Int32} (g : evG E ne k n s h w = true) : ∃ a b c e f : Nat, (a ≤ 5 ∧ lastN E ne ≤ b ∧ b ≤ 199 ∧ c ≤ 8 ∧ e ≤ 7 ∧ f ≤ 9) ∧ k = nI a ∧ n = nI b ∧ s = nI c ∧ h = nI e ∧ w = nI f := by
  simp only [evG, Bool.and_eq_true] at g
  obtain ⟨g1, g2, g3, g4, g5⟩ := g
  obtain ⟨a, ha, e1⟩ := inR_nI (b := 5) g1
  have g2' := inR_t.mp g2
  obtain ⟨b, hb, e2⟩ := inR_nI (x := n) (b := 199) (inR_t.mpr (by omega))
  obtain ⟨c, hc, e3⟩ := inR_nI (b := 8) g3
  obtain ⟨e, he, e4⟩ := inR_nI (b := 7) g4
  have g5' := inR_t.mp g5
  obtain ⟨f, hf, e5⟩ := inR_nI (x := w) (b := 9) (inR_t.mpr (by split at g5' <;> omega))
  refine ⟨a, b, c, e, f, ⟨ha, ?_, hb, hc, he, hf⟩, e1, e2, e3, e4, e5⟩
  rw [e2, nI_toInt (by omega)] at g2'
  omega
theorem addE_ok {E : Evs} {ne : Nat} {k n s h w : Int32} (hE : taleOK E ne) (hn : ne < 40) (g : evG E ne k n s h w = true) : taleOK (addE E ne k n s h w) (ne + 1) := by
  obtain ⟨a, b, c, e, f, hh, rfl, rfl, rfl, rfl, rfl⟩ := evG_nI g
  refine ⟨by omega, fun q hq => ?_, fun q hq => ?_⟩
  · by_cases e1 : q = ne
    · simp only [addE, e1, if_true]
      simp [nI_cl (show a < 2 ^ 31 by omega), nI_cl (show b < 2 ^ 31 by omega), nI_cl (show c < 2 ^ 31 by omega), nI_cl (show e < 2 ^ 31 by omega), nI_cl (show f < 2 ^ 31 by omega)]
      omega
    · simp only [addE, e1, if_false]
      exact hE.2.1 q (by omega)
  · by_cases e1 : q + 1 = ne
    · have e2 : q ≠ ne := by omega
      simp only [addE, e1, e2, if_true, if_false]
      simp [nI_cl (show b < 2 ^ 31 by omega)]
      have : lastN E ne = E q 1 := by unfold lastN; rw [if_neg (by omega), show ne - 1 = q by omega]
      omega
    · have e2 : q ≠ ne := by omega
      simp only [addE, e1, e2, if_false]
      exact hE.2.2 q (by omega)
theorem putC_ok {M : sy_Mm} {E : Evs} {ne : Nat} {k n s h w : Int32} (hT : taleC M E ne) (hn : ne < 40) (g : evG E ne k n s h w = true) : taleC (putC M ne k n s h w) (addE E ne k n s h w) (ne + 1) := by
  obtain ⟨a, b, c, e, f, hh, rfl, rfl, rfl, rfl, rfl⟩ := evG_nI g
  refine ⟨rfl, fun q hq => ?_⟩
  have r4 : putC M ne (nI a) (nI b) (nI c) (nI e) (nI f) 4 = upd (M 4) ne (nI a) := rfl
  have r5 : putC M ne (nI a) (nI b) (nI c) (nI e) (nI f) 5 = upd (M 5) ne (nI b) := rfl
  have r6 : putC M ne (nI a) (nI b) (nI c) (nI e) (nI f) 6 = upd (M 6) ne (nI c) := rfl
  have r7 : putC M ne (nI a) (nI b) (nI c) (nI e) (nI f) 7 = upd (M 7) ne (nI e) := rfl
  have r8 : putC M ne (nI a) (nI b) (nI c) (nI e) (nI f) 8 = upd (M 8) ne (nI f) := rfl
  rw [r4, r5, r6, r7, r8]
  by_cases e1 : q = ne
  · subst e1
    simp [addE, upd, nI_cl (show a < 2 ^ 31 by omega), nI_cl (show b < 2 ^ 31 by omega), nI_cl (show c < 2 ^ 31 by omega), nI_cl (show e < 2 ^ 31 by omega), nI_cl (show f < 2 ^ 31 by omega)]
  · have := hT.2 q (by omega)
    simp only [addE, upd, e1, if_false]
    exact this
theorem putM_ok {M : sy_Mm} {E : Evs} {ne : Nat} {k n s h w : Int32} (hT : taleM M E ne) (hn : ne < 40) (g : evG E ne k n s h w = true) : taleM (putM M ne k n s h w) (addE E ne k n s h w) (ne + 1) := by
  obtain ⟨a, b, c, e, f, hh, rfl, rfl, rfl, rfl, rfl⟩ := evG_nI g
  refine ⟨rfl, fun q hq z hz => ?_⟩
  have r37 : putM M ne (nI a) (nI b) (nI c) (nI e) (nI f) 37 = upd (upd (upd (upd (upd (M 37) (5 * ne) (nI a)) (5 * ne + 1) (nI b)) (5 * ne + 2) (nI c)) (5 * ne + 3) (nI e)) (5 * ne + 4) (nI f) := rfl
  rw [r37]
  by_cases e1 : q = ne
  · subst e1
    rcases (show z = 0 ∨ z = 1 ∨ z = 2 ∨ z = 3 ∨ z = 4 by omega) with rfl | rfl | rfl | rfl | rfl <;> simp [addE, upd, nI_cl (show a < 2 ^ 31 by omega), nI_cl (show b < 2 ^ 31 by omega), nI_cl (show c < 2 ^ 31 by omega), nI_cl (show e < 2 ^ 31 by omega), nI_cl (show f < 2 ^ 31 by omega)]
  · have := hT.2 q (by omega) z hz
    rw [pk_un (by omega), pk_un (by omega), pk_un (by omega), pk_un (by omega), pk_un (by omega)]
    simp only [addE, e1, if_false]
    exact this
set_option maxRecDepth 100000 in
set_option maxHeartbeats 4000000 in
theorem ev_lastNight (d : Nat) (M : sy_Mm) (E : Evs) (ne : Nat) (hE : taleOK E ne) (hT : taleC M E ne) : Ev d i_X4_lastNight [.ref 3] M (some (.int (nI (lastN E ne)))) M := by
  have hne := hE.1
  unfold lastN
  refine ev_of ?_
  repeat refine fx_n rfl ?_
  rw [hT.1]
  by_cases h : ne = 0
  · refine fx_bf rfl (fun z => z (by rw [h]; rfl)) ?_
    repeat refine fx_n rfl ?_
    refine fx_r rfl rfl ⟨?_, rfl⟩
    rw [if_pos h]; rfl
  · refine fx_bt rfl (nI_ne0 (by omega) (by omega)) ?_
    repeat refine fx_n rfl ?_
    rw [hT.1, show nI ne - 1 = nI (ne - 1) from pk_sub (a := ne) (b := 1) (by omega)]
    refine fx_g rfl (ix_nI (by omega) (by omega)) ?_
    rw [nI_cl (by omega), (hT.2 (ne - 1) (by omega)).2.1]
    refine fx_r rfl rfl ⟨?_, rfl⟩
    rw [if_neg h]
theorem lastN_le {E : Evs} {ne : Nat} (hE : taleOK E ne) : lastN E ne ≤ 199 := by
  unfold lastN
  split
  · omega
  · have := (hE.2.1 (ne - 1) (by omega)).2.1; omega
set_option maxRecDepth 100000 in
set_option maxHeartbeats 4000000 in
theorem ev_mayBe (d : Nat) (M : sy_Mm) (E : Evs) (ne : Nat) (k n s h w : Int32) (hE : taleOK E ne) (hT : taleC M E ne) : Ev (d + 1) i_X4_mayBe [.ref 3, .int k, .int n, .int s, .int h, .int w] M (some (.int (zb (evG E ne k n s h w)))) M := by
  have hl := lastN_le hE
  have ht : (nI (lastN E ne)).toInt = (lastN E ne : Int) := nI_toInt (by omega)
  refine ev_of ?_
  unfold evG
  repeat refine fx_n rfl ?_
  refine fx_p rfl (ev_wi _ _ _ _ 5 rfl) (fx_ze rfl (fun g1 => by ((repeat refine fx_n rfl ?_); exact fx_r rfl rfl ⟨by simp [g1, zb_f], rfl⟩)) (fun g1 => ?_))
  repeat refine fx_n rfl ?_
  refine fx_p rfl (ev_wi _ _ _ _ 199 rfl) (fx_ze rfl (fun g => ?_) (fun g => ?_))
  · have g2 : inR n (lastN E ne) 199 = false := inR_f.mpr (by have := inR_f.mp g; omega)
    repeat refine fx_n rfl ?_
    exact fx_r rfl rfl ⟨by simp [g2, zb], rfl⟩
  repeat refine fx_n rfl ?_
  refine fx_p rfl (ev_lastNight _ _ E ne hE hT) (fx_b rfl (fun q => ?_) (fun q => ?_))
  · have g2 : inR n (lastN E ne) 199 = false := inR_f.mpr (by rw [Int32.lt_iff_toInt_lt, ht] at q; omega)
    repeat refine fx_n rfl ?_
    exact fx_r rfl rfl ⟨by simp [g2, zb], rfl⟩
  have g2 : inR n (lastN E ne) 199 = true := inR_t.mpr (by have := inR_t.mp g; rw [Int32.lt_iff_toInt_lt, ht] at q; omega)
  repeat refine fx_n rfl ?_
  refine fx_p rfl (ev_wi _ _ _ _ 8 rfl) (fx_ze rfl (fun g3 => by ((repeat refine fx_n rfl ?_); exact fx_r rfl rfl ⟨by simp [g3, zb_f], rfl⟩)) (fun g3 => ?_))
  repeat refine fx_n rfl ?_
  refine fx_p rfl (ev_isHouse _ _ _) (fx_ze rfl (fun g4 => by ((repeat refine fx_n rfl ?_); exact fx_r rfl rfl ⟨by simp [g4, zb_f], rfl⟩)) (fun g4 => ?_))
  repeat refine fx_n rfl ?_
  by_cases hk : k = 0
  · refine fx_bf rfl (fun z => z hk) ?_
    rw [if_pos hk]
    repeat refine fx_n rfl ?_
    refine fx_p rfl (ev_wi _ _ _ _ 9 rfl) (fx_ze rfl (fun g5 => by ((repeat refine fx_n rfl ?_); exact fx_r rfl rfl ⟨by simp [g5, zb_f], rfl⟩)) (fun g5 => ?_))
    repeat refine fx_n rfl ?_
    exact fx_r rfl rfl ⟨by simp [g1, g2, g3, g4, g5, zb], rfl⟩
  · refine fx_bt rfl hk ?_
    rw [if_neg hk]
    repeat refine fx_n rfl ?_
    refine fx_p rfl (ev_wi _ _ _ _ 0 rfl) (fx_ze rfl (fun g5 => by ((repeat refine fx_n rfl ?_); exact fx_r rfl rfl ⟨by simp [g5, zb_f], rfl⟩)) (fun g5 => ?_))
    repeat refine fx_n rfl ?_
    exact fx_r rfl rfl ⟨by simp [g1, g2, g3, g4, g5, zb], rfl⟩
set_option maxRecDepth 100000 in
set_option maxHeartbeats 4000000 in
theorem ex_event (d : Nat) (M : sy_Mm) (E : Evs) (ne : Nat) (k n s h w : Int32) (hE : taleOK E ne) (hT : taleC M E ne) : Ex (d + 2) i_X7_event [.ref 0, .int k, .int n, .int s, .int h, .int w] M (fun r N => (evG E ne k n s h w = false ∧ r = some (.int (-2)) ∧ N = M) ∨ (evG E ne k n s h w = true ∧ ne = 40 ∧ r = some (.int (-4)) ∧ N = M) ∨ (evG E ne k n s h w = true ∧ ne < 40 ∧ r = some (.int (nI (ne + 1))) ∧ N = putC M ne k n s h w)) := by
  have hne := hE.1
  have h35 := hT.1
  have full : ∀ d, Ev d i_X4_isFull [.ref 3] M (some (.int (zb (decide (ne = 40))))) M := by
    intro d
    refine ev_of ?_
    repeat refine fx_n rfl ?_
    rw [h35]
    by_cases q : ne = 40
    · refine fx_bf rfl (by rw [q]; decide) ?_
      repeat refine fx_n rfl ?_
      exact fx_r rfl rfl ⟨by simp [q, zb], rfl⟩
    · refine fx_bt rfl (nI_lt (b := 40) (by omega) (by omega)) ?_
      repeat refine fx_n rfl ?_
      exact fx_r rfl rfl ⟨by simp [q, zb], rfl⟩
  unfold Ex
  repeat refine fx_n rfl ?_
  refine fx_p rfl (ev_mayBe _ _ E ne k n s h w hE hT) (fx_zn rfl (fun g => ?_) (fun g => ?_))
  · repeat refine fx_n rfl ?_
    refine fx_p rfl (full _) (fx_ze rfl (fun q => ?_) (fun q => ?_))
    · have q : ¬ ne = 40 := of_decide_eq_false q
      repeat refine fx_n rfl ?_
      refine fx_c (P1 := fun r N => r = some (.int (nI (ne + 1))) ∧ N = putC M ne k n s h w) rfl ?_ ?_
      · unfold Ex
        repeat refine fx_n rfl ?_
        refine fx_p rfl (full _) (fx_ze rfl (fun _ => ?_) (fun z => absurd (of_decide_eq_true z) q))
        repeat refine fx_n rfl ?_
        rw [h35]
        refine fx_g rfl (ix_nI (by omega) (by omega)) ?_
        rw [nI_cl (by omega)]
        repeat refine fx_n rfl ?_
        rw [show sy_up M 4 ne k 3 5 = nI ne from h35]
        refine fx_g rfl (ix_nI (by omega) (by omega)) ?_
        rw [nI_cl (by omega)]
        repeat refine fx_n rfl ?_
        rw [show sy_up (sy_up M 4 ne k) 5 ne n 3 5 = nI ne from h35]
        refine fx_g rfl (ix_nI (by omega) (by omega)) ?_
        rw [nI_cl (by omega)]
        repeat refine fx_n rfl ?_
        rw [show sy_up (sy_up (sy_up M 4 ne k) 5 ne n) 6 ne s 3 5 = nI ne from h35]
        refine fx_g rfl (ix_nI (by omega) (by omega)) ?_
        rw [nI_cl (by omega)]
        repeat refine fx_n rfl ?_
        rw [show sy_up (sy_up (sy_up (sy_up M 4 ne k) 5 ne n) 6 ne s) 7 ne h 3 5 = nI ne from h35]
        refine fx_g rfl (ix_nI (by omega) (by omega)) ?_
        rw [nI_cl (by omega)]
        repeat refine fx_n rfl ?_
        rw [show sy_up (sy_up (sy_up (sy_up (sy_up M 4 ne k) 5 ne n) 6 ne s) 7 ne h) 8 ne w 3 5 = nI ne from h35, nI_1]
        exact fx_r rfl rfl ⟨by rw [up_s], rfl⟩
      · rintro _ _ ⟨rfl, rfl⟩
        exact fx_r rfl rfl (Or.inr (Or.inr ⟨g, by omega, rfl, rfl⟩))
    · repeat refine fx_n rfl ?_
      exact fx_r rfl rfl (Or.inr (Or.inl ⟨g, of_decide_eq_true q, rfl, rfl⟩))
  · repeat refine fx_n rfl ?_
    exact fx_r rfl rfl (Or.inl ⟨g, rfl, rfl⟩)
set_option maxRecDepth 100000 in
set_option maxHeartbeats 4000000 in
theorem em_isLate (d : Nat) (M : sy_Mm) (E : Evs) (ne : Nat) (n : Int32) (hE : taleOK E ne) (hT : taleM M E ne) : Ev (d + 1) i_X8_isLate [.ref 30, .int n] M (some (.int (zb (inR n (lastN E ne) 199)))) M := by
  have hne := hE.1
  have hl := lastN_le hE
  refine ev_of ?_
  repeat refine fx_n rfl ?_
  rw [hT.1]
  by_cases h : ne = 0
  · refine fx_bf rfl (fun z => z (by rw [h]; rfl)) ?_
    repeat refine fx_n rfl ?_
    refine fx_p rfl (em_ir _ _ _ _ _ (lastN E ne) 199 (by unfold lastN; rw [if_pos h]; rfl) rfl) ?_
    exact fx_r rfl (zb_ok _) ⟨rfl, rfl⟩
  · refine fx_bt rfl (nI_ne0 (by omega) (by omega)) ?_
    repeat refine fx_n rfl ?_
    rw [hT.1, fv_nI, show nI (5 * ne) - 4 = nI (5 * ne - 4) from pk_sub (a := 5 * ne) (b := 4) (by omega)]
    refine fx_g rfl (ix_nI (by omega) (by omega)) ?_
    have e : M 37 (5 * ne - 4) = nI (lastN E ne) := by
      have := hT.2 (ne - 1) (by omega) 1 (by omega)
      rw [show 5 * (ne - 1) + 1 = 5 * ne - 4 by omega] at this
      unfold lastN
      rw [if_neg h]; exact this
    rw [nI_cl (by omega), e]
    repeat refine fx_n rfl ?_
    refine fx_p rfl (em_ir _ _ _ _ _ (lastN E ne) 199 (by rw [Int32.toInt_toInt64, nI_toInt (by omega)]) rfl) ?_
    exact fx_r rfl (zb_ok _) ⟨rfl, rfl⟩
set_option maxRecDepth 100000 in
set_option maxHeartbeats 4000000 in
theorem em_event (d : Nat) (M : sy_Mm) (E : Evs) (ne : Nat) (k n s h w : Int32) (hE : taleOK E ne) (hT : taleM M E ne) : Ex (d + 2) i_X8_event [.ref 30, .int k, .int n, .int s, .int h, .int w] M (fun r N => (evG E ne k n s h w = false ∧ r = some (.int (-2)) ∧ N = M) ∨ (evG E ne k n s h w = true ∧ ne = 40 ∧ r = some (.int (-4)) ∧ N = M) ∨ (evG E ne k n s h w = true ∧ ne < 40 ∧ r = some (.int (nI (ne + 1))) ∧ N = putM M ne k n s h w)) := by
  have hne := hE.1
  have bad : evG E ne k n s h w = false → Fx (d + 2) i_X8_event 49 [some (.ref 30), some (.int k), some (.int n), some (.int s), some (.int h), some (.int w), some (.int 0)] [.int 0] M (fun r N => (evG E ne k n s h w = false ∧ r = some (.int (-2)) ∧ N = M) ∨ (evG E ne k n s h w = true ∧ ne = 40 ∧ r = some (.int (-4)) ∧ N = M) ∨ (evG E ne k n s h w = true ∧ ne < 40 ∧ r = some (.int (nI (ne + 1))) ∧ N = putM M ne k n s h w)) := by
    intro g
    refine fx_bt rfl rfl ?_
    repeat refine fx_n rfl ?_
    exact fx_r rfl rfl (Or.inl ⟨g, rfl, rfl⟩)
  unfold Ex
  repeat refine fx_n rfl ?_
  refine fx_p rfl (em_ir _ _ _ _ _ 0 5 rfl rfl) (fx_ze rfl (fun g1 => by ((repeat refine fx_n rfl ?_); exact bad (by simp [evG, g1]))) (fun g1 => ?_))
  repeat refine fx_n rfl ?_
  refine fx_p rfl (em_isLate _ _ E ne _ hE hT) (fx_ze rfl (fun g2 => by ((repeat refine fx_n rfl ?_); exact bad (by simp [evG, g2]))) (fun g2 => ?_))
  repeat refine fx_n rfl ?_
  refine fx_p rfl (em_ir _ _ _ _ _ 0 8 rfl rfl) (fx_ze rfl (fun g3 => by ((repeat refine fx_n rfl ?_); exact bad (by simp [evG, g3]))) (fun g3 => ?_))
  repeat refine fx_n rfl ?_
  refine fx_p rfl (em_isHouse _ _ _) (fx_ze rfl (fun g4 => by ((repeat refine fx_n rfl ?_); exact bad (by simp [evG, g4]))) (fun g4 => ?_))
  repeat refine fx_n rfl ?_
  refine fx_bf rfl (by decide) ?_
  repeat refine fx_n rfl ?_
  have rest : ∀ (b : Int64), b.toInt = (if k = 0 then 9 else 0) → Fx (d + 2) i_X8_event 67 [some (.ref 30), some (.int k), some (.int n), some (.int s), some (.int h), some (.int w), some (.int 1)] [.long b, .long 0, .long w.toInt64] M (fun r N => (evG E ne k n s h w = false ∧ r = some (.int (-2)) ∧ N = M) ∨ (evG E ne k n s h w = true ∧ ne = 40 ∧ r = some (.int (-4)) ∧ N = M) ∨ (evG E ne k n s h w = true ∧ ne < 40 ∧ r = some (.int (nI (ne + 1))) ∧ N = putM M ne k n s h w)) := by
    intro b hb
    refine fx_p rfl (em_ir _ _ _ _ _ 0 _ rfl hb) (fx_zn rfl (fun g5 => ?_) (fun g5 => ?_))
    · have g : evG E ne k n s h w = true := by simp [evG, g1, g2, g3, g4, g5]
      repeat refine fx_n rfl ?_
      rw [hT.1]
      by_cases q : ne = 40
      · refine fx_bf rfl (fun z => z (by rw [q]; rfl)) ?_
        repeat refine fx_n rfl ?_
        exact fx_r rfl rfl (Or.inr (Or.inl ⟨g, q, rfl, rfl⟩))
      · refine fx_bt rfl (fun z => q ((nI_eq (b := 40) (by omega) (by omega)).mp z)) ?_
        repeat refine fx_n rfl ?_
        rw [hT.1, fv_nI]
        refine fx_g rfl (ix_nI (by omega) (by omega)) ?_
        rw [nI_cl (by omega)]
        repeat refine fx_n rfl ?_
        rw [show sy_up M 37 (5 * ne) k 30 12 = nI ne from hT.1, fv_nI, nI_1]
        refine fx_g rfl (ix_nI (by omega) (by omega)) ?_
        rw [nI_cl (by omega)]
        repeat refine fx_n rfl ?_
        rw [show sy_up (sy_up M 37 (5 * ne) k) 37 (5 * ne + 1) n 30 12 = nI ne from hT.1, fv_nI, nI_p2]
        refine fx_g rfl (ix_nI (by omega) (by omega)) ?_
        rw [nI_cl (by omega)]
        repeat refine fx_n rfl ?_
        rw [show sy_up (sy_up (sy_up M 37 (5 * ne) k) 37 (5 * ne + 1) n) 37 (5 * ne + 2) s 30 12 = nI ne from hT.1, fv_nI, nI_p3]
        refine fx_g rfl (ix_nI (by omega) (by omega)) ?_
        rw [nI_cl (by omega)]
        repeat refine fx_n rfl ?_
        rw [show sy_up (sy_up (sy_up (sy_up M 37 (5 * ne) k) 37 (5 * ne + 1) n) 37 (5 * ne + 2) s) 37 (5 * ne + 3) h 30 12 = nI ne from hT.1, fv_nI, nI_p4]
        refine fx_g rfl (ix_nI (by omega) (by omega)) ?_
        rw [nI_cl (by omega)]
        repeat refine fx_n rfl ?_
        rw [show sy_up (sy_up (sy_up (sy_up (sy_up M 37 (5 * ne) k) 37 (5 * ne + 1) n) 37 (5 * ne + 2) s) 37 (5 * ne + 3) h) 37 (5 * ne + 4) w 30 12 = nI ne from hT.1, nI_1]
        exact fx_r rfl rfl (Or.inr (Or.inr ⟨g, by omega, by rw [up_s], rfl⟩))
    · repeat refine fx_n rfl ?_
      exact fx_r rfl rfl (Or.inl ⟨by simp [evG, g5], rfl, rfl⟩)
  by_cases hk : k = 0
  · refine fx_bf rfl (fun z => z hk) ?_
    repeat refine fx_n rfl ?_
    exact rest _ (by rw [if_pos hk]; rfl)
  · refine fx_bt rfl hk ?_
    repeat refine fx_n rfl ?_
    exact rest _ (by rw [if_neg hk]; rfl)
