/-! ===== lets ===== -/
def sgY (Y : Yd) : St := (Y.1, Y.2.1)
def ltA (q : Nat × Option Nat) (w : Int32) : Int32 := if w = 0 then nI q.1 else oI q.2
set_option maxRecDepth 100000 in
set_option maxHeartbeats 4000000 in
theorem em_letsOf (d : Nat) (M : sy_Mm) (E : Evs) (ne S L N n : Nat) (h0 : Nat → Nat) (fg : Nat → Bool) (w : Int32) (hN : N ≤ 199) (hn : n ≤ 2) (hC : ctM M E ne S L h0 fg) : Ex (d + 3) i_X8_letsOf [.ref 30, .int (nI N), .int (nI (n + 1)), .int w] M (fun r M' => r = some (.int (ltA (BB S L fg n N (sgY (yF S h0 E none 199 ne))) w)) ∧ kpX M M') := by
  unfold Ex
  repeat refine fx_n rfl ?_
  refine fx_c rfl (em_goes _ M E ne S L 199 h0 fg none (by omega) (fun _ q => by cases q) hC) ?_
  rintro _ M1 ⟨rfl, b1, b2⟩
  obtain ⟨⟨a1, a2, a3, a4, a5, a6, a7, a8, a9⟩, c1, c2, c3⟩ := id b1
  have hok := yF_ok (S := S) (h0 := h0) (aside := none) (N := 199) a1 a8 ne (Nat.le_refl _)
  repeat refine fx_n rfl ?_
  refine fx_g rfl (by decide) ?_
  rw [show Int32.toNatClampNeg 0 = 0 from rfl]
  repeat refine fx_n rfl ?_
  refine fx_g rfl (by decide) ?_
  rw [show Int32.toNatClampNeg 0 = 0 from rfl]
  repeat refine fx_n rfl ?_
  have kx : kpX M1 (sy_up (sy_up M1 43 0 (-2)) 44 0 0) := (kpX.rf.up (by omega)).up (by omega)
  refine em_lvl d M1 S L N (n + 1) fg w _ ⟨a3, a4, a6.2, a5, a9⟩ (by omega) hN n 0 _ 0 0 (sgY (yF S h0 E none 199 ne)) (none, -1) none (by omega) (by omega) (fun x hx => by cases hx) ⟨hok.1, fun s x hx => by have := hok.2.1 s x hx; omega⟩ (fun s hs => ?_) rfl rfl (fun z => absurd rfl z) kx (fun M4 x7 g1 g2 => ?_)
  · rw [Nat.mul_zero, Nat.zero_add, up_k (by omega), up_k (by omega), up_k (by omega), up_k (by omega)]
    exact ⟨c1 s hs, c2 s hs⟩
  · have e : (fun q => if 0 = 0 then cI q else (0 : Int32)) = cI := funext fun q => if_pos rfl
    rw [e, Nat.add_zero, goF_0, BB_72 _ _ _ _ _ _ a3]
    unfold ltA
    refine fx_bt rfl (by decide) ?_
    repeat refine fx_n rfl ?_
    by_cases hw : w = 0
    · refine fx_bf rfl (fun z => z hw) ?_
      repeat refine fx_n rfl ?_
      refine fx_r rfl rfl ⟨?_, b2.x.tr g2⟩
      rw [if_pos hw]; rfl
    · refine fx_bt rfl hw ?_
      repeat refine fx_n rfl ?_
      refine fx_r rfl rfl ⟨?_, b2.x.tr g2⟩
      rw [if_neg hw]; rfl
def ltS (S L : Nat) (h0 : Nat → Nat) (fg : Nat → Bool) (E : Evs) (ne : Nat) (t n w : Int32) : Int32 := cond (inR t (lastN E ne) 199 && (inR n 1 3 && inR w 0 1)) (ltA (BB S L fg (n.toNatClampNeg - 1) t.toNatClampNeg (sgY (yF S h0 E none 199 ne))) w) (-2)
theorem yF_all {S : Nat} {h0 : Nat → Nat} {E : Evs} {ne N : Nat} (hE : taleOK E ne) (h : lastN E ne ≤ N) : yF S h0 E none N ne = yG S h0 E none ne := by
  refine yF_lo ne (fun e he => ?_)
  have := tale_mono hE (ne - 1 - e) e (by omega)
  rw [show e + (ne - 1 - e) = ne - 1 by omega] at this
  unfold lastN at h
  rw [if_neg (by omega)] at h
  omega
theorem inR_13 {n : Int32} (h : inR n 1 3 = true) : ∃ k : Nat, k ≤ 2 ∧ n = nI (k + 1) := by
  have := inR_t.mp h
  obtain ⟨k, hk, rfl⟩ := inR_nI (x := n) (b := 3) (inR_t.mpr (by omega))
  rw [nI_toInt (by omega)] at this
  exact ⟨k - 1, by omega, by rw [show k - 1 + 1 = k by omega]⟩
set_option maxRecDepth 100000 in
set_option maxHeartbeats 4000000 in
theorem ex_lets (d : Nat) (M : sy_Mm) (E : Evs) (ne S L : Nat) (h0 : Nat → Nat) (fg : Nat → Bool) (t n w : Int32) (hC : ctC M E ne S L h0 fg) : Ex (d + 10) i_X7_lets [.ref 0, .int t, .int n, .int w] M (fun r N => r = some (.int (ltS S L h0 fg E ne t n w)) ∧ kq M N) := by
  obtain ⟨a1, a2, a3, a4, a5, a6, a7, a8, a9⟩ := id hC
  have hl := lastN_le a1
  have ht : (nI (lastN E ne)).toInt = (lastN E ne : Int) := nI_toInt (by omega)
  unfold Ex ltS
  repeat refine fx_n rfl ?_
  refine fx_p rfl (ev_wi _ _ _ _ 199 rfl) (fx_ze rfl (fun g => ?_) (fun g => ?_))
  · have g2 : inR t (lastN E ne) 199 = false := inR_f.mpr (by have := inR_f.mp g; omega)
    repeat refine fx_n rfl ?_
    exact fx_r rfl rfl ⟨by simp [g2], kq.rf⟩
  repeat refine fx_n rfl ?_
  refine fx_p rfl (ev_lastNight _ _ E ne a1 a2) (fx_b rfl (fun q => ?_) (fun q => ?_))
  · have g2 : inR t (lastN E ne) 199 = false := inR_f.mpr (by rw [Int32.lt_iff_toInt_lt, ht] at q; omega)
    repeat refine fx_n rfl ?_
    exact fx_r rfl rfl ⟨by simp [g2], kq.rf⟩
  have g1 : inR t (lastN E ne) 199 = true := inR_t.mpr (by have := inR_t.mp g; rw [Int32.lt_iff_toInt_lt, ht] at q; omega)
  repeat refine fx_n rfl ?_
  refine fx_b rfl (fun q => ?_) (fun q => ?_)
  · have g2 : inR n 1 3 = false := inR_f.mpr (by rw [Int32.lt_iff_toInt_lt] at q; simp at q; omega)
    repeat refine fx_n rfl ?_
    exact fx_r rfl rfl ⟨by simp [g2], kq.rf⟩
  repeat refine fx_n rfl ?_
  refine fx_b rfl (fun q2 => ?_) (fun q2 => ?_)
  · have g2 : inR n 1 3 = false := inR_f.mpr (by rw [Int32.lt_iff_toInt_lt] at q2; simp at q2; omega)
    repeat refine fx_n rfl ?_
    exact fx_r rfl rfl ⟨by simp [g2], kq.rf⟩
  have g2 : inR n 1 3 = true := inR_t.mpr (by rw [Int32.lt_iff_toInt_lt] at q q2; simp at q q2; omega)
  repeat refine fx_n rfl ?_
  refine fx_p rfl (ev_wi _ _ _ _ 1 rfl) (fx_zn rfl (fun g3 => ?_) (fun g3 => by ((repeat refine fx_n rfl ?_); exact fx_r rfl rfl ⟨by simp [g3, zb_f], kq.rf⟩)))
  rw [g1, g2, g3]
  obtain ⟨N, hN, rfl⟩ := inR_nI (b := 199) g
  obtain ⟨k, hk, rfl⟩ := inR_13 g2
  have hlN : lastN E ne ≤ N := by
    have := inR_t.mp g1
    rw [nI_toInt (by omega)] at this
    omega
  rw [nI_cl (by omega), nI_cl (by omega), show k + 1 - 1 = k by omega]
  simp only [Bool.and_self, cond_true]
  repeat refine fx_n rfl ?_
  refine fx_c rfl (ex_tellFrom _ M E ne S L N h0 fg (by omega) hC) ?_
  rintro _ M1 ⟨rfl, b1, b2⟩
  have eY : yF S h0 E none N ne = yF S h0 E none 199 ne := by rw [yF_all a1 hlN, yF_all a1 hl]
  have hls : lsC M1 S L fg (sgY (yF S h0 E none 199 ne)) := by
    rw [← eY]
    exact ⟨b1.lk, b1.1.2.2.2.2.1, a6.1⟩
  have hF : HF S L fg k 6 := by
    rcases (show k = 0 ∨ k = 1 ∨ k = 2 by omega) with rfl | rfl | rfl
    · exact fun d M σ N h => hf_0 S L fg d M σ N (by omega)
    · exact fun d M σ N h => hf_1 S L fg d M σ N (by omega)
    · exact hf_2 S L fg
  repeat refine fx_n rfl ?_
  refine fx_c rfl (ex_mostNights _ M1 S L N k fg _ (by omega) hk hls 6 hF (by omega)) ?_
  rintro _ M2 ⟨rfl, c1, c2⟩
  have kk : kq M M2 := b2.q.tr (fun k j hd => c2 k j (fun e => by subst e; exact absurd (by unfold dead; omega) hd))
  repeat refine fx_n rfl ?_
  unfold ltA
  by_cases hw : w = 0
  · refine fx_bf rfl (fun z => z hw) ?_
    repeat refine fx_n rfl ?_
    refine fx_r rfl rfl ⟨?_, kk⟩
    rw [if_pos hw]
  · refine fx_bt rfl hw ?_
    repeat refine fx_n rfl ?_
    refine fx_r rfl rfl ⟨?_, kk⟩
    rw [if_neg hw, c1]
set_option maxRecDepth 100000 in
set_option maxHeartbeats 4000000 in
theorem ag_lets {M : sy_Mm} (h : Inv M) (t n w : Int32) : AG i_X7_lets i_X8_lets [.int t, .int n, .int w] M := by
  intro d
  obtain ⟨nn, E, ne, L, B, nb, G, F, h1, h2, h3, h4, h5, h6, h7⟩ := id h
  refine fx_w (ex_lets _ M E ne _ L _ _ t n w (inv_ctC h1 h2 h3)) ?_
  rintro _ N ⟨rfl, k⟩
  have e2 : N 2 = M 2 := k.row 2 (fun j => by unfold dead; omega)
  refine ⟨⟨_, rfl⟩, ?_⟩
  have hI1 := h.kp k
  unfold Ex
  repeat refine fx_n rfl ?_
  refine fx_c rfl (em_reads' _ (h1.kp k)) ?_
  rintro _ N1 ⟨rfl, hr⟩
  have hC := inv_ctM (h1.kp k) (h2.kp k) (h3.kp k) hr
  rw [e2] at hC
  have hI2 := hI1.kp hr.q
  unfold ltS
  repeat refine fx_n rfl ?_
  refine fx_p rfl (em_isLate _ _ E ne _ hC.1 hC.2.1) (fx_ze rfl (fun g1 => by ((repeat refine fx_n rfl ?_); exact fx_r rfl rfl ⟨by simp [g1, zb_f], hI2⟩)) (fun g1 => ?_))
  repeat refine fx_n rfl ?_
  refine fx_p rfl (em_ir _ _ _ _ _ 1 3 rfl rfl) (fx_ze rfl (fun g2 => by ((repeat refine fx_n rfl ?_); exact fx_r rfl rfl ⟨by simp [g2, zb_f], hI2⟩)) (fun g2 => ?_))
  repeat refine fx_n rfl ?_
  refine fx_p rfl (em_isTwo _ _ _) (fx_ze rfl (fun g3 => by ((repeat refine fx_n rfl ?_); exact fx_r rfl rfl ⟨by simp [g3, zb_f], hI2⟩)) (fun g3 => ?_))
  rw [g1, g2, g3]
  obtain ⟨T, hT, rfl⟩ := inR_nI (x := t) (b := 199) (inR_t.mpr (by have := inR_t.mp g1; omega))
  obtain ⟨q, hq, rfl⟩ := inR_13 g2
  rw [nI_cl (by omega), nI_cl (by omega), show q + 1 - 1 = q by omega]
  repeat refine fx_n rfl ?_
  refine fx_c rfl (em_letsOf _ N1 E ne _ L T q _ _ w hT hq hC) ?_
  rintro _ N2 ⟨rfl, c2⟩
  repeat refine fx_n rfl ?_
  exact fx_r rfl rfl ⟨rfl, hI2.kp c2.q⟩
