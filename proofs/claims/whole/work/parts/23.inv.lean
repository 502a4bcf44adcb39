/-! ===== what holds between class and reference ===== -/
def iText (M : sy_Mm) (n : Nat) : Prop := n ≤ 30 ∧ M 1 1 = nI n ∧ M 30 6 = nI n ∧ (∀ j, j < n → M 35 j = M 2 j) ∧ M 1 2 = tx_fault (M 2) n ∧ M 1 3 = nI (tx_st (M 2) n)
def iTale (M : sy_Mm) (E : Evs) (ne : Nat) : Prop := taleOK E ne ∧ taleC M E ne ∧ taleM M E ne
def iLast (M : sy_Mm) (L : Nat) : Prop := M 9 6 = nI L ∧ M 30 11 = nI L ∧ 1 ≤ L ∧ L ≤ 99
def iBook (M : sy_Mm) (B : Evs) (nb : Nat) : Prop := nb ≤ 8 ∧ M 14 5 = nI nb ∧ M 30 20 = nI nb ∧ ∀ b, b < nb → (B b 0 < 8 ∧ B b 1 ≤ 299 ∧ B b 2 ≤ 19) ∧ (M 15 b = nI (B b 0) ∧ M 16 b = nI (B b 1) ∧ M 17 b = nI (B b 2)) ∧ ∀ c, c < 3 → M 41 (3 * b + c) = nI (B b c)
def iGrd (M : sy_Mm) (G : Nat → Nat) : Prop := ∀ h, h < 8 → G h ≤ 16 ∧ M 20 h = nI (G h) ∧ M 45 h = nI (G h)
/-- a sheet's form and size: none where it is lost -/
def iSh1 (M : sy_Mm) (s : Nat) (o : Option (Nat × Nat)) : Prop := match o with
  | none => M (22 + 2 * s) 1 = -1 ∧ M (22 + 2 * s) 2 = 0 ∧ M 31 s = -1
  | some (f, z) => f ≤ 2 ∧ z ≤ 60 ∧ M (22 + 2 * s) 1 = nI f ∧ M (22 + 2 * s) 2 = nI z ∧ M 31 s = nI f ∧ M 32 s = nI z ∧ ∀ j, j < z → M 33 (60 * s + j) = M (23 + 2 * s) j
def iSht (M : sy_Mm) (F : Nat → Option (Nat × Nat)) : Prop := ∀ s, s < 4 → iSh1 M s (F s)
def Inv (M : sy_Mm) : Prop := ∃ (n : Nat) (E : Evs) (ne L : Nat) (B : Evs) (nb : Nat) (G : Nat → Nat) (F : Nat → Option (Nat × Nat)), iText M n ∧ iTale M E ne ∧ iLast M L ∧ iBook M B nb ∧ iGrd M G ∧ iSht M F ∧ M 0 7 = M 30 4
/-- scratch: what questions may change -/
def dead (k j : Nat) : Prop := (k = 9 ∧ j ≠ 6) ∨ k = 10 ∨ k = 11 ∨ k = 12 ∨ k = 13 ∨ (k = 14 ∧ j ≠ 5) ∨ k = 18 ∨ (k = 30 ∧ (j = 7 ∨ j = 8 ∨ j = 10 ∨ j = 17 ∨ j = 18 ∨ j = 19)) ∨ k = 34 ∨ k = 36 ∨ k = 38 ∨ k = 39 ∨ k = 40 ∨ k = 42 ∨ k = 43 ∨ k = 44
def kq (M N : sy_Mm) : Prop := ∀ k j, ¬ dead k j → N k j = M k j
theorem kq.rf {M : sy_Mm} : kq M M := fun _ _ _ => rfl
theorem kq.tr {M N K : sy_Mm} (h : kq M N) (g : kq N K) : kq M K := fun k j q => (g k j q).trans (h k j q)
theorem kpY.q {M N : sy_Mm} (h : kpY M N) : kq M N := by
  intro k j q
  unfold dead at q
  by_cases h9 : k = 9
  · subst h9
    exact h.2 j (by omega) (by omega) (by omega) (by omega) (by omega)
  · rw [h.1 k h9 (by omega) (by omega) (by omega)]
theorem kpM.q {M N : sy_Mm} (h : kpM M N) : kq M N := by
  intro k j q
  unfold dead at q
  by_cases h9 : k = 30
  · subst h9
    exact h.2 j (by omega) (by omega) (by omega)
  · rw [h.1 k h9 (by omega) (by omega) (by omega)]
theorem rdOK.q {b : Nat → Int32} {n : Nat} {M N : sy_Mm} (h : rdOK b n M N) : kq M N := by
  intro k j q
  unfold dead at q
  by_cases h9 : k = 30
  · subst h9
    exact h.2.2.2.2 j (by omega) (by omega) (by omega)
  · rw [h.2.2.2.1 k h9 (by omega)]
theorem kq.row {M N : sy_Mm} (h : kq M N) (k : Nat) (q : ∀ j, ¬ dead k j) : N k = M k := funext fun j => h k j (q j)
theorem iText.kp {M N : sy_Mm} {n : Nat} (h : iText M n) (k : kq M N) : iText N n := by
  obtain ⟨a1, a2, a3, a4, a5, a6⟩ := h
  have r1 := k.row 1 (fun j => by unfold dead; omega)
  have r2 := k.row 2 (fun j => by unfold dead; omega)
  have r35 := k.row 35 (fun j => by unfold dead; omega)
  refine ⟨a1, by rw [r1]; exact a2, by rw [k 30 6 (by unfold dead; omega)]; exact a3, by rw [r35, r2]; exact a4, by rw [r1, r2]; exact a5, by rw [r1, r2]; exact a6⟩
theorem taleC.kk {M N : sy_Mm} {E : Evs} {ne : Nat} (h : taleC M E ne) (k : kq M N) : taleC N E ne := by
  refine ⟨by rw [k 3 5 (by unfold dead; omega)]; exact h.1, fun e he => ?_⟩
  rw [k 4 e (by unfold dead; omega), k 5 e (by unfold dead; omega), k 6 e (by unfold dead; omega), k 7 e (by unfold dead; omega), k 8 e (by unfold dead; omega)]
  exact h.2 e he
theorem taleM.kk {M N : sy_Mm} {E : Evs} {ne : Nat} (h : taleM M E ne) (k : kq M N) : taleM N E ne := by
  refine ⟨by rw [k 30 12 (by unfold dead; omega)]; exact h.1, fun e he c hc => ?_⟩
  rw [k 37 _ (by unfold dead; omega)]
  exact h.2 e he c hc
theorem iTale.kp {M N : sy_Mm} {E : Evs} {ne : Nat} (h : iTale M E ne) (k : kq M N) : iTale N E ne := ⟨h.1, h.2.1.kk k, h.2.2.kk k⟩
theorem iLast.kp {M N : sy_Mm} {L : Nat} (h : iLast M L) (k : kq M N) : iLast N L := ⟨by rw [k 9 6 (by unfold dead; omega)]; exact h.1, by rw [k 30 11 (by unfold dead; omega)]; exact h.2.1, h.2.2⟩
theorem iBook.kp {M N : sy_Mm} {B : Evs} {nb : Nat} (h : iBook M B nb) (k : kq M N) : iBook N B nb := by
  refine ⟨h.1, by rw [k 14 5 (by unfold dead; omega)]; exact h.2.1, by rw [k 30 20 (by unfold dead; omega)]; exact h.2.2.1, fun b hb => ?_⟩
  obtain ⟨a1, a2, a3⟩ := h.2.2.2 b hb
  refine ⟨a1, ?_, fun c hc => ?_⟩
  · rw [k 15 b (by unfold dead; omega), k 16 b (by unfold dead; omega), k 17 b (by unfold dead; omega)]; exact a2
  · rw [k 41 _ (by unfold dead; omega)]; exact a3 c hc
theorem iGrd.kp {M N : sy_Mm} {G : Nat → Nat} (h : iGrd M G) (k : kq M N) : iGrd N G := by
  intro q hq
  rw [k 20 q (by unfold dead; omega), k 45 q (by unfold dead; omega)]
  exact h q hq
theorem iSh1.kp {M N : sy_Mm} {s : Nat} {o : Option (Nat × Nat)} (h : iSh1 M s o) (hs : s < 4) (k : kq M N) : iSh1 N s o := by
  have r1 := k.row (22 + 2 * s) (fun j => by unfold dead; omega)
  have r2 := k.row (23 + 2 * s) (fun j => by unfold dead; omega)
  have r31 := k.row 31 (fun j => by unfold dead; omega)
  have r32 := k.row 32 (fun j => by unfold dead; omega)
  have r33 := k.row 33 (fun j => by unfold dead; omega)
  unfold iSh1 at h ⊢
  rw [r1, r2, r31, r32, r33]
  exact h
theorem iSht.kp {M N : sy_Mm} {F : Nat → Option (Nat × Nat)} (h : iSht M F) (k : kq M N) : iSht N F := fun s hs => (h s hs).kp hs k
theorem Inv.kp {M N : sy_Mm} (h : Inv M) (k : kq M N) : Inv N := by
  obtain ⟨n, E, ne, L, B, nb, G, F, h1, h2, h3, h4, h5, h6, h7⟩ := h
  refine ⟨n, E, ne, L, B, nb, G, F, h1.kp k, h2.kp k, h3.kp k, h4.kp k, h5.kp k, h6.kp k, ?_⟩
  rw [k 0 7 (by unfold dead; omega), k 30 4 (by unfold dead; omega)]
  exact h7
theorem inv_ctC {M : sy_Mm} {n : Nat} {E : Evs} {ne L : Nat} (h1 : iText M n) (h2 : iTale M E ne) (h3 : iLast M L) : ctC M E ne (tx_st (M 2) n) L (tx_h (M 2)) (tx_fg (M 2)) := by
  obtain ⟨a1, a2, a3, a4, a5, a6⟩ := h1
  exact ⟨h2.1, h2.2.1, (tx_st_le a1).1, a6, h3.1, h3.2.2, fun s hs => tx_h_eq a1 hs, tx_h_lt _, fun _ _ => rfl⟩
theorem inv_ctM {M N : sy_Mm} {n : Nat} {E : Evs} {ne L : Nat} (h1 : iText M n) (h2 : iTale M E ne) (h3 : iLast M L) (hr : rdOK (M 2) n M N) : ctM N E ne (tx_st (M 2) n) L (tx_h (M 2)) (tx_fg (M 2)) := by
  obtain ⟨a1, a2, a3, a4, a5, a6⟩ := h1
  have k := hr.q
  exact ⟨h2.1, h2.2.2.kk k, (tx_st_le a1).1, hr.1, by rw [k 30 11 (by unfold dead; omega)]; exact h3.2.1, h3.2.2, fun s hs => by rw [hr.2.2.1 s hs]; exact tx_h_eq a1 hs, tx_h_lt _, hr.2.1⟩
theorem em_reads' (d : Nat) {M : sy_Mm} {n : Nat} (h1 : iText M n) : Ex (d + 2) i_X8_reads [.ref 30] M (fun r N => r = some (.int (tx_fault (M 2) n)) ∧ rdOK (M 2) n M N) := em_reads d M (M 2) n h1.1 h1.2.2.1 h1.2.2.2.1
/-- class and reference answer alike, and what holds between them holds again -/
def AG (yc ym : Nat) (as : List Value) (M : sy_Mm) : Prop := ∀ d, Ex (d + 30) yc (.ref 0 :: as) M (fun r N => (∃ v, r = some (.int v)) ∧ Ex (d + 30) ym (.ref 30 :: as) N (fun r' N' => r' = r ∧ Inv N'))
def AGl (yc ym : Nat) (as : List Value) (M : sy_Mm) : Prop := ∀ d, Ex (d + 30) yc (.ref 0 :: as) M (fun r N => (∃ v, r = some (.long v)) ∧ Ex (d + 30) ym (.ref 30 :: as) N (fun r' N' => r' = r ∧ Inv N'))
/-! ===== questions: stone, judged, at, luck, days, led, without ===== -/
set_option maxRecDepth 100000 in
set_option maxHeartbeats 4000000 in
theorem ag_fault {M : sy_Mm} (h : Inv M) : AG i_X7_fault i_X8_fault [] M := by
  intro d
  have hI := h
  obtain ⟨n, E, ne, L, B, nb, G, F, h1, h2, h3, h4, h5, h6, h7⟩ := h
  unfold Ex
  repeat refine fx_n rfl ?_
  refine fx_r rfl rfl ⟨⟨_, rfl⟩, ?_⟩
  repeat refine fx_n rfl ?_
  refine fx_c rfl (em_reads' _ h1) ?_
  rintro _ N ⟨rfl, hr⟩
  refine fx_r rfl rfl ⟨?_, hI.kp hr.q⟩
  rw [h1.2.2.2.2.1]
set_option maxRecDepth 100000 in
set_option maxHeartbeats 4000000 in
theorem ag_judged {M : sy_Mm} (h : Inv M) : AG i_X7_judged i_X8_judged [] M := by
  intro d
  have hI := h
  obtain ⟨n, E, ne, L, B, nb, G, F, h1, h2, h3, h4, h5, h6, h7⟩ := h
  unfold Ex
  repeat refine fx_n rfl ?_
  refine fx_c rfl (ex_tellAll _ M E ne _ L _ _ (inv_ctC h1 h2 h3)) ?_
  rintro _ N ⟨rfl, b1, b2⟩
  repeat refine fx_n rfl ?_
  refine fx_r rfl rfl ⟨⟨_, rfl⟩, ?_⟩
  have k := b2.q
  have hI1 := hI.kp k
  repeat refine fx_n rfl ?_
  refine fx_c rfl (em_reads' _ (h1.kp k)) ?_
  rintro _ N1 ⟨rfl, hr⟩
  repeat refine fx_n rfl ?_
  have e2 : N 2 = M 2 := k.row 2 (fun j => by unfold dead; omega)
  have hc := inv_ctM (h1.kp k) (h2.kp k) (h3.kp k) hr
  rw [e2] at hc
  refine fx_c rfl (em_goes _ N1 E ne _ L 199 _ _ none (by omega) (fun _ q => by cases q) hc) ?_
  rintro _ N2 ⟨rfl, c1, c2⟩
  repeat refine fx_n rfl ?_
  refine fx_r rfl rfl ⟨?_, (hI1.kp hr.q).kp c2.q⟩
  rw [c1.2.2.2.2.2.1, b1.2.2.1.2.2.2.2.1]
