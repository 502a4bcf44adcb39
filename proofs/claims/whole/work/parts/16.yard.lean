/-! ===== events, and the yard that they make ===== -/
def oI : Option Nat → Int32
  | none => -1
  | some k => nI k
theorem oI_n {o : Option Nat} (h : ∀ k, o = some k → k < 2 ^ 31) : oI o = -1 ↔ o = none := by
  cases o with
  | none => simp [oI]
  | some k =>
    simp only [oI]
    exact ⟨fun e => absurd e (nI_ne_m1 (h k rfl)), fun e => by cases e⟩
theorem oI_s {o : Option Nat} {k : Nat} (h : ∀ k, o = some k → k < 2 ^ 31) (hk : k < 2 ^ 31) : oI o = nI k ↔ o = some k := by
  cases o with
  | none =>
    simp only [oI]
    exact ⟨fun e => absurd e.symm (nI_ne_m1 hk), fun e => by cases e⟩
  | some j =>
    simp only [oI]
    rw [nI_eq (h j rfl) hk]
    simp
/-- an event's five parts: kind, night, stone, house, knowing -/
abbrev Evs : Type := Nat → Nat → Nat
def taleC (M : sy_Mm) (E : Evs) (ne : Nat) : Prop := M 3 5 = nI ne ∧ ∀ e, e < ne → M 4 e = nI (E e 0) ∧ M 5 e = nI (E e 1) ∧ M 6 e = nI (E e 2) ∧ M 7 e = nI (E e 3) ∧ M 8 e = nI (E e 4)
def taleM (M : sy_Mm) (E : Evs) (ne : Nat) : Prop := M 30 12 = nI ne ∧ ∀ e, e < ne → ∀ c, c < 5 → M 37 (5 * e + c) = nI (E e c)
def taleOK (E : Evs) (ne : Nat) : Prop := ne ≤ 40 ∧ (∀ e, e < ne → E e 0 ≤ 5 ∧ E e 1 ≤ 199 ∧ E e 2 ≤ 8 ∧ E e 3 ≤ 7 ∧ E e 4 ≤ 9) ∧ ∀ e, e + 1 < ne → E e 1 ≤ E (e + 1) 1
theorem tale_mono {E : Evs} {ne : Nat} (h : taleOK E ne) : ∀ (j e : Nat), e + j < ne → E e 1 ≤ E (e + j) 1
  | 0, _, _ => Nat.le_refl _
  | j + 1, e, hj => Nat.le_trans (tale_mono h j e (by omega)) (h.2.2 (e + j) (by omega))
abbrev Yd : Type := (Nat → Option Nat) × (Nat → Option Nat) × (Nat → Option Nat) × Nat × Option Nat × Nat
def uO (f : Nat → Option Nat) (k : Nat) (v : Option Nat) : Nat → Option Nat := fun j => if j = k then v else f j
theorem uO_s {f : Nat → Option Nat} {k : Nat} {v : Option Nat} : uO f k v k = v := by simp [uO]
theorem uO_n {f : Nat → Option Nat} {k j : Nat} {v : Option Nat} (h : j ≠ k) : uO f k v j = f j := by simp [uO, h]
def yLaw (S : Nat) (ow : Nat → Option Nat) (ev : Nat → Nat) : Bool := decide (ev 2 < S) && (if ev 0 < 3 then decide (ow (ev 2) ≠ none ∧ ow (ev 2) ≠ some (ev 3)) else if ev 0 = 4 then decide (ow (ev 2) = none) else decide (ow (ev 2) = some (ev 3)))
def yTrue (ev : Nat → Nat) : Bool := decide (ev 0 = 0 ∧ (ev 4 = 0 ∨ ev 4 % 2 = 1))
def yTell (S : Nat) (E : Evs) (e : Nat) (Y : Yd) : Yd := cond (yLaw S Y.1 (E e))
  (uO Y.1 (E e 2) (if E e 0 = 3 then none else some (E e 3)), uO Y.2.1 (E e 2) (cond (yTrue (E e)) (some (E e 1)) none), uO Y.2.2.1 (E e 2) (cond (yTrue (E e)) (some e) none), Y.2.2.2.1, Y.2.2.2.2.1, Y.2.2.2.2.2 + cond (yTrue (E e)) 1 0)
  (Y.1, Y.2.1, Y.2.2.1, Y.2.2.2.1 + 1, (if Y.2.2.2.2.1 = none then some e else Y.2.2.2.2.1), Y.2.2.2.2.2)
def y0 (h0 : Nat → Nat) : Yd := (fun s => some (h0 s), fun _ => none, fun _ => none, 0, none, 0)
/-- the first k events told, but one aside -/
def yG (S : Nat) (h0 : Nat → Nat) (E : Evs) (aside : Option Nat) : Nat → Yd
  | 0 => y0 h0
  | k + 1 => if some k = aside then yG S h0 E aside k else yTell S E k (yG S h0 E aside k)
/-- of the first k events those up to the night N told, but one aside -/
def yF (S : Nat) (h0 : Nat → Nat) (E : Evs) (aside : Option Nat) (N : Nat) : Nat → Yd
  | 0 => y0 h0
  | k + 1 => if some k = aside ∨ N < E k 1 then yF S h0 E aside N k else yTell S E k (yF S h0 E aside N k)
/-- where telling stops at the night N -/
def yStop (E : Evs) (ne N k : Nat) : Prop := k ≤ ne ∧ (∀ e, e < k → E e 1 ≤ N) ∧ (k < ne → N < E k 1)
theorem yF_lo {S : Nat} {h0 : Nat → Nat} {E : Evs} {aside : Option Nat} {N : Nat} : ∀ k, (∀ e, e < k → E e 1 ≤ N) → yF S h0 E aside N k = yG S h0 E aside k
  | 0, _ => rfl
  | k + 1, h => by
    unfold yF yG
    have ih := yF_lo (S := S) (h0 := h0) (E := E) (aside := aside) (N := N) k (fun e he => h e (by omega))
    have hk := h k (by omega)
    by_cases ha : some k = aside
    · rw [if_pos (Or.inl ha), if_pos ha, ih]
    · rw [if_neg (by rintro (q | q); exact ha q; omega), if_neg ha, ih]
theorem yF_hi {S : Nat} {h0 : Nat → Nat} {E : Evs} {aside : Option Nat} {N k : Nat} : ∀ j, (∀ e, k ≤ e → e < k + j → N < E e 1) → yF S h0 E aside N (k + j) = yF S h0 E aside N k
  | 0, _ => rfl
  | j + 1, h => by
    show (if some (k + j) = aside ∨ N < E (k + j) 1 then yF S h0 E aside N (k + j) else yTell S E (k + j) (yF S h0 E aside N (k + j))) = _
    rw [if_pos (Or.inr (h (k + j) (by omega) (by omega)))]
    exact yF_hi j (fun e h1 h2 => h e h1 (by omega))
theorem yF_stop {S : Nat} {h0 : Nat → Nat} {E : Evs} {aside : Option Nat} {ne N k : Nat} (hE : taleOK E ne) (h : yStop E ne N k) : yF S h0 E aside N ne = yG S h0 E aside k := by
  obtain ⟨h1, h2, h3⟩ := h
  rw [← yF_lo k h2]
  have e : ne = k + (ne - k) := by omega
  rw [e]
  refine yF_hi (ne - k) (fun e' a b => ?_)
  have := tale_mono hE (e' - k) k (by omega)
  rw [show k + (e' - k) = e' by omega] at this
  have := h3 (by omega)
  omega
def yOK (k : Nat) (Y : Yd) : Prop := (∀ s h, Y.1 s = some h → h < 8) ∧ (∀ s t, Y.2.1 s = some t → t < 200) ∧ (∀ s e, Y.2.2.1 s = some e → e < 40) ∧ Y.2.2.2.1 ≤ k ∧ (Y.2.2.2.2.1 = none ↔ Y.2.2.2.1 = 0) ∧ (∀ e, Y.2.2.2.2.1 = some e → e < 40) ∧ Y.2.2.2.2.2 ≤ k
theorem yTell_ok {S : Nat} {E : Evs} {ne e : Nat} {Y : Yd} {k : Nat} (hE : taleOK E ne) (he : e < ne) (h : yOK k Y) : yOK (k + 1) (yTell S E e Y) := by
  obtain ⟨h1, h2, h3, h4, h5, h6, h7⟩ := h
  obtain ⟨q0, q1, q2, q3, q4⟩ := hE.2.1 e he
  have hne := hE.1
  unfold yTell
  cases hl : yLaw S Y.1 (E e) with
  | true =>
    refine ⟨fun s h hs => ?_, fun s t hs => ?_, fun s t hs => ?_, ?_, h5, h6, ?_⟩
    · have hs : uO Y.1 (E e 2) (if E e 0 = 3 then none else some (E e 3)) s = some h := hs
      by_cases hq : s = E e 2
      · subst hq
        rw [uO_s] at hs
        split at hs
        · cases hs
        · cases hs; omega
      · rw [uO_n hq] at hs; exact h1 s h hs
    · have hs : uO Y.2.1 (E e 2) (cond (yTrue (E e)) (some (E e 1)) none) s = some t := hs
      by_cases hq : s = E e 2
      · subst hq
        rw [uO_s] at hs
        cases ht : yTrue (E e) with
        | true => rw [ht] at hs; cases hs; omega
        | false => rw [ht] at hs; cases hs
      · rw [uO_n hq] at hs; exact h2 s t hs
    · have hs : uO Y.2.2.1 (E e 2) (cond (yTrue (E e)) (some e) none) s = some t := hs
      by_cases hq : s = E e 2
      · subst hq
        rw [uO_s] at hs
        cases ht : yTrue (E e) with
        | true => rw [ht] at hs; cases hs; omega
        | false => rw [ht] at hs; cases hs
      · rw [uO_n hq] at hs; exact h3 s t hs
    · show Y.2.2.2.1 ≤ k + 1; omega
    · show Y.2.2.2.2.2 + cond (yTrue (E e)) 1 0 ≤ k + 1
      cases yTrue (E e) <;> simp <;> omega
  | false =>
    refine ⟨h1, h2, h3, by show Y.2.2.2.1 + 1 ≤ k + 1; omega, ?_, fun e' hs => ?_, by show Y.2.2.2.2.2 ≤ k + 1; omega⟩
    · show (if Y.2.2.2.2.1 = none then some e else Y.2.2.2.2.1) = none ↔ Y.2.2.2.1 + 1 = 0
      by_cases hq : Y.2.2.2.2.1 = none
      · rw [if_pos hq]; simp
      · rw [if_neg hq]; simp [hq]
    · have hs : (if Y.2.2.2.2.1 = none then some e else Y.2.2.2.2.1) = some e' := hs
      split at hs
      · cases hs; omega
      · exact h6 e' hs
theorem yG_ok {S : Nat} {h0 : Nat → Nat} {E : Evs} {aside : Option Nat} {ne : Nat} (hE : taleOK E ne) (h8 : ∀ s, h0 s < 8) : ∀ k, k ≤ ne → yOK k (yG S h0 E aside k)
  | 0, _ => ⟨fun s h e => by cases e; exact h8 s, fun s t e => by (cases e), fun s t e => by (cases e), Nat.le_refl _, by simp [yG, y0], fun e q => by (cases q), Nat.le_refl _⟩
  | k + 1, hk => by
    have ih := yG_ok (S := S) (h0 := h0) (aside := aside) hE h8 k (by omega)
    unfold yG
    split
    · obtain ⟨h1, h2, h3, h4, h5, h6, h7⟩ := ih
      exact ⟨h1, h2, h3, by omega, h5, h6, by omega⟩
    · exact yTell_ok hE (by omega) ih
theorem yLaw_S {S : Nat} {ow : Nat → Option Nat} {ev : Nat → Nat} (h : yLaw S ow ev = true) : ev 2 < S := by
  simp only [yLaw, Bool.and_eq_true, decide_eq_true_eq] at h
  exact h.1
/-! ===== the class: tale ===== -/
set_option maxRecDepth 100000 in
set_option maxHeartbeats 4000000 in
theorem ev_isTrueTheft (d : Nat) (M : sy_Mm) (E : Evs) (ne e : Nat) (hE : taleOK E ne) (hT : taleC M E ne) (he : e < ne) : Ev d i_X4_isTrueTheft [.ref 3, .int (nI e)] M (some (.int (zb (yTrue (E e))))) M := by
  obtain ⟨q0, q1, q2, q3, q4⟩ := hE.2.1 e he
  obtain ⟨t0, t1, t2, t3, t4⟩ := hT.2 e he
  have hne := hE.1
  refine ev_of ?_
  repeat refine fx_n rfl ?_
  refine fx_g rfl (ix_nI (by omega) (by omega)) ?_
  rw [nI_cl (by omega), t0]
  by_cases h0 : E e 0 = 0
  · refine fx_bf rfl (by rw [h0]; decide) ?_
    repeat refine fx_n rfl ?_
    refine fx_g rfl (ix_nI (by omega) (by omega)) ?_
    rw [nI_cl (by omega), t4]
    by_cases h4 : E e 4 = 0
    · refine fx_bt rfl (by rw [h4]; decide) ?_
      repeat refine fx_n rfl ?_
      refine fx_r rfl rfl ⟨?_, rfl⟩
      simp [yTrue, h0, h4, zb]
    · refine fx_bf rfl (nI_ne0 (by omega) (by omega)) ?_
      repeat refine fx_n rfl ?_
      refine fx_g rfl (ix_nI (by omega) (by omega)) ?_
      rw [nI_cl (by omega), t4]
      repeat refine fx_n rfl ?_
      refine fx_g rfl (by decide) ?_
      rw [rem2 (by omega)]
      repeat refine fx_n rfl ?_
      by_cases h2 : E e 4 % 2 = 1
      · refine fx_bf rfl (by rw [h2]; decide) ?_
        repeat refine fx_n rfl ?_
        refine fx_r rfl rfl ⟨?_, rfl⟩
        simp [yTrue, h0, h2, zb]
      · refine fx_bt rfl (by rw [show E e 4 % 2 = 0 by omega]; decide) ?_
        repeat refine fx_n rfl ?_
        refine fx_r rfl rfl ⟨?_, rfl⟩
        simp [yTrue, h0, h2, h4, zb]
  · refine fx_bt rfl (nI_ne0 (by omega) (by omega)) ?_
    repeat refine fx_n rfl ?_
    refine fx_r rfl rfl ⟨?_, rfl⟩
    simp [yTrue, h0, zb]
/-- the owners as the class holds them -/
def ownC (M : sy_Mm) (S : Nat) (ow : Nat → Option Nat) : Prop := ∀ s, s < S → M 10 s = oI (ow s)
set_option maxRecDepth 100000 in
set_option maxHeartbeats 4000000 in
theorem ev_isLawful (d : Nat) (M : sy_Mm) (E : Evs) (ne e S : Nat) (ow : Nat → Option Nat) (hE : taleOK E ne) (hT : taleC M E ne) (he : e < ne) (hS : S ≤ 9) (h3 : M 1 3 = nI S) (hO : ownC M S ow) (h8 : ∀ s h, ow s = some h → h < 8) : Ev d i_X6_isLawful [.ref 9, .int (nI e)] M (some (.int (zb (yLaw S ow (E e))))) M := by
  obtain ⟨q0, q1, q2, q3, q4⟩ := hE.2.1 e he
  obtain ⟨t0, t1, t2, t3, t4⟩ := hT.2 e he
  have hne := hE.1
  have hb : ∀ k, ow (E e 2) = some k → k < 2 ^ 31 := fun k hk => by have := h8 _ _ hk; omega
  refine ev_of ?_
  repeat refine fx_n rfl ?_
  refine fx_g rfl (ix_nI (by omega) (by omega)) ?_
  rw [nI_cl (by omega), t2]
  repeat refine fx_n rfl ?_
  rw [h3]
  by_cases h2 : E e 2 < S
  · have hw := hO _ h2
    refine fx_bt rfl (nI_lt h2 (by omega)) ?_
    repeat refine fx_n rfl ?_
    refine fx_g rfl (ix_nI (by omega) (by omega)) ?_
    rw [nI_cl (by omega), t0]
    have low : E e 0 < 3 → Fx d i_X6_isLawful 68 [some (.ref 9), some (.int (nI e)), some (.int (nI (E e 2)))] [] M (fun r N => r = some (.int (zb (yLaw S ow (E e)))) ∧ N = M) := by
      intro hk
      repeat refine fx_n rfl ?_
      refine fx_g rfl (ix_nI (by omega) (by omega)) ?_
      rw [nI_cl (by omega), hw]
      repeat refine fx_n rfl ?_
      by_cases g1 : ow (E e 2) = none
      · refine fx_bt rfl ((oI_n hb).mpr g1) ?_
        repeat refine fx_n rfl ?_
        refine fx_r rfl rfl ⟨?_, rfl⟩
        simp [yLaw, h2, hk, g1, zb]
      · refine fx_bf rfl (fun z => g1 ((oI_n hb).mp z)) ?_
        repeat refine fx_n rfl ?_
        refine fx_g rfl (ix_nI (by omega) (by omega)) ?_
        rw [nI_cl (by omega), hw]
        repeat refine fx_n rfl ?_
        refine fx_g rfl (ix_nI (by omega) (by omega)) ?_
        rw [nI_cl (by omega), t3]
        by_cases g2 : ow (E e 2) = some (E e 3)
        · refine fx_bt rfl ((oI_s hb (by omega)).mpr g2) ?_
          repeat refine fx_n rfl ?_
          refine fx_r rfl rfl ⟨?_, rfl⟩
          simp [yLaw, h2, hk, g2, zb]
        · refine fx_bf rfl (fun z => g2 ((oI_s hb (by omega)).mp z)) ?_
          repeat refine fx_n rfl ?_
          refine fx_r rfl rfl ⟨?_, rfl⟩
          simp [yLaw, h2, hk, g1, g2, zb]
    have high : ¬ E e 0 < 3 → ¬ E e 0 = 4 → Fx d i_X6_isLawful 118 [some (.ref 9), some (.int (nI e)), some (.int (nI (E e 2)))] [] M (fun r N => r = some (.int (zb (yLaw S ow (E e)))) ∧ N = M) := by
      intro hk hk4
      repeat refine fx_n rfl ?_
      refine fx_g rfl (ix_nI (by omega) (by omega)) ?_
      rw [nI_cl (by omega), hw]
      repeat refine fx_n rfl ?_
      refine fx_g rfl (ix_nI (by omega) (by omega)) ?_
      rw [nI_cl (by omega), t3]
      by_cases g2 : ow (E e 2) = some (E e 3)
      · refine fx_bf rfl (fun z => z ((oI_s hb (by omega)).mpr g2)) ?_
        repeat refine fx_n rfl ?_
        refine fx_r rfl rfl ⟨?_, rfl⟩
        simp [yLaw, h2, hk, hk4, g2, zb]
      · refine fx_bt rfl (fun z => g2 ((oI_s hb (by omega)).mp z)) ?_
        repeat refine fx_n rfl ?_
        refine fx_r rfl rfl ⟨?_, rfl⟩
        simp [yLaw, h2, hk, hk4, g2, zb]
    rcases (show E e 0 = 0 ∨ E e 0 = 1 ∨ E e 0 = 2 ∨ E e 0 = 3 ∨ E e 0 = 4 ∨ E e 0 = 5 by omega) with h0 | h0 | h0 | h0 | h0 | h0
    · rw [h0]; exact fx_g rfl (by decide) (low (by omega))
    · rw [h0]; exact fx_g rfl (by decide) (low (by omega))
    · rw [h0]; exact fx_g rfl (by decide) (low (by omega))
    · rw [h0]; exact fx_g rfl (by decide) (high (by omega) (by omega))
    · rw [h0]
      refine fx_g rfl (by decide) (show Fx _ _ 102 _ _ _ _ from ?_)
      repeat refine fx_n rfl ?_
      refine fx_g rfl (ix_nI (by omega) (by omega)) ?_
      rw [nI_cl (by omega), hw]
      repeat refine fx_n rfl ?_
      by_cases g1 : ow (E e 2) = none
      · refine fx_bf rfl (fun z => z ((oI_n hb).mpr g1)) ?_
        repeat refine fx_n rfl ?_
        refine fx_r rfl rfl ⟨?_, rfl⟩
        simp [yLaw, h2, h0, g1, zb]
      · refine fx_bt rfl (fun z => g1 ((oI_n hb).mp z)) ?_
        repeat refine fx_n rfl ?_
        refine fx_r rfl rfl ⟨?_, rfl⟩
        simp [yLaw, h2, h0, g1, zb]
    · rw [h0]; exact fx_g rfl (by decide) (high (by omega) (by omega))
  · refine fx_bf rfl (nI_nlt (by omega) (by omega)) ?_
    repeat refine fx_n rfl ?_
    refine fx_r rfl rfl ⟨?_, rfl⟩
    simp [yLaw, h2, zb]
