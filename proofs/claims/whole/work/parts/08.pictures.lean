def sy_cv (ad : Nat → Nat) : Value → Value
  | .ref k => .ref (ad k)
  | v => v
theorem sy_cv_cat (ad : Nat → Nat) (v : Value) : (sy_cv ad v).category = v.category := by cases v <;> rfl
def sy_fv (ad : Nat → Nat) (row : Nat → Int32) (j : Nat) (o : Option Nat) : Value := match o with
  | some p => .ref (ad p)
  | none => .int (row j)
def sy_ce (ad : Nat → Nat) (cI cS : ClassId) (row : Nat → Int32) (sp : sy_Sp) : va_E := match sp with
  | .inl (ci, fs) => .inr (ci, fs.mapIdx (sy_fv ad row))
  | .inr (.inl n) => .inl (cI, n, .inl row)
  | .inr (.inr ps) => .inl (cS, ps.length, .inr (.inr (.inr (.inr (fun j => (ps[j]?).map ad)))))
def sy_ws (ad : Nat → Nat) (cI cS : ClassId) (M : sy_Mm) : va_W := sy_SH.mapIdx (fun k sp => (ad k, sy_ce ad cI cS (M k) sp))
theorem sy_ws_at {ad : Nat → Nat} {cI cS : ClassId} {M : sy_Mm} {k : Nat} {sp : sy_Sp} (h : sy_nt sy_SH k = some sp) : (sy_ws ad cI cS M)[k]? = some (ad k, sy_ce ad cI cS (M k) sp) := by
  rw [sy_nt_eq] at h
  simp [sy_ws, List.getElem?_mapIdx, h]
theorem sy_ws_set {ad : Nat → Nat} {cI cS : ClassId} {M : sy_Mm} {k : Nat} {sp : sy_Sp} (h : sy_nt sy_SH k = some sp) (row : Nat → Int32) : (sy_ws ad cI cS M).set k (ad k, sy_ce ad cI cS row sp) = sy_ws ad cI cS (sy_row M k row) := by
  rw [sy_nt_eq] at h
  apply List.ext_getElem?
  intro j
  by_cases hj : k = j
  · subst hj
    have hl : k < sy_SH.length := (List.getElem?_eq_some_iff.mp h).1
    rw [List.getElem?_set_self (by simpa [sy_ws] using hl)]
    have e : sy_row M k row k = row := by unfold sy_row; rw [show Nat.beq k k = true from Nat.beq_refl k]; rfl
    simp [sy_ws, List.getElem?_mapIdx, h, e]
  · rw [List.getElem?_set_ne hj]
    have e : sy_row M k row j = M j := by
      unfold sy_row
      have : Nat.beq j k = false := by
        cases q : Nat.beq j k with
        | false => rfl
        | true => exact absurd (Nat.eq_of_beq_eq_true q).symm hj
      rw [this]; rfl
    simp [sy_ws, List.getElem?_mapIdx, e]
theorem sy_fs_set {ad : Nat → Nat} {row : Nat → Int32} {fs : List (Option Nat)} {j : Nat} (h : sy_nt fs j = some none) (x : Int32) : (fs.mapIdx (sy_fv ad row)).set j (.int x) = fs.mapIdx (sy_fv ad (upd row j x)) := by
  rw [sy_nt_eq] at h
  apply List.ext_getElem?
  intro i
  by_cases hj : j = i
  · subst hj
    have hl : j < fs.length := (List.getElem?_eq_some_iff.mp h).1
    rw [List.getElem?_set_self (by simpa using hl)]
    simp [List.getElem?_mapIdx, h, sy_fv, upd]
  · rw [List.getElem?_set_ne hj]
    simp only [List.getElem?_mapIdx]
    cases fs[i]? with
    | none => rfl
    | some o => cases o with
      | none => simp [sy_fv, upd, Ne.symm hj]
      | some q => rfl
theorem sy_SH_len : sy_SH.length = 46 := by decide +kernel
theorem sy_nt_lt {k : Nat} {sp : sy_Sp} (h : sy_nt sy_SH k = some sp) : k < 46 := by
  rw [sy_nt_eq] at h
  rw [← sy_SH_len]
  exact (List.getElem?_eq_some_iff.mp h).1
/-- the places are apart, and may be written -/
def sy_ad (ad : Nat → Nat) (A : Nat → Prop) : Prop := (∀ i j, i < 46 → j < 46 → ad i = ad j → i = j) ∧ ∀ i, i < 46 → A (ad i)
theorem sy_wsD {ad : Nat → Nat} {A : Nat → Prop} (h : sy_ad ad A) (cI cS : ClassId) (M : sy_Mm) : va_D A (sy_ws ad cI cS M) := by
  have key : ∀ (i : Nat) (p : Nat × va_E), (sy_ws ad cI cS M)[i]? = some p → i < 46 ∧ p.1 = ad i := by
    intro i p hp
    simp only [sy_ws, List.getElem?_mapIdx, Option.map_eq_some_iff] at hp
    obtain ⟨sp, h1, h2⟩ := hp
    rw [← sy_nt_eq] at h1
    exact ⟨sy_nt_lt h1, by rw [← h2]⟩
  refine ⟨fun i j p q hp hq e => ?_, fun k q hq => ?_⟩
  · obtain ⟨a1, a2⟩ := key i p hp
    obtain ⟨b1, b2⟩ := key j q hq
    exact h.1 i j a1 b1 (by rw [← a2, ← b2]; exact e)
  · obtain ⟨a1, a2⟩ := key k q hq
    rw [a2]
    exact h.2 k a1
/-! locals -/
def sy_hl (ad : Nat → Nat) (a : Array Slot) (n : Nat) (ls : sy_Lo) : Prop := a.size = n ∧ lv_wf a ∧ ∀ (k : Nat) (v : Value), sy_get ls k = some v → a[k]? = some (.val (sy_cv ad v))
def sy_li (ad : Nat → Nat) (ls : sy_Lo) : List (Nat × Value) := (List.range ls.length).filterMap (fun k => (sy_get ls k).map (fun w => (k, sy_cv ad w)))
theorem sy_get_lt : ∀ (ls : sy_Lo) (k : Nat) (v : Value), sy_get ls k = some v → k < ls.length
  | [], _, _, h => by simp [sy_get] at h
  | _ :: l, 0, _, _ => by simp
  | _ :: l, k + 1, v, h => by have := sy_get_lt l k v h; simp; omega
theorem sy_li_mem {ad : Nat → Nat} {ls : sy_Lo} {k : Nat} {v : Value} (h : sy_get ls k = some v) : (k, sy_cv ad v) ∈ sy_li ad ls := List.mem_filterMap.mpr ⟨k, List.mem_range.mpr (sy_get_lt _ _ _ h), by rw [h]; rfl⟩
theorem sy_li_at {ad : Nat → Nat} {ls : sy_Lo} {k : Nat} {v : Value} (h : sy_get ls k = some v) : ∃ i : Nat, (sy_li ad ls)[i]? = some (k, sy_cv ad v) := List.getElem?_of_mem (sy_li_mem h)
theorem sy_hl_has {ad : Nat → Nat} {a : Array Slot} {n : Nat} {ls : sy_Lo} (h : sy_hl ad a n ls) : lv_has a n (sy_li ad ls) := by
  refine ⟨h.1, h.2.1, fun q hq => ?_⟩
  obtain ⟨k, -, hk⟩ := List.mem_filterMap.mp hq
  cases e : sy_get ls k with
  | none => rw [e] at hk; cases hk
  | some w => rw [e] at hk; cases hk; exact h.2.2 k w e
theorem sy_clr_some {o : Option Value} {w : Value} (h : sy_clr o = some w) : o = some w ∧ ¬ w.category = 2 := by
  cases o with
  | none => cases h
  | some v => cases v <;> first | (simp only [sy_clr] at h; cases h; done) | (simp only [sy_clr, Option.some.injEq] at h; subst h; exact ⟨rfl, by simp [Value.category]⟩)
theorem sy_set1_get : ∀ (ls : sy_Lo) (i : Nat) (v w : Value) (k : Nat), sy_get (sy_set1 ls i v) k = some w → (k = i ∧ w = v) ∨ (k ≠ i ∧ ¬ (k + 1 = i ∧ w.category = 2) ∧ sy_get ls k = some w)
  | [], _, _, _, _, h => by simp [sy_set1, sy_get] at h
  | _ :: _, 0, v, w, 0, h => Or.inl ⟨rfl, (Option.some.inj h).symm⟩
  | _ :: _, 0, v, w, k + 1, h => Or.inr ⟨by omega, by omega, h⟩
  | a :: l, 1, v, w, 0, h => by
    obtain ⟨h1, h2⟩ := sy_clr_some (o := a) (w := w) h
    exact Or.inr ⟨by omega, fun q => h2 q.2, h1⟩
  | a :: l, 1, v, w, k + 1, h => by
    rcases sy_set1_get l 0 v w k h with ⟨h1, h2⟩ | ⟨h1, h2, h3⟩
    · exact Or.inl ⟨by omega, h2⟩
    · exact Or.inr ⟨by omega, by omega, h3⟩
  | a :: l, n + 2, v, w, 0, h => Or.inr ⟨by omega, by omega, h⟩
  | a :: l, n + 2, v, w, k + 1, h => by
    rcases sy_set1_get l (n + 1) v w k h with ⟨h1, h2⟩ | ⟨h1, h2, h3⟩
    · exact Or.inl ⟨by omega, h2⟩
    · exact Or.inr ⟨by omega, fun q => h2 ⟨by omega, q.2⟩, h3⟩
theorem sy_tl_get : ∀ (l : sy_Lo) (k : Nat) (w : Value), sy_get (sy_tl l) k = some w → k ≠ 0 ∧ sy_get l k = some w
  | [], _, _, h => by simp [sy_tl, sy_get] at h
  | _ :: _, 0, _, h => by simp [sy_tl, sy_get] at h
  | _ :: _, k + 1, _, h => ⟨by omega, h⟩
theorem sy_set2_get : ∀ (ls : sy_Lo) (i : Nat) (v w : Value) (k : Nat), sy_get (sy_set2 ls i v) k = some w → (k = i ∧ w = v) ∨ (k ≠ i ∧ k ≠ i + 1 ∧ ¬ (k + 1 = i ∧ w.category = 2) ∧ sy_get ls k = some w)
  | [], _, _, _, _, h => by simp [sy_set2, sy_get] at h
  | _ :: _, 0, v, w, 0, h => Or.inl ⟨rfl, (Option.some.inj h).symm⟩
  | _ :: l, 0, v, w, k + 1, h => by
    obtain ⟨h1, h2⟩ := sy_tl_get l k w h
    exact Or.inr ⟨by omega, by omega, by omega, h2⟩
  | a :: l, 1, v, w, 0, h => by
    obtain ⟨h1, h2⟩ := sy_clr_some (o := a) (w := w) h
    exact Or.inr ⟨by omega, by omega, fun q => h2 q.2, h1⟩
  | a :: l, 1, v, w, k + 1, h => by
    rcases sy_set2_get l 0 v w k h with ⟨h1, h2⟩ | ⟨h1, h0, h2, h3⟩
    · exact Or.inl ⟨by omega, h2⟩
    · exact Or.inr ⟨by omega, by omega, by omega, h3⟩
  | a :: l, n + 2, v, w, 0, h => Or.inr ⟨by omega, by omega, by omega, h⟩
  | a :: l, n + 2, v, w, k + 1, h => by
    rcases sy_set2_get l (n + 1) v w k h with ⟨h1, h2⟩ | ⟨h1, h0, h2, h3⟩
    · exact Or.inl ⟨by omega, h2⟩
    · exact Or.inr ⟨by omega, by omega, fun q => h2 ⟨by omega, q.2⟩, h3⟩
theorem sy_hl_set1 {ad : Nat → Nat} {a : Array Slot} {n i : Nat} {ls : sy_Lo} {v : Value} (h : lv_has a n ((i, sy_cv ad v) :: (sy_li ad ls).filter (fun q => !(q.1 == i) && !(q.1 + 1 == i && q.2.category == 2)))) : sy_hl ad a n (sy_set1 ls i v) := by
  refine ⟨h.1, h.2.1, fun k w hk => ?_⟩
  rcases sy_set1_get ls i v w k hk with ⟨h1, h2⟩ | ⟨h1, h2, h3⟩
  · subst h1; subst h2
    exact h.2.2 _ List.mem_cons_self
  · refine h.2.2 (k, sy_cv ad w) (List.mem_cons_of_mem _ (List.mem_filter.mpr ⟨sy_li_mem h3, ?_⟩))
    simp only [sy_cv_cat, Bool.and_eq_true, Bool.not_eq_true', beq_eq_false_iff_ne, Bool.and_eq_false_iff, ne_eq]
    refine ⟨h1, ?_⟩
    by_cases q : k + 1 = i
    · exact Or.inr (fun z => h2 ⟨q, z⟩)
    · exact Or.inl q
theorem sy_hl_set2 {ad : Nat → Nat} {a : Array Slot} {n i : Nat} {ls : sy_Lo} {v : Value} (h : lv_has a n ((i, sy_cv ad v) :: (sy_li ad ls).filter (fun q => !(q.1 == i) && (!(q.1 == i + 1) && !(q.1 + 1 == i && q.2.category == 2))))) : sy_hl ad a n (sy_set2 ls i v) := by
  refine ⟨h.1, h.2.1, fun k w hk => ?_⟩
  rcases sy_set2_get ls i v w k hk with ⟨h1, h2⟩ | ⟨h1, h0, h2, h3⟩
  · subst h1; subst h2
    exact h.2.2 _ List.mem_cons_self
  · refine h.2.2 (k, sy_cv ad w) (List.mem_cons_of_mem _ (List.mem_filter.mpr ⟨sy_li_mem h3, ?_⟩))
    simp only [sy_cv_cat, Bool.and_eq_true, Bool.not_eq_true', beq_eq_false_iff_ne, Bool.and_eq_false_iff, ne_eq]
    refine ⟨h1, h0, ?_⟩
    by_cases q : k + 1 = i
    · exact Or.inr (fun z => h2 ⟨q, z⟩)
    · exact Or.inl q
theorem sy_ent_get (ad : Nat → Nat) : ∀ (as : List Value) (i k : Nat) (w : Value), sy_get (sy_ent as) k = some w → (i + k, sy_cv ad w) ∈ lv_args i (as.map (sy_cv ad)) := by
  intro as
  induction as with
  | nil => intro i k w h; simp [sy_ent, sy_get] at h
  | cons v r ih =>
    intro i k w h
    have one : ∀ (hc : (sy_cv ad v).category = 1), sy_get (some v :: sy_ent r) k = some w → (i + k, sy_cv ad w) ∈ lv_args i ((v :: r).map (sy_cv ad)) := by
      intro hc h
      cases k with
      | zero =>
        have e : v = w := Option.some.inj h
        subst e
        exact List.mem_cons_self
      | succ k =>
        refine List.mem_cons_of_mem _ ?_
        rw [if_neg (by omega)]
        have := ih (i + 1) k w h
        rw [show i + (k + 1) = i + 1 + k by omega]
        exact this
    have two : ∀ (hc : (sy_cv ad v).category = 2), sy_get (some v :: none :: sy_ent r) k = some w → (i + k, sy_cv ad w) ∈ lv_args i ((v :: r).map (sy_cv ad)) := by
      intro hc h
      cases k with
      | zero =>
        have e : v = w := Option.some.inj h
        subst e
        exact List.mem_cons_self
      | succ k => cases k with
        | zero => cases h
        | succ k =>
          refine List.mem_cons_of_mem _ ?_
          rw [if_pos hc]
          have := ih (i + 2) k w h
          rw [show i + (k + 1 + 1) = i + 2 + k by omega]
          exact this
    cases v <;> first | exact one rfl h | exact two rfl h
theorem sy_pad_get : ∀ (n : Nat) (l : sy_Lo) (k : Nat) (w : Value), sy_get (sy_pad l n) k = some w → sy_get l k = some w
  | 0, _, _, _, h => by unfold sy_pad at h; exact h
  | _ + 1, [], 0, _, h => by simp [sy_pad, sy_get] at h
  | n + 1, [], k + 1, w, h => by
    have := sy_pad_get n [] k w (by simpa [sy_pad, sy_get] using h)
    simp [sy_get] at this
  | _ + 1, _ :: _, 0, _, h => h
  | n + 1, _ :: l, k + 1, w, h => sy_pad_get n l k w h
theorem sy_cs_len (ad : Nat → Nat) (as : List Value) : (lg_sl (as.map (sy_cv ad))).length = sy_cs as := by
  induction as with
  | nil => rfl
  | cons v r ih =>
    have e : (lg_sl ((v :: r).map (sy_cv ad))).length = (if (sy_cv ad v).category = 2 then 2 else 1) + (lg_sl (r.map (sy_cv ad))).length := by
      simp only [lg_sl, List.map_cons, List.flatMap_cons, List.length_append]
      split <;> simp
    rw [e, ih]
    cases v <;> simp [sy_cv, Value.category, sy_cs] <;> omega
theorem sy_cs_sum (ad : Nat → Nat) (as : List Value) : ((as.map (sy_cv ad)).map fun v => v.category).sum = sy_cs as := by
  induction as with
  | nil => rfl
  | cons v r ih =>
    simp only [List.map_cons, List.sum_cons, ih]
    cases v <;> simp [sy_cv, Value.category, sy_cs] <;> omega
theorem sy_pop_spec : ∀ (n : Nat) (st acc as r : List Value), sy_pop n st acc = some (as, r) → ∃ bs : List Value, as = bs ++ acc ∧ bs.length = n ∧ st = bs.reverse ++ r
  | 0, st, acc, as, r, h => by cases h; exact ⟨[], rfl, rfl, rfl⟩
  | _ + 1, [], _, _, _, h => by cases h
  | n + 1, v :: st, acc, as, r, h => by
    obtain ⟨bs, h1, h2, h3⟩ := sy_pop_spec n st (v :: acc) as r h
    exact ⟨bs ++ [v], by rw [h1]; simp, by simp [h2], by rw [h3]; simp⟩
theorem sy_as_mem {α : Type} : ∀ (l : List (Nat × α)) (n : Nat) (v : α), sy_as l n = some v → (n, v) ∈ l
  | [], _, _, h => by cases h
  | q :: r, n, v, h => by
    unfold sy_as at h
    cases e : Nat.beq q.1 n with
    | true =>
      rw [e] at h
      have h1 : q.1 = n := Nat.eq_of_beq_eq_true e
      have h2 : q.2 = v := Option.some.inj h
      subst h1; subst h2
      exact List.mem_cons_self
    | false => rw [e] at h; exact List.mem_cons_of_mem _ (sy_as_mem r n v h)
theorem sy_lk_mem : ∀ (l : List sy_En) (pc : Nat) (v : Instr × Nat × Nat × Int32), sy_lk l pc = some v → (pc, v) ∈ l
  | [], _, _, h => by cases h
  | q :: r, n, v, h => by
    unfold sy_lk at h
    cases e : Nat.beq q.1 n with
    | true =>
      rw [e] at h
      have h1 : q.1 = n := Nat.eq_of_beq_eq_true e
      have h2 : q.2 = v := Option.some.inj h
      subst h1; subst h2
      exact List.mem_cons_self
    | false => rw [e] at h; exact List.mem_cons_of_mem _ (sy_lk_mem r n v h)
theorem sy_dec {y pc : Nat} {i : Instr} {nx tg : Nat} {z : Int32} (h : sy_lk (sy_mi y).1 pc = some (i, nx, tg, z)) : decode (sy_mi y).2.1 pc = .ok (i, nx - pc) ∧ pc < nx ∧ sy_okT pc i tg z = true ∧ (sy_len i = 0 ∨ nx = pc + sy_len i) := by
  have hm := sy_lk_mem _ _ _ h
  have h1 := List.all_eq_true.mp (sy_eAll y) _ hm
  have h2 := List.all_eq_true.mp (sy_lAll y) _ hm
  simp only [sy_okE, Bool.and_eq_true, decide_eq_true_eq] at h1
  refine ⟨h1.1, ?_, h1.2.2, ?_⟩
  · have := h1.2.1
    exact Nat.le_of_ble_eq_true this
  · unfold sy_okL at h2
    dsimp only at h2
    cases e : Nat.beq (sy_len i) 0 with
    | true => exact Or.inl (Nat.eq_of_beq_eq_true e)
    | false => rw [e] at h2; exact Or.inr (Nat.eq_of_beq_eq_true h2)
def sy_okS (sp : sy_Sp) : Bool := match sp with
  | .inl (ci, fs) => match vwCl[ci]? with
    | some (_, T, N) => Nat.beq fs.length N && (List.range N).all (fun j => match sy_nt fs j with
      | some none => decide ((T j).2.2.1 = "I") && !(T j).2.2.2
      | _ => true)
    | none => false
  | .inr (.inr ps) => Nat.beq ps.length 4
  | _ => true
theorem sy_SH_ok : sy_SH.all sy_okS = true := by decide +kernel
theorem sy_fld_spec {a ci j : Nat} {o : Option Nat} (h : sy_fld a ci j = some o) : ∃ (fs : List (Option Nat)) (C : String) (T : u_T) (N : Nat), sy_nt sy_SH a = some (.inl (ci, fs)) ∧ sy_nt fs j = some o ∧ vwCl[ci]? = some (C, T, N) ∧ fs.length = N ∧ j < N ∧ (o = none → (T j).2.2.1 = "I" ∧ (T j).2.2.2 = false) := by
  unfold sy_fld at h
  split at h
  · rename_i c0 fs e
    cases q : Nat.beq c0 ci with
    | false => rw [q] at h; cases h
    | true =>
      rw [q] at h
      have hc : c0 = ci := Nat.eq_of_beq_eq_true q
      subst hc
      have h1 : sy_nt fs j = some o := h
      have hm : (Sum.inl (c0, fs) : sy_Sp) ∈ sy_SH := by rw [sy_nt_eq] at e; exact List.mem_of_getElem? e
      have h2 := List.all_eq_true.mp sy_SH_ok _ hm
      simp only [sy_okS] at h2
      split at h2
      · rename_i C T N e2
        simp only [Bool.and_eq_true, List.all_eq_true, List.mem_range] at h2
        have hN : fs.length = N := Nat.eq_of_beq_eq_true h2.1
        have hj : j < N := by
          rw [← hN]
          rw [sy_nt_eq] at h1
          exact (List.getElem?_eq_some_iff.mp h1).1
        refine ⟨fs, C, T, N, e, h1, e2, hN, hj, fun ho => ?_⟩
        have h3 := h2.2 j hj
        rw [h1, ho] at h3
        simp only [Bool.and_eq_true, decide_eq_true_eq, Bool.not_eq_true'] at h3
        exact h3
      · cases h2
  · cases h
