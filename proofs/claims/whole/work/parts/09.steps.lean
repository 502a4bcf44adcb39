abbrev sy_tys (cI cS : ClassId) : List (ClassId × FieldType) := [(cI, .int), (cS, .object "LuckyStolen$Sheet")]
/-- what stands fast in a frame of the method y -/
def sy_C (p : Program) (s : State) (m : MethodId) (args : Array Value) (c : Code) (y : Nat) (D : va_G) (cI cS : ClassId) : Prop := p.tables.exec = Jvm.exec ∧ c.code = (sy_mi y).2.1 ∧ c.maxLocals = (sy_mi y).2.2.1 ∧ s.vm.findClass (sy_ci (sy_mi y).2.2.2.2.1).1 = some m.cls ∧ (∀ w ∈ sy_gT, w.before args s = true) ∧ va_K D vwCl (sy_tys cI cS) s ∧ ∀ w ∈ sy_nl, va_Nw w s
/-- the script's cell -/
def sy_X (ad : Nat → Nat) (A : Nat → Prop) (M : sy_Mm) (s : State) : Prop := va_X (ad 99) (M 98 0).toNatClampNeg (M 99) s s.heap ∧ ad 99 < s.heap.size ∧ ¬ A (ad 99) ∧ 0 ≤ (M 98 0).toInt
def sy_Wd (D : va_G) (cI cS : ClassId) (ad : Nat → Nat) (M0 M : sy_Mm) (H : Heap) : Prop := va_P D vwCl (sy_ws ad cI cS M) H ∧ M 98 = M0 98 ∧ M 99 = M0 99
/-- the machine comes to Q from the frame N, in every heap that holds its memory -/
def sy_K (p : Program) (l : Launch) (e : Env) (R : Room) (s : State) (m : MethodId) (args : Array Value) (below : List Frame) (meth : Method) (c : Code) (cells slots : Nat) (Q : State → Prop) (y : Nat) (D : va_G) (cI cS : ClassId) (ad : Nat → Nat) (A : Nat → Prop) (M0 : sy_Mm) (N : sy_Nx) : Prop :=
  ∀ (H : Heap) (locs : List Loc) (a : Array Slot), sy_Wd D cI cS ad M0 N.2.2.2 H → va_S A s.heap H locs → sy_hl ad a (sy_mi y).2.2.1 N.2.1 → W p l e R s m args below meth c H locs cells slots Q (F0 m N.1 a (N.2.2.1.map (sy_cv ad)))
def sy_rm (d : Nat) : Room := { frames := d + 2, cells := 0, slots := 0, locals := 64 * (d + 2) }
def sy_wd (y : Nat) : List Cond := .code (sy_mi y).2.2.2.2.2.2.2 (sy_mi y).2.1 (sy_mi y).2.2.1 (sy_mi y).2.2.2.1 :: sy_gT
def sy_in2 (ad : Nat → Nat) (q : Nat) : Prop := ∃ k, k < 46 ∧ q = ad k
def sy_Pc (D : va_G) (cI cS : ClassId) (ad : Nat → Nat) (as : List Value) (M : sy_Mm) (a : Array Value) (U : State) : Prop := a = (as.map (sy_cv ad)).toArray ∧ va_P D vwCl (sy_ws ad cI cS M) U.heap ∧ va_K D vwCl (sy_tys cI cS) U ∧ (∀ w ∈ sy_nl, va_Nw w U) ∧ sy_X ad (sy_in2 ad) M U
def sy_Qc (D : va_G) (cI cS : ClassId) (ad : Nat → Nat) (M : sy_Mm) (r : Option Value) (M' : sy_Mm) (_ : Array Value) (st : State) (oc : Outcome) (t : State) : Prop := oc = .returned (r.map (sy_cv ad)) ∧ sy_Wd D cI cS ad M M' t.heap ∧ va_F (sy_in2 ad) st t
/-- the contract of a call -/
def sy_Mt (l : Launch) (d y : Nat) (as : List Value) (M : sy_Mm) (r : Option Value) (M' : sy_Mm) : Prop := ∀ (D : va_G) (cI cS : ClassId) (ad : Nat → Nat), sy_ad ad (sy_in2 ad) → Met l (sy_mi y).2.2.2.2.2.2.2 (sy_wd y) (sy_rm d) (sy_Pc D cI cS ad as M) (sy_Qc D cI cS ad M r M') 0 0 (sy_in2 ad)
def sy_rtok (y pc : Nat) (v : Option Value) : Prop := match v with
  | some (.int x) => decode (sy_mi y).2.1 pc = .ok (.ireturn, 1) ∧ ((sy_mi y).2.2.2.1 = some .int ∨ ((sy_mi y).2.2.2.1 = some .boolean ∧ (x = 0 ∨ x = 1)))
  | some (.long _) => decode (sy_mi y).2.1 pc = .ok (.lreturn, 1) ∧ (sy_mi y).2.2.2.1 = some .long
  | none => decode (sy_mi y).2.1 pc = .ok (.return_, 1) ∧ (sy_mi y).2.2.2.1 = none
  | _ => False
def sy_Ex (p : Program) (l : Launch) (e : Env) (R : Room) (s : State) (m : MethodId) (args : Array Value) (below : List Frame) (meth : Method) (c : Code) (cells slots : Nat) (Q : State → Prop) (y : Nat) (D : va_G) (cI cS : ClassId) (ad : Nat → Nat) (A : Nat → Prop) (M0 : sy_Mm) (v : Option Value) (M : sy_Mm) : Prop :=
  ∀ (H : Heap) (locs : List Loc) (a : Array Slot) (pc : Nat), sy_rtok y pc v → sy_Wd D cI cS ad M0 M H → va_S A s.heap H locs → W p l e R s m args below meth c H locs cells slots Q (F0 m pc a (v.toList.map (sy_cv ad)))
def sy_Go (p : Program) (l : Launch) (e : Env) (R : Room) (s : State) (m : MethodId) (args : Array Value) (below : List Frame) (meth : Method) (c : Code) (cells slots : Nat) (Q : State → Prop) (y : Nat) (D : va_G) (cI cS : ClassId) (ad : Nat → Nat) (A : Nat → Prop) (M0 : sy_Mm) (M : sy_Mm) (res : sy_Rs) : Prop := match res with
  | .inl N => sy_K p l e R s m args below meth c cells slots Q y D cI cS ad A M0 N
  | .inr (.inl (b, N)) => b = true ∧ sy_K p l e R s m args below meth c cells slots Q y D cI cS ad A M0 N
  | .inr (.inr (.inl (b, t, N))) => (b = true → sy_K p l e R s m args below meth c cells slots Q y D cI cS ad A M0 (t, N.2)) ∧ (b = false → sy_K p l e R s m args below meth c cells slots Q y D cI cS ad A M0 N)
  | .inr (.inr (.inr (.inl (y', as, N)))) => sy_cs as ≤ (sy_mi y').2.2.1 → ¬ (sy_mi y').2.2.2.2.1 = 11 → ∃ (d : Nat) (r1 : Option Value) (M2 : sy_Mm), d + 3 ≤ R.frames ∧ 64 * (d + 3) ≤ R.locals ∧ sy_Mt l d y' as N.2.2.2 r1 M2 ∧ sy_K p l e R s m args below meth c cells slots Q y D cI cS ad A M0 (N.1, N.2.1, r1.toList ++ N.2.2.1, M2)
  | .inr (.inr (.inr (.inr (b, v)))) => b = true ∧ sy_Ex p l e R s m args below meth c cells slots Q y D cI cS ad A M0 v M
/-- the rooms -/
def sy_Rm (R : Room) (cells slots : Nat) : Prop := 2 ≤ R.frames ∧ 128 ≤ R.locals ∧ cells ≤ R.cells ∧ slots ≤ R.slots
section SYS
variable {p : Program} {l : Launch} {e : Env} {R : Room} {s : State} {m : MethodId} {args : Array Value} {below : List Frame} {meth : Method} {c : Code} {cells slots : Nat} {Q : State → Prop} {y : Nat} {D : va_G} {cI cS : ClassId} {ad : Nat → Nat} {A : Nat → Prop} {M0 : sy_Mm} {pc nx tg : Nat} {z : Int32} {ls : sy_Lo} {st : List Value} {M : sy_Mm} {res : sy_Rs}
theorem sy_s_iconst {n : Int} (C : sy_C p s m args c y D cI cS) (hd : decode (sy_mi y).2.1 pc = .ok (.iconst n, 1)) (hn : nx = pc + 1) (ht : sy_okT pc (.iconst n) tg z = true) (h : sy_op (.iconst n) nx tg z (sy_mi y) pc ls st M = some res) (go : sy_Go p l e R s m args below meth c cells slots Q y D cI cS ad A M0 M res) : sy_K p l e R s m args below meth c cells slots Q y D cI cS ad A M0 (pc, ls, st, M) := by
  obtain ⟨hx, hb, hml, hown, hts, hK, hN⟩ := C
  cases h; subst hn
  intro H locs a w S hl
  simp only [sy_okT, decide_eq_true_eq] at ht
  exact lv_iconst hx hb hd ht (go H locs a w S hl)
theorem sy_s_bipush {n : Int} (C : sy_C p s m args c y D cI cS) (hd : decode (sy_mi y).2.1 pc = .ok (.bipush n, 2)) (hn : nx = pc + 2) (ht : sy_okT pc (.bipush n) tg z = true) (h : sy_op (.bipush n) nx tg z (sy_mi y) pc ls st M = some res) (go : sy_Go p l e R s m args below meth c cells slots Q y D cI cS ad A M0 M res) : sy_K p l e R s m args below meth c cells slots Q y D cI cS ad A M0 (pc, ls, st, M) := by
  obtain ⟨hx, hb, hml, hown, hts, hK, hN⟩ := C
  cases h; subst hn
  intro H locs a w S hl
  simp only [sy_okT, decide_eq_true_eq] at ht
  exact lv_bipush hx hb hd ht (go H locs a w S hl)
theorem sy_s_sipush {n : Int} (C : sy_C p s m args c y D cI cS) (hd : decode (sy_mi y).2.1 pc = .ok (.sipush n, 3)) (hn : nx = pc + 3) (ht : sy_okT pc (.sipush n) tg z = true) (h : sy_op (.sipush n) nx tg z (sy_mi y) pc ls st M = some res) (go : sy_Go p l e R s m args below meth c cells slots Q y D cI cS ad A M0 M res) : sy_K p l e R s m args below meth c cells slots Q y D cI cS ad A M0 (pc, ls, st, M) := by
  obtain ⟨hx, hb, hml, hown, hts, hK, hN⟩ := C
  cases h; subst hn
  intro H locs a w S hl
  simp only [sy_okT, decide_eq_true_eq] at ht
  exact lv_sipush hx hb hd ht (go H locs a w S hl)
theorem sy_s_lconst {n : Fin 2} (C : sy_C p s m args c y D cI cS) (hd : decode (sy_mi y).2.1 pc = .ok (.lconst n, 1)) (hn : nx = pc + 1) (h : sy_op (.lconst n) nx tg z (sy_mi y) pc ls st M = some res) (go : sy_Go p l e R s m args below meth c cells slots Q y D cI cS ad A M0 M res) : sy_K p l e R s m args below meth c cells slots Q y D cI cS ad A M0 (pc, ls, st, M) := by
  obtain ⟨hx, hb, hml, hown, hts, hK, hN⟩ := C
  subst hn
  match n, hd, h with
  | ⟨0, _⟩, hd, h =>
    cases h
    intro H locs a w S hl
    exact lv_lconst hx hb hd rfl (go H locs a w S hl)
  | ⟨1, _⟩, hd, h =>
    cases h
    intro H locs a w S hl
    exact lv_lconst hx hb hd rfl (go H locs a w S hl)
theorem sy_s_ldc {k : Nat} (C : sy_C p s m args c y D cI cS) (hd : decode (sy_mi y).2.1 pc = .ok (.ldc k, 2)) (hn : nx = pc + 2) (h : sy_op (.ldc k) nx tg z (sy_mi y) pc ls st M = some res) (go : sy_Go p l e R s m args below meth c cells slots Q y D cI cS ad A M0 M res) : sy_K p l e R s m args below meth c cells slots Q y D cI cS ad A M0 (pc, ls, st, M) := by
  obtain ⟨hx, hb, hml, hown, hts, hK, hN⟩ := C
  simp only [sy_op] at h
  split at h
  · rename_i v e
    cases h; subst hn
    intro H locs a w S hl
    have hc := hts _ ((sy_kAll (sy_mi y).2.2.2.2.1).2.2.2.2.1 _ (List.mem_map.mpr ⟨_, sy_as_mem _ _ _ e, rfl⟩))
    exact lv_ldc hx hb hown hc hd (go H locs a w S hl)
  · cases h
theorem sy_s_ldc_w {k : Nat} (C : sy_C p s m args c y D cI cS) (hd : decode (sy_mi y).2.1 pc = .ok (.ldc_w k, 3)) (hn : nx = pc + 3) (h : sy_op (.ldc_w k) nx tg z (sy_mi y) pc ls st M = some res) (go : sy_Go p l e R s m args below meth c cells slots Q y D cI cS ad A M0 M res) : sy_K p l e R s m args below meth c cells slots Q y D cI cS ad A M0 (pc, ls, st, M) := by
  obtain ⟨hx, hb, hml, hown, hts, hK, hN⟩ := C
  simp only [sy_op] at h
  split at h
  · rename_i v e
    cases h; subst hn
    intro H locs a w S hl
    have hc := hts _ ((sy_kAll (sy_mi y).2.2.2.2.1).2.2.2.2.1 _ (List.mem_map.mpr ⟨_, sy_as_mem _ _ _ e, rfl⟩))
    exact lv_ldcw hx hb hown hc hd (go H locs a w S hl)
  · cases h
theorem sy_s_ldc2_w {k : Nat} (C : sy_C p s m args c y D cI cS) (hd : decode (sy_mi y).2.1 pc = .ok (.ldc2_w k, 3)) (hn : nx = pc + 3) (h : sy_op (.ldc2_w k) nx tg z (sy_mi y) pc ls st M = some res) (go : sy_Go p l e R s m args below meth c cells slots Q y D cI cS ad A M0 M res) : sy_K p l e R s m args below meth c cells slots Q y D cI cS ad A M0 (pc, ls, st, M) := by
  obtain ⟨hx, hb, hml, hown, hts, hK, hN⟩ := C
  simp only [sy_op] at h
  split at h
  · rename_i v e
    cases h; subst hn
    intro H locs a w S hl
    have hc := hts _ ((sy_kAll (sy_mi y).2.2.2.2.1).2.2.2.2.2 _ (List.mem_map.mpr ⟨_, sy_as_mem _ _ _ e, rfl⟩))
    exact lv_ldc2 hx hb hown hc hd (go H locs a w S hl)
  · cases h
theorem sy_s_iload {k : Nat} (C : sy_C p s m args c y D cI cS) (hd : decode (sy_mi y).2.1 pc = .ok (.iload k, 2)) (hn : nx = pc + 2) (h : sy_op (.iload k) nx tg z (sy_mi y) pc ls st M = some res) (go : sy_Go p l e R s m args below meth c cells slots Q y D cI cS ad A M0 M res) : sy_K p l e R s m args below meth c cells slots Q y D cI cS ad A M0 (pc, ls, st, M) := by
  obtain ⟨hx, hb, hml, hown, hts, hK, hN⟩ := C
  simp only [sy_op, sy_ld1] at h
  split at h
  · rename_i x e
    cases h; subst hn
    intro H locs a w S hl
    exact lv_iload hx hb hd (hl.2.2 _ _ e) (go H locs a w S hl)
  · cases h
theorem sy_s_iload_n {k : Fin 4} (C : sy_C p s m args c y D cI cS) (hd : decode (sy_mi y).2.1 pc = .ok (.iload_n k, 1)) (hn : nx = pc + 1) (h : sy_op (.iload_n k) nx tg z (sy_mi y) pc ls st M = some res) (go : sy_Go p l e R s m args below meth c cells slots Q y D cI cS ad A M0 M res) : sy_K p l e R s m args below meth c cells slots Q y D cI cS ad A M0 (pc, ls, st, M) := by
  obtain ⟨hx, hb, hml, hown, hts, hK, hN⟩ := C
  simp only [sy_op, sy_ld1] at h
  split at h
  · rename_i x e
    cases h; subst hn
    intro H locs a w S hl
    exact lv_iload_n hx hb hd rfl (hl.2.2 _ _ e) (go H locs a w S hl)
  · cases h
theorem sy_s_lload {k : Nat} (C : sy_C p s m args c y D cI cS) (hd : decode (sy_mi y).2.1 pc = .ok (.lload k, 2)) (hn : nx = pc + 2) (h : sy_op (.lload k) nx tg z (sy_mi y) pc ls st M = some res) (go : sy_Go p l e R s m args below meth c cells slots Q y D cI cS ad A M0 M res) : sy_K p l e R s m args below meth c cells slots Q y D cI cS ad A M0 (pc, ls, st, M) := by
  obtain ⟨hx, hb, hml, hown, hts, hK, hN⟩ := C
  simp only [sy_op, sy_ld2] at h
  split at h
  · rename_i x e
    cases h; subst hn
    intro H locs a w S hl
    exact lv_lload hx hb hd (hl.2.2 _ _ e) (go H locs a w S hl)
  · cases h
theorem sy_s_lload_n {k : Fin 4} (C : sy_C p s m args c y D cI cS) (hd : decode (sy_mi y).2.1 pc = .ok (.lload_n k, 1)) (hn : nx = pc + 1) (h : sy_op (.lload_n k) nx tg z (sy_mi y) pc ls st M = some res) (go : sy_Go p l e R s m args below meth c cells slots Q y D cI cS ad A M0 M res) : sy_K p l e R s m args below meth c cells slots Q y D cI cS ad A M0 (pc, ls, st, M) := by
  obtain ⟨hx, hb, hml, hown, hts, hK, hN⟩ := C
  simp only [sy_op, sy_ld2] at h
  split at h
  · rename_i x e
    cases h; subst hn
    intro H locs a w S hl
    exact lv_lload_n hx hb hd rfl (hl.2.2 _ _ e) (go H locs a w S hl)
  · cases h
theorem sy_s_aload {k : Nat} (C : sy_C p s m args c y D cI cS) (hd : decode (sy_mi y).2.1 pc = .ok (.aload k, 2)) (hn : nx = pc + 2) (h : sy_op (.aload k) nx tg z (sy_mi y) pc ls st M = some res) (go : sy_Go p l e R s m args below meth c cells slots Q y D cI cS ad A M0 M res) : sy_K p l e R s m args below meth c cells slots Q y D cI cS ad A M0 (pc, ls, st, M) := by
  obtain ⟨hx, hb, hml, hown, hts, hK, hN⟩ := C
  simp only [sy_op, sy_lda] at h
  split at h
  · rename_i x e
    cases h; subst hn
    intro H locs a w S hl
    exact lv_aload hx hb hd (hl.2.2 _ _ e) (go H locs a w S hl)
  · cases h
theorem sy_s_aload_n {k : Fin 4} (C : sy_C p s m args c y D cI cS) (hd : decode (sy_mi y).2.1 pc = .ok (.aload_n k, 1)) (hn : nx = pc + 1) (h : sy_op (.aload_n k) nx tg z (sy_mi y) pc ls st M = some res) (go : sy_Go p l e R s m args below meth c cells slots Q y D cI cS ad A M0 M res) : sy_K p l e R s m args below meth c cells slots Q y D cI cS ad A M0 (pc, ls, st, M) := by
  obtain ⟨hx, hb, hml, hown, hts, hK, hN⟩ := C
  simp only [sy_op, sy_lda] at h
  split at h
  · rename_i x e
    cases h; subst hn
    intro H locs a w S hl
    exact lv_aload_n hx hb hd rfl (hl.2.2 _ _ e) (go H locs a w S hl)
  · cases h
theorem sy_s_istore {k : Nat} (C : sy_C p s m args c y D cI cS) (hd : decode (sy_mi y).2.1 pc = .ok (.istore k, 2)) (hn : nx = pc + 2) (h : sy_op (.istore k) nx tg z (sy_mi y) pc ls st M = some res) (go : sy_Go p l e R s m args below meth c cells slots Q y D cI cS ad A M0 M res) : sy_K p l e R s m args below meth c cells slots Q y D cI cS ad A M0 (pc, ls, st, M) := by
  obtain ⟨hx, hb, hml, hown, hts, hK, hN⟩ := C
  simp only [sy_op, sy_st1] at h
  split at h
  · rename_i x r
    cases q : Nat.blt (k) (sy_mi y).2.2.1 with
    | false => rw [q] at h; cases h
    | true =>
      rw [q] at h
      cases h; subst hn
      intro H locs a w S hl
      exact lv_istore hx hb hd (sy_hl_has hl) (Nat.le_of_ble_eq_true q) rfl (fun a' h' => go H locs a' w S (sy_hl_set1 h'))
  · cases h
theorem sy_s_istore_n {k : Fin 4} (C : sy_C p s m args c y D cI cS) (hd : decode (sy_mi y).2.1 pc = .ok (.istore_n k, 1)) (hn : nx = pc + 1) (h : sy_op (.istore_n k) nx tg z (sy_mi y) pc ls st M = some res) (go : sy_Go p l e R s m args below meth c cells slots Q y D cI cS ad A M0 M res) : sy_K p l e R s m args below meth c cells slots Q y D cI cS ad A M0 (pc, ls, st, M) := by
  obtain ⟨hx, hb, hml, hown, hts, hK, hN⟩ := C
  simp only [sy_op, sy_st1] at h
  split at h
  · rename_i x r
    cases q : Nat.blt (k.val) (sy_mi y).2.2.1 with
    | false => rw [q] at h; cases h
    | true =>
      rw [q] at h
      cases h; subst hn
      intro H locs a w S hl
      exact lv_istore_n hx hb hd rfl (sy_hl_has hl) (Nat.le_of_ble_eq_true q) rfl (fun a' h' => go H locs a' w S (sy_hl_set1 h'))
  · cases h
theorem sy_s_astore {k : Nat} (C : sy_C p s m args c y D cI cS) (hd : decode (sy_mi y).2.1 pc = .ok (.astore k, 2)) (hn : nx = pc + 2) (h : sy_op (.astore k) nx tg z (sy_mi y) pc ls st M = some res) (go : sy_Go p l e R s m args below meth c cells slots Q y D cI cS ad A M0 M res) : sy_K p l e R s m args below meth c cells slots Q y D cI cS ad A M0 (pc, ls, st, M) := by
  obtain ⟨hx, hb, hml, hown, hts, hK, hN⟩ := C
  simp only [sy_op, sy_sta] at h
  split at h
  · rename_i x r
    cases q : Nat.blt (k) (sy_mi y).2.2.1 with
    | false => rw [q] at h; cases h
    | true =>
      rw [q] at h
      cases h; subst hn
      intro H locs a w S hl
      exact lv_astore hx hb hd (sy_hl_has hl) (Nat.le_of_ble_eq_true q) rfl (fun a' h' => go H locs a' w S (sy_hl_set1 h'))
  · cases h
theorem sy_s_astore_n {k : Fin 4} (C : sy_C p s m args c y D cI cS) (hd : decode (sy_mi y).2.1 pc = .ok (.astore_n k, 1)) (hn : nx = pc + 1) (h : sy_op (.astore_n k) nx tg z (sy_mi y) pc ls st M = some res) (go : sy_Go p l e R s m args below meth c cells slots Q y D cI cS ad A M0 M res) : sy_K p l e R s m args below meth c cells slots Q y D cI cS ad A M0 (pc, ls, st, M) := by
  obtain ⟨hx, hb, hml, hown, hts, hK, hN⟩ := C
  simp only [sy_op, sy_sta] at h
  split at h
  · rename_i x r
    cases q : Nat.blt (k.val) (sy_mi y).2.2.1 with
    | false => rw [q] at h; cases h
    | true =>
      rw [q] at h
      cases h; subst hn
      intro H locs a w S hl
      exact lv_astore_n hx hb hd rfl (sy_hl_has hl) (Nat.le_of_ble_eq_true q) rfl (fun a' h' => go H locs a' w S (sy_hl_set1 h'))
  · cases h
theorem sy_s_lstore {k : Nat} (C : sy_C p s m args c y D cI cS) (hd : decode (sy_mi y).2.1 pc = .ok (.lstore k, 2)) (hn : nx = pc + 2) (h : sy_op (.lstore k) nx tg z (sy_mi y) pc ls st M = some res) (go : sy_Go p l e R s m args below meth c cells slots Q y D cI cS ad A M0 M res) : sy_K p l e R s m args below meth c cells slots Q y D cI cS ad A M0 (pc, ls, st, M) := by
  obtain ⟨hx, hb, hml, hown, hts, hK, hN⟩ := C
  simp only [sy_op, sy_st2] at h
  split at h
  · rename_i x r
    cases q : Nat.blt (k + 1) (sy_mi y).2.2.1 with
    | false => rw [q] at h; cases h
    | true =>
      rw [q] at h
      cases h; subst hn
      intro H locs a w S hl
      exact lv_lstore hx hb hd (sy_hl_has hl) (Nat.le_of_ble_eq_true q) rfl (fun a' h' => go H locs a' w S (sy_hl_set2 h'))
  · cases h
theorem sy_s_lstore_n {k : Fin 4} (C : sy_C p s m args c y D cI cS) (hd : decode (sy_mi y).2.1 pc = .ok (.lstore_n k, 1)) (hn : nx = pc + 1) (h : sy_op (.lstore_n k) nx tg z (sy_mi y) pc ls st M = some res) (go : sy_Go p l e R s m args below meth c cells slots Q y D cI cS ad A M0 M res) : sy_K p l e R s m args below meth c cells slots Q y D cI cS ad A M0 (pc, ls, st, M) := by
  obtain ⟨hx, hb, hml, hown, hts, hK, hN⟩ := C
  simp only [sy_op, sy_st2] at h
  split at h
  · rename_i x r
    cases q : Nat.blt (k.val + 1) (sy_mi y).2.2.1 with
    | false => rw [q] at h; cases h
    | true =>
      rw [q] at h
      cases h; subst hn
      intro H locs a w S hl
      exact lv_lstore_n hx hb hd rfl (sy_hl_has hl) (Nat.le_of_ble_eq_true q) rfl (fun a' h' => go H locs a' w S (sy_hl_set2 h'))
  · cases h
theorem sy_s_iinc {k : Nat} {n : Int} (C : sy_C p s m args c y D cI cS) (hd : decode (sy_mi y).2.1 pc = .ok (.iinc k n, 3)) (hn : nx = pc + 3) (ht : sy_okT pc (.iinc k n) tg z = true) (h : sy_op (.iinc k n) nx tg z (sy_mi y) pc ls st M = some res) (go : sy_Go p l e R s m args below meth c cells slots Q y D cI cS ad A M0 M res) : sy_K p l e R s m args below meth c cells slots Q y D cI cS ad A M0 (pc, ls, st, M) := by
  obtain ⟨hx, hb, hml, hown, hts, hK, hN⟩ := C
  simp only [sy_op] at h
  split at h
  · rename_i x e
    cases q : Nat.blt k (sy_mi y).2.2.1 with
    | false => rw [q] at h; cases h
    | true =>
      rw [q] at h
      cases h; subst hn
      intro H locs a w S hl
      simp only [sy_okT, decide_eq_true_eq] at ht
      obtain ⟨j, hj⟩ := sy_li_at (ad := ad) e
      exact lv_iinc hx hb hd (sy_hl_has hl) (k := j) hj (by rw [ht]) (Nat.le_of_ble_eq_true q) rfl (fun a' h' => go H locs a' w S (sy_hl_set1 h'))
  · cases h
theorem sy_s_iadd  (C : sy_C p s m args c y D cI cS) (hd : decode (sy_mi y).2.1 pc = .ok (.iadd, 1)) (hn : nx = pc + 1) (h : sy_op (.iadd) nx tg z (sy_mi y) pc ls st M = some res) (go : sy_Go p l e R s m args below meth c cells slots Q y D cI cS ad A M0 M res) : sy_K p l e R s m args below meth c cells slots Q y D cI cS ad A M0 (pc, ls, st, M) := by
  obtain ⟨hx, hb, hml, hown, hts, hK, hN⟩ := C
  simp only [sy_op] at h
  split at h
  · cases h; subst hn
    intro H locs a w S hl
    exact lv_iadd hx hb hd (go H locs a w S hl)
  · cases h
theorem sy_s_isub  (C : sy_C p s m args c y D cI cS) (hd : decode (sy_mi y).2.1 pc = .ok (.isub, 1)) (hn : nx = pc + 1) (h : sy_op (.isub) nx tg z (sy_mi y) pc ls st M = some res) (go : sy_Go p l e R s m args below meth c cells slots Q y D cI cS ad A M0 M res) : sy_K p l e R s m args below meth c cells slots Q y D cI cS ad A M0 (pc, ls, st, M) := by
  obtain ⟨hx, hb, hml, hown, hts, hK, hN⟩ := C
  simp only [sy_op] at h
  split at h
  · cases h; subst hn
    intro H locs a w S hl
    exact lv_isub hx hb hd (go H locs a w S hl)
  · cases h
theorem sy_s_imul  (C : sy_C p s m args c y D cI cS) (hd : decode (sy_mi y).2.1 pc = .ok (.imul, 1)) (hn : nx = pc + 1) (h : sy_op (.imul) nx tg z (sy_mi y) pc ls st M = some res) (go : sy_Go p l e R s m args below meth c cells slots Q y D cI cS ad A M0 M res) : sy_K p l e R s m args below meth c cells slots Q y D cI cS ad A M0 (pc, ls, st, M) := by
  obtain ⟨hx, hb, hml, hown, hts, hK, hN⟩ := C
  simp only [sy_op] at h
  split at h
  · cases h; subst hn
    intro H locs a w S hl
    exact lv_imul hx hb hd (go H locs a w S hl)
  · cases h
theorem sy_s_iand  (C : sy_C p s m args c y D cI cS) (hd : decode (sy_mi y).2.1 pc = .ok (.iand, 1)) (hn : nx = pc + 1) (h : sy_op (.iand) nx tg z (sy_mi y) pc ls st M = some res) (go : sy_Go p l e R s m args below meth c cells slots Q y D cI cS ad A M0 M res) : sy_K p l e R s m args below meth c cells slots Q y D cI cS ad A M0 (pc, ls, st, M) := by
  obtain ⟨hx, hb, hml, hown, hts, hK, hN⟩ := C
  simp only [sy_op] at h
  split at h
  · cases h; subst hn
    intro H locs a w S hl
    exact lv_iand hx hb hd (go H locs a w S hl)
  · cases h
theorem sy_s_ior  (C : sy_C p s m args c y D cI cS) (hd : decode (sy_mi y).2.1 pc = .ok (.ior, 1)) (hn : nx = pc + 1) (h : sy_op (.ior) nx tg z (sy_mi y) pc ls st M = some res) (go : sy_Go p l e R s m args below meth c cells slots Q y D cI cS ad A M0 M res) : sy_K p l e R s m args below meth c cells slots Q y D cI cS ad A M0 (pc, ls, st, M) := by
  obtain ⟨hx, hb, hml, hown, hts, hK, hN⟩ := C
  simp only [sy_op] at h
  split at h
  · cases h; subst hn
    intro H locs a w S hl
    exact lv_ior hx hb hd (go H locs a w S hl)
  · cases h
theorem sy_s_ixor  (C : sy_C p s m args c y D cI cS) (hd : decode (sy_mi y).2.1 pc = .ok (.ixor, 1)) (hn : nx = pc + 1) (h : sy_op (.ixor) nx tg z (sy_mi y) pc ls st M = some res) (go : sy_Go p l e R s m args below meth c cells slots Q y D cI cS ad A M0 M res) : sy_K p l e R s m args below meth c cells slots Q y D cI cS ad A M0 (pc, ls, st, M) := by
  obtain ⟨hx, hb, hml, hown, hts, hK, hN⟩ := C
  simp only [sy_op] at h
  split at h
  · cases h; subst hn
    intro H locs a w S hl
    exact lv_ixor hx hb hd (go H locs a w S hl)
  · cases h
theorem sy_s_ishl  (C : sy_C p s m args c y D cI cS) (hd : decode (sy_mi y).2.1 pc = .ok (.ishl, 1)) (hn : nx = pc + 1) (h : sy_op (.ishl) nx tg z (sy_mi y) pc ls st M = some res) (go : sy_Go p l e R s m args below meth c cells slots Q y D cI cS ad A M0 M res) : sy_K p l e R s m args below meth c cells slots Q y D cI cS ad A M0 (pc, ls, st, M) := by
  obtain ⟨hx, hb, hml, hown, hts, hK, hN⟩ := C
  simp only [sy_op] at h
  split at h
  · cases h; subst hn
    intro H locs a w S hl
    exact lv_ishl hx hb hd (go H locs a w S hl)
  · cases h
theorem sy_s_ishr  (C : sy_C p s m args c y D cI cS) (hd : decode (sy_mi y).2.1 pc = .ok (.ishr, 1)) (hn : nx = pc + 1) (h : sy_op (.ishr) nx tg z (sy_mi y) pc ls st M = some res) (go : sy_Go p l e R s m args below meth c cells slots Q y D cI cS ad A M0 M res) : sy_K p l e R s m args below meth c cells slots Q y D cI cS ad A M0 (pc, ls, st, M) := by
  obtain ⟨hx, hb, hml, hown, hts, hK, hN⟩ := C
  simp only [sy_op] at h
  split at h
  · cases h; subst hn
    intro H locs a w S hl
    exact lv_ishr hx hb hd (go H locs a w S hl)
  · cases h
theorem sy_s_ladd  (C : sy_C p s m args c y D cI cS) (hd : decode (sy_mi y).2.1 pc = .ok (.ladd, 1)) (hn : nx = pc + 1) (h : sy_op (.ladd) nx tg z (sy_mi y) pc ls st M = some res) (go : sy_Go p l e R s m args below meth c cells slots Q y D cI cS ad A M0 M res) : sy_K p l e R s m args below meth c cells slots Q y D cI cS ad A M0 (pc, ls, st, M) := by
  obtain ⟨hx, hb, hml, hown, hts, hK, hN⟩ := C
  simp only [sy_op] at h
  split at h
  · cases h; subst hn
    intro H locs a w S hl
    exact lv_ladd hx hb hd (go H locs a w S hl)
  · cases h
theorem sy_s_lsub  (C : sy_C p s m args c y D cI cS) (hd : decode (sy_mi y).2.1 pc = .ok (.lsub, 1)) (hn : nx = pc + 1) (h : sy_op (.lsub) nx tg z (sy_mi y) pc ls st M = some res) (go : sy_Go p l e R s m args below meth c cells slots Q y D cI cS ad A M0 M res) : sy_K p l e R s m args below meth c cells slots Q y D cI cS ad A M0 (pc, ls, st, M) := by
  obtain ⟨hx, hb, hml, hown, hts, hK, hN⟩ := C
  simp only [sy_op] at h
  split at h
  · cases h; subst hn
    intro H locs a w S hl
    exact lv_lsub hx hb hd (go H locs a w S hl)
  · cases h
theorem sy_s_lmul  (C : sy_C p s m args c y D cI cS) (hd : decode (sy_mi y).2.1 pc = .ok (.lmul, 1)) (hn : nx = pc + 1) (h : sy_op (.lmul) nx tg z (sy_mi y) pc ls st M = some res) (go : sy_Go p l e R s m args below meth c cells slots Q y D cI cS ad A M0 M res) : sy_K p l e R s m args below meth c cells slots Q y D cI cS ad A M0 (pc, ls, st, M) := by
  obtain ⟨hx, hb, hml, hown, hts, hK, hN⟩ := C
  simp only [sy_op] at h
  split at h
  · cases h; subst hn
    intro H locs a w S hl
    exact lv_lmul hx hb hd (go H locs a w S hl)
  · cases h
theorem sy_s_iushr  (C : sy_C p s m args c y D cI cS) (hd : decode (sy_mi y).2.1 pc = .ok (.iushr, 1)) (hn : nx = pc + 1) (h : sy_op (.iushr) nx tg z (sy_mi y) pc ls st M = some res) (go : sy_Go p l e R s m args below meth c cells slots Q y D cI cS ad A M0 M res) : sy_K p l e R s m args below meth c cells slots Q y D cI cS ad A M0 (pc, ls, st, M) := by
  obtain ⟨hx, hb, hml, hown, hts, hK, hN⟩ := C
  simp only [sy_op] at h
  split at h
  · cases h; subst hn
    intro H locs a w S hl
    exact lv_iushr hx hb hd rfl (go H locs a w S hl)
  · cases h
theorem sy_s_lcmp  (C : sy_C p s m args c y D cI cS) (hd : decode (sy_mi y).2.1 pc = .ok (.lcmp, 1)) (hn : nx = pc + 1) (h : sy_op (.lcmp) nx tg z (sy_mi y) pc ls st M = some res) (go : sy_Go p l e R s m args below meth c cells slots Q y D cI cS ad A M0 M res) : sy_K p l e R s m args below meth c cells slots Q y D cI cS ad A M0 (pc, ls, st, M) := by
  obtain ⟨hx, hb, hml, hown, hts, hK, hN⟩ := C
  simp only [sy_op] at h
  split at h
  · cases h; subst hn
    intro H locs a w S hl
    exact W.lcmp hx hb hd (go H locs a w S hl)
  · cases h
theorem sy_s_i2l  (C : sy_C p s m args c y D cI cS) (hd : decode (sy_mi y).2.1 pc = .ok (.i2l, 1)) (hn : nx = pc + 1) (h : sy_op (.i2l) nx tg z (sy_mi y) pc ls st M = some res) (go : sy_Go p l e R s m args below meth c cells slots Q y D cI cS ad A M0 M res) : sy_K p l e R s m args below meth c cells slots Q y D cI cS ad A M0 (pc, ls, st, M) := by
  obtain ⟨hx, hb, hml, hown, hts, hK, hN⟩ := C
  simp only [sy_op] at h
  split at h
  · cases h; subst hn
    intro H locs a w S hl
    exact lv_i2l hx hb hd rfl (go H locs a w S hl)
  · cases h
theorem sy_s_i2b  (C : sy_C p s m args c y D cI cS) (hd : decode (sy_mi y).2.1 pc = .ok (.i2b, 1)) (hn : nx = pc + 1) (h : sy_op (.i2b) nx tg z (sy_mi y) pc ls st M = some res) (go : sy_Go p l e R s m args below meth c cells slots Q y D cI cS ad A M0 M res) : sy_K p l e R s m args below meth c cells slots Q y D cI cS ad A M0 (pc, ls, st, M) := by
  obtain ⟨hx, hb, hml, hown, hts, hK, hN⟩ := C
  simp only [sy_op] at h
  split at h
  · cases h; subst hn
    intro H locs a w S hl
    exact lv_i2b hx hb hd rfl (go H locs a w S hl)
  · cases h
theorem sy_s_i2s  (C : sy_C p s m args c y D cI cS) (hd : decode (sy_mi y).2.1 pc = .ok (.i2s, 1)) (hn : nx = pc + 1) (h : sy_op (.i2s) nx tg z (sy_mi y) pc ls st M = some res) (go : sy_Go p l e R s m args below meth c cells slots Q y D cI cS ad A M0 M res) : sy_K p l e R s m args below meth c cells slots Q y D cI cS ad A M0 (pc, ls, st, M) := by
  obtain ⟨hx, hb, hml, hown, hts, hK, hN⟩ := C
  simp only [sy_op] at h
  split at h
  · cases h; subst hn
    intro H locs a w S hl
    exact lv_i2s hx hb hd rfl (go H locs a w S hl)
  · cases h
theorem sy_s_idiv  (C : sy_C p s m args c y D cI cS) (hd : decode (sy_mi y).2.1 pc = .ok (.idiv, 1)) (hn : nx = pc + 1) (h : sy_op (.idiv) nx tg z (sy_mi y) pc ls st M = some res) (go : sy_Go p l e R s m args below meth c cells slots Q y D cI cS ad A M0 M res) : sy_K p l e R s m args below meth c cells slots Q y D cI cS ad A M0 (pc, ls, st, M) := by
  obtain ⟨hx, hb, hml, hown, hts, hK, hN⟩ := C
  simp only [sy_op] at h
  split at h
  · cases h; subst hn
    intro H locs a w S hl
    exact lv_idiv hx hb hd (of_decide_eq_true go.1) (go.2 H locs a w S hl)
  · cases h
theorem sy_s_irem  (C : sy_C p s m args c y D cI cS) (hd : decode (sy_mi y).2.1 pc = .ok (.irem, 1)) (hn : nx = pc + 1) (h : sy_op (.irem) nx tg z (sy_mi y) pc ls st M = some res) (go : sy_Go p l e R s m args below meth c cells slots Q y D cI cS ad A M0 M res) : sy_K p l e R s m args below meth c cells slots Q y D cI cS ad A M0 (pc, ls, st, M) := by
  obtain ⟨hx, hb, hml, hown, hts, hK, hN⟩ := C
  simp only [sy_op] at h
  split at h
  · cases h; subst hn
    intro H locs a w S hl
    exact lv_irem hx hb hd (of_decide_eq_true go.1) (go.2 H locs a w S hl)
  · cases h
theorem sy_s_ldiv  (C : sy_C p s m args c y D cI cS) (hd : decode (sy_mi y).2.1 pc = .ok (.ldiv, 1)) (hn : nx = pc + 1) (h : sy_op (.ldiv) nx tg z (sy_mi y) pc ls st M = some res) (go : sy_Go p l e R s m args below meth c cells slots Q y D cI cS ad A M0 M res) : sy_K p l e R s m args below meth c cells slots Q y D cI cS ad A M0 (pc, ls, st, M) := by
  obtain ⟨hx, hb, hml, hown, hts, hK, hN⟩ := C
  simp only [sy_op] at h
  split at h
  · cases h; subst hn
    intro H locs a w S hl
    exact lv_ldiv hx hb hd (of_decide_eq_true go.1) (go.2 H locs a w S hl)
  · cases h
theorem sy_s_lrem  (C : sy_C p s m args c y D cI cS) (hd : decode (sy_mi y).2.1 pc = .ok (.lrem, 1)) (hn : nx = pc + 1) (h : sy_op (.lrem) nx tg z (sy_mi y) pc ls st M = some res) (go : sy_Go p l e R s m args below meth c cells slots Q y D cI cS ad A M0 M res) : sy_K p l e R s m args below meth c cells slots Q y D cI cS ad A M0 (pc, ls, st, M) := by
  obtain ⟨hx, hb, hml, hown, hts, hK, hN⟩ := C
  simp only [sy_op] at h
  split at h
  · cases h; subst hn
    intro H locs a w S hl
    exact lv_lrem hx hb hd (of_decide_eq_true go.1) (go.2 H locs a w S hl)
  · cases h
theorem sy_s_dup  (C : sy_C p s m args c y D cI cS) (hd : decode (sy_mi y).2.1 pc = .ok (.dup, 1)) (hn : nx = pc + 1) (h : sy_op (.dup) nx tg z (sy_mi y) pc ls st M = some res) (go : sy_Go p l e R s m args below meth c cells slots Q y D cI cS ad A M0 M res) : sy_K p l e R s m args below meth c cells slots Q y D cI cS ad A M0 (pc, ls, st, M) := by
  obtain ⟨hx, hb, hml, hown, hts, hK, hN⟩ := C
  simp only [sy_op] at h
  split at h
  · cases h; subst hn
    intro H locs a w S hl
    exact lv_dup hx hb hd rfl (go H locs a w S hl)
  · cases h; subst hn
    intro H locs a w S hl
    exact lv_dup hx hb hd rfl (go H locs a w S hl)
  · cases h
theorem sy_s_dup2  (C : sy_C p s m args c y D cI cS) (hd : decode (sy_mi y).2.1 pc = .ok (.dup2, 1)) (hn : nx = pc + 1) (h : sy_op (.dup2) nx tg z (sy_mi y) pc ls st M = some res) (go : sy_Go p l e R s m args below meth c cells slots Q y D cI cS ad A M0 M res) : sy_K p l e R s m args below meth c cells slots Q y D cI cS ad A M0 (pc, ls, st, M) := by
  obtain ⟨hx, hb, hml, hown, hts, hK, hN⟩ := C
  simp only [sy_op] at h
  split at h
  · cases h; subst hn
    intro H locs a w S hl
    exact lv_dup2_11 hx hb hd rfl rfl (go H locs a w S hl)
  · cases h
theorem sy_s_pop  (C : sy_C p s m args c y D cI cS) (hd : decode (sy_mi y).2.1 pc = .ok (.pop, 1)) (hn : nx = pc + 1) (h : sy_op (.pop) nx tg z (sy_mi y) pc ls st M = some res) (go : sy_Go p l e R s m args below meth c cells slots Q y D cI cS ad A M0 M res) : sy_K p l e R s m args below meth c cells slots Q y D cI cS ad A M0 (pc, ls, st, M) := by
  obtain ⟨hx, hb, hml, hown, hts, hK, hN⟩ := C
  simp only [sy_op] at h
  split at h
  · cases h; subst hn
    intro H locs a w S hl
    exact lv_pop hx hb hd rfl (go H locs a w S hl)
  · cases h
theorem sy_s_goto {off : Int} (C : sy_C p s m args c y D cI cS) (hd : decode (sy_mi y).2.1 pc = .ok (.goto off, 3)) (hn : nx = pc + 3) (ht : sy_okT pc (.goto off) tg z = true) (h : sy_op (.goto off) nx tg z (sy_mi y) pc ls st M = some res) (go : sy_Go p l e R s m args below meth c cells slots Q y D cI cS ad A M0 M res) : sy_K p l e R s m args below meth c cells slots Q y D cI cS ad A M0 (pc, ls, st, M) := by
  obtain ⟨hx, hb, hml, hown, hts, hK, hN⟩ := C
  cases h; subst hn
  intro H locs a w S hl
  simp only [sy_okT, decide_eq_true_eq] at ht
  exact lv_goto hx hb hd ht (go H locs a w S hl)
theorem sy_s_if_eq {off : Int} (C : sy_C p s m args c y D cI cS) (hd : decode (sy_mi y).2.1 pc = .ok (.ifCond .eq off, 3)) (hn : nx = pc + 3) (ht : sy_okT pc (.ifCond .eq off) tg z = true) (h : sy_op (.ifCond .eq off) nx tg z (sy_mi y) pc ls st M = some res) (go : sy_Go p l e R s m args below meth c cells slots Q y D cI cS ad A M0 M res) : sy_K p l e R s m args below meth c cells slots Q y D cI cS ad A M0 (pc, ls, st, M) := by
  obtain ⟨hx, hb, hml, hown, hts, hK, hN⟩ := C
  simp only [sy_op] at h
  split at h
  · cases h; subst hn
    intro H locs a w S hl
    simp only [sy_okT, decide_eq_true_eq] at ht
    exact lv_if_eq hx hb hd ht (fun q => go.1 (decide_eq_true q) H locs a w S hl) (fun q => go.2 (decide_eq_false q) H locs a w S hl)
  · cases h
theorem sy_s_icmp_eq {off : Int} (C : sy_C p s m args c y D cI cS) (hd : decode (sy_mi y).2.1 pc = .ok (.if_icmp .eq off, 3)) (hn : nx = pc + 3) (ht : sy_okT pc (.if_icmp .eq off) tg z = true) (h : sy_op (.if_icmp .eq off) nx tg z (sy_mi y) pc ls st M = some res) (go : sy_Go p l e R s m args below meth c cells slots Q y D cI cS ad A M0 M res) : sy_K p l e R s m args below meth c cells slots Q y D cI cS ad A M0 (pc, ls, st, M) := by
  obtain ⟨hx, hb, hml, hown, hts, hK, hN⟩ := C
  simp only [sy_op] at h
  split at h
  · cases h; subst hn
    intro H locs a w S hl
    simp only [sy_okT, decide_eq_true_eq] at ht
    exact lv_icmp_eq hx hb hd ht (fun q => go.1 (decide_eq_true q) H locs a w S hl) (fun q => go.2 (decide_eq_false q) H locs a w S hl)
  · cases h
theorem sy_s_if_ne {off : Int} (C : sy_C p s m args c y D cI cS) (hd : decode (sy_mi y).2.1 pc = .ok (.ifCond .ne off, 3)) (hn : nx = pc + 3) (ht : sy_okT pc (.ifCond .ne off) tg z = true) (h : sy_op (.ifCond .ne off) nx tg z (sy_mi y) pc ls st M = some res) (go : sy_Go p l e R s m args below meth c cells slots Q y D cI cS ad A M0 M res) : sy_K p l e R s m args below meth c cells slots Q y D cI cS ad A M0 (pc, ls, st, M) := by
  obtain ⟨hx, hb, hml, hown, hts, hK, hN⟩ := C
  simp only [sy_op] at h
  split at h
  · cases h; subst hn
    intro H locs a w S hl
    simp only [sy_okT, decide_eq_true_eq] at ht
    exact lv_if_ne hx hb hd ht (fun q => go.1 (decide_eq_true q) H locs a w S hl) (fun q => go.2 (decide_eq_false (fun z => z q)) H locs a w S hl)
  · cases h
theorem sy_s_icmp_ne {off : Int} (C : sy_C p s m args c y D cI cS) (hd : decode (sy_mi y).2.1 pc = .ok (.if_icmp .ne off, 3)) (hn : nx = pc + 3) (ht : sy_okT pc (.if_icmp .ne off) tg z = true) (h : sy_op (.if_icmp .ne off) nx tg z (sy_mi y) pc ls st M = some res) (go : sy_Go p l e R s m args below meth c cells slots Q y D cI cS ad A M0 M res) : sy_K p l e R s m args below meth c cells slots Q y D cI cS ad A M0 (pc, ls, st, M) := by
  obtain ⟨hx, hb, hml, hown, hts, hK, hN⟩ := C
  simp only [sy_op] at h
  split at h
  · cases h; subst hn
    intro H locs a w S hl
    simp only [sy_okT, decide_eq_true_eq] at ht
    exact lv_icmp_ne hx hb hd ht (fun q => go.1 (decide_eq_true q) H locs a w S hl) (fun q => go.2 (decide_eq_false (fun z => z q)) H locs a w S hl)
  · cases h
theorem sy_s_if_lt {off : Int} (C : sy_C p s m args c y D cI cS) (hd : decode (sy_mi y).2.1 pc = .ok (.ifCond .lt off, 3)) (hn : nx = pc + 3) (ht : sy_okT pc (.ifCond .lt off) tg z = true) (h : sy_op (.ifCond .lt off) nx tg z (sy_mi y) pc ls st M = some res) (go : sy_Go p l e R s m args below meth c cells slots Q y D cI cS ad A M0 M res) : sy_K p l e R s m args below meth c cells slots Q y D cI cS ad A M0 (pc, ls, st, M) := by
  obtain ⟨hx, hb, hml, hown, hts, hK, hN⟩ := C
  simp only [sy_op] at h
  split at h
  · cases h; subst hn
    intro H locs a w S hl
    simp only [sy_okT, decide_eq_true_eq] at ht
    exact lv_if_lt hx hb hd ht (fun q => go.1 (decide_eq_true q) H locs a w S hl) (fun q => go.2 (decide_eq_false q) H locs a w S hl)
  · cases h
theorem sy_s_icmp_lt {off : Int} (C : sy_C p s m args c y D cI cS) (hd : decode (sy_mi y).2.1 pc = .ok (.if_icmp .lt off, 3)) (hn : nx = pc + 3) (ht : sy_okT pc (.if_icmp .lt off) tg z = true) (h : sy_op (.if_icmp .lt off) nx tg z (sy_mi y) pc ls st M = some res) (go : sy_Go p l e R s m args below meth c cells slots Q y D cI cS ad A M0 M res) : sy_K p l e R s m args below meth c cells slots Q y D cI cS ad A M0 (pc, ls, st, M) := by
  obtain ⟨hx, hb, hml, hown, hts, hK, hN⟩ := C
  simp only [sy_op] at h
  split at h
  · cases h; subst hn
    intro H locs a w S hl
    simp only [sy_okT, decide_eq_true_eq] at ht
    exact lv_icmp_lt hx hb hd ht (fun q => go.1 (decide_eq_true q) H locs a w S hl) (fun q => go.2 (decide_eq_false q) H locs a w S hl)
  · cases h
theorem sy_s_if_ge {off : Int} (C : sy_C p s m args c y D cI cS) (hd : decode (sy_mi y).2.1 pc = .ok (.ifCond .ge off, 3)) (hn : nx = pc + 3) (ht : sy_okT pc (.ifCond .ge off) tg z = true) (h : sy_op (.ifCond .ge off) nx tg z (sy_mi y) pc ls st M = some res) (go : sy_Go p l e R s m args below meth c cells slots Q y D cI cS ad A M0 M res) : sy_K p l e R s m args below meth c cells slots Q y D cI cS ad A M0 (pc, ls, st, M) := by
  obtain ⟨hx, hb, hml, hown, hts, hK, hN⟩ := C
  simp only [sy_op] at h
  split at h
  · cases h; subst hn
    intro H locs a w S hl
    simp only [sy_okT, decide_eq_true_eq] at ht
    exact lv_if_ge hx hb hd ht (fun q => go.1 (decide_eq_true q) H locs a w S hl) (fun q => go.2 (decide_eq_false q) H locs a w S hl)
  · cases h
theorem sy_s_icmp_ge {off : Int} (C : sy_C p s m args c y D cI cS) (hd : decode (sy_mi y).2.1 pc = .ok (.if_icmp .ge off, 3)) (hn : nx = pc + 3) (ht : sy_okT pc (.if_icmp .ge off) tg z = true) (h : sy_op (.if_icmp .ge off) nx tg z (sy_mi y) pc ls st M = some res) (go : sy_Go p l e R s m args below meth c cells slots Q y D cI cS ad A M0 M res) : sy_K p l e R s m args below meth c cells slots Q y D cI cS ad A M0 (pc, ls, st, M) := by
  obtain ⟨hx, hb, hml, hown, hts, hK, hN⟩ := C
  simp only [sy_op] at h
  split at h
  · cases h; subst hn
    intro H locs a w S hl
    simp only [sy_okT, decide_eq_true_eq] at ht
    exact lv_icmp_ge hx hb hd ht (fun q => go.1 (decide_eq_true q) H locs a w S hl) (fun q => go.2 (decide_eq_false q) H locs a w S hl)
  · cases h
theorem sy_s_if_gt {off : Int} (C : sy_C p s m args c y D cI cS) (hd : decode (sy_mi y).2.1 pc = .ok (.ifCond .gt off, 3)) (hn : nx = pc + 3) (ht : sy_okT pc (.ifCond .gt off) tg z = true) (h : sy_op (.ifCond .gt off) nx tg z (sy_mi y) pc ls st M = some res) (go : sy_Go p l e R s m args below meth c cells slots Q y D cI cS ad A M0 M res) : sy_K p l e R s m args below meth c cells slots Q y D cI cS ad A M0 (pc, ls, st, M) := by
  obtain ⟨hx, hb, hml, hown, hts, hK, hN⟩ := C
  simp only [sy_op] at h
  split at h
  · cases h; subst hn
    intro H locs a w S hl
    simp only [sy_okT, decide_eq_true_eq] at ht
    exact lv_if_gt hx hb hd ht (fun q => go.1 (decide_eq_true q) H locs a w S hl) (fun q => go.2 (decide_eq_false q) H locs a w S hl)
  · cases h
theorem sy_s_icmp_gt {off : Int} (C : sy_C p s m args c y D cI cS) (hd : decode (sy_mi y).2.1 pc = .ok (.if_icmp .gt off, 3)) (hn : nx = pc + 3) (ht : sy_okT pc (.if_icmp .gt off) tg z = true) (h : sy_op (.if_icmp .gt off) nx tg z (sy_mi y) pc ls st M = some res) (go : sy_Go p l e R s m args below meth c cells slots Q y D cI cS ad A M0 M res) : sy_K p l e R s m args below meth c cells slots Q y D cI cS ad A M0 (pc, ls, st, M) := by
  obtain ⟨hx, hb, hml, hown, hts, hK, hN⟩ := C
  simp only [sy_op] at h
  split at h
  · cases h; subst hn
    intro H locs a w S hl
    simp only [sy_okT, decide_eq_true_eq] at ht
    exact lv_icmp_gt hx hb hd ht (fun q => go.1 (decide_eq_true q) H locs a w S hl) (fun q => go.2 (decide_eq_false q) H locs a w S hl)
  · cases h
theorem sy_s_if_le {off : Int} (C : sy_C p s m args c y D cI cS) (hd : decode (sy_mi y).2.1 pc = .ok (.ifCond .le off, 3)) (hn : nx = pc + 3) (ht : sy_okT pc (.ifCond .le off) tg z = true) (h : sy_op (.ifCond .le off) nx tg z (sy_mi y) pc ls st M = some res) (go : sy_Go p l e R s m args below meth c cells slots Q y D cI cS ad A M0 M res) : sy_K p l e R s m args below meth c cells slots Q y D cI cS ad A M0 (pc, ls, st, M) := by
  obtain ⟨hx, hb, hml, hown, hts, hK, hN⟩ := C
  simp only [sy_op] at h
  split at h
  · cases h; subst hn
    intro H locs a w S hl
    simp only [sy_okT, decide_eq_true_eq] at ht
    exact lv_if_le hx hb hd ht (fun q => go.1 (decide_eq_true q) H locs a w S hl) (fun q => go.2 (decide_eq_false q) H locs a w S hl)
  · cases h
theorem sy_s_icmp_le {off : Int} (C : sy_C p s m args c y D cI cS) (hd : decode (sy_mi y).2.1 pc = .ok (.if_icmp .le off, 3)) (hn : nx = pc + 3) (ht : sy_okT pc (.if_icmp .le off) tg z = true) (h : sy_op (.if_icmp .le off) nx tg z (sy_mi y) pc ls st M = some res) (go : sy_Go p l e R s m args below meth c cells slots Q y D cI cS ad A M0 M res) : sy_K p l e R s m args below meth c cells slots Q y D cI cS ad A M0 (pc, ls, st, M) := by
  obtain ⟨hx, hb, hml, hown, hts, hK, hN⟩ := C
  simp only [sy_op] at h
  split at h
  · cases h; subst hn
    intro H locs a w S hl
    simp only [sy_okT, decide_eq_true_eq] at ht
    exact lv_icmp_le hx hb hd ht (fun q => go.1 (decide_eq_true q) H locs a w S hl) (fun q => go.2 (decide_eq_false q) H locs a w S hl)
  · cases h
theorem sy_s_tableswitch {dflt lo hi : Int} {offs : Array Int} {len : Nat} (C : sy_C p s m args c y D cI cS) (hd : decode (sy_mi y).2.1 pc = .ok (.tableswitch dflt lo hi offs, len)) (h : sy_op (.tableswitch dflt lo hi offs) nx tg z (sy_mi y) pc ls st M = some res) (go : sy_Go p l e R s m args below meth c cells slots Q y D cI cS ad A M0 M res) : sy_K p l e R s m args below meth c cells slots Q y D cI cS ad A M0 (pc, ls, st, M) := by
  obtain ⟨hx, hb, hml, hown, hts, hK, hN⟩ := C
  simp only [sy_op] at h
  split at h
  · rename_i x r
    cases h
    intro H locs a w S hl
    have h0 := of_decide_eq_true go.1
    have hg := go.2 H locs a w S hl
    have hc : (((sy_sw pc dflt lo hi offs x).toNat : Nat) : Int) = sy_sw pc dflt lo hi offs x := Int.toNat_of_nonneg h0
    by_cases q : x.toInt < lo ∨ hi < x.toInt
    · refine lv_tableOut (tgt := (sy_sw pc dflt lo hi offs x).toNat) hx hb hd q ?_ hg
      rw [hc]; unfold sy_sw; rw [if_pos q]
    · have q1 : ¬ x.toInt < lo := fun z => q (Or.inl z)
      have q2 : ¬ hi < x.toInt := fun z => q (Or.inr z)
      cases ho : offs[(x.toInt - lo).toNat]? with
      | none =>
        exfalso
        unfold sy_sw at h0
        rw [if_neg q, ho] at h0
        exact absurd (show (0 : Int) ≤ -1 from h0) (by decide)
      | some off =>
        refine lv_tableIn (tgt := (sy_sw pc dflt lo hi offs x).toNat) hx hb hd q1 q2 ho ?_ hg
        rw [hc]; unfold sy_sw; rw [if_neg q, ho]
  · cases h
end SYS
