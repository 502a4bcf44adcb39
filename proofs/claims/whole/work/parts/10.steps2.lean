theorem sy_row_n {M : sy_Mm} {k q : Nat} {f : Nat → Int32} (h : q ≠ k) : sy_row M k f q = M q := by
  unfold sy_row
  have : Nat.beq q k = false := by
    cases z : Nat.beq q k with
    | false => rfl
    | true => exact absurd (Nat.eq_of_beq_eq_true z) h
  rw [this]; rfl
theorem sy_row_s {M : sy_Mm} {k : Nat} {f : Nat → Int32} : sy_row M k f k = f := by
  unfold sy_row
  rw [show Nat.beq k k = true from Nat.beq_refl k]; rfl
theorem sy_link {c : Nat} {k ci j : Nat} (e : sy_as (sy_ci c).2.1 k = some (ci, j)) {C : String} {T : u_T} {N : Nat} (hv : vwCl[ci]? = some (C, T, N)) : Cond.fieldLink (sy_ci c).1 k (T j).1 (T j).2.1 (T j).2.2.1 ∈ sy_gT := by
  have h1 := (sy_kAll c).1 _ (List.mem_map.mpr ⟨_, sy_as_mem _ _ _ e, rfl⟩)
  simp only [sy_fc, hv] at h1
  exact h1
theorem sy_lt_in {i : Int32} {n : Nat} (h : 0 ≤ i.toInt ∧ i.toInt < (n : Int)) : vp_in i n := vp_in_iff.mpr h
section SYT
variable {p : Program} {l : Launch} {e : Env} {R : Room} {s : State} {m : MethodId} {args : Array Value} {below : List Frame} {meth : Method} {c : Code} {cells slots : Nat} {Q : State → Prop} {y : Nat} {D : va_G} {cI cS : ClassId} {ad : Nat → Nat} {A : Nat → Prop} {M0 : sy_Mm} {pc nx tg : Nat} {z : Int32} {ls : sy_Lo} {st : List Value} {M : sy_Mm} {res : sy_Rs}
theorem sy_s_getfield {k : Nat} (C : sy_C p s m args c y D cI cS) (hA : sy_ad ad A) (hd : decode (sy_mi y).2.1 pc = .ok (.getfield k, 3)) (hn : nx = pc + 3) (h : sy_op (.getfield k) nx tg z (sy_mi y) pc ls st M = some res) (go : sy_Go p l e R s m args below meth c cells slots Q y D cI cS ad A M0 M res) : sy_K p l e R s m args below meth c cells slots Q y D cI cS ad A M0 (pc, ls, st, M) := by
  obtain ⟨hx, hb, hml, hown, hts, hK, hN⟩ := C
  simp only [sy_op] at h
  split at h
  · rename_i ci j e
    split at h
    · rename_i q r
      split at h
      · rename_i p0 ef
        cases h; subst hn
        intro H locs a w S hl
        obtain ⟨fs, C0, T, N, h1, h2, h3, h4, h5, h6⟩ := sy_fld_spec ef
        obtain ⟨u1, ⟨ty, u2⟩, u3⟩ := sy_uAll ci _ h3
        refine va_get (D := D) (ci := ci) (v := .ref (ad p0)) (C := C0) (T := T) (N := N) hx hb hts u1 hown hK w.1 q (sy_ws_at h1) h3 j h5 (hts _ (sy_link e h3)) (fun _ h9 => h9) ?_ hd (go H locs a w S hl)
        rw [sy_nt_eq] at h2
        simp [List.getElem?_mapIdx, h2, sy_fv]
      · rename_i ef
        cases h; subst hn
        intro H locs a w S hl
        obtain ⟨fs, C0, T, N, h1, h2, h3, h4, h5, h6⟩ := sy_fld_spec ef
        obtain ⟨u1, ⟨ty, u2⟩, u3⟩ := sy_uAll ci _ h3
        refine va_get (D := D) (ci := ci) (v := .int (M q j)) (C := C0) (T := T) (N := N) hx hb hts u1 hown hK w.1 q (sy_ws_at h1) h3 j h5 (hts _ (sy_link e h3)) (fun _ h9 => h9) ?_ hd (go H locs a w S hl)
        rw [sy_nt_eq] at h2
        simp [List.getElem?_mapIdx, h2, sy_fv]
      · cases h
    · cases h
  · cases h
theorem sy_s_putfield {k : Nat} (C : sy_C p s m args c y D cI cS) (hA : sy_ad ad A) (hd : decode (sy_mi y).2.1 pc = .ok (.putfield k, 3)) (hn : nx = pc + 3) (h : sy_op (.putfield k) nx tg z (sy_mi y) pc ls st M = some res) (go : sy_Go p l e R s m args below meth c cells slots Q y D cI cS ad A M0 M res) : sy_K p l e R s m args below meth c cells slots Q y D cI cS ad A M0 (pc, ls, st, M) := by
  obtain ⟨hx, hb, hml, hown, hts, hK, hN⟩ := C
  simp only [sy_op] at h
  split at h
  · rename_i ci j e
    split at h
    · rename_i x q r
      split at h
      · rename_i ef
        cases h; subst hn
        intro H locs a w S hl
        obtain ⟨fs, C0, T, N, h1, h2, h3, h4, h5, h6⟩ := sy_fld_spec ef
        obtain ⟨u1, ⟨ty, u2⟩, u3⟩ := sy_uAll ci _ h3
        obtain ⟨g1, g2⟩ := h6 rfl
        have hq := sy_nt_lt h1
        refine va_put (D := D) (ci := ci) (v := .int x) (ty := .int) (C := C0) (T := T) (N := N) hx hb hts u1 ty u2 u3 hown hK w.1 (sy_wsD hA cI cS M) S q (sy_ws_at h1) h3 j h5 (hts _ (sy_link e h3)) (fun _ h9 => h9) g2 (by rw [g1]; decide +kernel) rfl rfl (by simp [h4, h5]) hd (fun H1 locs1 hP1 _ hS1 => ?_)
        refine go H1 locs1 a ⟨?_, ?_, ?_⟩ hS1 hl
        · rw [sy_fs_set h2 x] at hP1
          have e2 := sy_ws_set (ad := ad) (cI := cI) (cS := cS) (M := M) h1 (upd (M q) j x)
          have e3 : sy_ce ad cI cS (upd (M q) j x) (.inl (ci, fs)) = .inr (ci, fs.mapIdx (sy_fv ad (upd (M q) j x))) := rfl
          rw [e3] at e2
          rw [e2] at hP1
          exact hP1
        · exact (sy_row_n (by omega)).trans w.2.1
        · exact (sy_row_n (by omega)).trans w.2.2
      · cases h
    · cases h
  · cases h
theorem sy_s_iaload  (C : sy_C p s m args c y D cI cS) (hA : sy_ad ad A) (hd : decode (sy_mi y).2.1 pc = .ok (.iaload, 1)) (hn : nx = pc + 1) (hX : sy_X ad A M0 s) (h : sy_op (.iaload) nx tg z (sy_mi y) pc ls st M = some res) (go : sy_Go p l e R s m args below meth c cells slots Q y D cI cS ad A M0 M res) : sy_K p l e R s m args below meth c cells slots Q y D cI cS ad A M0 (pc, ls, st, M) := by
  obtain ⟨hx, hb, hml, hown, hts, hK, hN⟩ := C
  simp only [sy_op] at h
  split at h
  · rename_i i q r
    split at h
    · rename_i n e
      cases h; subst hn
      intro H locs a w S hl
      exact va_iald hx hb hK w.1 q 0 (sy_ws_at e) rfl (sy_lt_in (of_decide_eq_true go.1)) hd (go.2 H locs a w S hl)
    · cases h
    · cases z : Nat.beq q 99 with
      | false => rw [z] at h; cases h
      | true =>
        rw [z] at h
        cases h; subst hn
        have hq : q = 99 := Nat.eq_of_beq_eq_true z
        subst hq
        intro H locs a w S hl
        obtain ⟨x1, x2, x3, x4⟩ := hX
        have g0 := of_decide_eq_true go.1
        have e98 : M 98 = M0 98 := w.2.1
        have e99 : M 99 = M0 99 := w.2.2
        rw [e98] at g0
        have hin : vp_in i (M0 98 0).toNatClampNeg := vp_in_iff.mpr ⟨g0.1, by
          have : (((M0 98 0).toNatClampNeg : Nat) : Int) = (M0 98 0).toInt := Int.toNat_of_nonneg x4
          rw [this]; exact g0.2⟩
        have kk := go.2 H locs a w S hl
        refine va_sld hx hb x1 x2 x3 S hin hd ?_
        rw [← e99]
        exact kk
  · cases h
theorem sy_s_arraylength  (C : sy_C p s m args c y D cI cS) (hA : sy_ad ad A) (hd : decode (sy_mi y).2.1 pc = .ok (.arraylength, 1)) (hn : nx = pc + 1) (hX : sy_X ad A M0 s) (h : sy_op (.arraylength) nx tg z (sy_mi y) pc ls st M = some res) (go : sy_Go p l e R s m args below meth c cells slots Q y D cI cS ad A M0 M res) : sy_K p l e R s m args below meth c cells slots Q y D cI cS ad A M0 (pc, ls, st, M) := by
  obtain ⟨hx, hb, hml, hown, hts, hK, hN⟩ := C
  simp only [sy_op] at h
  split at h
  · rename_i q r
    cases z : Nat.beq q 99 with
    | false => rw [z] at h; cases h
    | true =>
      rw [z] at h
      cases h; subst hn
      have hq : q = 99 := Nat.eq_of_beq_eq_true z
      subst hq
      intro H locs a w S hl
      obtain ⟨x1, x2, x3, x4⟩ := hX
      have e98 : M 98 = M0 98 := w.2.1
      have kk := go H locs a w S hl
      refine va_slen hx hb x1 x2 x3 S hd ?_
      have e : Int32.ofNat (M0 98 0).toNatClampNeg = M 98 0 := by
        rw [e98]
        apply Int32.toInt_inj.mp
        have h1 : (M0 98 0).toNatClampNeg < 2 ^ 31 := by
          have h2 : (((M0 98 0).toNatClampNeg : Nat) : Int) = (M0 98 0).toInt := Int.toNat_of_nonneg x4
          have h3 := Int32.toInt_lt (M0 98 0)
          omega
        have h4 := nI_toInt h1
        rw [show Int32.ofNat (M0 98 0).toNatClampNeg = nI (M0 98 0).toNatClampNeg from rfl, h4]
        exact Int.toNat_of_nonneg x4
      rw [e]
      exact kk
  · cases h
theorem sy_s_iastore  (C : sy_C p s m args c y D cI cS) (hA : sy_ad ad A) (hd : decode (sy_mi y).2.1 pc = .ok (.iastore, 1)) (hn : nx = pc + 1) (h : sy_op (.iastore) nx tg z (sy_mi y) pc ls st M = some res) (go : sy_Go p l e R s m args below meth c cells slots Q y D cI cS ad A M0 M res) : sy_K p l e R s m args below meth c cells slots Q y D cI cS ad A M0 (pc, ls, st, M) := by
  obtain ⟨hx, hb, hml, hown, hts, hK, hN⟩ := C
  simp only [sy_op] at h
  split at h
  · rename_i x i q r
    split at h
    · rename_i n e
      cases h; subst hn
      intro H locs a w S hl
      have hq := sy_nt_lt e
      refine va_iast hx hb hK w.1 (sy_wsD hA cI cS M) S q 0 (sy_ws_at e) rfl (sy_lt_in (of_decide_eq_true go.1)) hd (fun H1 locs1 hP1 _ hS1 => ?_)
      refine go.2 H1 locs1 a ⟨?_, ?_, ?_⟩ hS1 hl
      · have e2 := sy_ws_set (ad := ad) (cI := cI) (cS := cS) (M := M) e (upd (M q) i.toNatClampNeg x)
        have e3 : sy_ce ad cI cS (upd (M q) i.toNatClampNeg x) (.inr (.inl n)) = .inl (cI, n, .inl (upd (M q) i.toNatClampNeg x)) := rfl
        rw [e3] at e2
        rw [e2] at hP1
        exact hP1
      · exact (sy_row_n (by omega)).trans w.2.1
      · exact (sy_row_n (by omega)).trans w.2.2
    · cases h
  · cases h
theorem sy_s_aaload  (C : sy_C p s m args c y D cI cS) (hA : sy_ad ad A) (hd : decode (sy_mi y).2.1 pc = .ok (.aaload, 1)) (hn : nx = pc + 1) (h : sy_op (.aaload) nx tg z (sy_mi y) pc ls st M = some res) (go : sy_Go p l e R s m args below meth c cells slots Q y D cI cS ad A M0 M res) : sy_K p l e R s m args below meth c cells slots Q y D cI cS ad A M0 (pc, ls, st, M) := by
  obtain ⟨hx, hb, hml, hown, hts, hK, hN⟩ := C
  simp only [sy_op] at h
  split at h
  · rename_i i q r
    split at h
    · rename_i ps e
      split at h
      · rename_i p0 e2
        cases h; subst hn
        intro H locs a w S hl
        rw [sy_nt_eq] at e2
        have hlt : i.toNatClampNeg < ps.length := (List.getElem?_eq_some_iff.mp e2).1
        have h0 := of_decide_eq_true go.1
        have hi : (i.toNatClampNeg : Int) = i.toInt := Int.toNat_of_nonneg h0
        have kk := go.2 H locs a w S hl
        refine va_aldq hx hb hK w.1 q 1 (sy_ws_at e) rfl (vp_in_iff.mpr ⟨h0, by omega⟩) hd ?_
        rw [e2]
        exact kk
      · cases h
    · cases h
  · cases h
theorem sy_of_warm {s U : State} (hW : s.WarmedH U.vm) (h : ∀ w ∈ sy_nl, va_Nw w s) : ∀ w ∈ sy_nl, va_Nw w U := by
  intro w hw
  have key : ∃ a i x h0, w = .methodLinkNest a i x h0 := by
    simp only [sy_nl, List.mem_cons, List.not_mem_nil, or_false] at hw
    rcases hw with rfl | rfl | rfl
    · exact ⟨_, _, _, _, rfl⟩
    · exact ⟨_, _, _, _, rfl⟩
    · exact ⟨_, _, _, _, rfl⟩
  obtain ⟨a, i, x, h0, rfl⟩ := key
  exact va_Nw.warmM hW (h _ hw)
theorem sy_of_same {s U : State} (hW : s.vm = U.vm) (h : ∀ w ∈ sy_nl, va_Nw w s) : ∀ w ∈ sy_nl, va_Nw w U := by
  intro w hw
  have key : ∃ a i x h0, w = .methodLinkNest a i x h0 := by
    simp only [sy_nl, List.mem_cons, List.not_mem_nil, or_false] at hw
    rcases hw with rfl | rfl | rfl
    · exact ⟨_, _, _, _, rfl⟩
    · exact ⟨_, _, _, _, rfl⟩
    · exact ⟨_, _, _, _, rfl⟩
  obtain ⟨a, i, x, h0, rfl⟩ := key
  exact va_Nw.same rfl hW (h _ hw)
theorem sy_blind {D : va_G} {cI cS : ClassId} {ad : Nat → Nat} {as : List Value} {M : sy_Mm} : FrameBlind (sy_Pc D cI cS ad as M) := by
  intro a U g mk q
  obtain ⟨q0, qP, qK, qN, q1, q2, q3, q4⟩ := q
  exact ⟨q0, qP, va_K.moved (u := U) (U := U.calling g mk a) (Vm.Alike.refl U.vm) qK, sy_of_same (s := U) rfl qN, va_X.moved (u := U) (U := U.calling g mk a) (Vm.Alike.refl U.vm) q1, q2, q3, q4⟩
/-- the callee's start at the call -/
theorem sy_pre (C : sy_C p s m args c y D cI cS) (hA : sy_ad ad A) (hX : sy_X ad A M0 s) {as : List Value} {H : Heap} {locs : List Loc} (w : sy_Wd D cI cS ad M0 M H) (S : va_S A s.heap H locs) {U : State} (hU : U.heap = H) (hW : s.WarmedH U.vm) : sy_Pc D cI cS ad as M (as.map (sy_cv ad)).toArray U := by
  obtain ⟨hx, hb, hml, hown, hts, hK, hN⟩ := C
  obtain ⟨x1, x2, x3, x4⟩ := hX
  refine ⟨rfl, by rw [hU]; exact w.1, va_K.moved hW.alike hK, sy_of_warm hW hN, ?_, ?_, ?_, ?_⟩
  · rw [hU]
    have h1 : va_X (ad 99) (M0 98 0).toNatClampNeg (M0 99) s H := va_X.kept x1 (S.2.1 _ x2 x3)
    rw [w.2.1, w.2.2]
    exact va_X.moved hW.alike h1
  · rw [hU]
    exact Nat.lt_of_lt_of_le x2 S.1
  · rintro ⟨k, hk, e⟩
    exact x3 (by rw [e]; exact hA.2 k hk)
  · rw [w.2.1]; exact x4
theorem sy_cont (hA : sy_ad ad A) {H : Heap} {locs : List Loc} {a : Array Slot} {st0 r : List Value} {av : Array Value} {r1 : Option Value} {M2 : sy_Mm} (hr : va_Run p l e R s m args below meth c H locs cells slots 0 0 (F0 m pc a st0) (r.map (sy_cv ad)) (sy_Qc D cI cS ad M r1 M2 av) (sy_in2 ad)) (w : sy_Wd D cI cS ad M0 M H) (S : va_S A s.heap H locs) (hl : sy_hl ad a (sy_mi y).2.2.1 ls)
    (k : sy_K p l e R s m args below meth c cells slots Q y D cI cS ad A M0 (pc + 3, ls, r1.toList ++ r, M2)) : W p l e R s m args below meth c H locs cells slots Q (F0 m pc a st0) := by
  intro T hT X
  obtain ⟨v, st₀, t, T', L, h0, X', hL, e1, e2, ⟨hv, hp, hz, hk⟩, st⟩ := hr T hT X
  cases hv
  rw [h0] at hz hk
  have inA : ∀ q, sy_in2 ad q → A q := fun q hq => by
    obtain ⟨k0, h1, rfl⟩ := hq
    exact hA.2 k0 h1
  obtain ⟨t2, a1, b1⟩ := k T'.heap (locs ++ L) a ⟨by rw [e1]; exact hp.1, hp.2.1.trans w.2.1, hp.2.2.trans w.2.2⟩ ⟨Nat.le_trans S.1 (by rw [e1]; exact hz), fun q h1 h2 => by rw [e1, hk q (Nat.lt_of_lt_of_le h1 S.1) (fun z => h2 (inA q z))]; exact S.2.1 q h1 h2, fun q hq => by
      rcases List.mem_append.mp hq with h | h
      · exact S.2.2 q h
      · exact inA _ (hL q h)⟩ hl T' rfl X'
  refine ⟨t2, st t2 ?_, b1⟩
  have e3 : (r1.toList ++ r).map (sy_cv ad) = (r1.map (sy_cv ad)).toList ++ r.map (sy_cv ad) := by cases r1 <;> simp
  rw [← e3]
  exact a1
theorem sy_mOK (y : Nat) : ((sy_mi y).2.2.2.2.2.2.2.cls ≠ "java/lang/invoke/MethodHandle" ∧ (sy_mi y).2.2.2.2.2.2.2.cls ≠ "java/lang/invoke/VarHandle") ∧ (parseMethodDescriptor (sy_mi y).2.2.2.2.2.2.2.desc).map (fun d => d.parameters.length) = some (sy_mi y).2.2.2.2.2.2.1 ∧ plainName (sy_mi y).2.2.2.2.2.2.2.cls = true ∧ (sy_mi y).2.2.1 ≤ 40 ∧ (sy_ci (sy_mi y).2.2.2.2.1).1 = (sy_mi y).2.2.2.2.2.2.2.cls ∧ ((sy_mi y).2.2.2.2.2.1 = true ∨ (vwCl[(sy_mi y).2.2.2.2.1]?).map (fun c => c.1) = some (sy_mi y).2.2.2.2.2.2.2.cls) := by
  have h : sy_okM (sy_mi y) = true := sy_xAll y
  simp only [sy_okM, Bool.and_eq_true, Bool.or_eq_true, decide_eq_true_eq] at h
  exact ⟨⟨h.1, h.2.1⟩, h.2.2.1, h.2.2.2.1, Nat.le_of_ble_eq_true h.2.2.2.2.1, h.2.2.2.2.2.1, h.2.2.2.2.2.2⟩
theorem sy_goodW {y : Nat} (h : ¬ (sy_mi y).2.2.2.2.1 = 11) : ∀ w ∈ sy_wl (sy_mi y), w ∈ sy_gT := (sy_wAll y).resolve_left h
theorem sy_goodIn {y : Nat} (h : ¬ (sy_mi y).2.2.2.2.1 = 11) : GoodIn sy_gT (sy_wd y) := sy_gT_good _ (fun w hw => by
  rcases List.mem_cons.mp hw with rfl | hw
  · exact sy_goodW h _ List.mem_cons_self
  · exact hw)
theorem sy_callB (C : sy_C p s m args c y D cI cS) {y' d k : Nat} (h11 : ¬ (sy_mi y').2.2.2.2.1 = 11) (hfr : d + 3 ≤ R.frames) (hlo : 64 * (d + 3) ≤ R.locals) (hl : (Cond.methodLink (sy_ci (sy_mi y).2.2.2.2.1).1 k (sy_mi y').2.2.2.2.2.2.2).before args s = true) :
    CallB R s args (sy_ci (sy_mi y).2.2.2.2.1).1 k (sy_mi y').2.2.2.2.2.2.2 (sy_mi y').2.1 (sy_mi y').2.2.1 (sy_mi y').2.2.2.1 (sy_wd y') (sy_rm d) 0 0 (sy_mi y').2.2.2.2.2.2.1 := by
  obtain ⟨hx, hb, hml, hown, hts, hK, hN⟩ := C
  obtain ⟨⟨o1, o2⟩, o3, o4, o5, o6, o7⟩ := sy_mOK y'
  have hini := hts _ (sy_goodW h11 (.initialized (sy_mi y').2.2.2.2.2.2.2.cls) (by simp [sy_wl]))
  exact callB_of _ hts (sy_goodIn h11) rfl rfl rfl hini hl ⟨o1, o2, o3⟩ ⟨hfr, by show 8 + ((sy_mi y').2.2.1 + 11) + 64 * (d + 2) ≤ R.locals; omega⟩
theorem sy_callN (C : sy_C p s m args c y D cI cS) {y' d k : Nat} (h11 : ¬ (sy_mi y').2.2.2.2.1 = 11) (hfr : d + 3 ≤ R.frames) (hlo : 64 * (d + 3) ≤ R.locals) (hl : va_Nw (.methodLinkNest (sy_ci (sy_mi y).2.2.2.2.1).1 k (sy_mi y').2.2.2.2.2.2.2 "LuckyStolen") s) :
    va_CN R s args (sy_ci (sy_mi y).2.2.2.2.1).1 k (sy_mi y').2.2.2.2.2.2.2 "LuckyStolen" (sy_mi y').2.1 (sy_mi y').2.2.1 (sy_mi y').2.2.2.1 (sy_wd y') (sy_rm d) 0 0 (sy_mi y').2.2.2.2.2.2.1 := by
  obtain ⟨hx, hb, hml, hown, hts, hK, hN⟩ := C
  obtain ⟨⟨o1, o2⟩, o3, o4, o5, o6, o7⟩ := sy_mOK y'
  have hini := hts _ (sy_goodW h11 (.initialized (sy_mi y').2.2.2.2.2.2.2.cls) (by simp [sy_wl]))
  exact va_cnB _ hts (sy_goodIn h11) rfl rfl rfl hl hini ⟨o1, o2, o3⟩ ⟨hfr, by show 8 + ((sy_mi y').2.2.1 + 11) + 64 * (d + 2) ≤ R.locals; omega⟩
theorem sy_call_spec {b : Bool} {y' nx : Nat} {as r : List Value} (h : sy_call b y' as nx ls r M = some res) : ¬ (sy_mi y').2.2.2.2.1 = 11 ∧ b = true ∧ sy_cs r ≤ 8 ∧ sy_cs as ≤ (sy_mi y').2.2.1 ∧ res = .inr (.inr (.inr (.inl (y', as, (nx, ls, r, M))))) := by
  unfold sy_call at h
  cases q : Nat.beq (sy_mi y').2.2.2.2.1 11 with
  | true => rw [q] at h; cases h
  | false =>
    rw [q] at h
    cases b with
    | false => cases h
    | true =>
      cases z : (Nat.ble (sy_cs r) 8 && Nat.ble (sy_cs as) (sy_mi y').2.2.1) with
      | false => rw [z] at h; cases h
      | true =>
        rw [z] at h
        simp only [Bool.and_eq_true] at z
        refine ⟨fun e => ?_, rfl, Nat.le_of_ble_eq_true z.1, Nat.le_of_ble_eq_true z.2, (Option.some.inj h).symm⟩
        rw [e] at q
        cases q
theorem sy_s_invokevirtual {k : Nat} (C : sy_C p s m args c y D cI cS) (hA : sy_ad ad A) (hd : decode (sy_mi y).2.1 pc = .ok (.invokevirtual k, 3)) (hn : nx = pc + 3) (hX : sy_X ad A M0 s) (hR : sy_Rm R cells slots) (h : sy_op (.invokevirtual k) nx tg z (sy_mi y) pc ls st M = some res) (go : sy_Go p l e R s m args below meth c cells slots Q y D cI cS ad A M0 M res) : sy_K p l e R s m args below meth c cells slots Q y D cI cS ad A M0 (pc, ls, st, M) := by
  have C0 := C
  obtain ⟨hx, hb, hml, hown, hts, hK, hN⟩ := C
  simp only [sy_op] at h
  split at h
  · rename_i y' kd ek
    cases zk : Nat.beq kd 0 with
    | false => rw [zk] at h; cases h
    | true =>
      rw [zk] at h
      have hk0 : kd = 0 := Nat.eq_of_beq_eq_true zk
      subst hk0
      dsimp only [cond] at h
      split at h
      · rename_i as q r ep
        obtain ⟨h11, hb1, hcs, hcm, rfl⟩ := sy_call_spec h
        obtain ⟨d, r1, M2, hfr, hlo, hM, kk⟩ := go hcm h11
        subst hn
        intro H locs a w S hl
        obtain ⟨bs, e1, e2, e3⟩ := sy_pop_spec _ _ _ _ _ ep
        rw [List.append_nil] at e1
        subst e1
        have hst : (sy_mi y').2.2.2.2.2.1 = false := by
          cases z0 : (sy_mi y').2.2.2.2.2.1 with
          | true => rw [z0] at hb1; cases hb1
          | false => rfl
        rw [hst] at hb1
        have hiso : sy_isO q (sy_mi y').2.2.2.2.1 = true := hb1
        obtain ⟨⟨o1, o2⟩, o3, o4, o5, o6, o7⟩ := sy_mOK y'
        rw [hst] at o7
        have o8 := o7.resolve_left (by decide)
        have hl0 : Cond.methodLink (sy_ci (sy_mi y).2.2.2.2.1).1 k (sy_mi y').2.2.2.2.2.2.2 ∈ sy_gT := (sy_kAll (sy_mi y).2.2.2.2.1).2.2.1 _ (List.mem_map.mpr ⟨_, List.mem_filter.mpr ⟨sy_as_mem _ _ _ ek, rfl⟩, rfl⟩)
        have hcb := sy_callB (R := R) C0 (y' := y') (d := d) (k := k) h11 hfr hlo (hts _ hl0)
        have hw1 := hts _ (sy_goodW h11 (.instanceMethod (sy_mi y').2.2.2.2.2.2.2) (by simp [sy_wl, hst]))
        have hw2 := hts _ (sy_goodW h11 (.selects (sy_mi y').2.2.2.2.2.2.2.cls (sy_mi y').2.2.2.2.2.2.2 (sy_mi y').2.2.2.2.2.2.2) (by simp [sy_wl, hst]))
        have hrecv : ∃ cellB : Cell, H[ad q]? = some cellB ∧ cellB.vm.isStatics = false ∧ s.vm.findClass (sy_mi y').2.2.2.2.2.2.2.cls = some cellB.cls := by
          unfold sy_isO at hiso
          split at hiso
          · rename_i c0 fs e4
            have hc0 : c0 = (sy_mi y').2.2.2.2.1 := Nat.eq_of_beq_eq_true hiso
            cases hv : vwCl[(sy_mi y').2.2.2.2.1]? with
            | none => rw [hv] at o8; cases o8
            | some qq =>
              rw [hv] at o8
              have o9 : qq.1 = (sy_mi y').2.2.2.2.2.2.2.cls := Option.some.inj o8
              have := va_recv hK w.1 (ci := c0) (q0 := q) (by rw [hc0]; exact hv) (sy_ws_at e4)
              rw [o9] at this
              exact this
          · cases hiso
        have hr := va_runV (b := ad q) (As := as.map (sy_cv ad)) (rest := r.map (sy_cv ad)) (g := F0 m pc a (st.map (sy_cv ad))) (H := H) (locs := locs) (cells := cells) (slots := slots) (below := below) (meth := meth) (e := e) ⟨hx, hb, hml, hown, hts⟩ (hM D cI cS ad ⟨hA.1, fun i hi => ⟨i, hi, rfl⟩⟩) ⟨hcb, hw1, hw2⟩ ⟨sy_blind, hrecv, fun U hU hW => sy_pre C0 hA hX w S hU hW⟩ rfl (by rw [List.length_map]; exact e2) hl.1 (by show st.map (sy_cv ad) = _; rw [e3]; simp [sy_cv]) (lv_room (by rw [sy_cs_sum]; exact hcs)) hd ⟨hR.2.2.1, hR.2.2.2⟩
        exact sy_cont hA hr w S hl kk
      · cases h
  · cases h
theorem sy_s_invokestatic {k : Nat} (C : sy_C p s m args c y D cI cS) (hA : sy_ad ad A) (hd : decode (sy_mi y).2.1 pc = .ok (.invokestatic k, 3)) (hn : nx = pc + 3) (hX : sy_X ad A M0 s) (hR : sy_Rm R cells slots) (h : sy_op (.invokestatic k) nx tg z (sy_mi y) pc ls st M = some res) (go : sy_Go p l e R s m args below meth c cells slots Q y D cI cS ad A M0 M res) : sy_K p l e R s m args below meth c cells slots Q y D cI cS ad A M0 (pc, ls, st, M) := by
  have C0 := C
  obtain ⟨hx, hb, hml, hown, hts, hK, hN⟩ := C
  simp only [sy_op] at h
  split at h
  · rename_i y' kd ek
    cases zk : Nat.beq kd 2 with
    | true =>
      rw [zk] at h
      have hk0 : kd = 2 := Nat.eq_of_beq_eq_true zk
      subst hk0
      dsimp only [cond] at h
      split at h
      · rename_i n dp q1 sp q0 r
        split at h
        · rename_i na nb e1 e2
          cases z : Nat.ble (sy_cs r) 8 with
          | false => rw [z] at h; cases h
          | true =>
            rw [z] at h
            cases h; subst hn
            intro H locs a w S hl
            obtain ⟨⟨g1, g2, g3⟩, g4, g5⟩ := of_decide_eq_true go.1
            have hl0 : Cond.methodLink (sy_ci (sy_mi y).2.2.2.2.1).1 k arraycopyName ∈ sy_gT := (sy_kAll (sy_mi y).2.2.2.2.1).2.2.1 _ (List.mem_map.mpr ⟨_, List.mem_filter.mpr ⟨sy_as_mem _ _ _ ek, rfl⟩, rfl⟩)
            have hq := sy_nt_lt e2
            have hc8 : ((r.map (sy_cv ad)).map fun v => v.category).sum ≤ 8 := by rw [sy_cs_sum]; exact Nat.le_of_ble_eq_true z
            have hnw : nativeFrameWords "java/lang/System" "arraycopy" 5 + 11 ≤ 100 := by decide +kernel
            refine va_copyi hx hb (hml.trans hl.1.symm) hown (hts _ hl0) (hts _ (sy_jw _ (by simp))) (hts _ (sy_jw _ (by simp))) (hts _ (sy_jw _ (by simp))) hK w.1 (sy_wsD hA cI cS M) S q0 q1 0 0 (sy_ws_at e1) (sy_ws_at e2) rfl rfl rfl g1 g2 g3 g4 g5 (fun _ _ => rfl) (by have := hR.1; omega) (by have := hR.2.1; omega) hd (fun H1 locs1 hP1 _ hS1 => ?_)
            refine go.2 H1 locs1 a ⟨?_, ?_, ?_⟩ hS1 hl
            · have e5 := sy_ws_set (ad := ad) (cI := cI) (cS := cS) (M := M) e2 (va_cpy (M q0) (M q1) sp.toNatClampNeg dp.toNatClampNeg n.toNatClampNeg)
              have e6 : sy_ce ad cI cS (va_cpy (M q0) (M q1) sp.toNatClampNeg dp.toNatClampNeg n.toNatClampNeg) (.inr (.inl nb)) = .inl (cI, nb, .inl (va_cpy (M q0) (M q1) sp.toNatClampNeg dp.toNatClampNeg n.toNatClampNeg)) := rfl
              rw [e6] at e5
              rw [e5] at hP1
              exact hP1
            · exact (sy_row_n (by omega)).trans w.2.1
            · exact (sy_row_n (by omega)).trans w.2.2
        · cases h
      · cases h
    | false =>
      rw [zk] at h
      dsimp only [cond] at h
      cases zk3 : Nat.beq kd 3 with
      | true =>
        rw [zk3] at h
        have hk0 : kd = 3 := Nat.eq_of_beq_eq_true zk3
        subst hk0
        dsimp only [cond] at h
        split at h
        · rename_i v u r
          cases z : Nat.ble (sy_cs r) 8 with
          | false => rw [z] at h; cases h
          | true =>
            rw [z] at h
            cases h; subst hn
            intro H locs a w S hl
            have hl0 : Cond.methodLink (sy_ci (sy_mi y).2.2.2.2.1).1 k Lib.Math.min.name ∈ sy_gT := (sy_kAll (sy_mi y).2.2.2.2.1).2.2.1 _ (List.mem_map.mpr ⟨_, List.mem_filter.mpr ⟨sy_as_mem _ _ _ ek, rfl⟩, rfl⟩)
            have hc8 : ((r.map (sy_cv ad)).map fun v => v.category).sum ≤ 8 := by rw [sy_cs_sum]; exact Nat.le_of_ble_eq_true z
            exact va_mmin hx hb (hml.trans hl.1.symm) hown (hts _ hl0) (hts _ (sy_jw _ (by simp))) (hts _ (sy_jw _ (by simp))) (hts _ (sy_jw _ (by simp))) (by have := hR.1; omega) (by have := hR.2.1; omega) hR.2.2.1 hR.2.2.2 hd (go H locs a w S hl)
        · cases h
      | false =>
        rw [zk3] at h
        dsimp only [cond] at h
        split at h
        · rename_i as r ep
          obtain ⟨h11, hb1, hcs, hcm, rfl⟩ := sy_call_spec h
          obtain ⟨d, r1, M2, hfr, hlo, hM, kk⟩ := go hcm h11
          subst hn
          intro H locs a w S hl
          obtain ⟨bs, e1, e2, e3⟩ := sy_pop_spec _ _ _ _ _ ep
          rw [List.append_nil] at e1
          subst e1
          have hw1 := hts _ (sy_goodW h11 (.static (sy_mi y').2.2.2.2.2.2.2) (by simp [sy_wl, hb1]))
          cases zk1 : Nat.beq kd 1 with
          | true =>
            have hk1 : kd = 1 := Nat.eq_of_beq_eq_true zk1
            subst hk1
            have hl0 : Cond.methodLinkNest (sy_ci (sy_mi y).2.2.2.2.1).1 k (sy_mi y').2.2.2.2.2.2.2 "LuckyStolen" ∈ sy_nl := (sy_kAll (sy_mi y).2.2.2.2.1).2.2.2.1 _ (List.mem_map.mpr ⟨_, List.mem_filter.mpr ⟨sy_as_mem _ _ _ ek, rfl⟩, rfl⟩)
            have hcb := sy_callN (R := R) C0 (y' := y') (d := d) (k := k) h11 hfr hlo (hN _ hl0)
            have hr := va_runSN (As := as.map (sy_cv ad)) (rest := r.map (sy_cv ad)) (g := F0 m pc a (st.map (sy_cv ad))) (H := H) (locs := locs) (cells := cells) (slots := slots) (below := below) (meth := meth) (e := e) ⟨hx, hb, hml, hown, hts⟩ (hM D cI cS ad ⟨hA.1, fun i hi => ⟨i, hi, rfl⟩⟩) ⟨hcb, hw1, trivial⟩ ⟨sy_blind, fun U hU hW => sy_pre C0 hA hX w S hU hW⟩ rfl (by rw [List.length_map]; exact e2) hl.1 (by show st.map (sy_cv ad) = _; rw [e3]; simp) (lv_room (by rw [sy_cs_sum]; exact hcs)) hd ⟨hR.2.2.1, hR.2.2.2⟩
            exact sy_cont hA hr w S hl kk
          | false =>
            have hmc : sy_mc (sy_ci (sy_mi y).2.2.2.2.1).1 (k, y', kd) = Cond.methodLink (sy_ci (sy_mi y).2.2.2.2.1).1 k (sy_mi y').2.2.2.2.2.2.2 := by
              unfold sy_mc
              dsimp only
              rw [zk, zk3]; rfl
            have hl0 : Cond.methodLink (sy_ci (sy_mi y).2.2.2.2.1).1 k (sy_mi y').2.2.2.2.2.2.2 ∈ sy_gT := by
              rw [← hmc]
              exact (sy_kAll (sy_mi y).2.2.2.2.1).2.2.1 _ (List.mem_map.mpr ⟨_, List.mem_filter.mpr ⟨sy_as_mem _ _ _ ek, by rw [zk1]; rfl⟩, rfl⟩)
            have hcb := sy_callB (R := R) C0 (y' := y') (d := d) (k := k) h11 hfr hlo (hts _ hl0)
            have hr := va_runS (As := as.map (sy_cv ad)) (rest := r.map (sy_cv ad)) (g := F0 m pc a (st.map (sy_cv ad))) (H := H) (locs := locs) (cells := cells) (slots := slots) (below := below) (meth := meth) (e := e) ⟨hx, hb, hml, hown, hts⟩ (hM D cI cS ad ⟨hA.1, fun i hi => ⟨i, hi, rfl⟩⟩) ⟨hcb, hw1⟩ ⟨sy_blind, fun U hU hW => sy_pre C0 hA hX w S hU hW⟩ rfl (by rw [List.length_map]; exact e2) hl.1 (by show st.map (sy_cv ad) = _; rw [e3]; simp) (lv_room (by rw [sy_cs_sum]; exact hcs)) hd ⟨hR.2.2.1, hR.2.2.2⟩
            exact sy_cont hA hr w S hl kk
        · cases h
  · cases h
theorem sy_s_ireturn  (C : sy_C p s m args c y D cI cS) (hA : sy_ad ad A) (hd : decode (sy_mi y).2.1 pc = .ok (.ireturn, 1)) (hn : nx = pc + 1) (h : sy_op (.ireturn) nx tg z (sy_mi y) pc ls st M = some res) (go : sy_Go p l e R s m args below meth c cells slots Q y D cI cS ad A M0 M res) : sy_K p l e R s m args below meth c cells slots Q y D cI cS ad A M0 (pc, ls, st, M) := by
  obtain ⟨hx, hb, hml, hown, hts, hK, hN⟩ := C
  simp only [sy_op] at h
  split at h
  · rename_i v
    split at h
    · rename_i e
      cases h
      intro H locs a w S hl
      exact go.2 H locs a pc ⟨hd, Or.inl e⟩ w S
    · rename_i e
      cases h
      intro H locs a w S hl
      exact go.2 H locs a pc ⟨hd, Or.inr ⟨e, of_decide_eq_true go.1⟩⟩ w S
    · cases h
  · cases h
theorem sy_s_lreturn  (C : sy_C p s m args c y D cI cS) (hA : sy_ad ad A) (hd : decode (sy_mi y).2.1 pc = .ok (.lreturn, 1)) (hn : nx = pc + 1) (h : sy_op (.lreturn) nx tg z (sy_mi y) pc ls st M = some res) (go : sy_Go p l e R s m args below meth c cells slots Q y D cI cS ad A M0 M res) : sy_K p l e R s m args below meth c cells slots Q y D cI cS ad A M0 (pc, ls, st, M) := by
  obtain ⟨hx, hb, hml, hown, hts, hK, hN⟩ := C
  simp only [sy_op] at h
  split at h
  · rename_i v
    split at h
    · rename_i e
      cases h
      intro H locs a w S hl
      exact go.2 H locs a pc ⟨hd, e⟩ w S
    · cases h
  · cases h
theorem sy_s_return_  (C : sy_C p s m args c y D cI cS) (hA : sy_ad ad A) (hd : decode (sy_mi y).2.1 pc = .ok (.return_, 1)) (hn : nx = pc + 1) (h : sy_op (.return_) nx tg z (sy_mi y) pc ls st M = some res) (go : sy_Go p l e R s m args below meth c cells slots Q y D cI cS ad A M0 M res) : sy_K p l e R s m args below meth c cells slots Q y D cI cS ad A M0 (pc, ls, st, M) := by
  obtain ⟨hx, hb, hml, hown, hts, hK, hN⟩ := C
  simp only [sy_op] at h
  split at h
  · split at h
    · rename_i e
      cases h
      intro H locs a w S hl
      exact go.2 H locs a pc ⟨hd, e⟩ w S
    · cases h
  · cases h
end SYT
