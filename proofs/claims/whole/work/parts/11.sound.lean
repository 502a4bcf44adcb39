section SYM
variable {p : Program} {l : Launch} {e : Env} {R : Room} {s : State} {m : MethodId} {args : Array Value} {below : List Frame} {meth : Method} {c : Code} {cells slots : Nat} {Q : State → Prop} {y : Nat} {D : va_G} {cI cS : ClassId} {ad : Nat → Nat} {A : Nat → Prop} {M0 : sy_Mm} {pc nx tg : Nat} {z : Int32} {ls : sy_Lo} {st : List Value} {M : sy_Mm} {res : sy_Rs}
theorem sy_snd (C : sy_C p s m args c y D cI cS) (hA : sy_ad ad A) (hX : sy_X ad A M0 s) (hR : sy_Rm R cells slots) {i : Instr} (hlk : sy_lk (sy_mi y).1 pc = some (i, nx, tg, z)) (h : sy_op i nx tg z (sy_mi y) pc ls st M = some res) (go : sy_Go p l e R s m args below meth c cells slots Q y D cI cS ad A M0 M res) : sy_K p l e R s m args below meth c cells slots Q y D cI cS ad A M0 (pc, ls, st, M) := by
  obtain ⟨hd, hlt, ht, hlen⟩ := sy_dec hlk
  cases i
  case tableswitch dflt lo hi offs => exact sy_s_tableswitch C hd h go
  case iconst n =>
    have hn : nx = pc + 1 := hlen.resolve_left (fun q => by cases q)
    have e9 : nx - pc = 1 := by omega
    rw [e9] at hd
    exact sy_s_iconst C hd hn ht h go
  case bipush n =>
    have hn : nx = pc + 2 := hlen.resolve_left (fun q => by cases q)
    have e9 : nx - pc = 2 := by omega
    rw [e9] at hd
    exact sy_s_bipush C hd hn ht h go
  case sipush n =>
    have hn : nx = pc + 3 := hlen.resolve_left (fun q => by cases q)
    have e9 : nx - pc = 3 := by omega
    rw [e9] at hd
    exact sy_s_sipush C hd hn ht h go
  case iinc k n =>
    have hn : nx = pc + 3 := hlen.resolve_left (fun q => by cases q)
    have e9 : nx - pc = 3 := by omega
    rw [e9] at hd
    exact sy_s_iinc C hd hn ht h go
  case goto off =>
    have hn : nx = pc + 3 := hlen.resolve_left (fun q => by cases q)
    have e9 : nx - pc = 3 := by omega
    rw [e9] at hd
    exact sy_s_goto C hd hn ht h go
  case lconst n =>
    have hn : nx = pc + 1 := hlen.resolve_left (fun q => by cases q)
    have e9 : nx - pc = 1 := by omega
    rw [e9] at hd
    exact sy_s_lconst C hd hn h go
  case ldc k =>
    have hn : nx = pc + 2 := hlen.resolve_left (fun q => by cases q)
    have e9 : nx - pc = 2 := by omega
    rw [e9] at hd
    exact sy_s_ldc C hd hn h go
  case ldc_w k =>
    have hn : nx = pc + 3 := hlen.resolve_left (fun q => by cases q)
    have e9 : nx - pc = 3 := by omega
    rw [e9] at hd
    exact sy_s_ldc_w C hd hn h go
  case ldc2_w k =>
    have hn : nx = pc + 3 := hlen.resolve_left (fun q => by cases q)
    have e9 : nx - pc = 3 := by omega
    rw [e9] at hd
    exact sy_s_ldc2_w C hd hn h go
  case iload k =>
    have hn : nx = pc + 2 := hlen.resolve_left (fun q => by cases q)
    have e9 : nx - pc = 2 := by omega
    rw [e9] at hd
    exact sy_s_iload C hd hn h go
  case lload k =>
    have hn : nx = pc + 2 := hlen.resolve_left (fun q => by cases q)
    have e9 : nx - pc = 2 := by omega
    rw [e9] at hd
    exact sy_s_lload C hd hn h go
  case aload k =>
    have hn : nx = pc + 2 := hlen.resolve_left (fun q => by cases q)
    have e9 : nx - pc = 2 := by omega
    rw [e9] at hd
    exact sy_s_aload C hd hn h go
  case istore k =>
    have hn : nx = pc + 2 := hlen.resolve_left (fun q => by cases q)
    have e9 : nx - pc = 2 := by omega
    rw [e9] at hd
    exact sy_s_istore C hd hn h go
  case lstore k =>
    have hn : nx = pc + 2 := hlen.resolve_left (fun q => by cases q)
    have e9 : nx - pc = 2 := by omega
    rw [e9] at hd
    exact sy_s_lstore C hd hn h go
  case astore k =>
    have hn : nx = pc + 2 := hlen.resolve_left (fun q => by cases q)
    have e9 : nx - pc = 2 := by omega
    rw [e9] at hd
    exact sy_s_astore C hd hn h go
  case iload_n k =>
    have hn : nx = pc + 1 := hlen.resolve_left (fun q => by cases q)
    have e9 : nx - pc = 1 := by omega
    rw [e9] at hd
    exact sy_s_iload_n C hd hn h go
  case lload_n k =>
    have hn : nx = pc + 1 := hlen.resolve_left (fun q => by cases q)
    have e9 : nx - pc = 1 := by omega
    rw [e9] at hd
    exact sy_s_lload_n C hd hn h go
  case aload_n k =>
    have hn : nx = pc + 1 := hlen.resolve_left (fun q => by cases q)
    have e9 : nx - pc = 1 := by omega
    rw [e9] at hd
    exact sy_s_aload_n C hd hn h go
  case istore_n k =>
    have hn : nx = pc + 1 := hlen.resolve_left (fun q => by cases q)
    have e9 : nx - pc = 1 := by omega
    rw [e9] at hd
    exact sy_s_istore_n C hd hn h go
  case lstore_n k =>
    have hn : nx = pc + 1 := hlen.resolve_left (fun q => by cases q)
    have e9 : nx - pc = 1 := by omega
    rw [e9] at hd
    exact sy_s_lstore_n C hd hn h go
  case astore_n k =>
    have hn : nx = pc + 1 := hlen.resolve_left (fun q => by cases q)
    have e9 : nx - pc = 1 := by omega
    rw [e9] at hd
    exact sy_s_astore_n C hd hn h go
  case iadd  =>
    have hn : nx = pc + 1 := hlen.resolve_left (fun q => by cases q)
    have e9 : nx - pc = 1 := by omega
    rw [e9] at hd
    exact sy_s_iadd C hd hn h go
  case isub  =>
    have hn : nx = pc + 1 := hlen.resolve_left (fun q => by cases q)
    have e9 : nx - pc = 1 := by omega
    rw [e9] at hd
    exact sy_s_isub C hd hn h go
  case imul  =>
    have hn : nx = pc + 1 := hlen.resolve_left (fun q => by cases q)
    have e9 : nx - pc = 1 := by omega
    rw [e9] at hd
    exact sy_s_imul C hd hn h go
  case iand  =>
    have hn : nx = pc + 1 := hlen.resolve_left (fun q => by cases q)
    have e9 : nx - pc = 1 := by omega
    rw [e9] at hd
    exact sy_s_iand C hd hn h go
  case ior  =>
    have hn : nx = pc + 1 := hlen.resolve_left (fun q => by cases q)
    have e9 : nx - pc = 1 := by omega
    rw [e9] at hd
    exact sy_s_ior C hd hn h go
  case ixor  =>
    have hn : nx = pc + 1 := hlen.resolve_left (fun q => by cases q)
    have e9 : nx - pc = 1 := by omega
    rw [e9] at hd
    exact sy_s_ixor C hd hn h go
  case ishl  =>
    have hn : nx = pc + 1 := hlen.resolve_left (fun q => by cases q)
    have e9 : nx - pc = 1 := by omega
    rw [e9] at hd
    exact sy_s_ishl C hd hn h go
  case ishr  =>
    have hn : nx = pc + 1 := hlen.resolve_left (fun q => by cases q)
    have e9 : nx - pc = 1 := by omega
    rw [e9] at hd
    exact sy_s_ishr C hd hn h go
  case iushr  =>
    have hn : nx = pc + 1 := hlen.resolve_left (fun q => by cases q)
    have e9 : nx - pc = 1 := by omega
    rw [e9] at hd
    exact sy_s_iushr C hd hn h go
  case ladd  =>
    have hn : nx = pc + 1 := hlen.resolve_left (fun q => by cases q)
    have e9 : nx - pc = 1 := by omega
    rw [e9] at hd
    exact sy_s_ladd C hd hn h go
  case lsub  =>
    have hn : nx = pc + 1 := hlen.resolve_left (fun q => by cases q)
    have e9 : nx - pc = 1 := by omega
    rw [e9] at hd
    exact sy_s_lsub C hd hn h go
  case lmul  =>
    have hn : nx = pc + 1 := hlen.resolve_left (fun q => by cases q)
    have e9 : nx - pc = 1 := by omega
    rw [e9] at hd
    exact sy_s_lmul C hd hn h go
  case lcmp  =>
    have hn : nx = pc + 1 := hlen.resolve_left (fun q => by cases q)
    have e9 : nx - pc = 1 := by omega
    rw [e9] at hd
    exact sy_s_lcmp C hd hn h go
  case i2l  =>
    have hn : nx = pc + 1 := hlen.resolve_left (fun q => by cases q)
    have e9 : nx - pc = 1 := by omega
    rw [e9] at hd
    exact sy_s_i2l C hd hn h go
  case i2b  =>
    have hn : nx = pc + 1 := hlen.resolve_left (fun q => by cases q)
    have e9 : nx - pc = 1 := by omega
    rw [e9] at hd
    exact sy_s_i2b C hd hn h go
  case i2s  =>
    have hn : nx = pc + 1 := hlen.resolve_left (fun q => by cases q)
    have e9 : nx - pc = 1 := by omega
    rw [e9] at hd
    exact sy_s_i2s C hd hn h go
  case idiv  =>
    have hn : nx = pc + 1 := hlen.resolve_left (fun q => by cases q)
    have e9 : nx - pc = 1 := by omega
    rw [e9] at hd
    exact sy_s_idiv C hd hn h go
  case irem  =>
    have hn : nx = pc + 1 := hlen.resolve_left (fun q => by cases q)
    have e9 : nx - pc = 1 := by omega
    rw [e9] at hd
    exact sy_s_irem C hd hn h go
  case ldiv  =>
    have hn : nx = pc + 1 := hlen.resolve_left (fun q => by cases q)
    have e9 : nx - pc = 1 := by omega
    rw [e9] at hd
    exact sy_s_ldiv C hd hn h go
  case lrem  =>
    have hn : nx = pc + 1 := hlen.resolve_left (fun q => by cases q)
    have e9 : nx - pc = 1 := by omega
    rw [e9] at hd
    exact sy_s_lrem C hd hn h go
  case dup  =>
    have hn : nx = pc + 1 := hlen.resolve_left (fun q => by cases q)
    have e9 : nx - pc = 1 := by omega
    rw [e9] at hd
    exact sy_s_dup C hd hn h go
  case dup2  =>
    have hn : nx = pc + 1 := hlen.resolve_left (fun q => by cases q)
    have e9 : nx - pc = 1 := by omega
    rw [e9] at hd
    exact sy_s_dup2 C hd hn h go
  case pop  =>
    have hn : nx = pc + 1 := hlen.resolve_left (fun q => by cases q)
    have e9 : nx - pc = 1 := by omega
    rw [e9] at hd
    exact sy_s_pop C hd hn h go
  case getfield k =>
    have hn : nx = pc + 3 := hlen.resolve_left (fun q => by cases q)
    have e9 : nx - pc = 3 := by omega
    rw [e9] at hd
    exact sy_s_getfield C hA hd hn h go
  case putfield k =>
    have hn : nx = pc + 3 := hlen.resolve_left (fun q => by cases q)
    have e9 : nx - pc = 3 := by omega
    rw [e9] at hd
    exact sy_s_putfield C hA hd hn h go
  case iastore  =>
    have hn : nx = pc + 1 := hlen.resolve_left (fun q => by cases q)
    have e9 : nx - pc = 1 := by omega
    rw [e9] at hd
    exact sy_s_iastore C hA hd hn h go
  case aaload  =>
    have hn : nx = pc + 1 := hlen.resolve_left (fun q => by cases q)
    have e9 : nx - pc = 1 := by omega
    rw [e9] at hd
    exact sy_s_aaload C hA hd hn h go
  case ireturn  =>
    have hn : nx = pc + 1 := hlen.resolve_left (fun q => by cases q)
    have e9 : nx - pc = 1 := by omega
    rw [e9] at hd
    exact sy_s_ireturn C hA hd hn h go
  case lreturn  =>
    have hn : nx = pc + 1 := hlen.resolve_left (fun q => by cases q)
    have e9 : nx - pc = 1 := by omega
    rw [e9] at hd
    exact sy_s_lreturn C hA hd hn h go
  case return_  =>
    have hn : nx = pc + 1 := hlen.resolve_left (fun q => by cases q)
    have e9 : nx - pc = 1 := by omega
    rw [e9] at hd
    exact sy_s_return_ C hA hd hn h go
  case iaload  =>
    have hn : nx = pc + 1 := hlen.resolve_left (fun q => by cases q)
    have e9 : nx - pc = 1 := by omega
    rw [e9] at hd
    exact sy_s_iaload C hA hd hn hX h go
  case arraylength  =>
    have hn : nx = pc + 1 := hlen.resolve_left (fun q => by cases q)
    have e9 : nx - pc = 1 := by omega
    rw [e9] at hd
    exact sy_s_arraylength C hA hd hn hX h go
  case invokevirtual k =>
    have hn : nx = pc + 3 := hlen.resolve_left (fun q => by cases q)
    have e9 : nx - pc = 3 := by omega
    rw [e9] at hd
    exact sy_s_invokevirtual C hA hd hn hX hR h go
  case invokestatic k =>
    have hn : nx = pc + 3 := hlen.resolve_left (fun q => by cases q)
    have e9 : nx - pc = 3 := by omega
    rw [e9] at hd
    exact sy_s_invokestatic C hA hd hn hX hR h go
  case ifCond cnd off =>
    have hn : nx = pc + 3 := hlen.resolve_left (fun q => by cases q)
    have e9 : nx - pc = 3 := by omega
    rw [e9] at hd
    cases cnd
    · exact sy_s_if_eq C hd hn ht h go
    · exact sy_s_if_ne C hd hn ht h go
    · exact sy_s_if_lt C hd hn ht h go
    · exact sy_s_if_ge C hd hn ht h go
    · exact sy_s_if_gt C hd hn ht h go
    · exact sy_s_if_le C hd hn ht h go

  case if_icmp cnd off =>
    have hn : nx = pc + 3 := hlen.resolve_left (fun q => by cases q)
    have e9 : nx - pc = 3 := by omega
    rw [e9] at hd
    cases cnd
    · exact sy_s_icmp_eq C hd hn ht h go
    · exact sy_s_icmp_ne C hd hn ht h go
    · exact sy_s_icmp_lt C hd hn ht h go
    · exact sy_s_icmp_ge C hd hn ht h go
    · exact sy_s_icmp_gt C hd hn ht h go
    · exact sy_s_icmp_le C hd hn ht h go

  all_goals cases h
theorem sy_step_spec (h : sy_step y pc ls st M = some res) : ∃ (i : Instr) (nx tg : Nat) (z : Int32), sy_lk (sy_mi y).1 pc = some (i, nx, tg, z) ∧ sy_op i nx tg z (sy_mi y) pc ls st M = some res := by
  unfold sy_step at h
  split at h
  · cases h
  · rename_i i nx tg z e
    exact ⟨i, nx, tg, z, e, h⟩
end SYM
/-- a method's contract out of its run in the small machine, where the frame's law is given -/
def sy_FLp (l : Launch) (n : Nat) : Prop := ∀ (d y pc : Nat) (ls : sy_Lo) (st : List Value) (M : sy_Mm) (r : Option Value) (M' : sy_Mm), sy_run n d y pc ls st M = some (r, M') → ∀ (p : Program) (e : Env) (R : Room) (s : State) (m : MethodId) (args : Array Value) (below : List Frame) (meth : Method) (c : Code) (cells slots : Nat) (Q : State → Prop) (D : va_G) (cI cS : ClassId) (ad : Nat → Nat) (A : Nat → Prop) (M0 : sy_Mm), sy_C p s m args c y D cI cS → sy_ad ad A → sy_X ad A M0 s → d + 2 ≤ R.frames → 64 * (d + 2) ≤ R.locals → cells ≤ R.cells → slots ≤ R.slots → sy_Ex p l e R s m args below meth c cells slots Q y D cI cS ad A M0 r M' → sy_K p l e R s m args below meth c cells slots Q y D cI cS ad A M0 (pc, ls, st, M)
theorem sy_hl_entry {ad : Nat → Nat} {as : List Value} {n : Nat} (h : sy_cs as ≤ n) : sy_hl ad ((lg_sl (as.map (sy_cv ad)) ++ List.replicate (n - (lg_sl (as.map (sy_cv ad))).length) Slot.unset).toArray) n (sy_pad (sy_ent as) n) := by
  have hl := lv_entry (as.map (sy_cv ad)) (n := n) (by rw [sy_cs_len]; exact h)
  refine ⟨hl.1, hl.2.1, fun k v hk => ?_⟩
  have h1 := sy_ent_get ad as 0 k v (sy_pad_get _ _ _ _ hk)
  rw [Nat.zero_add] at h1
  exact hl.2.2 _ h1
theorem sy_met {l : Launch} {n : Nat} (FL : sy_FLp l n) {d y : Nat} {as : List Value} {M : sy_Mm} {r : Option Value} {M' : sy_Mm} (h11 : ¬ (sy_mi y).2.2.2.2.1 = 11) (hcs : sy_cs as ≤ (sy_mi y).2.2.1) (h : sy_run n d y 0 (sy_en y as) [] M = some (r, M')) : sy_Mt l d y as M r M' := by
  intro D cI cS ad hA
  obtain ⟨⟨o1, o2⟩, o3, o4, o5, o6, o7⟩ := sy_mOK y
  refine Met.ofW (cc := (sy_mi y).2.1) (maxL := (sy_mi y).2.2.1) (ret := (sy_mi y).2.2.2.1) o4 rfl ?_
  intro p e s m args below meth c s₁ B hml hv
  obtain ⟨rfl, hP, hK, hN, hX⟩ := hv
  have hx := B.exec
  have hb := B.bytes
  have hr := B.returns
  have hts := atoms_spec (ws := sy_wd y) B.pre
  have hown : s.vm.findClass (sy_mi y).2.2.2.2.2.2.2.cls = some m.cls := findClass_of_methodNamed B.named
  have hlocks := B.notSynchronized
  have C : sy_C p s m (as.map (sy_cv ad)).toArray c y D cI cS := ⟨hx, hb, hml, by rw [o6]; exact hown, fun w hw => hts w (List.mem_cons_of_mem _ hw), hK, hN⟩
  rw [lg_entry_eq]
  refine FL d y 0 (sy_en y as) [] M r M' h p e (headSpec (sy_wd y) (sy_rm d)).room s m _ below meth c 0 0 _ D cI cS ad (sy_in2 ad) M C hA hX (Nat.le_refl _) (Nat.le_refl _) (Nat.zero_le _) (Nat.zero_le _) ?_ s.heap [] _ ⟨hP, rfl, rfl⟩ va_S.rf (sy_hl_entry hcs)
  intro H locs a pc hrt w S
  have post : ∀ (v : Option Value) (t : State), v = r → t.heap = H → sy_Qc D cI cS ad M r M' (as.map (sy_cv ad)).toArray s (.returned (v.map (sy_cv ad))) t := fun v t hv ht => ⟨by rw [hv], ⟨by rw [ht]; exact w.1, w.2⟩, S.F ht⟩
  match r, hrt, post with
  | some (.int x), hrt, post =>
    obtain ⟨hd, hk | ⟨hk, hz⟩⟩ := hrt
    · exact W.iret (v := x) hx hb (hr.trans hk) (fun t ht _ => post (some (.int x)) t rfl ht) (fun q hq => S.2.2 q hq) hd
    · refine W.zret (v := x) (ty := .boolean) hx hb (hr.trans hk) ?_ (fun t ht _ => post (some (.int x)) t rfl ht) (fun q hq => S.2.2 q hq) hd
      rcases hz with rfl | rfl <;> decide +kernel
  | some (.long x), hrt, post => exact W.lret (v := x) hx hb (hr.trans hrt.2) (fun t ht _ => post (some (.long x)) t rfl ht) (fun q hq => S.2.2 q hq) hrt.1
  | none, hrt, post => exact W.vret hx hb (hr.trans hrt.2) (fun t ht _ => post none t rfl ht) (fun q hq => S.2.2 q hq) hrt.1
  | some (.float _), hrt, post => exact hrt.elim
  | some (.double _), hrt, post => exact hrt.elim
  | some .null, hrt, post => exact hrt.elim
  | some (.ref _), hrt, post => exact hrt.elim
  | some (.retAddr _), hrt, post => exact hrt.elim
theorem sy_FL (l : Launch) : ∀ n : Nat, sy_FLp l n := by
  intro n
  induction n with
  | zero => intro d y pc ls st M r M' h; simp [sy_run] at h
  | succ n ih =>
    intro d y pc ls st M r M' h p e R s m args below meth c cells slots Q D cI cS ad A M0 C hA hX h1 h2 h3 h4 hEx
    have hR : sy_Rm R cells slots := ⟨by omega, by omega, h3, h4⟩
    unfold sy_run at h
    cases hs : sy_step y pc ls st M with
    | none => rw [hs] at h; cases h
    | some res =>
      rw [hs] at h
      obtain ⟨i, nx, tg, z, hlk, hop⟩ := sy_step_spec hs
      refine sy_snd C hA hX hR hlk hop ?_
      rcases res with ⟨pc', ls', st', M1⟩ | ⟨b, pc', ls', st', M1⟩ | ⟨b, t, pc', ls', st', M1⟩ | ⟨y', as, pc', ls', st', M1⟩ | ⟨b, v⟩
      · exact ih d y pc' ls' st' M1 r M' h p e R s m args below meth c cells slots Q D cI cS ad A M0 C hA hX h1 h2 h3 h4 hEx
      · cases b
        · cases h
        · exact ⟨rfl, ih d y pc' ls' st' M1 r M' h p e R s m args below meth c cells slots Q D cI cS ad A M0 C hA hX h1 h2 h3 h4 hEx⟩
      · cases b
        · exact ⟨fun q => (by cases q), fun _ => ih d y pc' ls' st' M1 r M' h p e R s m args below meth c cells slots Q D cI cS ad A M0 C hA hX h1 h2 h3 h4 hEx⟩
        · exact ⟨fun _ => ih d y t ls' st' M1 r M' h p e R s m args below meth c cells slots Q D cI cS ad A M0 C hA hX h1 h2 h3 h4 hEx, fun q => (by cases q)⟩
      · cases d with
        | zero => cases h
        | succ d =>
          dsimp only at h
          cases q : sy_run n d y' 0 (sy_en y' as) [] M1 with
          | none => rw [q] at h; cases h
          | some w =>
            rw [q] at h
            obtain ⟨r1, M2⟩ := w
            intro hcm h11
            exact ⟨d, r1, M2, by omega, by omega, sy_met ih h11 hcm q, ih (d + 1) y pc' ls' (r1.toList ++ st') M2 r M' h p e R s m args below meth c cells slots Q D cI cS ad A M0 C hA hX h1 h2 h3 h4 hEx⟩
      · cases b
        · cases h
        · cases h
          exact ⟨rfl, hEx⟩
