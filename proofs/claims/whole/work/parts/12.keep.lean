/-! what lies beyond the cells (the script) no run changes -/
def rsM : sy_Rs → Option sy_Mm
  | .inl N => some N.2.2.2
  | .inr (.inl (_, N)) => some N.2.2.2
  | .inr (.inr (.inl (_, _, N))) => some N.2.2.2
  | .inr (.inr (.inr (.inl (_, _, N)))) => some N.2.2.2
  | .inr (.inr (.inr (.inr _))) => none
theorem sy_fld_lt {a ci j : Nat} {o : Option Nat} (h : sy_fld a ci j = some o) : a < 46 := by
  obtain ⟨fs, C, T, N, h1, -⟩ := sy_fld_spec h
  exact sy_nt_lt h1
theorem sy_op_keep {i : Instr} {nx tg : Nat} {z : Int32} {mi : sy_MI} {pc : Nat} {ls : sy_Lo} {st : List Value} {M : sy_Mm} {res : sy_Rs} (h : sy_op i nx tg z mi pc ls st M = some res) : ∀ N, rsM res = some N → ∀ k, 46 ≤ k → N k = M k := by
  intro N hN k hk
  cases i
  case putfield q =>
    simp only [sy_op] at h
    split at h
    · split at h
      · split at h
        · rename_i e
          cases h; cases hN
          have := sy_fld_lt e
          exact sy_row_n (by omega)
        · cases h
      · cases h
    · cases h
  case iastore =>
    simp only [sy_op] at h
    split at h
    · split at h
      · rename_i e
        cases h; cases hN
        have := sy_nt_lt e
        exact sy_row_n (by omega)
      · cases h
    · cases h
  case invokestatic q =>
    simp only [sy_op] at h
    split at h
    · rename_i y' kd ek
      cases zk : Nat.beq kd 2 with
      | true =>
        rw [zk] at h
        dsimp only [cond] at h
        split at h
        · split at h
          · rename_i e1 e2
            split at h
            · cases h; cases hN
              have := sy_nt_lt e2
              exact sy_row_n (by omega)
            · cases h
          · cases h
        · cases h
      | false =>
        rw [zk] at h
        dsimp only [cond] at h
        cases zk3 : Nat.beq kd 3 with
        | true =>
          rw [zk3] at h
          dsimp only [cond] at h
          split at h
          · split at h
            · cases h; cases hN; rfl
            · cases h
          · cases h
        | false =>
          rw [zk3] at h
          dsimp only [cond] at h
          split at h
          · obtain ⟨-, -, -, -, rfl⟩ := sy_call_spec h
            cases hN; rfl
          · cases h
    · cases h
  case invokevirtual q =>
    simp only [sy_op] at h
    split at h
    · rename_i y' kd ek
      cases zk : Nat.beq kd 0 with
      | false => rw [zk] at h; cases h
      | true =>
        rw [zk] at h
        dsimp only [cond] at h
        split at h
        · obtain ⟨-, -, -, -, rfl⟩ := sy_call_spec h
          cases hN; rfl
        · cases h
    · cases h
  case ifCond c off => cases c <;> simp only [sy_op] at h <;> split at h <;> first | (cases h; cases hN; rfl) | cases h
  case if_icmp c off => cases c <;> simp only [sy_op] at h <;> split at h <;> first | (cases h; cases hN; rfl) | cases h
  case lconst n =>
    match n, h with
    | ⟨0, _⟩, h => cases h; cases hN; rfl
    | ⟨1, _⟩, h => cases h; cases hN; rfl
  all_goals first | (cases h; done) | (cases h; cases hN; rfl) | (simp only [sy_op, sy_ld1, sy_ld2, sy_lda, sy_st1, sy_st2, sy_sta] at h; repeat' (split at h)) <;> first | (cases h; done) | (cases h; cases hN; rfl) | (cases h; cases hN; done) | (cases hc : Nat.blt _ _ <;> rw [hc] at h <;> first | (cases h; done) | (cases h; cases hN; rfl)) | (cases hc : Nat.beq _ 99 <;> rw [hc] at h <;> first | (cases h; done) | (cases h; cases hN; rfl)) | skip
theorem sy_run_keep : ∀ (n d y pc : Nat) (ls : sy_Lo) (st : List Value) (M : sy_Mm) (r : Option Value) (M' : sy_Mm), sy_run n d y pc ls st M = some (r, M') → ∀ k, 46 ≤ k → M' k = M k := by
  intro n
  induction n with
  | zero => intro d y pc ls st M r M' h; simp [sy_run] at h
  | succ n ih =>
    intro d y pc ls st M r M' h k hk
    unfold sy_run at h
    cases hs : sy_step y pc ls st M with
    | none => rw [hs] at h; cases h
    | some res =>
      rw [hs] at h
      obtain ⟨i, nx, tg, z, hlk, hop⟩ := sy_step_spec hs
      have hk1 := sy_op_keep hop
      rcases res with ⟨pc', ls', st', M1⟩ | ⟨b, pc', ls', st', M1⟩ | ⟨b, t, pc', ls', st', M1⟩ | ⟨y', as, pc', ls', st', M1⟩ | ⟨b, v⟩
      · exact (ih _ _ _ _ _ _ _ _ h k hk).trans (hk1 M1 rfl k hk)
      · cases b
        · cases h
        · exact (ih _ _ _ _ _ _ _ _ h k hk).trans (hk1 M1 rfl k hk)
      · cases b
        · exact (ih _ _ _ _ _ _ _ _ h k hk).trans (hk1 M1 rfl k hk)
        · exact (ih _ _ _ _ _ _ _ _ h k hk).trans (hk1 M1 rfl k hk)
      · cases d with
        | zero => cases h
        | succ d =>
          dsimp only at h
          cases q : sy_run n d y' 0 (sy_en y' as) [] M1 with
          | none => rw [q] at h; cases h
          | some w =>
            rw [q] at h
            obtain ⟨r1, M2⟩ := w
            exact ((ih _ _ _ _ _ _ _ _ h k hk).trans (ih _ _ _ _ _ _ _ _ q k hk)).trans (hk1 M1 rfl k hk)
      · cases b
        · cases h
        · cases h; rfl
theorem fr_keep {d y pc : Nat} {ls : sy_Lo} {st : List Value} {M : sy_Mm} {r : Option Value} {M' : sy_Mm} (h : Fr d y pc ls st M r M') : ∀ k, 46 ≤ k → M' k = M k := by
  obtain ⟨n, h⟩ := h
  exact sy_run_keep _ _ _ _ _ _ _ _ _ h
