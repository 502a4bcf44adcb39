/-! ===== rules of a weakest precondition over the small machine ===== -/
def Fx (d y pc : Nat) (ls : sy_Lo) (st : List Value) (M : sy_Mm) (P : Option Value → sy_Mm → Prop) : Prop := ∃ r M', Fr d y pc ls st M r M' ∧ P r M'
def Ex (d y : Nat) (as : List Value) (M : sy_Mm) (P : Option Value → sy_Mm → Prop) : Prop := Fx d y 0 (sy_en y as) [] M P
section WP
variable {d y pc : Nat} {ls : sy_Lo} {st : List Value} {M : sy_Mm} {P : Option Value → sy_Mm → Prop} {pc' t : Nat} {ls' : sy_Lo} {st' : List Value} {M1 : sy_Mm}
theorem fx_n (h : sy_step y pc ls st M = some (.inl (pc', ls', st', M1))) (k : Fx d y pc' ls' st' M1 P) : Fx d y pc ls st M P := by
  obtain ⟨r, M', k, p⟩ := k
  exact ⟨r, M', fr_n h k, p⟩
theorem fx_g {B : Prop} {inst : Decidable B} (h : sy_step y pc ls st M = some (.inr (.inl (decide B, pc', ls', st', M1)))) (hB : B) (k : Fx d y pc' ls' st' M1 P) : Fx d y pc ls st M P := by
  obtain ⟨r, M', k, p⟩ := k
  exact ⟨r, M', fr_g h hB k, p⟩
theorem fx_b {B : Prop} {inst : Decidable B} (h : sy_step y pc ls st M = some (.inr (.inr (.inl (decide B, t, pc', ls', st', M1))))) (kt : B → Fx d y t ls' st' M1 P) (kf : ¬ B → Fx d y pc' ls' st' M1 P) : Fx d y pc ls st M P := by
  by_cases hB : B
  · obtain ⟨r, M', k, p⟩ := kt hB
    exact ⟨r, M', fr_b h (fun _ => k) (fun q => absurd hB q), p⟩
  · obtain ⟨r, M', k, p⟩ := kf hB
    exact ⟨r, M', fr_b h (fun q => absurd q hB) (fun _ => k), p⟩
theorem fx_bt {B : Prop} {inst : Decidable B} (h : sy_step y pc ls st M = some (.inr (.inr (.inl (decide B, t, pc', ls', st', M1))))) (hB : B) (k : Fx d y t ls' st' M1 P) : Fx d y pc ls st M P := fx_b h (fun _ => k) (fun q => absurd hB q)
theorem fx_bf {B : Prop} {inst : Decidable B} (h : sy_step y pc ls st M = some (.inr (.inr (.inl (decide B, t, pc', ls', st', M1))))) (hB : ¬ B) (k : Fx d y pc' ls' st' M1 P) : Fx d y pc ls st M P := fx_b h (fun q => absurd q hB) (fun _ => k)
theorem fx_c {y' : Nat} {as : List Value} {P1 : Option Value → sy_Mm → Prop} (h : sy_step y pc ls st M = some (.inr (.inr (.inr (.inl (y', as, pc', ls', st', M1)))))) (hc : Ex d y' as M1 P1) (k : ∀ r1 M2, P1 r1 M2 → Fx (d + 1) y pc' ls' (r1.toList ++ st') M2 P) : Fx (d + 1) y pc ls st M P := by
  obtain ⟨r1, M2, h1, p1⟩ := hc
  obtain ⟨r, M', k, p⟩ := k r1 M2 p1
  exact ⟨r, M', fr_c h h1 k, p⟩
theorem fx_r {v : Option Value} {b : Bool} (h : sy_step y pc ls st M = some (.inr (.inr (.inr (.inr (b, v)))))) (hb : b = true) (p : P v M) : Fx d y pc ls st M P := ⟨v, M, fr_r h hb, p⟩
/-- a callee that answers v and leaves the memory -/
theorem fx_p {y' : Nat} {as : List Value} {v : Value} (h : sy_step y pc ls st M = some (.inr (.inr (.inr (.inl (y', as, pc', ls', st', M1)))))) (hc : Ev d y' as M1 (some v) M1) (k : Fx (d + 1) y pc' ls' (v :: st') M1 P) : Fx (d + 1) y pc ls st M P := by
  obtain ⟨r, M', k, p⟩ := k
  exact ⟨r, M', fr_c h hc k, p⟩
theorem ex_of {as : List Value} {v : Option Value} {M' : sy_Mm} (h : Ev d y as M v M') : Ex d y as M (fun r N => r = v ∧ N = M') := ⟨v, M', h, rfl, rfl⟩
theorem ev_of {as : List Value} {v : Option Value} {M' : sy_Mm} (h : Ex d y as M (fun r N => r = v ∧ N = M')) : Ev d y as M v M' := by
  obtain ⟨r, N, h, rfl, rfl⟩ := h
  exact h
theorem fx_w {P' : Option Value → sy_Mm → Prop} (h : Fx d y pc ls st M P') (k : ∀ r N, P' r N → P r N) : Fx d y pc ls st M P := by
  obtain ⟨r, N, h, p⟩ := h
  exact ⟨r, N, h, k _ _ p⟩
end WP
theorem up_s {M : sy_Mm} {k j : Nat} {x : Int32} : sy_up M k j x k j = x := by
  unfold sy_up
  rw [sy_row_s]
  simp [upd]
theorem up_j {M : sy_Mm} {k j i : Nat} {x : Int32} (h : i ≠ j) : sy_up M k j x k i = M k i := by
  unfold sy_up
  rw [sy_row_s]
  simp [upd, h]
theorem up_k {M : sy_Mm} {k j q : Nat} {x : Int32} (h : q ≠ k) : sy_up M k j x q = M q := sy_row_n h
theorem up_r {M : sy_Mm} {k j : Nat} {x : Int32} : sy_up M k j x k = upd (M k) j x := sy_row_s
