/-! ===== lets: what is best, and what bounds it ===== -/
abbrev St : Type := (Nat → Option Nat) × (Nat → Option Nat)
def lkN (S L : Nat) (fg : Nat → Bool) (σ : St) (N : Nat) : Nat := cnB (anyL σ.1 σ.2 L N fg S) 8
def stP (σ : St) (k N : Nat) : St := (uO σ.1 (k / 8) (some (k % 8)), uO σ.2 (k / 8) (some N))
def woB (fg : Nat → Bool) (σ : St) (s : Nat) : Bool := !fg s && decide (σ.1 s ≠ none)
def stN (S : Nat) (fg : Nat → Bool) (σ : St) : Nat := cnB (woB fg σ) S
def alR (S : Nat) (σ : St) (k : Nat) : Bool := decide (k / 8 < S) && (decide (σ.1 (k / 8) ≠ none) && decide (σ.1 (k / 8) ≠ some (k % 8)))
def alP (S : Nat) (fg : Nat → Bool) (σ : St) (k : Nat) : Bool := alR S σ k && !fg (k / 8)
def bfP (al : Nat → Bool) (f : Nat → Nat) (f0 : Nat) : Nat → Nat × Option Nat
  | 0 => (f0, none)
  | k + 1 => cond (al k && decide ((bfP al f f0 k).1 < f k)) (f k, some k) (bfP al f f0 k)
def VV (S L : Nat) (fg : Nat → Bool) : Nat → Nat → St → Nat
  | 0, _, _ => 0
  | n + 1, N, σ => (bfP (alP S fg σ) (fun k => lkN S L fg (stP σ k N) N + VV S L fg n (N + 1) (stP σ k N)) (lkN S L fg σ N + VV S L fg n (N + 1) σ) (8 * S)).1
def fK (S L : Nat) (fg : Nat → Bool) (n N : Nat) (σ : St) (k : Nat) : Nat := lkN S L fg (stP σ k N) N + VV S L fg n (N + 1) (stP σ k N)
def fO (S L : Nat) (fg : Nat → Bool) (n N : Nat) (σ : St) : Nat := lkN S L fg σ N + VV S L fg n (N + 1) σ
/-- the best of n + 1 nights, and its first theft -/
def BB (S L : Nat) (fg : Nat → Bool) (n N : Nat) (σ : St) : Nat × Option Nat := bfP (alP S fg σ) (fK S L fg n N σ) (fO S L fg n N σ) (8 * S)
theorem VV_s (S L : Nat) (fg : Nat → Bool) (n N : Nat) (σ : St) : VV S L fg (n + 1) N σ = (BB S L fg n N σ).1 := rfl
theorem cnB_pos {p : Nat → Bool} : ∀ n, 0 < cnB p n ↔ ∃ s, s < n ∧ p s = true
  | 0 => by simp [cnB]
  | n + 1 => by
    have ih := cnB_pos (p := p) n
    unfold cnB
    constructor
    · intro h
      cases hp : p n with
      | true => exact ⟨n, by omega, hp⟩
      | false =>
        rw [hp] at h
        obtain ⟨s, h1, h2⟩ := ih.mp h
        exact ⟨s, by omega, h2⟩
    · rintro ⟨s, h1, h2⟩
      by_cases e : s = n
      · subst e; rw [h2]; simp
      · have := ih.mpr ⟨s, by omega, h2⟩; omega
theorem cnB_mono {p q : Nat → Bool} : ∀ n, (∀ i, i < n → p i = true → q i = true) → cnB p n ≤ cnB q n
  | 0, _ => Nat.le_refl _
  | n + 1, h => by
    have ih := cnB_mono n (fun i hi => h i (by omega))
    unfold cnB
    cases hp : p n with
    | false => simp; omega
    | true => rw [h n (by omega) hp]; simp; omega
theorem cnB_add1 {p q : Nat → Bool} (x : Nat) : ∀ n, (∀ i, i < n → i ≠ x → p i = true → q i = true) → cnB p n ≤ cnB q n + 1
  | 0, _ => by simp [cnB]
  | n + 1, h => by
    unfold cnB
    by_cases e : n = x
    · have := cnB_mono (p := p) (q := q) n (fun i hi => h i (by omega) (by omega))
      cases p n <;> cases q n <;> simp <;> omega
    · have ih := cnB_add1 x n (fun i hi => h i (by omega))
      cases hp : p n with
      | false => simp; omega
      | true => rw [h n (by omega) e hp]; simp; omega
theorem cnB_new {p q : Nat → Bool} (x : Nat) (hp : p x = true) (hq : q x = false) : ∀ n, x < n → (∀ i, i < n → q i = true → p i = true) → cnB q n + 1 ≤ cnB p n
  | 0, h, _ => by omega
  | n + 1, h, hs => by
    unfold cnB
    by_cases e : n = x
    · subst e
      have := cnB_mono (p := q) (q := p) n (fun i hi => hs i (by omega))
      rw [hp, hq]; simp; omega
    · have ih := cnB_new x hp hq n (by omega) (fun i hi => hs i (by omega))
      cases hq2 : q n with
      | false => simp; omega
      | true => rw [hs n (by omega) hq2]; simp; omega
theorem cnB_swap {p q : Nat → Bool} (x o : Nat) {n : Nat} (ho : o < n) (hq : q o = true) (hp : p o = false) (h : ∀ i, i < n → i ≠ x → p i = true → q i = true) : cnB p n ≤ cnB q n := by
  have h1 : cnB p n ≤ cnB (fun i => q i && !decide (i = o)) n + 1 := cnB_add1 x n (fun i hi e hpi => by
    have : i ≠ o := fun e2 => by rw [e2, hp] at hpi; cases hpi
    simp [h i hi e hpi, this])
  have h2 : cnB (fun i => q i && !decide (i = o)) n + 1 ≤ cnB q n := cnB_new o hq (by simp) n ho (fun i hi z => by simp at z; exact z.1)
  omega
theorem anyL_iff {ow si : Nat → Option Nat} {L N : Nat} {fg : Nat → Bool} {S h : Nat} : anyL ow si L N fg S h = true ↔ ∃ s, s < S ∧ ow s = some h ∧ fg s = false ∧ lk1 L N (si s) = true := by
  unfold anyL
  rw [decide_eq_true_eq, cnB_pos]
  constructor
  · rintro ⟨s, h1, h2⟩
    simp only [lkp, lkS, Bool.and_eq_true, decide_eq_true_eq, Bool.not_eq_true'] at h2
    exact ⟨s, h1, h2.1, h2.2.1, h2.2.2⟩
  · rintro ⟨s, h1, h2, h3, h4⟩
    refine ⟨s, h1, ?_⟩
    simp [lkp, lkS, h2, h3, h4]
theorem bool_ext {a b : Bool} (h1 : a = true → b = true) (h2 : b = true → a = true) : a = b := by
  cases a <;> cases b <;> simp_all
theorem lkN_cg {S L : Nat} {fg : Nat → Bool} {σ τ : St} (h : ∀ s, s < S → fg s = false → σ.1 s = τ.1 s ∧ σ.2 s = τ.2 s) (N : Nat) : lkN S L fg σ N = lkN S L fg τ N := by
  refine cnB_congr 8 (fun x _ => bool_ext (fun q => ?_) (fun q => ?_))
  · obtain ⟨s, a1, a2, a3, a4⟩ := anyL_iff.mp q
    obtain ⟨b1, b2⟩ := h s a1 a3
    exact anyL_iff.mpr ⟨s, a1, by rw [← b1]; exact a2, a3, by rw [← b2]; exact a4⟩
  · obtain ⟨s, a1, a2, a3, a4⟩ := anyL_iff.mp q
    obtain ⟨b1, b2⟩ := h s a1 a3
    exact anyL_iff.mpr ⟨s, a1, by rw [b1]; exact a2, a3, by rw [b2]; exact a4⟩
theorem lk_step {S L : Nat} {fg : Nat → Bool} (σ : St) (k N i : Nat) : lkN S L fg (stP σ k N) (N + i) ≤ lkN S L fg σ (N + i) + (if i < L then 1 else 0) := by
  have key : ∀ x, anyL (stP σ k N).1 (stP σ k N).2 L (N + i) fg S x = true → (x ≠ k % 8 ∨ ¬ i < L) → anyL σ.1 σ.2 L (N + i) fg S x = true := by
    intro x q hx
    obtain ⟨s, a1, a2, a3, a4⟩ := anyL_iff.mp q
    by_cases e : s = k / 8
    · exfalso
      simp only [stP, uO, e, if_true] at a2 a4
      simp only [lk1, decide_eq_true_eq] at a4
      injection a2 with a2
      rcases hx with hx | hx
      · exact hx a2.symm
      · omega
    · simp only [stP, uO, e, if_false] at a2 a4
      exact anyL_iff.mpr ⟨s, a1, a2, a3, a4⟩
  unfold lkN
  by_cases hi : i < L
  · rw [if_pos hi]
    exact cnB_add1 (k % 8) 8 (fun x _ hx q => key x q (Or.inl hx))
  · rw [if_neg hi]
    exact cnB_mono 8 (fun x _ q => key x q (Or.inr hi))
theorem lk_st {L : Nat} {fg : Nat → Bool} (σ : St) (N : Nat) : ∀ S, lkN S L fg σ N ≤ stN S fg σ
  | 0 => by
    have : lkN 0 L fg σ N ≤ cnB (fun _ => false) 8 := cnB_mono 8 (fun x _ q => by
      obtain ⟨s, a1, _⟩ := anyL_iff.mp q; omega)
    exact this
  | S + 1 => by
    have ih := lk_st (L := L) (fg := fg) σ N S
    unfold lkN stN at ih ⊢
    show _ ≤ cnB (woB fg σ) S + cond (woB fg σ S) 1 0
    cases hw : woB fg σ S with
    | false =>
      have : cnB (anyL σ.1 σ.2 L N fg (S + 1)) 8 ≤ cnB (anyL σ.1 σ.2 L N fg S) 8 := cnB_mono 8 (fun x _ q => by
        obtain ⟨s, a1, a2, a3, a4⟩ := anyL_iff.mp q
        by_cases e : s = S
        · subst e
          simp [woB, a3, a2] at hw
        · exact anyL_iff.mpr ⟨s, by omega, a2, a3, a4⟩)
      simp; omega
    | true =>
      have : cnB (anyL σ.1 σ.2 L N fg (S + 1)) 8 ≤ cnB (anyL σ.1 σ.2 L N fg S) 8 + 1 := by
        cases ho : σ.1 S with
        | none => simp [woB, ho] at hw
        | some o =>
          exact cnB_add1 o 8 (fun x _ hx q => by
            obtain ⟨s, a1, a2, a3, a4⟩ := anyL_iff.mp q
            by_cases e : s = S
            · subst e
              rw [ho] at a2; injection a2 with a2; exact absurd a2.symm hx
            · exact anyL_iff.mpr ⟨s, by omega, a2, a3, a4⟩)
      simp; omega
theorem stN_st {S : Nat} {fg : Nat → Bool} {σ : St} {k : Nat} (h : alR S σ k = true) (N : Nat) : stN S fg (stP σ k N) = stN S fg σ := by
  refine cnB_congr S (fun s _ => ?_)
  simp only [alR, Bool.and_eq_true, decide_eq_true_eq] at h
  unfold woB stP
  by_cases e : s = k / 8
  · subst e
    simp only [uO_s]
    simp [h.2.1]
  · simp only [uO_n e]
theorem bf_t {al : Nat → Bool} {f : Nat → Nat} {f0 k : Nat} (h : al k = true) (h2 : (bfP al f f0 k).1 < f k) : bfP al f f0 (k + 1) = (f k, some k) := by
  show cond _ _ _ = _
  rw [h, decide_eq_true h2]; rfl
theorem bf_f {al : Nat → Bool} {f : Nat → Nat} {f0 k : Nat} (h : al k = false) : bfP al f f0 (k + 1) = bfP al f f0 k := by
  show cond _ _ _ = _
  rw [h]; rfl
theorem bf_l {al : Nat → Bool} {f : Nat → Nat} {f0 k : Nat} (h2 : f k ≤ (bfP al f f0 k).1) : bfP al f f0 (k + 1) = bfP al f f0 k := by
  show cond _ _ _ = _
  rw [decide_eq_false (by omega), Bool.and_false]; rfl
theorem bf_le {al : Nat → Bool} {f : Nat → Nat} {f0 C : Nat} (h0 : f0 ≤ C) (h : ∀ k, al k = true → f k ≤ C) : ∀ k, (bfP al f f0 k).1 ≤ C
  | 0 => h0
  | k + 1 => by
    have ih := bf_le h0 h k
    cases ha : al k with
    | false => rw [bf_f ha]; exact ih
    | true =>
      by_cases q : (bfP al f f0 k).1 < f k
      · rw [bf_t ha q]; exact h k ha
      · rw [bf_l (by omega)]; exact ih
theorem bf_ge0 {al : Nat → Bool} {f : Nat → Nat} {f0 : Nat} : ∀ k, f0 ≤ (bfP al f f0 k).1
  | 0 => Nat.le_refl _
  | k + 1 => by
    have ih := bf_ge0 (al := al) (f := f) (f0 := f0) k
    cases ha : al k with
    | false => rw [bf_f ha]; exact ih
    | true =>
      by_cases q : (bfP al f f0 k).1 < f k
      · rw [bf_t ha q]; show f0 ≤ f k; omega
      · rw [bf_l (by omega)]; exact ih
theorem bf_ge {al : Nat → Bool} {f : Nat → Nat} {f0 x : Nat} (hx : al x = true) : ∀ k, x < k → f x ≤ (bfP al f f0 k).1
  | 0, h => by omega
  | k + 1, h => by
    by_cases e : x = k
    · subst e
      by_cases q : (bfP al f f0 x).1 < f x
      · rw [bf_t hx q]; exact Nat.le_refl _
      · rw [bf_l (by omega)]; omega
    · have ih := bf_ge (f := f) (f0 := f0) hx k (by omega)
      cases ha : al k with
      | false => rw [bf_f ha]; exact ih
      | true =>
        by_cases q : (bfP al f f0 k).1 < f k
        · rw [bf_t ha q]; show f x ≤ f k; omega
        · rw [bf_l (by omega)]; exact ih
theorem bf_stop {al : Nat → Bool} {f : Nat → Nat} {f0 C k : Nat} (h : ∀ k, al k = true → f k ≤ C) (hk : C ≤ (bfP al f f0 k).1) : ∀ j, bfP al f f0 (k + j) = bfP al f f0 k
  | 0 => rfl
  | j + 1 => by
    have ih := bf_stop (f0 := f0) h hk j
    show bfP al f f0 (k + j + 1) = _
    cases ha : al (k + j) with
    | false => rw [bf_f ha]; exact ih
    | true => rw [bf_l (by rw [ih]; have := h _ ha; omega)]; exact ih
theorem bf_skip {al : Nat → Bool} {f : Nat → Nat} {f0 k : Nat} : ∀ j, (∀ i, i < j → al (k + i) = false) → bfP al f f0 (k + j) = bfP al f f0 k
  | 0, _ => rfl
  | j + 1, h => by
    show bfP al f f0 (k + j + 1) = _
    rw [bf_f (h j (by omega))]
    exact bf_skip j (fun i hi => h i (by omega))
theorem bf_cg {al al' : Nat → Bool} {f f' : Nat → Nat} {f0 f0' : Nat} (h0 : f0 = f0') (ha : ∀ k, al k = al' k) (hf : ∀ k, al k = true → f k = f' k) : ∀ k, bfP al f f0 k = bfP al' f' f0' k
  | 0 => by show (f0, none) = (f0', none); rw [h0]
  | k + 1 => by
    have ih := bf_cg h0 ha hf k
    show cond _ _ _ = cond _ _ _
    rw [ih, ← ha k]
    cases hq : al k with
    | false => rfl
    | true => rw [hf k hq]
/-- what is of no more use than none may be tried or not -/
theorem bf_more {al al' : Nat → Bool} {f : Nat → Nat} {f0 : Nat} (h1 : ∀ k, al k = true → al' k = true) (h2 : ∀ k, al' k = true → al k = false → f k ≤ f0) : ∀ k, bfP al' f f0 k = bfP al f f0 k
  | 0 => rfl
  | k + 1 => by
    have ih := bf_more h1 h2 k
    show cond _ _ _ = cond _ _ _
    rw [ih]
    cases ha : al k with
    | true => rw [h1 k ha]
    | false =>
      cases hb : al' k with
      | false => rfl
      | true =>
        have := h2 k hb ha
        have := bf_ge0 (al := al) (f := f) (f0 := f0) k
        rw [decide_eq_false (by omega)]; rfl
theorem stP_cg {S : Nat} {fg : Nat → Bool} {σ τ : St} (h : ∀ s, s < S → fg s = false → σ.1 s = τ.1 s ∧ σ.2 s = τ.2 s) (k N : Nat) : ∀ s, s < S → fg s = false → (stP σ k N).1 s = (stP τ k N).1 s ∧ (stP σ k N).2 s = (stP τ k N).2 s := by
  intro s hs hf
  unfold stP
  by_cases e : s = k / 8
  · subst e; exact ⟨by simp only [uO_s], by simp only [uO_s]⟩
  · simp only [uO_n e]; exact h s hs hf
theorem VV_cg {S L : Nat} {fg : Nat → Bool} : ∀ (n N : Nat) (σ τ : St), (∀ s, s < S → fg s = false → σ.1 s = τ.1 s ∧ σ.2 s = τ.2 s) → VV S L fg n N σ = VV S L fg n N τ
  | 0, _, _, _, _ => rfl
  | n + 1, N, σ, τ, h => by
    show (bfP _ _ _ _).1 = (bfP _ _ _ _).1
    congr 1
    refine bf_cg ?_ (fun k => ?_) (fun k hk => ?_) _
    · rw [lkN_cg h, VV_cg n (N + 1) σ τ h]
    · unfold alP alR
      by_cases e : k / 8 < S
      · cases hf : fg (k / 8) with
        | true => simp
        | false => rw [(h _ e hf).1]
      · simp [e]
    · show lkN S L fg (stP σ k N) N + VV S L fg n (N + 1) (stP σ k N) = lkN S L fg (stP τ k N) N + VV S L fg n (N + 1) (stP τ k N)
      rw [lkN_cg (stP_cg h k N), VV_cg n (N + 1) _ _ (stP_cg h k N)]
theorem BB_R (S L : Nat) (fg : Nat → Bool) (n N : Nat) (σ : St) (k : Nat) : bfP (alR S σ) (fK S L fg n N σ) (fO S L fg n N σ) k = bfP (alP S fg σ) (fK S L fg n N σ) (fO S L fg n N σ) k := by
  refine bf_more (fun k h => ?_) (fun k h1 h2 => ?_) k
  · simp only [alP, Bool.and_eq_true] at h; exact h.1
  · have hf : fg (k / 8) = true := by
      cases hq : fg (k / 8) with
      | true => rfl
      | false => simp [alP, h1, hq] at h2
    have hs : ∀ s, s < S → fg s = false → (stP σ k N).1 s = σ.1 s ∧ (stP σ k N).2 s = σ.2 s := by
      intro s hs hfs
      have e : s ≠ k / 8 := fun e => by rw [e, hf] at hfs; cases hfs
      exact ⟨uO_n e, uO_n e⟩
    unfold fK fO
    rw [lkN_cg hs, VV_cg n (N + 1) _ _ hs]
    exact Nat.le_refl _
/-! the ceiling -/
def mN (a b : Nat) : Nat := if a < b then a else b
theorem mN_le {a b : Nat} : mN a b ≤ a ∧ mN a b ≤ b := by unfold mN; split <;> omega
theorem mN_ge {a b c : Nat} (h1 : c ≤ a) (h2 : c ≤ b) : c ≤ mN a b := by unfold mN; split <;> omega
def gC (S L : Nat) (fg : Nat → Bool) (σ : St) (N i : Nat) : Nat := mN (lkN S L fg σ (N + i) + mN L (i + 1)) (mN 8 (stN S fg σ))
def ceS (S L : Nat) (fg : Nat → Bool) (σ : St) (N n : Nat) : Nat := dayS (gC S L fg σ N) 0 n
theorem dayS_le {f g : Nat → Nat} {a b : Nat} : ∀ j, (∀ i, i < j → f (a + i) ≤ g (b + i)) → dayS f a j ≤ dayS g b j
  | 0, _ => Nat.le_refl _
  | j + 1, h => by
    have ih := dayS_le j (fun i hi => h i (by omega))
    have := h j (by omega)
    unfold dayS
    omega
theorem VV_ce {S L : Nat} {fg : Nat → Bool} (hL : 1 ≤ L) : ∀ (n N : Nat) (σ : St), VV S L fg n N σ ≤ ceS S L fg σ N n
  | 0, _, _ => Nat.le_refl _
  | n + 1, N, σ => by
    have lk8 : ∀ (τ : St) (T : Nat), lkN S L fg τ T ≤ 8 := fun τ T => cnB_le _ 8
    have m1 : mN L 1 = 1 := by unfold mN; split <;> omega
    have one : ∀ τ : St, stN S fg τ = stN S fg σ → (∀ i, lkN S L fg τ (N + i) ≤ lkN S L fg σ (N + i) + (if i < L then 1 else 0)) → lkN S L fg τ N + VV S L fg n (N + 1) τ ≤ ceS S L fg σ N (n + 1) := by
      intro τ hst hlk
      have ih := VV_ce (S := S) (fg := fg) hL n (N + 1) τ
      unfold ceS at ih ⊢
      rw [dayS_cons]
      have hh : lkN S L fg τ N ≤ gC S L fg σ N 0 := by
        unfold gC
        refine mN_ge ?_ (mN_ge (lk8 τ N) ?_)
        · have := hlk 0
          simp only [Nat.add_zero, show 0 < L from hL, if_true] at this
          simp only [Nat.add_zero, Nat.zero_add, m1]
          exact this
        · rw [← hst]; exact lk_st τ N S
      have ht : dayS (gC S L fg τ (N + 1)) 0 n ≤ dayS (gC S L fg σ N) (0 + 1) n := by
        refine dayS_le n (fun i hi => ?_)
        rw [show 0 + i = i by omega, show 0 + 1 + i = i + 1 by omega]
        unfold gC
        rw [hst]
        refine mN_ge (Nat.le_trans mN_le.1 ?_) mN_le.2
        have := hlk (i + 1)
        rw [show N + 1 + i = N + (i + 1) by omega]
        unfold mN
        split at this <;> split <;> split <;> omega
      omega
    show (bfP _ _ _ _).1 ≤ _
    refine bf_le (one σ rfl (fun i => by omega)) (fun k hk => ?_) _
    simp only [alP, Bool.and_eq_true] at hk
    exact one (stP σ k N) (stN_st hk.1 N) (fun i => lk_step σ k N i)
/-! the last night -/
def twB (S L : Nat) (fg : Nat → Bool) (σ : St) (N x : Nat) : Bool := decide (2 ≤ cnB (lkp σ.1 σ.2 L N fg x) S)
def frB (S L : Nat) (fg : Nat → Bool) (σ : St) (N o x : Nat) : Bool := !anyL σ.1 σ.2 L N fg S x && !decide (x = o)
theorem cnB_two {p : Nat → Bool} {s : Nat} : ∀ n, 2 ≤ cnB p n → ∃ i, i < n ∧ i ≠ s ∧ p i = true
  | 0, h => by simp [cnB] at h
  | n + 1, h => by
    unfold cnB at h
    cases hp : p n with
    | false =>
      rw [hp] at h
      obtain ⟨i, h1, h2, h3⟩ := cnB_two (s := s) n h
      exact ⟨i, by omega, h2, h3⟩
    | true =>
      rw [hp] at h
      by_cases e : n = s
      · have h : 0 < cnB p n := by simp at h; omega
        obtain ⟨i, h1, h2⟩ := (cnB_pos n).mp h
        exact ⟨i, by omega, by omega, h2⟩
      · exact ⟨n, by omega, e, hp⟩
theorem two_cnB {p : Nat → Bool} {s i n : Nat} (h1 : s < n) (h2 : i < n) (hn : i ≠ s) (h3 : p s = true) (h4 : p i = true) : 2 ≤ cnB p n := by
  have a := cnB_new (p := p) (q := fun x => p x && !decide (x = s)) s h3 (by simp) n h1 (fun x hx z => by simp at z; exact z.1)
  have b : 0 < cnB (fun x => p x && !decide (x = s)) n := (cnB_pos n).mpr ⟨i, h2, by simp [h4, hn]⟩
  omega
theorem VV1_t {S L : Nat} {fg : Nat → Bool} {σ : St} {N s o x : Nat} (hL : 1 ≤ L) (hs : s < S) (ho : σ.1 s = some o) (hf : fg s = false) (hsp : lkS L N (fg s) (σ.2 s) = false ∨ twB S L fg σ N o = true) (hx : x < 8) (hfr : frB S L fg σ N o x = true) : VV S L fg 1 N σ = lkN S L fg σ N + 1 := by
  simp only [frB, Bool.and_eq_true, Bool.not_eq_true', decide_eq_false_iff_not] at hfr
  obtain ⟨h1, h2⟩ := hfr
  have e8 : (8 * s + x) / 8 = s := by omega
  have m8 : (8 * s + x) % 8 = x := by omega
  have hal : alP S fg σ (8 * s + x) = true := by
    simp only [alP, alR, e8, m8, ho, hf]
    simp [hs]
    exact fun q => h2 q.symm
  have hgain : lkN S L fg σ N + 1 ≤ lkN S L fg (stP σ (8 * s + x) N) N := by
    refine cnB_new x ?_ h1 8 hx (fun y hy q => ?_)
    · refine anyL_iff.mpr ⟨s, hs, ?_, hf, ?_⟩
      · simp only [stP, e8, m8, uO_s]
      · simp only [stP, e8, uO_s, lk1]; exact decide_eq_true (by omega)
    · obtain ⟨i, a1, a2, a3, a4⟩ := anyL_iff.mp q
      by_cases e : i = s
      · subst e
        rw [ho] at a2; injection a2 with a2
        have htw : twB S L fg σ N o = true := by
          rcases hsp with z | z
          · simp [lkS, a3, a4] at z
          · exact z
        obtain ⟨i', c1, c2, c3⟩ := cnB_two (s := i) S (of_decide_eq_true htw)
        simp only [lkp, lkS, Bool.and_eq_true, decide_eq_true_eq, Bool.not_eq_true'] at c3
        refine anyL_iff.mpr ⟨i', c1, ?_, c3.2.1, ?_⟩
        · simp only [stP, e8, uO_n c2]; rw [← a2]; exact c3.1
        · simp only [stP, e8, uO_n c2]; exact c3.2.2
      · refine anyL_iff.mpr ⟨i, a1, ?_, a3, ?_⟩
        · simp only [stP, e8, uO_n e]; exact a2
        · simp only [stP, e8, uO_n e]; exact a4
  have hge := bf_ge (f := fK S L fg 0 N σ) (f0 := fO S L fg 0 N σ) hal (8 * S) (by omega)
  have hle : VV S L fg 1 N σ ≤ lkN S L fg σ N + 1 := by
    refine bf_le (by show lkN S L fg σ N + 0 ≤ _; omega) (fun k hk => ?_) _
    have := lk_step (S := S) (L := L) (fg := fg) σ k N 0
    rw [if_pos (by omega)] at this
    exact this
  have e1 : fK S L fg 0 N σ (8 * s + x) = lkN S L fg (stP σ (8 * s + x) N) N := rfl
  rw [e1] at hge
  have e2 : VV S L fg 1 N σ = (bfP (alP S fg σ) (fK S L fg 0 N σ) (fO S L fg 0 N σ) (8 * S)).1 := rfl
  omega
theorem VV1_f {S L : Nat} {fg : Nat → Bool} {σ : St} {N : Nat} (h8 : ∀ s h, σ.1 s = some h → h < 8) (h : ∀ s o, s < S → σ.1 s = some o → fg s = false → (lkS L N (fg s) (σ.2 s) = false ∨ twB S L fg σ N o = true) → ∀ x, x < 8 → frB S L fg σ N o x = false) : VV S L fg 1 N σ = lkN S L fg σ N := by
  have hge : lkN S L fg σ N ≤ VV S L fg 1 N σ := bf_ge0 (f0 := fO S L fg 0 N σ) (8 * S)
  have hle : VV S L fg 1 N σ ≤ lkN S L fg σ N := by
    refine bf_le (Nat.le_refl _) (fun k hk => ?_) _
    show lkN S L fg (stP σ k N) N + 0 ≤ _
    rw [Nat.add_zero]
    simp only [alP, alR, Bool.and_eq_true, decide_eq_true_eq, Bool.not_eq_true'] at hk
    obtain ⟨⟨k1, k2, k3⟩, k4⟩ := hk
    cases ho : σ.1 (k / 8) with
    | none => exact absurd ho k2
    | some o =>
      have ho8 := h8 _ _ ho
      have hko : k % 8 ≠ o := fun e => k3 (by rw [ho, e])
      have other : ∀ y, y ≠ k % 8 → anyL (stP σ k N).1 (stP σ k N).2 L N fg S y = true → anyL σ.1 σ.2 L N fg S y = true := by
        intro y hy q
        obtain ⟨i, a1, a2, a3, a4⟩ := anyL_iff.mp q
        by_cases e : i = k / 8
        · subst e
          simp only [stP, uO_s] at a2
          injection a2 with a2
          exact absurd a2.symm hy
        · simp only [stP, uO_n e] at a2 a4
          exact anyL_iff.mpr ⟨i, a1, a2, a3, a4⟩
      by_cases hsp : lkS L N (fg (k / 8)) (σ.2 (k / 8)) = false ∨ twB S L fg σ N o = true
      · have hfr := h (k / 8) o k1 ho k4 hsp (k % 8) (by omega)
        have hin : anyL σ.1 σ.2 L N fg S (k % 8) = true := by
          simp only [frB, hko, decide_false, Bool.not_false, Bool.and_true, Bool.not_eq_false'] at hfr
          exact hfr
        refine cnB_mono 8 (fun y hy q => ?_)
        by_cases e : y = k % 8
        · rw [e]; exact hin
        · exact other y e q
      · have hsp1 : lkS L N (fg (k / 8)) (σ.2 (k / 8)) = true := by
          cases q : lkS L N (fg (k / 8)) (σ.2 (k / 8)) with
          | true => rfl
          | false => exact absurd (Or.inl q) hsp
        have hsp2 : ¬ 2 ≤ cnB (lkp σ.1 σ.2 L N fg o) S := fun q => hsp (Or.inr (decide_eq_true q))
        have hl1 : lk1 L N (σ.2 (k / 8)) = true := by
          simp only [lkS, Bool.and_eq_true] at hsp1; exact hsp1.2
        refine cnB_swap (k % 8) o ho8 (anyL_iff.mpr ⟨k / 8, k1, ho, k4, hl1⟩) ?_ (fun y hy e q => other y e q)
        cases q : anyL (stP σ k N).1 (stP σ k N).2 L N fg S o with
        | false => rfl
        | true =>
          exfalso
          obtain ⟨i, a1, a2, a3, a4⟩ := anyL_iff.mp q
          by_cases e : i = k / 8
          · subst e
            simp only [stP, uO_s] at a2
            injection a2 with a2
            exact hko a2
          · simp only [stP, uO_n e] at a2 a4
            exact hsp2 (two_cnB k1 a1 e (by simp [lkp, lkS, ho, k4, hl1]) (by simp [lkp, lkS, a2, a3, a4]))
  omega
