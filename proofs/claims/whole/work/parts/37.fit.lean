/-! ===== fitting ===== -/
theorem and_nI {a : Nat} (h : a < 512) (y : Int32) : nI a &&& y = nI (a &&& y.toBitVec.toNat) := by
  have h2 : a &&& y.toBitVec.toNat ≤ a := Nat.and_le_left
  apply Int32.toBitVec_inj.mp
  apply BitVec.eq_of_toNat_eq
  rw [Int32.toBitVec_and, BitVec.toNat_and, pk_tn (by omega), pk_tn (by omega)]
def pcA (a : Nat) (y : Int32) : Nat := pcn (a &&& y.toBitVec.toNat)
theorem and_512 {a : Nat} (h : a < 512) (b : Nat) : a &&& b < 512 := Nat.lt_of_le_of_lt Nat.and_le_left h
theorem ev_bitA (d : Nat) (M : sy_Mm) {a : Nat} (h : a < 512) (y : Int32) : Ev d i_J6_bitCount [.int (nI a &&& y)] M (some (.int (nI (pcA a y)))) M := by
  rw [and_nI h]; exact ev_bitCount d M _ (and_512 h _)
theorem em_onesA (d : Nat) (M : sy_Mm) {a : Nat} (h : a < 512) (y : Int32) : Ev d i_X8_ones [.int (nI a &&& y)] M (some (.int (nI (pcA a y)))) M := by
  rw [and_nI h]; exact em_ones d M _ (and_512 h _)
theorem pcn_le (n : Nat) : pcn n ≤ 9 := by unfold pcn; omega
def alB (p : Nat → Bool) : Nat → Bool
  | 0 => true
  | n + 1 => alB p n && p n
theorem alB_f {p : Nat → Bool} {i : Nat} (h : p i = false) : ∀ n, i < n → alB p n = false
  | 0, h2 => by omega
  | n + 1, h2 => by
    unfold alB
    by_cases e : i = n
    · subst e; rw [h]; simp
    · rw [alB_f h n (by omega)]; rfl
/-- the sets of forged stones tried so far: how many come out, the least, those in all, those in none -/
def fsS (fit : Nat → Bool) (all : Int32) : Nat → Nat × Int32 × Int32 × Int32
  | 0 => (0, -1, all, all)
  | x + 1 => cond (fit x) ((fsS fit all x).1 + 1, (if (fsS fit all x).1 = 0 then nI x else (fsS fit all x).2.1), (fsS fit all x).2.2.1 &&& nI x, (fsS fit all x).2.2.2 &&& (nI x ^^^ (-1))) (fsS fit all x)
theorem fsS_t {fit : Nat → Bool} {all : Int32} {x : Nat} (h : fit x = true) : fsS fit all (x + 1) = ((fsS fit all x).1 + 1, (if (fsS fit all x).1 = 0 then nI x else (fsS fit all x).2.1), (fsS fit all x).2.2.1 &&& nI x, (fsS fit all x).2.2.2 &&& (nI x ^^^ (-1))) := by
  show cond _ _ _ = _
  rw [h]; rfl
theorem fsS_f {fit : Nat → Bool} {all : Int32} {x : Nat} (h : fit x = false) : fsS fit all (x + 1) = fsS fit all x := by
  show cond _ _ _ = _
  rw [h]; rfl
theorem fsS_ok (fit : Nat → Bool) (all : Int32) : ∀ x, x ≤ 512 → (fsS fit all x).1 ≤ x ∧ ((fsS fit all x).1 = 0 ↔ (fsS fit all x).2.1 = -1)
  | 0, _ => ⟨Nat.le_refl _, by simp [fsS]⟩
  | x + 1, hx => by
    obtain ⟨h1, h2⟩ := fsS_ok fit all x (by omega)
    cases hf : fit x with
    | false => rw [fsS_f hf]; exact ⟨by omega, h2⟩
    | true =>
      rw [fsS_t hf]
      refine ⟨by show _ + 1 ≤ _; omega, ?_⟩
      show (_ + 1 = 0) ↔ (if (fsS fit all x).1 = 0 then nI x else (fsS fit all x).2.1) = -1
      constructor
      · intro q; omega
      · intro q
        exfalso
        split at q
        · exact nI_ne_m1 (by omega) q
        · rename_i z; exact z (h2.mpr q)
def ftS (q : Nat × Int32 × Int32 × Int32) (w : Int32) : Int32 := if w = 0 then nI q.1 else if q.1 = 0 then -1 else if w = 1 then q.2.1 else if w = 2 then q.2.2.1 else q.2.2.2
/-- the stones that were lucky, were they real, at a line of the books -/
def wdS (S L : Nat) (h0 : Nat → Nat) (E : Evs) (ne : Nat) (B : Evs) (b : Nat) : Nat := bN (fun s => decide ((yF S h0 E none (B b 1) ne).1 s = some (B b 0)) && lk1 L (B b 1) ((yF S h0 E none (B b 1) ne).2.1 s)) S
def fpB (S L : Nat) (h0 : Nat → Nat) (E : Evs) (ne : Nat) (B : Evs) (x b : Nat) : Bool := decide (1 + 2 * pcA (wdS S L h0 E ne B b) (nI x ^^^ (-1)) = B b 2)
def fiT (S L : Nat) (h0 : Nat → Nat) (E : Evs) (ne : Nat) (B : Evs) (nb : Nat) : Nat × Int32 × Int32 × Int32 := fsS (fun x => alB (fpB S L h0 E ne B x) nb) (nI (2 ^ S - 1)) (2 ^ S)
theorem sh_all : ∀ n, n < 10 → ((1 : Int32) <<< (nI n &&& 31)) - 1 = nI (2 ^ n - 1) := by decide +kernel
theorem pow_9 {S : Nat} (h : S ≤ 9) : 1 ≤ 2 ^ S ∧ 2 ^ S ≤ 512 := ⟨Nat.two_pow_pos S, Nat.le_trans (Nat.pow_le_pow_right (by omega) h) (by decide)⟩
theorem ctC.kk {M N : sy_Mm} {E : Evs} {ne S L : Nat} {h0 : Nat → Nat} {fg : Nat → Bool} (h : ctC M E ne S L h0 fg) (k : kq M N) : ctC N E ne S L h0 fg := by
  obtain ⟨a1, a2, a3, a4, a5, a6, a7, a8, a9⟩ := h
  have k2 := k.row 2 (fun j => by unfold dead; omega)
  exact ⟨a1, a2.kk k, a3, by rw [k 1 3 (by unfold dead; omega)]; exact a4, by rw [k 9 6 (by unfold dead; omega)]; exact a5, a6, by rw [k2]; exact a7, a8, by rw [k2]; exact a9⟩
def bkC (M : sy_Mm) (B : Evs) (nb : Nat) : Prop := nb ≤ 8 ∧ M 14 5 = nI nb ∧ ∀ b, b < nb → (B b 0 < 8 ∧ B b 1 ≤ 299 ∧ B b 2 ≤ 19) ∧ M 15 b = nI (B b 0) ∧ M 16 b = nI (B b 1) ∧ M 17 b = nI (B b 2)
def bkM (M : sy_Mm) (B : Evs) (nb : Nat) : Prop := nb ≤ 8 ∧ M 30 20 = nI nb ∧ ∀ b, b < nb → (B b 0 < 8 ∧ B b 1 ≤ 299 ∧ B b 2 ≤ 19) ∧ ∀ c, c < 3 → M 41 (3 * b + c) = nI (B b c)
theorem iBook.c {M : sy_Mm} {B : Evs} {nb : Nat} (h : iBook M B nb) : bkC M B nb := ⟨h.1, h.2.1, fun b hb => ⟨(h.2.2.2 b hb).1, (h.2.2.2 b hb).2.1⟩⟩
theorem iBook.m {M : sy_Mm} {B : Evs} {nb : Nat} (h : iBook M B nb) : bkM M B nb := ⟨h.1, h.2.2.1, fun b hb => ⟨(h.2.2.2 b hb).1, (h.2.2.2 b hb).2.2⟩⟩
theorem bkC.kk {M N : sy_Mm} {B : Evs} {nb : Nat} (h : bkC M B nb) (k : kq M N) : bkC N B nb := by
  refine ⟨h.1, by rw [k 14 5 (by unfold dead; omega)]; exact h.2.1, fun b hb => ?_⟩
  rw [k 15 b (by unfold dead; omega), k 16 b (by unfold dead; omega), k 17 b (by unfold dead; omega)]
  exact h.2.2 b hb
theorem kq.up {M N : sy_Mm} (h : kq M N) {k j : Nat} {x : Int32} (hd : dead k j) : kq M (sy_up N k j x) := by
  intro q i hq
  by_cases e : q = k
  · subst e
    by_cases e2 : i = j
    · subst e2; exact absurd hd hq
    · rw [up_j e2]; exact h q i hq
  · rw [up_k e]; exact h q i hq
set_option maxRecDepth 100000 in
set_option maxHeartbeats 4000000 in
theorem ev_comesOut (d : Nat) (M : sy_Mm) (S L : Nat) (h0 : Nat → Nat) (E : Evs) (ne : Nat) (B : Evs) (nb x : Nat) (hS : S ≤ 9) (hB : bkC M B nb) (h18 : ∀ b, b < nb → M 18 b = nI (wdS S L h0 E ne B b)) : Ev (d + 1) i_X0_comesOut [.ref 14, .int (nI x)] M (some (.int (zb (alB (fpB S L h0 E ne B x) nb)))) M := by
  obtain ⟨b1, b2, b3⟩ := hB
  have loop : ∀ j i, i + j = nb → alB (fpB S L h0 E ne B x) i = true → Fx (d + 1) i_X0_comesOut 7 [some (.ref 14), some (.int (nI x)), some (.int (nI i))] [.int (M 14 5), .int (nI i)] M (fun r N => r = some (.int (zb (alB (fpB S L h0 E ne B x) nb))) ∧ N = M) := by
    intro j
    induction j with
    | zero =>
      intro i hi ha
      have e : i = nb := by omega
      subst e
      refine fx_bt rfl (by rw [b2]; exact nI_le (Nat.le_refl _) (by omega)) ?_
      repeat refine fx_n rfl ?_
      exact fx_r rfl rfl ⟨by rw [ha]; rfl, rfl⟩
    | succ j ih =>
      intro i hi ha
      obtain ⟨c1, c2, c3, c4⟩ := b3 i (by omega)
      refine fx_bf rfl (by rw [b2]; exact nI_ge (by omega) (by omega)) ?_
      repeat refine fx_n rfl ?_
      refine fx_g rfl (ix_nI (by omega) (by omega)) ?_
      rw [nI_cl (by omega), h18 i (by omega)]
      repeat refine fx_n rfl ?_
      refine fx_p rfl (ev_bitA _ _ (bN_9 _ hS) _) ?_
      repeat refine fx_n rfl ?_
      rw [show nI (pcA (bN (fun s => decide ((yF S h0 E none (B i 1) ne).1 s = some (B i 0)) && lk1 L (B i 1) ((yF S h0 E none (B i 1) ne).2.1 s)) S) (nI x ^^^ -1)) = nI (pcA (wdS S L h0 E ne B i) (nI x ^^^ (-1))) from rfl, egg_nI]
      refine fx_g rfl (ix_nI (by omega) (by omega)) ?_
      rw [nI_cl (by omega), c4]
      have hp : pcA (wdS S L h0 E ne B i) (nI x ^^^ (-1)) ≤ 9 := pcn_le _
      by_cases q : 1 + 2 * pcA (wdS S L h0 E ne B i) (nI x ^^^ (-1)) = B i 2
      · refine fx_bt rfl (by rw [q]) ?_
        repeat refine fx_n rfl ?_
        rw [nI_1]
        refine ih (i + 1) (by omega) ?_
        unfold alB
        rw [ha]
        exact decide_eq_true q
      · refine fx_bf rfl (fun z => q ((nI_eq (by omega) (by omega)).mp z)) ?_
        repeat refine fx_n rfl ?_
        refine fx_r rfl rfl ⟨?_, rfl⟩
        rw [alB_f (i := i) (decide_eq_false q) nb (by omega)]; rfl
  refine ev_of ?_
  repeat refine fx_n rfl ?_
  exact loop nb 0 (by omega) rfl
set_option maxRecDepth 100000 in
set_option maxHeartbeats 4000000 in
theorem ex_tryAll (d : Nat) (M : sy_Mm) (E : Evs) (ne S L : Nat) (h0 : Nat → Nat) (fg : Nat → Bool) (B : Evs) (nb : Nat) (hC : ctC M E ne S L h0 fg) (hB : bkC M B nb) : Ex (d + 4) i_X0_tryAllSets [.ref 14] M (fun r N => r = none ∧ N 14 6 = nI (fiT S L h0 E ne B nb).1 ∧ N 14 7 = (fiT S L h0 E ne B nb).2.1 ∧ N 14 8 = (fiT S L h0 E ne B nb).2.2.1 ∧ N 14 9 = (fiT S L h0 E ne B nb).2.2.2 ∧ kq M N) := by
  have hS := hC.2.2.1
  have hpw := pow_9 hS
  have loop2 : ∀ (j x : Nat) (M1 : sy_Mm), x + j = 2 ^ S → kq M M1 → (∀ b, b < nb → M1 18 b = nI (wdS S L h0 E ne B b)) → M1 14 6 = nI (fsS (fun x => alB (fpB S L h0 E ne B x) nb) (nI (2 ^ S - 1)) x).1 → M1 14 7 = (fsS (fun x => alB (fpB S L h0 E ne B x) nb) (nI (2 ^ S - 1)) x).2.1 → M1 14 8 = (fsS (fun x => alB (fpB S L h0 E ne B x) nb) (nI (2 ^ S - 1)) x).2.2.1 → M1 14 9 = (fsS (fun x => alB (fpB S L h0 E ne B x) nb) (nI (2 ^ S - 1)) x).2.2.2 → Fx (d + 4) i_X0_tryAllSets 93 [some (.ref 14), some (.int (nI (2 ^ S - 1))), some (.int (nI x))] [.int (nI (2 ^ S - 1)), .int (nI x)] M1 (fun r N => r = none ∧ N 14 6 = nI (fiT S L h0 E ne B nb).1 ∧ N 14 7 = (fiT S L h0 E ne B nb).2.1 ∧ N 14 8 = (fiT S L h0 E ne B nb).2.2.1 ∧ N 14 9 = (fiT S L h0 E ne B nb).2.2.2 ∧ kq M N) := by
    intro j
    induction j with
    | zero =>
      intro x M1 hx hK h18 s1 s2 s3 s4
      have e : x = 2 ^ S := by omega
      refine fx_bt rfl (nI_lt (by omega) (by omega)) ?_
      subst e
      exact fx_r rfl rfl ⟨rfl, s1, s2, s3, s4, hK⟩
    | succ j ih =>
      intro x M1 hx hK h18 s1 s2 s3 s4
      refine fx_bf rfl (nI_nlt (by omega) (by omega)) ?_
      repeat refine fx_n rfl ?_
      refine fx_p rfl (ev_comesOut _ M1 S L h0 E ne B nb x hS (hB.kk hK) h18) ?_
      have ok := fsS_ok (fun x => alB (fpB S L h0 E ne B x) nb) (nI (2 ^ S - 1)) x (by omega)
      cases hf : alB (fpB S L h0 E ne B x) nb with
      | false =>
        have i2 := ih (x + 1) M1 (by omega) hK h18
        rw [fsS_f (fit := fun x => alB (fpB S L h0 E ne B x) nb) (x := x) hf] at i2
        refine fx_bt rfl (by decide) ?_
        repeat refine fx_n rfl ?_
        rw [nI_1]
        exact i2 s1 s2 s3 s4
      | true =>
        have i2 := fun M2 => ih (x + 1) M2 (by omega)
        rw [fsS_t (fit := fun x => alB (fpB S L h0 E ne B x) nb) (x := x) hf] at i2
        generalize fsS (fun x => alB (fpB S L h0 E ne B x) nb) (nI (2 ^ S - 1)) x = q at s1 s2 s3 s4 i2 ok
        refine fx_bf rfl (by decide) ?_
        repeat refine fx_n rfl ?_
        have fin : ∀ v : Int32, v = (if q.1 = 0 then nI x else q.2.1) → Fx (d + 4) i_X0_tryAllSets 120 [some (.ref 14), some (.int (nI (2 ^ S - 1))), some (.int (nI x))] [.int v, .ref 14] M1 (fun r N => r = none ∧ N 14 6 = nI (fiT S L h0 E ne B nb).1 ∧ N 14 7 = (fiT S L h0 E ne B nb).2.1 ∧ N 14 8 = (fiT S L h0 E ne B nb).2.2.1 ∧ N 14 9 = (fiT S L h0 E ne B nb).2.2.2 ∧ kq M N) := by
          intro v hv
          repeat refine fx_n rfl ?_
          rw [nI_1]
          refine i2 _ ((((hK.up ?_).up ?_).up ?_).up ?_) (fun b hb => ?_) ?_ ?_ ?_ ?_
          all_goals (first | (unfold dead; omega) | skip)
          · rw [up_k (by omega), up_k (by omega), up_k (by omega), up_k (by omega)]; exact h18 b hb
          · rw [up_j (by omega), up_j (by omega), up_s, up_j (by omega), s1, nI_1]
          · rw [up_j (by omega), up_j (by omega), up_j (by omega), up_s, hv]
          · rw [up_j (by omega), up_s, up_j (by omega), up_j (by omega), s3]
          · rw [up_s, up_j (by omega), up_j (by omega), up_j (by omega), s4]
        by_cases hq : q.1 = 0
        · refine fx_bf rfl (fun z => z (by rw [s1, hq]; rfl)) ?_
          refine fx_n rfl (fx_n rfl ?_)
          exact fin _ (by rw [if_pos hq])
        · refine fx_bt rfl (by rw [s1]; exact nI_ne0 (by omega) (by omega)) ?_
          refine fx_n rfl (fx_n rfl ?_)
          exact fin _ (by rw [if_neg hq]; exact s2)
  have loop1 : ∀ (j b : Nat) (M1 : sy_Mm), b + j = nb → kq M M1 → (∀ q, q < b → M1 18 q = nI (wdS S L h0 E ne B q)) → Fx (d + 4) i_X0_tryAllSets 7 [some (.ref 14), some (.int (nI b)), none] [.int (M1 14 5), .int (nI b)] M1 (fun r N => r = none ∧ N 14 6 = nI (fiT S L h0 E ne B nb).1 ∧ N 14 7 = (fiT S L h0 E ne B nb).2.1 ∧ N 14 8 = (fiT S L h0 E ne B nb).2.2.1 ∧ N 14 9 = (fiT S L h0 E ne B nb).2.2.2 ∧ kq M N) := by
    intro j
    induction j with
    | zero =>
      intro b M1 hb hK h18
      have e : b = nb := by omega
      subst e
      obtain ⟨b1, b2, b3⟩ := hB.kk hK
      have c13 : M1 1 3 = nI S := (hC.kk hK).2.2.2.1
      refine fx_bt rfl (by rw [b2]; exact nI_le (Nat.le_refl _) (by omega)) ?_
      repeat refine fx_n rfl ?_
      rw [c13, sh_all S (by omega)]
      refine loop2 (2 ^ S) 0 _ (by omega) ((((hK.up ?_).up ?_).up ?_).up ?_) (fun q hq => ?_) ?_ ?_ ?_ ?_
      all_goals (first | (unfold dead; omega) | rfl | skip)
      rw [up_k (by omega), up_k (by omega), up_k (by omega), up_k (by omega)]; exact h18 q hq
    | succ j ih =>
      intro b M1 hb hK h18
      obtain ⟨b1, b2, b3⟩ := hB.kk hK
      obtain ⟨⟨l1, l2, l3⟩, c1, c2, c3⟩ := b3 b (by omega)
      refine fx_bf rfl (by rw [b2]; exact nI_ge (by omega) (by omega)) ?_
      repeat refine fx_n rfl ?_
      refine fx_g rfl (ix_nI (by omega) (by omega)) ?_
      rw [nI_cl (by omega), c2]
      refine fx_c rfl (ex_tellFrom _ M1 E ne S L (B b 1) h0 fg (by omega) (hC.kk hK)) ?_
      rintro _ M2 ⟨rfl, d1, d2⟩
      have e15 : M2 15 = M1 15 := d2.1 15 (by omega) (by omega) (by omega) (by omega)
      have e16 : M2 16 = M1 16 := d2.1 16 (by omega) (by omega) (by omega) (by omega)
      have e18 : M2 18 = M1 18 := d2.1 18 (by omega) (by omega) (by omega) (by omega)
      repeat refine fx_n rfl ?_
      refine fx_g rfl (ix_nI (by omega) (by omega)) ?_
      rw [nI_cl (by omega), e15, c1]
      repeat refine fx_n rfl ?_
      refine fx_g rfl (ix_nI (by omega) (by omega)) ?_
      rw [nI_cl (by omega), e16, c2]
      refine fx_p rfl (ev_luckyIfReal _ _ S L (B b 1) (B b 0) fg _ _ (by omega) l1 d1.lk) ?_
      refine fx_g rfl (ix_nI (by omega) (by omega)) ?_
      rw [nI_cl (by omega)]
      repeat refine fx_n rfl ?_
      rw [nI_1]
      refine ih (b + 1) _ (by omega) ((hK.tr d2.q).up (by unfold dead; omega)) (fun q hq => ?_)
      by_cases e : q = b
      · rw [e, up_s]; rfl
      · rw [up_j e, e18]; exact h18 q (by omega)
  unfold Ex
  repeat refine fx_n rfl ?_
  exact loop1 nb 0 M (by omega) kq.rf (fun q hq => by omega)
set_option maxRecDepth 100000 in
set_option maxHeartbeats 4000000 in
theorem ex_fitting (d : Nat) (M : sy_Mm) (E : Evs) (ne S L : Nat) (h0 : Nat → Nat) (fg : Nat → Bool) (B : Evs) (nb : Nat) (w : Int32) (hC : ctC M E ne S L h0 fg) (hB : bkC M B nb) : Ex (d + 5) i_X7_fitting [.ref 0, .int w] M (fun r N => r = some (.int (cond (inR w 0 3) (ftS (fiT S L h0 E ne B nb) w) (-2))) ∧ kq M N) := by
  have hS := hC.2.2.1
  have hpw := pow_9 hS
  unfold Ex
  repeat refine fx_n rfl ?_
  refine fx_p rfl (ev_wi _ _ _ _ 3 rfl) (fx_zn rfl (fun g => ?_) (fun g => by ((repeat refine fx_n rfl ?_); exact fx_r rfl rfl ⟨by simp [g, zb_f], kq.rf⟩)))
  rw [g]
  repeat refine fx_n rfl ?_
  refine fx_c rfl (ex_tryAll _ M E ne S L h0 fg B nb hC hB) ?_
  rintro _ N ⟨rfl, s1, s2, s3, s4, hK⟩
  have ok : (fiT S L h0 E ne B nb).1 ≤ 2 ^ S := (fsS_ok (fun x => alB (fpB S L h0 E ne B x) nb) (nI (2 ^ S - 1)) (2 ^ S) (by omega)).1
  generalize fiT S L h0 E ne B nb = q at s1 s2 s3 s4 ok
  repeat refine fx_n rfl ?_
  simp only [cond_true]
  unfold ftS
  by_cases w0 : w = 0
  · refine fx_bf rfl (fun z => z w0) ?_
    repeat refine fx_n rfl ?_
    refine fx_r rfl rfl ⟨?_, hK⟩
    rw [if_pos w0, s1]
  · refine fx_bt rfl w0 ?_
    rw [if_neg w0]
    repeat refine fx_n rfl ?_
    by_cases hq : q.1 = 0
    · refine fx_bf rfl (fun z => z (by rw [s1, hq]; rfl)) ?_
      repeat refine fx_n rfl ?_
      refine fx_r rfl rfl ⟨?_, hK⟩
      rw [if_pos hq]
    · refine fx_bt rfl (by rw [s1]; exact nI_ne0 (by omega) (by omega)) ?_
      rw [if_neg hq]
      repeat refine fx_n rfl ?_
      by_cases w1 : w = 1
      · refine fx_bf rfl (fun z => z w1) ?_
        repeat refine fx_n rfl ?_
        refine fx_r rfl rfl ⟨?_, hK⟩
        rw [if_pos w1, s2]
      · refine fx_bt rfl w1 ?_
        rw [if_neg w1]
        repeat refine fx_n rfl ?_
        by_cases w2 : w = 2
        · refine fx_bf rfl (fun z => z w2) ?_
          repeat refine fx_n rfl ?_
          refine fx_r rfl rfl ⟨?_, hK⟩
          rw [if_pos w2, s3]
        · refine fx_bt rfl w2 ?_
          rw [if_neg w2]
          repeat refine fx_n rfl ?_
          refine fx_r rfl rfl ⟨?_, hK⟩
          rw [s4]
