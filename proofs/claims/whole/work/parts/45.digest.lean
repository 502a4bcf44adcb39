/-! ===== digest: its value, and the class's way to it ===== -/
abbrev mx (h : Int64) (v : Int32) : Int64 := 31 * h + v.toInt64
abbrev ml (h v : Int64) : Int64 := 31 * h + v
def ndS (f : Nat → Int64 → Int64) : Nat → Int64 → Int64
  | 0, h => h
  | k + 1, h => f k (ndS f k h)
theorem nd_0 (f : Nat → Int64 → Int64) (h : Int64) : ndS f 0 h = h := rfl
theorem nd_s (f : Nat → Int64 → Int64) (k : Nat) (h : Int64) : ndS f (k + 1) h = f k (ndS f k h) := rfl
theorem i01 : (0 : Int32) + 1 = 1 := rfl
theorem i12 : (1 : Int32) + 1 = 2 := rfl
theorem i23 : (2 : Int32) + 1 = 3 := rfl
theorem i26 : (20 : Int32) + 40 = 60 := rfl
theorem i60 : (60 : Int32) + 40 = 100 := rfl
def dhS (luc : Nat → Int32 → Int32) (dayf ledf thif : Nat → Int32) (cha wai : Nat → Int32 → Int64) (x : Nat) (h : Int64) : Int64 := mx (ml (ml (ml (ml (mx (mx (mx (mx h (luc x 0)) (luc x 1)) (dayf x)) (ledf x)) (cha x 0)) (cha x 1)) (wai x 0)) (wai x 1)) (thif x)
def dg1 (cnt : Int32 → Int32) (flt jdg : Int32) : Int64 := mx (mx (ndS (fun k h => mx h (cnt (nI k))) 8 17) flt) jdg
def dg2 (fit lett rob : Int32 → Int32) (wof car : Int32) (h : Int64) : Int64 := mx (ndS (fun k h => mx h (rob (nI k))) 3 (mx (mx (ndS (fun k h => mx h (fit (nI k))) 4 (mx h wof)) (lett 0)) (lett 1))) car
set_option maxRecDepth 100000 in
set_option maxHeartbeats 400000 in
theorem ex_ws1 {att : Nat → Int32 → Int32 → Int32} (d : Nat) (M M1 : sy_Mm) (S s : Nat) (b h : Int64) (t w : Int32) (P : Option Value → sy_Mm → Prop) (hs : s < S) (k1 : kq M M1) (hatt : ∀ (d : Nat) (s : Nat) (t w : Int32) (M1 : sy_Mm), s < S → kq M M1 → Ex (d + 10) i_X7_at [.ref 0, .int (nI s), .int t, .int w] M1 (fun r N => r = some (.int (att s t w)) ∧ kq M N)) (K : ∀ M2 : sy_Mm, kq M M2 → Fx (d + 20) i_X7_withStone 48 [some (.ref 0), some (.long b), none, some (.int (nI s)), some (.long (mx h (att s t w))), none, some (.int (t)), some (.int (w + 1))] [.int 2, .int (w + 1)] M2 P) : Fx (d + 20) i_X7_withStone 51 [some (.ref 0), some (.long b), none, some (.int (nI s)), some (.long (h)), none, some (.int (t)), some (.int w)] [] M1 P := by
  repeat refine fx_n rfl ?_
  refine fx_c rfl (hatt _ _ _ _ _ hs k1) ?_
  rintro _ M1 ⟨rfl, k1⟩
  repeat refine fx_n rfl ?_
  exact K M1 k1
def dw3 (att : Nat → Int32 → Int32 → Int32) (s : Nat) (t : Int32) (h : Int64) : Int64 := mx (mx (mx h (att s t 0)) (att s t 1)) (att s t 2)
set_option maxRecDepth 100000 in
set_option maxHeartbeats 400000 in
theorem ex_ws3 {att : Nat → Int32 → Int32 → Int32} (d : Nat) (M M1 : sy_Mm) (S s : Nat) (b h : Int64) (t : Int32) (P : Option Value → sy_Mm → Prop) (hs : s < S) (k1 : kq M M1) (hatt : ∀ (d : Nat) (s : Nat) (t w : Int32) (M1 : sy_Mm), s < S → kq M M1 → Ex (d + 10) i_X7_at [.ref 0, .int (nI s), .int t, .int w] M1 (fun r N => r = some (.int (att s t w)) ∧ kq M N)) (K : ∀ M2 : sy_Mm, kq M M2 → Fx (d + 20) i_X7_withStone 39 [some (.ref 0), some (.long b), none, some (.int (nI s)), some (.long (dw3 att s t h)), none, some (.int (t + 40)), some (.int 3)] [.int 60, .int (t + 40)] M2 P) : Fx (d + 20) i_X7_withStone 48 [some (.ref 0), some (.long b), none, some (.int (nI s)), some (.long (h)), none, some (.int (t)), some (.int 0)] [.int 2, .int 0] M1 P := by
  refine fx_bf rfl (by decide) ?_
  refine ex_ws1 d M M1 S s b h t 0 P hs k1 hatt (fun M1 k1 => ?_)
  rw [i01]
  refine fx_bf rfl (by decide) ?_
  refine ex_ws1 d M M1 S s b _ t 1 P hs k1 hatt (fun M1 k1 => ?_)
  rw [i12]
  refine fx_bf rfl (by decide) ?_
  refine ex_ws1 d M M1 S s b _ t 2 P hs k1 hatt (fun M1 k1 => ?_)
  rw [i23]
  refine fx_bt rfl (by decide) ?_
  repeat refine fx_n rfl ?_
  exact K M1 k1
def dwS (ston : Nat → Int32 → Int32) (att : Nat → Int32 → Int32 → Int32) (s : Nat) (h : Int64) : Int64 := dw3 att s 60 (dw3 att s 20 (mx (mx h (ston s 0)) (ston s 1)))
set_option maxRecDepth 100000 in
set_option maxHeartbeats 400000 in
theorem ex_withStone {ston : Nat → Int32 → Int32} {att : Nat → Int32 → Int32 → Int32} (d : Nat) (M M1 : sy_Mm) (S s : Nat) (h : Int64) (hs : s < S) (k1 : kq M M1) (hsto : ∀ (d : Nat) (s : Nat) (w : Int32) (M1 : sy_Mm), s < S → kq M M1 → Ex (d + 10) i_X7_stone [.ref 0, .int (nI s), .int w] M1 (fun r N => r = some (.int (ston s w)) ∧ kq M N)) (hatt : ∀ (d : Nat) (s : Nat) (t w : Int32) (M1 : sy_Mm), s < S → kq M M1 → Ex (d + 10) i_X7_at [.ref 0, .int (nI s), .int t, .int w] M1 (fun r N => r = some (.int (att s t w)) ∧ kq M N)) : Ex (d + 20) i_X7_withStone [.ref 0, .long h, .int (nI s)] M1 (fun r N => r = some (.long (dwS ston att s h)) ∧ kq M N) := by
  unfold Ex
  repeat refine fx_n rfl ?_
  refine fx_c rfl (hsto _ _ _ _ hs k1) ?_
  rintro _ M1 ⟨rfl, k1⟩
  repeat refine fx_n rfl ?_
  refine fx_c rfl (hsto _ _ _ _ hs k1) ?_
  rintro _ M1 ⟨rfl, k1⟩
  repeat refine fx_n rfl ?_
  refine fx_bf rfl (by decide) ?_
  repeat refine fx_n rfl ?_
  refine ex_ws3 d M M1 S s _ _ 20 _ hs k1 hatt (fun M1 k1 => ?_)
  rw [i26]
  refine fx_bf rfl (by decide) ?_
  repeat refine fx_n rfl ?_
  refine ex_ws3 d M M1 S s _ _ 60 _ hs k1 hatt (fun M1 k1 => ?_)
  rw [i60]
  refine fx_bt rfl (by decide) ?_
  repeat refine fx_n rfl ?_
  exact fx_r rfl rfl ⟨rfl, k1⟩
set_option maxRecDepth 100000 in
set_option maxHeartbeats 1000000 in
theorem ex_withHouse {luc : Nat → Int32 → Int32} {dayf ledf thif : Nat → Int32} {cha wai : Nat → Int32 → Int64} (d : Nat) (M M1 : sy_Mm) (x : Nat) (h : Int64) (hx : x < 8) (k1 : kq M M1) (hluc : ∀ (d : Nat) (x : Nat) (w : Int32) (M1 : sy_Mm), x < 8 → kq M M1 → Ex (d + 10) i_X7_luck [.ref 0, .int (nI x), .int 20, .int w] M1 (fun r N => r = some (.int (luc x w)) ∧ kq M N)) (hday : ∀ (d : Nat) (x : Nat) (M1 : sy_Mm), x < 8 → kq M M1 → Ex (d + 10) i_X7_days [.ref 0, .int (nI x), .int 0, .int 99] M1 (fun r N => r = some (.int (dayf x)) ∧ kq M N)) (hled : ∀ (d : Nat) (x : Nat) (M1 : sy_Mm), x < 8 → kq M M1 → Ex (d + 10) i_X7_led [.ref 0, .int (nI x), .int 20, .int 0] M1 (fun r N => r = some (.int (ledf x)) ∧ kq M N)) (hcha : ∀ (d : Nat) (x : Nat) (w : Int32) (M1 : sy_Mm), x < 8 → kq M M1 → Ex (d + 10) i_X7_chance [.ref 0, .int (nI x), .int 5, .int w] M1 (fun r N => r = some (.long (cha x w)) ∧ kq M N)) (hwai : ∀ (d : Nat) (x : Nat) (w : Int32) (M1 : sy_Mm), x < 8 → kq M M1 → Ex (d + 10) i_X7_waits [.ref 0, .int (nI x), .int w] M1 (fun r N => r = some (.long (wai x w)) ∧ kq M N)) (hthi : ∀ (d : Nat) (x : Nat) (M1 : sy_Mm), x < 8 → kq M M1 → Ex (d + 10) i_X7_thief [.ref 0, .int (nI x), .int 7, .int 9] M1 (fun r N => r = some (.int (thif x)) ∧ kq M N)) : Ex (d + 20) i_X7_withHouse [.ref 0, .long h, .int (nI x)] M1 (fun r N => r = some (.long (dhS luc dayf ledf thif cha wai x h)) ∧ kq M N) := by
  unfold Ex
  repeat refine fx_n rfl ?_
  refine fx_c rfl (hluc _ _ _ _ hx k1) ?_
  rintro _ M1 ⟨rfl, k1⟩
  repeat refine fx_n rfl ?_
  refine fx_c rfl (hluc _ _ _ _ hx k1) ?_
  rintro _ M1 ⟨rfl, k1⟩
  repeat refine fx_n rfl ?_
  refine fx_c rfl (hday _ _ _ hx k1) ?_
  rintro _ M1 ⟨rfl, k1⟩
  repeat refine fx_n rfl ?_
  refine fx_c rfl (hled _ _ _ hx k1) ?_
  rintro _ M1 ⟨rfl, k1⟩
  repeat refine fx_n rfl ?_
  refine fx_c rfl (hcha _ _ _ _ hx k1) ?_
  rintro _ M1 ⟨rfl, k1⟩
  repeat refine fx_n rfl ?_
  refine fx_c rfl (hcha _ _ _ _ hx k1) ?_
  rintro _ M1 ⟨rfl, k1⟩
  repeat refine fx_n rfl ?_
  refine fx_c rfl (hwai _ _ _ _ hx k1) ?_
  rintro _ M1 ⟨rfl, k1⟩
  repeat refine fx_n rfl ?_
  refine fx_c rfl (hwai _ _ _ _ hx k1) ?_
  rintro _ M1 ⟨rfl, k1⟩
  repeat refine fx_n rfl ?_
  refine fx_c rfl (hthi _ _ _ hx k1) ?_
  rintro _ M1 ⟨rfl, k1⟩
  repeat refine fx_n rfl ?_
  refine fx_r rfl rfl ⟨?_, k1⟩
  unfold dhS
  rfl
set_option maxRecDepth 100000 in
set_option maxHeartbeats 1000000 in
theorem ex_digest {cnt : Int32 → Int32} {flt jdg : Int32} {ston : Nat → Int32 → Int32} {att : Nat → Int32 → Int32 → Int32} {luc : Nat → Int32 → Int32} {dayf ledf thif : Nat → Int32} {cha wai : Nat → Int32 → Int64} {wof : Int32} {fit lett rob : Int32 → Int32} {car : Int32} (d : Nat) (M : sy_Mm) (S : Nat) (hS : S ≤ 9) (h13 : M 1 3 = nI S) (hcnt : ∀ (d : Nat) (w : Int32) (M1 : sy_Mm), kq M M1 → Ex (d + 10) i_X7_count [.ref 0, .int w] M1 (fun r N => r = some (.int (cnt w)) ∧ kq M N)) (hflt : ∀ (d : Nat)  (M1 : sy_Mm), kq M M1 → Ex (d + 10) i_X7_fault [.ref 0] M1 (fun r N => r = some (.int (flt)) ∧ kq M N)) (hjdg : ∀ (d : Nat)  (M1 : sy_Mm), kq M M1 → Ex (d + 10) i_X7_judged [.ref 0] M1 (fun r N => r = some (.int (jdg)) ∧ kq M N)) (hsto : ∀ (d : Nat) (s : Nat) (w : Int32) (M1 : sy_Mm), s < S → kq M M1 → Ex (d + 10) i_X7_stone [.ref 0, .int (nI s), .int w] M1 (fun r N => r = some (.int (ston s w)) ∧ kq M N)) (hatt : ∀ (d : Nat) (s : Nat) (t w : Int32) (M1 : sy_Mm), s < S → kq M M1 → Ex (d + 10) i_X7_at [.ref 0, .int (nI s), .int t, .int w] M1 (fun r N => r = some (.int (att s t w)) ∧ kq M N)) (hluc : ∀ (d : Nat) (x : Nat) (w : Int32) (M1 : sy_Mm), x < 8 → kq M M1 → Ex (d + 10) i_X7_luck [.ref 0, .int (nI x), .int 20, .int w] M1 (fun r N => r = some (.int (luc x w)) ∧ kq M N)) (hday : ∀ (d : Nat) (x : Nat) (M1 : sy_Mm), x < 8 → kq M M1 → Ex (d + 10) i_X7_days [.ref 0, .int (nI x), .int 0, .int 99] M1 (fun r N => r = some (.int (dayf x)) ∧ kq M N)) (hled : ∀ (d : Nat) (x : Nat) (M1 : sy_Mm), x < 8 → kq M M1 → Ex (d + 10) i_X7_led [.ref 0, .int (nI x), .int 20, .int 0] M1 (fun r N => r = some (.int (ledf x)) ∧ kq M N)) (hcha : ∀ (d : Nat) (x : Nat) (w : Int32) (M1 : sy_Mm), x < 8 → kq M M1 → Ex (d + 10) i_X7_chance [.ref 0, .int (nI x), .int 5, .int w] M1 (fun r N => r = some (.long (cha x w)) ∧ kq M N)) (hwai : ∀ (d : Nat) (x : Nat) (w : Int32) (M1 : sy_Mm), x < 8 → kq M M1 → Ex (d + 10) i_X7_waits [.ref 0, .int (nI x), .int w] M1 (fun r N => r = some (.long (wai x w)) ∧ kq M N)) (hthi : ∀ (d : Nat) (x : Nat) (M1 : sy_Mm), x < 8 → kq M M1 → Ex (d + 10) i_X7_thief [.ref 0, .int (nI x), .int 7, .int 9] M1 (fun r N => r = some (.int (thif x)) ∧ kq M N)) (hwo : ∀ (d : Nat)  (M1 : sy_Mm), kq M M1 → Ex (d + 10) i_X7_without [.ref 0, .int 0, .int 99] M1 (fun r N => r = some (.int (wof)) ∧ kq M N)) (hfit : ∀ (d : Nat) (w : Int32) (M1 : sy_Mm), kq M M1 → Ex (d + 10) i_X7_fitting [.ref 0, .int w] M1 (fun r N => r = some (.int (fit w)) ∧ kq M N)) (hlet : ∀ (d : Nat) (w : Int32) (M1 : sy_Mm), kq M M1 → Ex (d + 10) i_X7_lets [.ref 0, .int 199, .int 1, .int w] M1 (fun r N => r = some (.int (lett w)) ∧ kq M N)) (hrob : ∀ (d : Nat) (w : Int32) (M1 : sy_Mm), kq M M1 → Ex (d + 10) i_X7_robs [.ref 0, .int 7, .int 50, .int w] M1 (fun r N => r = some (.int (rob w)) ∧ kq M N)) (hcar : ∀ (d : Nat)  (M1 : sy_Mm), kq M M1 → Ex (d + 10) i_X7_careless [.ref 0, .int 5, .int 40] M1 (fun r N => r = some (.int (car)) ∧ kq M N)) : Ex (d + 30) i_X7_digest [.ref 0] M (fun r N => r = some (.long (dg2 fit lett rob wof car (ndS (dhS luc dayf ledf thif cha wai) 8 (ndS (dwS ston att) S (dg1 cnt flt jdg))))) ∧ kq M N) := by
  have l5 : ∀ (h0 : Int64) (j k : Nat) (M1 : sy_Mm), k + j = 3 → kq M M1 → Fx (d + 30) i_X7_digest 181 [some (.ref 0), some (.long ((ndS (fun k h => mx h (rob (nI k))) k h0))), none, some (.int (nI k))] [.int 2, .int (nI k)] M1 (fun r N => r = some (.long (mx (ndS (fun k h => mx h (rob (nI k))) 3 h0) car)) ∧ kq M N) := by
    intro h0 j
    induction j with
    | zero =>
      intro k M1 hk k1
      have e : k = 3 := by omega
      subst e
      refine fx_bt rfl (by decide) ?_
      repeat refine fx_n rfl ?_
      refine fx_c rfl (hcar _  _  k1) ?_
      rintro _ M1 ⟨rfl, k1⟩
      repeat refine fx_n rfl ?_
      exact fx_r rfl rfl ⟨rfl, k1⟩
    | succ j ih =>
      intro k M1 hk k1
      refine fx_bf rfl (nI_nlt (a := 2) (by omega) (by omega)) ?_
      repeat refine fx_n rfl ?_
      refine fx_c rfl (hrob _ _ _  k1) ?_
      rintro _ M1 ⟨rfl, k1⟩
      repeat refine fx_n rfl ?_
      rw [nI_1]
      have q := ih (k + 1) M1 (by omega) k1
      rw [nd_s] at q
      exact q
  have l4 : ∀ (h0 : Int64) (j k : Nat) (M1 : sy_Mm), k + j = 4 → kq M M1 → Fx (d + 30) i_X7_digest 121 [some (.ref 0), some (.long ((ndS (fun k h => mx h (fit (nI k))) k h0))), none, some (.int (nI k))] [.int 3, .int (nI k)] M1 (fun r N => r = some (.long (mx (ndS (fun k h => mx h (rob (nI k))) 3 (mx (mx (ndS (fun k h => mx h (fit (nI k))) 4 h0) (lett 0)) (lett 1))) car)) ∧ kq M N) := by
    intro h0 j
    induction j with
    | zero =>
      intro k M1 hk k1
      have e : k = 4 := by omega
      subst e
      refine fx_bt rfl (by decide) ?_
      repeat refine fx_n rfl ?_
      refine fx_c rfl (hlet _ _ _  k1) ?_
      rintro _ M1 ⟨rfl, k1⟩
      repeat refine fx_n rfl ?_
      refine fx_c rfl (hlet _ _ _  k1) ?_
      rintro _ M1 ⟨rfl, k1⟩
      repeat refine fx_n rfl ?_
      have q := l5 (mx (mx (ndS (fun k h => mx h (fit (nI k))) 4 h0) (lett 0)) (lett 1)) 3 0 M1 (by omega) k1
      rw [nd_0] at q
      exact q
    | succ j ih =>
      intro k M1 hk k1
      refine fx_bf rfl (nI_nlt (a := 3) (by omega) (by omega)) ?_
      repeat refine fx_n rfl ?_
      refine fx_c rfl (hfit _ _ _  k1) ?_
      rintro _ M1 ⟨rfl, k1⟩
      repeat refine fx_n rfl ?_
      rw [nI_1]
      have q := ih (k + 1) M1 (by omega) k1
      rw [nd_s] at q
      exact q
  have l3 : ∀ (h0 : Int64) (j k : Nat) (M1 : sy_Mm), k + j = 8 → kq M M1 → Fx (d + 30) i_X7_digest 86 [some (.ref 0), some (.long ((ndS (dhS luc dayf ledf thif cha wai) k h0))), none, some (.int (nI k))] [.int 8, .int (nI k)] M1 (fun r N => r = some (.long (dg2 fit lett rob wof car (ndS (dhS luc dayf ledf thif cha wai) 8 h0))) ∧ kq M N) := by
    intro h0 j
    induction j with
    | zero =>
      intro k M1 hk k1
      have e : k = 8 := by omega
      subst e
      refine fx_bt rfl (by decide) ?_
      repeat refine fx_n rfl ?_
      refine fx_c rfl (hwo _  _  k1) ?_
      rintro _ M1 ⟨rfl, k1⟩
      repeat refine fx_n rfl ?_
      have q := l4 (mx (ndS (dhS luc dayf ledf thif cha wai) 8 h0) wof) 4 0 M1 (by omega) k1
      rw [nd_0] at q
      exact q
    | succ j ih =>
      intro k M1 hk k1
      refine fx_bf rfl (nI_ge (b := 8) (by omega) (by omega)) ?_
      repeat refine fx_n rfl ?_
      refine fx_c rfl (ex_withHouse _ M M1 k _ (by omega) k1 hluc hday hled hcha hwai hthi) ?_
      rintro _ M1 ⟨rfl, k1⟩
      repeat refine fx_n rfl ?_
      rw [nI_1]
      have q := ih (k + 1) M1 (by omega) k1
      rw [nd_s] at q
      exact q
  have l2 : ∀ (h0 : Int64) (j k : Nat) (M1 : sy_Mm), k + j = S → kq M M1 → Fx (d + 30) i_X7_digest 65 [some (.ref 0), some (.long ((ndS (dwS ston att) k h0))), none, some (.int (nI k))] [.int (M1 1 3), .int (nI k)] M1 (fun r N => r = some (.long (dg2 fit lett rob wof car (ndS (dhS luc dayf ledf thif cha wai) 8 (ndS (dwS ston att) S h0)))) ∧ kq M N) := by
    intro h0 j
    induction j with
    | zero =>
      intro k M1 hk k1
      have e : k = S := by omega
      subst e
      refine fx_bt rfl (by rw [k1 1 3 (by unfold dead; omega), h13]; exact nI_le (Nat.le_refl _) (by omega)) ?_
      repeat refine fx_n rfl ?_
      have q := l3 (ndS (dwS ston att) k h0) 8 0 M1 (by omega) k1
      rw [nd_0] at q
      exact q
    | succ j ih =>
      intro k M1 hk k1
      refine fx_bf rfl (by rw [k1 1 3 (by unfold dead; omega), h13]; exact nI_ge (by omega) (by omega)) ?_
      repeat refine fx_n rfl ?_
      refine fx_c rfl (ex_withStone _ M M1 S k _ (by omega) k1 hsto hatt) ?_
      rintro _ M1 ⟨rfl, k1⟩
      repeat refine fx_n rfl ?_
      rw [nI_1]
      have q := ih (k + 1) M1 (by omega) k1
      rw [nd_s] at q
      exact q
  have l1 : ∀ (j k : Nat) (M1 : sy_Mm), k + j = 8 → kq M M1 → Fx (d + 30) i_X7_digest 9 [some (.ref 0), some (.long ((ndS (fun k h => mx h (cnt (nI k))) k 17))), none, some (.int (nI k))] [.int 7, .int (nI k)] M1 (fun r N => r = some (.long (dg2 fit lett rob wof car (ndS (dhS luc dayf ledf thif cha wai) 8 (ndS (dwS ston att) S (dg1 cnt flt jdg))))) ∧ kq M N) := by
    intro j
    induction j with
    | zero =>
      intro k M1 hk k1
      have e : k = 8 := by omega
      subst e
      refine fx_bt rfl (by decide) ?_
      repeat refine fx_n rfl ?_
      refine fx_c rfl (hflt _  _  k1) ?_
      rintro _ M1 ⟨rfl, k1⟩
      repeat refine fx_n rfl ?_
      refine fx_c rfl (hjdg _  _  k1) ?_
      rintro _ M1 ⟨rfl, k1⟩
      repeat refine fx_n rfl ?_
      have q := l2 (dg1 cnt flt jdg) S 0 M1 (by omega) k1
      rw [nd_0] at q
      exact q
    | succ j ih =>
      intro k M1 hk k1
      refine fx_bf rfl (nI_nlt (a := 7) (by omega) (by omega)) ?_
      repeat refine fx_n rfl ?_
      refine fx_c rfl (hcnt _ _ _  k1) ?_
      rintro _ M1 ⟨rfl, k1⟩
      repeat refine fx_n rfl ?_
      rw [nI_1]
      have q := ih (k + 1) M1 (by omega) k1
      rw [nd_s] at q
      exact q
  unfold Ex
  repeat refine fx_n rfl ?_
  have q := l1 8 0 M (by omega) kq.rf
  rw [nd_0] at q
  exact q
