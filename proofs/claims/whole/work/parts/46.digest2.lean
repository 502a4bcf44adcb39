/-! ===== digest: the reference's way ===== -/
theorem i26n : nI 20 + 40 = 60 := rfl
theorem i60n : nI 60 + 40 = 100 := rfl
set_option maxRecDepth 100000 in
set_option maxHeartbeats 1000000 in
theorem em_ws1 {J : sy_Mm → Prop} {att : Nat → Int32 → Int32 → Int32} (d S s T : Nat) (h : Int64) (w : Int32) (M1 : sy_Mm) (P : Option Value → sy_Mm → Prop) (hs : s < S) (hT : T ≤ 299) (hw : inR w 0 2 = true) (j1 : J M1) (hatt : ∀ (d : Nat) (s T : Nat) (w : Int32) (M1 : sy_Mm), s < S → T ≤ 299 → inR w 0 2 = true → J M1 → Ex (d + 10) i_X8_stateOf [.ref 30, .int (nI s), .int (nI T), .int w] M1 (fun r N => r = some (.int (att s (nI T) w)) ∧ J N)) (K : ∀ M2 : sy_Mm, J M2 → Fx (d + 30) i_X8_digest 120 [some (.ref 30), some (.long (mx h (att s (nI T) w))), none, some (.int (nI s)), some (.int (nI T)), some (.int (w + 1))] [.int 3, .int (w + 1)] M2 P) : Fx (d + 30) i_X8_digest 123 [some (.ref 30), some (.long (h)), none, some (.int (nI s)), some (.int (nI T)), some (.int w)] [] M1 P := by
  repeat refine fx_n rfl ?_
  refine fx_c rfl (hatt _ _ T _ _ hs hT hw j1) ?_
  rintro _ M1 ⟨rfl, j1⟩
  repeat refine fx_n rfl ?_
  exact K M1 j1
set_option maxRecDepth 100000 in
set_option maxHeartbeats 1000000 in
theorem em_ws3 {J : sy_Mm → Prop} {att : Nat → Int32 → Int32 → Int32} (d S s T : Nat) (h : Int64) (M1 : sy_Mm) (P : Option Value → sy_Mm → Prop) (hs : s < S) (hT : T ≤ 299) (j1 : J M1) (hatt : ∀ (d : Nat) (s T : Nat) (w : Int32) (M1 : sy_Mm), s < S → T ≤ 299 → inR w 0 2 = true → J M1 → Ex (d + 10) i_X8_stateOf [.ref 30, .int (nI s), .int (nI T), .int w] M1 (fun r N => r = some (.int (att s (nI T) w)) ∧ J N)) (K : ∀ M2 : sy_Mm, J M2 → Fx (d + 30) i_X8_digest 111 [some (.ref 30), some (.long (dw3 att s (nI T) h)), none, some (.int (nI s)), some (.int (nI T + 40)), some (.int 3)] [.int 61, .int (nI T + 40)] M2 P) : Fx (d + 30) i_X8_digest 120 [some (.ref 30), some (.long (h)), none, some (.int (nI s)), some (.int (nI T)), some (.int 0)] [.int 3, .int 0] M1 P := by
  refine fx_bf rfl (by decide) ?_
  refine em_ws1 d S s T h 0 M1 P hs hT (by decide) j1 hatt (fun M1 j1 => ?_)
  rw [i01]
  refine fx_bf rfl (by decide) ?_
  refine em_ws1 d S s T _ 1 M1 P hs hT (by decide) j1 hatt (fun M1 j1 => ?_)
  rw [i12]
  refine fx_bf rfl (by decide) ?_
  refine em_ws1 d S s T _ 2 M1 P hs hT (by decide) j1 hatt (fun M1 j1 => ?_)
  rw [i23]
  refine fx_bt rfl (by decide) ?_
  repeat refine fx_n rfl ?_
  exact K M1 j1
set_option maxRecDepth 100000 in
set_option maxHeartbeats 1000000 in
theorem em_dgS {J : sy_Mm → Prop} {ston : Nat → Int32 → Int32} {att : Nat → Int32 → Int32 → Int32} (d S s : Nat) (h : Int64) (M1 : sy_Mm) (x4 x5 : Option Value) (P : Option Value → sy_Mm → Prop) (hs : s < S) (j1 : J M1) (hsto : ∀ (d : Nat) (s : Nat) (w : Int32) (M1 : sy_Mm), s < S → (w = 0 ∨ w = 1) → J M1 → Ex (d + 10) i_X8_stoneOf [.ref 30, .int (nI s), .int w] M1 (fun r N => r = some (.int (ston s w)) ∧ J N)) (hatt : ∀ (d : Nat) (s T : Nat) (w : Int32) (M1 : sy_Mm), s < S → T ≤ 299 → inR w 0 2 = true → J M1 → Ex (d + 10) i_X8_stateOf [.ref 30, .int (nI s), .int (nI T), .int w] M1 (fun r N => r = some (.int (att s (nI T) w)) ∧ J N)) (K : ∀ (M2 : sy_Mm) (x4 x5 : Option Value), J M2 → Fx (d + 30) i_X8_digest 70 [some (.ref 30), some (.long (dwS ston att s h)), none, some (.int (nI (s + 1))), x4, x5] [.int (M2 30 8), .int (nI (s + 1))] M2 P) : Fx (d + 30) i_X8_digest 73 [some (.ref 30), some (.long (h)), none, some (.int (nI s)), x4, x5] [] M1 P := by
  repeat refine fx_n rfl ?_
  refine fx_bf rfl (by decide) ?_
  repeat refine fx_n rfl ?_
  refine fx_c rfl (hsto _ _ _ _ hs (Or.inl rfl) j1) ?_
  rintro _ M1 ⟨rfl, j1⟩
  repeat refine fx_n rfl ?_
  rw [i01]
  refine fx_bf rfl (by decide) ?_
  repeat refine fx_n rfl ?_
  refine fx_c rfl (hsto _ _ _ _ hs (Or.inr rfl) j1) ?_
  rintro _ M1 ⟨rfl, j1⟩
  repeat refine fx_n rfl ?_
  rw [i12]
  refine fx_bt rfl (by decide) ?_
  repeat refine fx_n rfl ?_
  refine fx_bf rfl (by decide) ?_
  repeat refine fx_n rfl ?_
  refine em_ws3 d S s 20 _ M1 P hs (by omega) j1 hatt (fun M1 j1 => ?_)
  rw [i26n]
  refine fx_bf rfl (by decide) ?_
  repeat refine fx_n rfl ?_
  refine em_ws3 d S s 60 _ M1 P hs (by omega) j1 hatt (fun M1 j1 => ?_)
  rw [i60n]
  refine fx_bt rfl (by decide) ?_
  repeat refine fx_n rfl ?_
  rw [nI_1]
  exact K M1 _ _ j1
set_option maxRecDepth 100000 in
set_option maxHeartbeats 1000000 in
theorem em_h1 {J : sy_Mm → Prop} {luc : Nat → Int32 → Int32} (d x : Nat) (h : Int64) (M1 : sy_Mm) (x5 : Option Value) (P : Option Value → sy_Mm → Prop) (hx : x < 8) (j1 : J M1) (hluc : ∀ (d : Nat) (x : Nat) (w : Int32) (M1 : sy_Mm), x < 8 → (w = 0 ∨ w = 1) → J M1 → Ex (d + 10) i_X8_luckOf [.ref 30, .int (nI x), .int 20, .int w] M1 (fun r N => r = some (.int (luc x w)) ∧ J N)) (K : ∀ (M2 : sy_Mm) (x4 : Option Value), J M2 → Fx (d + 30) i_X8_digest 198 [some (.ref 30), some (.long (mx (mx h (luc x 0)) (luc x 1))), none, some (.int (nI x)), x4, x5] [] M2 P) : Fx (d + 30) i_X8_digest 172 [some (.ref 30), some (.long (h)), none, some (.int (nI x)), some (.int 0), x5] [.int 2, .int 0] M1 P := by
  refine fx_bf rfl (by decide) ?_
  repeat refine fx_n rfl ?_
  refine fx_c rfl (hluc _ _ _ _ hx (Or.inl rfl) j1) ?_
  rintro _ M1 ⟨rfl, j1⟩
  repeat refine fx_n rfl ?_
  rw [i01]
  refine fx_bf rfl (by decide) ?_
  repeat refine fx_n rfl ?_
  refine fx_c rfl (hluc _ _ _ _ hx (Or.inr rfl) j1) ?_
  rintro _ M1 ⟨rfl, j1⟩
  repeat refine fx_n rfl ?_
  rw [i12]
  refine fx_bt rfl (by decide) ?_
  exact K M1 _ j1
set_option maxRecDepth 100000 in
set_option maxHeartbeats 1000000 in
theorem em_h2 {J : sy_Mm → Prop} {cha : Nat → Int32 → Int64} (d x : Nat) (h : Int64) (M1 : sy_Mm) (x5 : Option Value) (P : Option Value → sy_Mm → Prop) (hx : x < 8) (j1 : J M1) (hcha : ∀ (d : Nat) (x : Nat) (w : Int32) (M1 : sy_Mm), x < 8 → (w = 0 ∨ w = 1) → J M1 → Ex (d + 10) i_X8_chanceOf [.ref 30, .int (nI x), .int 5, .int w] M1 (fun r N => r = some (.long (cha x w)) ∧ J N)) (K : ∀ (M2 : sy_Mm) (x4 : Option Value), J M2 → Fx (d + 30) i_X8_digest 261 [some (.ref 30), some (.long (ml (ml h (cha x 0)) (cha x 1))), none, some (.int (nI x)), x4, x5] [] M2 P) : Fx (d + 30) i_X8_digest 237 [some (.ref 30), some (.long (h)), none, some (.int (nI x)), some (.int 0), x5] [.int 2, .int 0] M1 P := by
  refine fx_bf rfl (by decide) ?_
  repeat refine fx_n rfl ?_
  refine fx_c rfl (hcha _ _ _ _ hx (Or.inl rfl) j1) ?_
  rintro _ M1 ⟨rfl, j1⟩
  repeat refine fx_n rfl ?_
  rw [i01]
  refine fx_bf rfl (by decide) ?_
  repeat refine fx_n rfl ?_
  refine fx_c rfl (hcha _ _ _ _ hx (Or.inr rfl) j1) ?_
  rintro _ M1 ⟨rfl, j1⟩
  repeat refine fx_n rfl ?_
  rw [i12]
  refine fx_bt rfl (by decide) ?_
  exact K M1 _ j1
set_option maxRecDepth 100000 in
set_option maxHeartbeats 1000000 in
theorem em_h3 {J : sy_Mm → Prop} {wai : Nat → Int32 → Int64} (d x : Nat) (h : Int64) (M1 : sy_Mm) (x5 : Option Value) (P : Option Value → sy_Mm → Prop) (hx : x < 8) (j1 : J M1) (hwai : ∀ (d : Nat) (x : Nat) (w : Int32) (M1 : sy_Mm), x < 8 → (w = 0 ∨ w = 1) → J M1 → Ex (d + 10) i_X8_waitsOf [.ref 30, .int (nI x), .int w] M1 (fun r N => r = some (.long (wai x w)) ∧ J N)) (K : ∀ (M2 : sy_Mm) (x4 : Option Value), J M2 → Fx (d + 30) i_X8_digest 290 [some (.ref 30), some (.long (ml (ml h (wai x 0)) (wai x 1))), none, some (.int (nI x)), x4, x5] [] M2 P) : Fx (d + 30) i_X8_digest 267 [some (.ref 30), some (.long (h)), none, some (.int (nI x)), some (.int 0), x5] [.int 2, .int 0] M1 P := by
  refine fx_bf rfl (by decide) ?_
  repeat refine fx_n rfl ?_
  refine fx_c rfl (hwai _ _ _ _ hx (Or.inl rfl) j1) ?_
  rintro _ M1 ⟨rfl, j1⟩
  repeat refine fx_n rfl ?_
  rw [i01]
  refine fx_bf rfl (by decide) ?_
  repeat refine fx_n rfl ?_
  refine fx_c rfl (hwai _ _ _ _ hx (Or.inr rfl) j1) ?_
  rintro _ M1 ⟨rfl, j1⟩
  repeat refine fx_n rfl ?_
  rw [i12]
  refine fx_bt rfl (by decide) ?_
  exact K M1 _ j1
set_option maxRecDepth 100000 in
set_option maxHeartbeats 1000000 in
theorem em_h4 {J : sy_Mm → Prop} {dayf ledf : Nat → Int32} (d x : Nat) (h : Int64) (M1 : sy_Mm) (x4 x5 : Option Value) (P : Option Value → sy_Mm → Prop) (hx : x < 8) (j1 : J M1) (hday : ∀ (d : Nat) (x : Nat) (M1 : sy_Mm), x < 8 → J M1 → Ex (d + 10) i_X8_daysOf [.ref 30, .int (nI x), .int 0, .int 99, .int (-1)] M1 (fun r N => r = some (.int (dayf x)) ∧ J N)) (hled : ∀ (d : Nat) (x : Nat) (M1 : sy_Mm), x < 8 → J M1 → Ex (d + 10) i_X8_ledOf [.ref 30, .int (nI x), .int 20, .int 0] M1 (fun r N => r = some (.int (ledf x)) ∧ J N)) (K : ∀ (M2 : sy_Mm), J M2 → Fx (d + 30) i_X8_digest 237 [some (.ref 30), some (.long (mx (mx h (dayf x)) (ledf x))), none, some (.int (nI x)), some (.int 0), x5] [.int 2, .int 0] M2 P) : Fx (d + 30) i_X8_digest 198 [some (.ref 30), some (.long (h)), none, some (.int (nI x)), x4, x5] [] M1 P := by
  repeat refine fx_n rfl ?_
  refine fx_c rfl (hday _ _ _ hx j1) ?_
  rintro _ M1 ⟨rfl, j1⟩
  repeat refine fx_n rfl ?_
  refine fx_c rfl (hled _ _ _ hx j1) ?_
  rintro _ M1 ⟨rfl, j1⟩
  repeat refine fx_n rfl ?_
  exact K M1 j1
set_option maxRecDepth 100000 in
set_option maxHeartbeats 1000000 in
theorem em_h5 {J : sy_Mm → Prop} {thif : Nat → Int32} (d x : Nat) (h : Int64) (M1 : sy_Mm) (x4 x5 : Option Value) (P : Option Value → sy_Mm → Prop) (hx : x < 8) (j1 : J M1) (hthi : ∀ (d : Nat) (x : Nat) (M1 : sy_Mm), x < 8 → J M1 → Ex (d + 10) i_X8_thiefOf [.ref 30, .int (nI x), .int 7, .int 9] M1 (fun r N => r = some (.int (thif x)) ∧ J N)) (K : ∀ (M2 : sy_Mm), J M2 → Fx (d + 30) i_X8_digest 163 [some (.ref 30), some (.long (mx h (thif x))), none, some (.int (nI (x + 1))), x4, x5] [.int 8, .int (nI (x + 1))] M2 P) : Fx (d + 30) i_X8_digest 290 [some (.ref 30), some (.long (h)), none, some (.int (nI x)), x4, x5] [] M1 P := by
  repeat refine fx_n rfl ?_
  refine fx_c rfl (hthi _ _ _ hx j1) ?_
  rintro _ M1 ⟨rfl, j1⟩
  repeat refine fx_n rfl ?_
  rw [nI_1]
  exact K M1 j1
set_option maxRecDepth 100000 in
set_option maxHeartbeats 1000000 in
theorem em_dgH {J : sy_Mm → Prop} {luc : Nat → Int32 → Int32} {dayf ledf thif : Nat → Int32} {cha wai : Nat → Int32 → Int64} (d x : Nat) (h : Int64) (M1 : sy_Mm) (x4 x5 : Option Value) (P : Option Value → sy_Mm → Prop) (hx : x < 8) (j1 : J M1) (hluc : ∀ (d : Nat) (x : Nat) (w : Int32) (M1 : sy_Mm), x < 8 → (w = 0 ∨ w = 1) → J M1 → Ex (d + 10) i_X8_luckOf [.ref 30, .int (nI x), .int 20, .int w] M1 (fun r N => r = some (.int (luc x w)) ∧ J N)) (hday : ∀ (d : Nat) (x : Nat) (M1 : sy_Mm), x < 8 → J M1 → Ex (d + 10) i_X8_daysOf [.ref 30, .int (nI x), .int 0, .int 99, .int (-1)] M1 (fun r N => r = some (.int (dayf x)) ∧ J N)) (hled : ∀ (d : Nat) (x : Nat) (M1 : sy_Mm), x < 8 → J M1 → Ex (d + 10) i_X8_ledOf [.ref 30, .int (nI x), .int 20, .int 0] M1 (fun r N => r = some (.int (ledf x)) ∧ J N)) (hcha : ∀ (d : Nat) (x : Nat) (w : Int32) (M1 : sy_Mm), x < 8 → (w = 0 ∨ w = 1) → J M1 → Ex (d + 10) i_X8_chanceOf [.ref 30, .int (nI x), .int 5, .int w] M1 (fun r N => r = some (.long (cha x w)) ∧ J N)) (hwai : ∀ (d : Nat) (x : Nat) (w : Int32) (M1 : sy_Mm), x < 8 → (w = 0 ∨ w = 1) → J M1 → Ex (d + 10) i_X8_waitsOf [.ref 30, .int (nI x), .int w] M1 (fun r N => r = some (.long (wai x w)) ∧ J N)) (hthi : ∀ (d : Nat) (x : Nat) (M1 : sy_Mm), x < 8 → J M1 → Ex (d + 10) i_X8_thiefOf [.ref 30, .int (nI x), .int 7, .int 9] M1 (fun r N => r = some (.int (thif x)) ∧ J N)) (K : ∀ (M2 : sy_Mm) (x4 x5 : Option Value), J M2 → Fx (d + 30) i_X8_digest 163 [some (.ref 30), some (.long (dhS luc dayf ledf thif cha wai x h)), none, some (.int (nI (x + 1))), x4, x5] [.int 8, .int (nI (x + 1))] M2 P) : Fx (d + 30) i_X8_digest 166 [some (.ref 30), some (.long (h)), none, some (.int (nI x)), x4, x5] [] M1 P := by
  repeat refine fx_n rfl ?_
  refine em_h1 d x h M1 x5 P hx j1 hluc (fun M1 x4 j1 => ?_)
  refine em_h4 d x _ M1 x4 x5 P hx j1 hday hled (fun M1 j1 => ?_)
  refine em_h2 d x _ M1 x5 P hx j1 hcha (fun M1 x4 j1 => ?_)
  repeat refine fx_n rfl ?_
  refine em_h3 d x _ M1 x5 P hx j1 hwai (fun M1 x4 j1 => ?_)
  refine em_h5 d x _ M1 x4 x5 P hx j1 hthi (fun M1 j1 => ?_)
  exact K M1 _ _ j1
set_option maxRecDepth 100000 in
set_option maxHeartbeats 1000000 in
theorem em_digest {J : sy_Mm → Prop} {cnt : Int32 → Int32} {flt jdg : Int32} {ston : Nat → Int32 → Int32} {att : Nat → Int32 → Int32 → Int32} {luc : Nat → Int32 → Int32} {dayf ledf thif : Nat → Int32} {cha wai : Nat → Int32 → Int64} {wof : Int32} {fit lett rob : Int32 → Int32} {car : Int32} (d : Nat) (M : sy_Mm) (S ne : Nat) (hS : S ≤ 9) (hne : ne ≤ 40) (hJ8 : ∀ N : sy_Mm, J N → N 30 8 = nI S) (hJ12 : ∀ N : sy_Mm, J N → N 30 12 = nI ne) (hcnt : ∀ (d : Nat) (k : Nat) (M1 : sy_Mm), k < 8 → kq M M1 → Ex (d + 10) i_X8_count [.ref 30, .int (nI k)] M1 (fun r N => r = some (.int (cnt (nI k))) ∧ kq M N)) (hrd : ∀ (d : Nat) (M1 : sy_Mm), kq M M1 → Ex (d + 10) i_X8_reads [.ref 30] M1 (fun r N => r = some (.int flt) ∧ J N)) (hgo : ∀ (d : Nat) (M1 : sy_Mm), J M1 → Ex (d + 10) i_X8_goes [.ref 30, .int 199, .int (-1)] M1 (fun r N => r = none ∧ J N ∧ N 30 18 = jdg)) (hsto : ∀ (d : Nat) (s : Nat) (w : Int32) (M1 : sy_Mm), s < S → (w = 0 ∨ w = 1) → J M1 → Ex (d + 10) i_X8_stoneOf [.ref 30, .int (nI s), .int w] M1 (fun r N => r = some (.int (ston s w)) ∧ J N)) (hatt : ∀ (d : Nat) (s T : Nat) (w : Int32) (M1 : sy_Mm), s < S → T ≤ 299 → inR w 0 2 = true → J M1 → Ex (d + 10) i_X8_stateOf [.ref 30, .int (nI s), .int (nI T), .int w] M1 (fun r N => r = some (.int (att s (nI T) w)) ∧ J N)) (hluc : ∀ (d : Nat) (x : Nat) (w : Int32) (M1 : sy_Mm), x < 8 → (w = 0 ∨ w = 1) → J M1 → Ex (d + 10) i_X8_luckOf [.ref 30, .int (nI x), .int 20, .int w] M1 (fun r N => r = some (.int (luc x w)) ∧ J N)) (hday : ∀ (d : Nat) (x : Nat) (M1 : sy_Mm), x < 8 → J M1 → Ex (d + 10) i_X8_daysOf [.ref 30, .int (nI x), .int 0, .int 99, .int (-1)] M1 (fun r N => r = some (.int (dayf x)) ∧ J N)) (hled : ∀ (d : Nat) (x : Nat) (M1 : sy_Mm), x < 8 → J M1 → Ex (d + 10) i_X8_ledOf [.ref 30, .int (nI x), .int 20, .int 0] M1 (fun r N => r = some (.int (ledf x)) ∧ J N)) (hcha : ∀ (d : Nat) (x : Nat) (w : Int32) (M1 : sy_Mm), x < 8 → (w = 0 ∨ w = 1) → J M1 → Ex (d + 10) i_X8_chanceOf [.ref 30, .int (nI x), .int 5, .int w] M1 (fun r N => r = some (.long (cha x w)) ∧ J N)) (hwai : ∀ (d : Nat) (x : Nat) (w : Int32) (M1 : sy_Mm), x < 8 → (w = 0 ∨ w = 1) → J M1 → Ex (d + 10) i_X8_waitsOf [.ref 30, .int (nI x), .int w] M1 (fun r N => r = some (.long (wai x w)) ∧ J N)) (hthi : ∀ (d : Nat) (x : Nat) (M1 : sy_Mm), x < 8 → J M1 → Ex (d + 10) i_X8_thiefOf [.ref 30, .int (nI x), .int 7, .int 9] M1 (fun r N => r = some (.int (thif x)) ∧ J N)) (hwo : 0 < ne → ∀ (d : Nat) (M1 : sy_Mm), J M1 → Ex (d + 10) i_X8_withoutOf [.ref 30, .int 0, .int 99] M1 (fun r N => r = some (.int wof) ∧ J N)) (hwo0 : ne = 0 → wof = -10002) (hfit : ∀ (d : Nat) (k : Nat) (M1 : sy_Mm), k < 4 → J M1 → Ex (d + 10) i_X8_fittingOf [.ref 30, .int (nI k)] M1 (fun r N => r = some (.int (fit (nI k))) ∧ J N)) (hlet : ∀ (d : Nat) (w : Int32) (M1 : sy_Mm), (w = 0 ∨ w = 1) → J M1 → Ex (d + 10) i_X8_letsOf [.ref 30, .int 199, .int 1, .int w] M1 (fun r N => r = some (.int (lett w)) ∧ J N)) (hrob : ∀ (d : Nat) (k : Nat) (M1 : sy_Mm), k < 3 → J M1 → Ex (d + 10) i_X8_robsOf [.ref 30, .int 7, .int 50, .int (nI k)] M1 (fun r N => r = some (.int (rob (nI k))) ∧ J N)) (hcar : ∀ (d : Nat) (M1 : sy_Mm), J M1 → Ex (d + 10) i_X8_carelessOf [.int 5, .int 40] M1 (fun r N => r = some (.int car) ∧ J N)) : Ex (d + 30) i_X8_digest [.ref 30] M (fun r N => r = some (.long (dg2 fit lett rob wof car (ndS (dhS luc dayf ledf thif cha wai) 8 (ndS (dwS ston att) S (dg1 cnt flt jdg))))) ∧ J N) := by
  have l7 : ∀ (h0 : Int64) (x4 x5 : Option Value) (j k : Nat) (M1 : sy_Mm), k + j = 3 → J M1 → Fx (d + 30) i_X8_digest 401 [some (.ref 30), some (.long (ndS (fun k h => mx h (rob (nI k))) k h0)), none, some (.int (nI k)), x4, x5] [.int 3, .int (nI k)] M1 (fun r N => r = some (.long (mx (ndS (fun k h => mx h (rob (nI k))) 3 h0) car)) ∧ J N) := by
    intro h0 x4 x5 j
    induction j with
    | zero =>
      intro k M1 hk j1
      have e : k = 3 := by omega
      subst e
      refine fx_bt rfl (by decide) ?_
      repeat refine fx_n rfl ?_
      refine fx_c rfl (hcar _ _ j1) ?_
      rintro _ M1 ⟨rfl, j1⟩
      repeat refine fx_n rfl ?_
      exact fx_r rfl rfl ⟨rfl, j1⟩
    | succ j ih =>
      intro k M1 hk j1
      refine fx_bf rfl (nI_ge (b := 3) (by omega) (by omega)) ?_
      repeat refine fx_n rfl ?_
      refine fx_c rfl (hrob _ k _ (by omega) j1) ?_
      rintro _ M1 ⟨rfl, j1⟩
      repeat refine fx_n rfl ?_
      rw [nI_1]
      have q := ih (k + 1) M1 (by omega) j1
      rw [nd_s] at q
      exact q
  have l5 : ∀ (h0 : Int64) (x4 x5 : Option Value) (j k : Nat) (M1 : sy_Mm), k + j = 4 → J M1 → Fx (d + 30) i_X8_digest 345 [some (.ref 30), some (.long (ndS (fun k h => mx h (fit (nI k))) k h0)), none, some (.int (nI k)), x4, x5] [.int 4, .int (nI k)] M1 (fun r N => r = some (.long (mx (ndS (fun k h => mx h (rob (nI k))) 3 (mx (mx (ndS (fun k h => mx h (fit (nI k))) 4 h0) (lett 0)) (lett 1))) car)) ∧ J N) := by
    intro h0 x4 x5 j
    induction j with
    | zero =>
      intro k M1 hk j1
      have e : k = 4 := by omega
      subst e
      refine fx_bt rfl (by decide) ?_
      repeat refine fx_n rfl ?_
      refine fx_bf rfl (by decide) ?_
      repeat refine fx_n rfl ?_
      refine fx_c rfl (hlet _ _ _ (Or.inl rfl) j1) ?_
      rintro _ M1 ⟨rfl, j1⟩
      repeat refine fx_n rfl ?_
      rw [i01]
      refine fx_bf rfl (by decide) ?_
      repeat refine fx_n rfl ?_
      refine fx_c rfl (hlet _ _ _ (Or.inr rfl) j1) ?_
      rintro _ M1 ⟨rfl, j1⟩
      repeat refine fx_n rfl ?_
      rw [i12]
      refine fx_bt rfl (by decide) ?_
      repeat refine fx_n rfl ?_
      have q := l7 (mx (mx (ndS (fun k h => mx h (fit (nI k))) 4 h0) (lett 0)) (lett 1)) x4 x5 3 0 M1 (by omega) j1
      rw [nd_0] at q
      exact q
    | succ j ih =>
      intro k M1 hk j1
      refine fx_bf rfl (nI_ge (b := 4) (by omega) (by omega)) ?_
      repeat refine fx_n rfl ?_
      refine fx_c rfl (hfit _ k _ (by omega) j1) ?_
      rintro _ M1 ⟨rfl, j1⟩
      repeat refine fx_n rfl ?_
      rw [nI_1]
      have q := ih (k + 1) M1 (by omega) j1
      rw [nd_s] at q
      exact q
  have l4 : ∀ (h0 : Int64) (j k : Nat) (M1 : sy_Mm) (x4 x5 : Option Value), k + j = 8 → J M1 → Fx (d + 30) i_X8_digest 163 [some (.ref 30), some (.long (ndS (dhS luc dayf ledf thif cha wai) k h0)), none, some (.int (nI k)), x4, x5] [.int 8, .int (nI k)] M1 (fun r N => r = some (.long (dg2 fit lett rob wof car (ndS (dhS luc dayf ledf thif cha wai) 8 h0))) ∧ J N) := by
    intro h0 j
    induction j with
    | zero =>
      intro k M1 x4 x5 hk j1
      have e : k = 8 := by omega
      subst e
      refine fx_bt rfl (by decide) ?_
      repeat refine fx_n rfl ?_
      by_cases hn : ne = 0
      · refine fx_bf rfl (by rw [hJ12 _ j1, hn]; decide) ?_
        repeat refine fx_n rfl ?_
        have q := l5 (mx (ndS (dhS luc dayf ledf thif cha wai) 8 h0) wof) x4 x5 4 0 M1 (by omega) j1
        rw [nd_0, hwo0 hn] at q
        rw [hwo0 hn]
        exact q
      · refine fx_bt rfl (by rw [hJ12 _ j1]; exact fun z => hn ((nI_eq (b := 0) (by omega) (by omega)).mp z)) ?_
        repeat refine fx_n rfl ?_
        refine fx_c rfl (hwo (by omega) _ _ j1) ?_
        rintro _ M1 ⟨rfl, j1⟩
        repeat refine fx_n rfl ?_
        have q := l5 (mx (ndS (dhS luc dayf ledf thif cha wai) 8 h0) wof) x4 x5 4 0 M1 (by omega) j1
        rw [nd_0] at q
        exact q
    | succ j ih =>
      intro k M1 x4 x5 hk j1
      refine fx_bf rfl (nI_ge (b := 8) (by omega) (by omega)) ?_
      exact em_dgH d k _ M1 x4 x5 _ (by omega) j1 hluc hday hled hcha hwai hthi (fun M2 x4 x5 j2 => ih (k + 1) M2 x4 x5 (by omega) j2)
  have l3 : ∀ (h0 : Int64) (j k : Nat) (M1 : sy_Mm) (x4 x5 : Option Value), k + j = S → J M1 → Fx (d + 30) i_X8_digest 70 [some (.ref 30), some (.long (ndS (dwS ston att) k h0)), none, some (.int (nI k)), x4, x5] [.int (M1 30 8), .int (nI k)] M1 (fun r N => r = some (.long (dg2 fit lett rob wof car (ndS (dhS luc dayf ledf thif cha wai) 8 (ndS (dwS ston att) S h0)))) ∧ J N) := by
    intro h0 j
    induction j with
    | zero =>
      intro k M1 x4 x5 hk j1
      have e : k = S := by omega
      subst e
      refine fx_bt rfl (by rw [hJ8 _ j1]; exact nI_le (Nat.le_refl _) (by omega)) ?_
      repeat refine fx_n rfl ?_
      have q := l4 (ndS (dwS ston att) k h0) 8 0 M1 x4 x5 (by omega) j1
      rw [nd_0] at q
      exact q
    | succ j ih =>
      intro k M1 x4 x5 hk j1
      refine fx_bf rfl (by rw [hJ8 _ j1]; exact nI_ge (by omega) (by omega)) ?_
      exact em_dgS d S k _ M1 x4 x5 _ (by omega) j1 hsto hatt (fun M2 x4 x5 j2 => ih (k + 1) M2 x4 x5 (by omega) j2)
  have l1 : ∀ (j k : Nat) (M1 : sy_Mm), k + j = 8 → kq M M1 → Fx (d + 30) i_X8_digest 9 [some (.ref 30), some (.long (ndS (fun k h => mx h (cnt (nI k))) k 17)), none, some (.int (nI k)), none, none] [.int 8, .int (nI k)] M1 (fun r N => r = some (.long (dg2 fit lett rob wof car (ndS (dhS luc dayf ledf thif cha wai) 8 (ndS (dwS ston att) S (dg1 cnt flt jdg))))) ∧ J N) := by
    intro j
    induction j with
    | zero =>
      intro k M1 hk k1
      have e : k = 8 := by omega
      subst e
      refine fx_bt rfl (by decide) ?_
      repeat refine fx_n rfl ?_
      refine fx_c rfl (hrd _ _ k1) ?_
      rintro _ M1 ⟨rfl, j1⟩
      repeat refine fx_n rfl ?_
      refine fx_c rfl (hgo _ _ j1) ?_
      rintro _ M1 ⟨rfl, j1, e18⟩
      repeat refine fx_n rfl ?_
      rw [e18]
      have q := l3 (dg1 cnt flt jdg) S 0 M1 none none (by omega) j1
      rw [nd_0] at q
      exact q
    | succ j ih =>
      intro k M1 hk k1
      refine fx_bf rfl (nI_ge (b := 8) (by omega) (by omega)) ?_
      repeat refine fx_n rfl ?_
      refine fx_c rfl (hcnt _ k _ (by omega) k1) ?_
      rintro _ M1 ⟨rfl, k1⟩
      repeat refine fx_n rfl ?_
      rw [nI_1]
      have q := ih (k + 1) M1 (by omega) k1
      rw [nd_s] at q
      exact q
  unfold Ex
  repeat refine fx_n rfl ?_
  have q := l1 8 0 M (by omega) kq.rf
  rw [nd_0] at q
  exact q
