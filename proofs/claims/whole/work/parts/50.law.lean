theorem ixL {k L : Nat} {x : Int32} (h : k < L) (hL : L ≤ 3072) (e : x = nI L) : 0 ≤ (nI k).toInt ∧ (nI k).toInt < x.toInt := by
  rw [e, nI_toInt (by omega), nI_toInt (by omega)]
  omega
theorem law_ag {yc ym : Nat} {as : List Value} {M : sy_Mm} (h : AG yc ym as M) : ∃ (v : Int32) (N N' : sy_Mm), Ev 30 yc (.ref 0 :: as) M (some (.int v)) N ∧ Ev 30 ym (.ref 30 :: as) N (some (.int v)) N' ∧ Inv N' ∧ (∀ k, 46 ≤ k → N k = M k) ∧ ∀ k, 46 ≤ k → N' k = M k := by
  obtain ⟨r, N, h1, ⟨v, rfl⟩, r', N', h2, rfl, h3⟩ := h 0
  exact ⟨v, N, N', h1, h2, h3, fr_keep h1, fun k hk => (fr_keep h2 k hk).trans (fr_keep h1 k hk)⟩
theorem law_agl {yc ym : Nat} {as : List Value} {M : sy_Mm} (h : AGl yc ym as M) : ∃ (v : Int64) (N N' : sy_Mm), Ev 30 yc (.ref 0 :: as) M (some (.long v)) N ∧ Ev 30 ym (.ref 30 :: as) N (some (.long v)) N' ∧ Inv N' ∧ (∀ k, 46 ≤ k → N k = M k) ∧ ∀ k, 46 ≤ k → N' k = M k := by
  obtain ⟨r, N, h1, ⟨v, rfl⟩, r', N', h2, rfl, h3⟩ := h 0
  exact ⟨v, N, N', h1, h2, h3, fr_keep h1, fun k hk => (fr_keep h2 k hk).trans (fr_keep h1 k hk)⟩
set_option maxRecDepth 100000 in
set_option maxHeartbeats 4000000 in
theorem law_0 {M : sy_Mm} {i L : Nat} {P : Option Value → sy_Mm → Prop} (hI : Inv M) (hX : M 98 0 = nI L) (hL : L ≤ 3072) (hi : i + 6 ≤ L) (K : ∀ N', Inv N' → N' 98 = M 98 → N' 99 = M 99 → Fx 31 i_L_law 1255 [some (.ref 99), some (.ref 0), some (.ref 30), some (.int (nI i))] [] N' P) : Fx 31 i_L_law 176 [some (.ref 99), some (.ref 0), some (.ref 30), some (.int (nI i))] [] M P := by
  obtain ⟨v, N, N', e1, e2, hI', k1, k2⟩ := law_ag (ag_type hI (M 99 (i + 1)))
  have n98 : N 98 = M 98 := k1 98 (by omega)
  have n99 : N 99 = M 99 := k1 99 (by omega)
  repeat refine fx_n rfl ?_
  rw [nI_1]
  refine fx_g rfl (ixL (L := L) (by omega) hL hX) ?_
  rw [nI_cl (by omega)]
  repeat refine fx_n rfl ?_
  refine fx_c rfl (ex_of e1) ?_
  rintro r1 M2 ⟨hr1, hM2⟩
  rw [hr1, hM2]
  repeat refine fx_n rfl ?_
  rw [nI_1]
  refine fx_g rfl (ixL (L := L) (by omega) hL (by rw [n98]; exact hX)) ?_
  rw [nI_cl (by omega), n99]
  repeat refine fx_n rfl ?_
  refine fx_c rfl (ex_of e2) ?_
  rintro r1 M2 ⟨hr1, hM2⟩
  rw [hr1, hM2]
  refine fx_bt rfl rfl ?_
  exact K N' hI' (k2 98 (by omega)) (k2 99 (by omega))
set_option maxRecDepth 100000 in
set_option maxHeartbeats 4000000 in
theorem law_1 {M : sy_Mm} {i L : Nat} {P : Option Value → sy_Mm → Prop} (hI : Inv M) (hX : M 98 0 = nI L) (hL : L ≤ 3072) (hi : i + 6 ≤ L) (K : ∀ N', Inv N' → N' 98 = M 98 → N' 99 = M 99 → Fx 31 i_L_law 1255 [some (.ref 99), some (.ref 0), some (.ref 30), some (.int (nI i))] [] N' P) : Fx 31 i_L_law 199 [some (.ref 99), some (.ref 0), some (.ref 30), some (.int (nI i))] [] M P := by
  obtain ⟨v, N, N', e1, e2, hI', k1, k2⟩ := law_ag (ag_wipe hI )
  have n98 : N 98 = M 98 := k1 98 (by omega)
  have n99 : N 99 = M 99 := k1 99 (by omega)
  repeat refine fx_n rfl ?_
  refine fx_c rfl (ex_of e1) ?_
  rintro r1 M2 ⟨hr1, hM2⟩
  rw [hr1, hM2]
  repeat refine fx_n rfl ?_
  refine fx_c rfl (ex_of e2) ?_
  rintro r1 M2 ⟨hr1, hM2⟩
  rw [hr1, hM2]
  refine fx_bt rfl rfl ?_
  exact K N' hI' (k2 98 (by omega)) (k2 99 (by omega))
set_option maxRecDepth 100000 in
set_option maxHeartbeats 4000000 in
theorem law_2 {M : sy_Mm} {i L : Nat} {P : Option Value → sy_Mm → Prop} (hI : Inv M) (hX : M 98 0 = nI L) (hL : L ≤ 3072) (hi : i + 6 ≤ L) (K : ∀ N', Inv N' → N' 98 = M 98 → N' 99 = M 99 → Fx 31 i_L_law 1255 [some (.ref 99), some (.ref 0), some (.ref 30), some (.int (nI i))] [] N' P) : Fx 31 i_L_law 212 [some (.ref 99), some (.ref 0), some (.ref 30), some (.int (nI i))] [] M P := by
  obtain ⟨v, N, N', e1, e2, hI', k1, k2⟩ := law_ag (ag_fault hI )
  have n98 : N 98 = M 98 := k1 98 (by omega)
  have n99 : N 99 = M 99 := k1 99 (by omega)
  repeat refine fx_n rfl ?_
  refine fx_c rfl (ex_of e1) ?_
  rintro r1 M2 ⟨hr1, hM2⟩
  rw [hr1, hM2]
  repeat refine fx_n rfl ?_
  refine fx_c rfl (ex_of e2) ?_
  rintro r1 M2 ⟨hr1, hM2⟩
  rw [hr1, hM2]
  refine fx_bt rfl rfl ?_
  exact K N' hI' (k2 98 (by omega)) (k2 99 (by omega))
set_option maxRecDepth 100000 in
set_option maxHeartbeats 4000000 in
theorem law_3 {M : sy_Mm} {i L : Nat} {P : Option Value → sy_Mm → Prop} (hI : Inv M) (hX : M 98 0 = nI L) (hL : L ≤ 3072) (hi : i + 6 ≤ L) (K : ∀ N', Inv N' → N' 98 = M 98 → N' 99 = M 99 → Fx 31 i_L_law 1255 [some (.ref 99), some (.ref 0), some (.ref 30), some (.int (nI i))] [] N' P) : Fx 31 i_L_law 225 [some (.ref 99), some (.ref 0), some (.ref 30), some (.int (nI i))] [] M P := by
  obtain ⟨v, N, N', e1, e2, hI', k1, k2⟩ := law_ag (ag_stone hI (M 99 (i + 1)) (M 99 (i + 2)))
  have n98 : N 98 = M 98 := k1 98 (by omega)
  have n99 : N 99 = M 99 := k1 99 (by omega)
  repeat refine fx_n rfl ?_
  rw [nI_1]
  refine fx_g rfl (ixL (L := L) (by omega) hL hX) ?_
  rw [nI_cl (by omega)]
  repeat refine fx_n rfl ?_
  rw [nI_p2]
  refine fx_g rfl (ixL (L := L) (by omega) hL hX) ?_
  rw [nI_cl (by omega)]
  repeat refine fx_n rfl ?_
  refine fx_c rfl (ex_of e1) ?_
  rintro r1 M2 ⟨hr1, hM2⟩
  rw [hr1, hM2]
  repeat refine fx_n rfl ?_
  rw [nI_1]
  refine fx_g rfl (ixL (L := L) (by omega) hL (by rw [n98]; exact hX)) ?_
  rw [nI_cl (by omega), n99]
  repeat refine fx_n rfl ?_
  rw [nI_p2]
  refine fx_g rfl (ixL (L := L) (by omega) hL (by rw [n98]; exact hX)) ?_
  rw [nI_cl (by omega), n99]
  repeat refine fx_n rfl ?_
  refine fx_c rfl (ex_of e2) ?_
  rintro r1 M2 ⟨hr1, hM2⟩
  rw [hr1, hM2]
  refine fx_bt rfl rfl ?_
  exact K N' hI' (k2 98 (by omega)) (k2 99 (by omega))
set_option maxRecDepth 100000 in
set_option maxHeartbeats 4000000 in
theorem law_4 {M : sy_Mm} {i L : Nat} {P : Option Value → sy_Mm → Prop} (hI : Inv M) (hX : M 98 0 = nI L) (hL : L ≤ 3072) (hi : i + 6 ≤ L) (K : ∀ N', Inv N' → N' 98 = M 98 → N' 99 = M 99 → Fx 31 i_L_law 1255 [some (.ref 99), some (.ref 0), some (.ref 30), some (.int (nI i))] [] N' P) : Fx 31 i_L_law 258 [some (.ref 99), some (.ref 0), some (.ref 30), some (.int (nI i))] [] M P := by
  obtain ⟨v, N, N', e1, e2, hI', k1, k2⟩ := law_ag (ag_lasts hI (M 99 (i + 1)))
  have n98 : N 98 = M 98 := k1 98 (by omega)
  have n99 : N 99 = M 99 := k1 99 (by omega)
  repeat refine fx_n rfl ?_
  rw [nI_1]
  refine fx_g rfl (ixL (L := L) (by omega) hL hX) ?_
  rw [nI_cl (by omega)]
  repeat refine fx_n rfl ?_
  refine fx_c rfl (ex_of e1) ?_
  rintro r1 M2 ⟨hr1, hM2⟩
  rw [hr1, hM2]
  repeat refine fx_n rfl ?_
  rw [nI_1]
  refine fx_g rfl (ixL (L := L) (by omega) hL (by rw [n98]; exact hX)) ?_
  rw [nI_cl (by omega), n99]
  repeat refine fx_n rfl ?_
  refine fx_c rfl (ex_of e2) ?_
  rintro r1 M2 ⟨hr1, hM2⟩
  rw [hr1, hM2]
  refine fx_bt rfl rfl ?_
  exact K N' hI' (k2 98 (by omega)) (k2 99 (by omega))
set_option maxRecDepth 100000 in
set_option maxHeartbeats 4000000 in
theorem law_5 {M : sy_Mm} {i L : Nat} {P : Option Value → sy_Mm → Prop} (hI : Inv M) (hX : M 98 0 = nI L) (hL : L ≤ 3072) (hi : i + 6 ≤ L) (K : ∀ N', Inv N' → N' 98 = M 98 → N' 99 = M 99 → Fx 31 i_L_law 1255 [some (.ref 99), some (.ref 0), some (.ref 30), some (.int (nI i))] [] N' P) : Fx 31 i_L_law 281 [some (.ref 99), some (.ref 0), some (.ref 30), some (.int (nI i))] [] M P := by
  obtain ⟨v, N, N', e1, e2, hI', k1, k2⟩ := law_ag (ag_event hI (M 99 (i + 1)) (M 99 (i + 2)) (M 99 (i + 3)) (M 99 (i + 4)) (M 99 (i + 5)))
  have n98 : N 98 = M 98 := k1 98 (by omega)
  have n99 : N 99 = M 99 := k1 99 (by omega)
  repeat refine fx_n rfl ?_
  rw [nI_1]
  refine fx_g rfl (ixL (L := L) (by omega) hL hX) ?_
  rw [nI_cl (by omega)]
  repeat refine fx_n rfl ?_
  rw [nI_p2]
  refine fx_g rfl (ixL (L := L) (by omega) hL hX) ?_
  rw [nI_cl (by omega)]
  repeat refine fx_n rfl ?_
  rw [nI_p3]
  refine fx_g rfl (ixL (L := L) (by omega) hL hX) ?_
  rw [nI_cl (by omega)]
  repeat refine fx_n rfl ?_
  rw [nI_p4]
  refine fx_g rfl (ixL (L := L) (by omega) hL hX) ?_
  rw [nI_cl (by omega)]
  repeat refine fx_n rfl ?_
  rw [nI_p5]
  refine fx_g rfl (ixL (L := L) (by omega) hL hX) ?_
  rw [nI_cl (by omega)]
  repeat refine fx_n rfl ?_
  refine fx_c rfl (ex_of e1) ?_
  rintro r1 M2 ⟨hr1, hM2⟩
  rw [hr1, hM2]
  repeat refine fx_n rfl ?_
  rw [nI_1]
  refine fx_g rfl (ixL (L := L) (by omega) hL (by rw [n98]; exact hX)) ?_
  rw [nI_cl (by omega), n99]
  repeat refine fx_n rfl ?_
  rw [nI_p2]
  refine fx_g rfl (ixL (L := L) (by omega) hL (by rw [n98]; exact hX)) ?_
  rw [nI_cl (by omega), n99]
  repeat refine fx_n rfl ?_
  rw [nI_p3]
  refine fx_g rfl (ixL (L := L) (by omega) hL (by rw [n98]; exact hX)) ?_
  rw [nI_cl (by omega), n99]
  repeat refine fx_n rfl ?_
  rw [nI_p4]
  refine fx_g rfl (ixL (L := L) (by omega) hL (by rw [n98]; exact hX)) ?_
  rw [nI_cl (by omega), n99]
  repeat refine fx_n rfl ?_
  rw [nI_p5]
  refine fx_g rfl (ixL (L := L) (by omega) hL (by rw [n98]; exact hX)) ?_
  rw [nI_cl (by omega), n99]
  repeat refine fx_n rfl ?_
  refine fx_c rfl (ex_of e2) ?_
  rintro r1 M2 ⟨hr1, hM2⟩
  rw [hr1, hM2]
  refine fx_bt rfl rfl ?_
  exact K N' hI' (k2 98 (by omega)) (k2 99 (by omega))
set_option maxRecDepth 100000 in
set_option maxHeartbeats 4000000 in
theorem law_6 {M : sy_Mm} {i L : Nat} {P : Option Value → sy_Mm → Prop} (hI : Inv M) (hX : M 98 0 = nI L) (hL : L ≤ 3072) (hi : i + 6 ≤ L) (K : ∀ N', Inv N' → N' 98 = M 98 → N' 99 = M 99 → Fx 31 i_L_law 1255 [some (.ref 99), some (.ref 0), some (.ref 30), some (.int (nI i))] [] N' P) : Fx 31 i_L_law 344 [some (.ref 99), some (.ref 0), some (.ref 30), some (.int (nI i))] [] M P := by
  obtain ⟨v, N, N', e1, e2, hI', k1, k2⟩ := law_ag (ag_read hI (M 99 (i + 1)))
  have n98 : N 98 = M 98 := k1 98 (by omega)
  have n99 : N 99 = M 99 := k1 99 (by omega)
  repeat refine fx_n rfl ?_
  rw [nI_1]
  refine fx_g rfl (ixL (L := L) (by omega) hL hX) ?_
  rw [nI_cl (by omega)]
  repeat refine fx_n rfl ?_
  refine fx_c rfl (ex_of e1) ?_
  rintro r1 M2 ⟨hr1, hM2⟩
  rw [hr1, hM2]
  repeat refine fx_n rfl ?_
  rw [nI_1]
  refine fx_g rfl (ixL (L := L) (by omega) hL (by rw [n98]; exact hX)) ?_
  rw [nI_cl (by omega), n99]
  repeat refine fx_n rfl ?_
  refine fx_c rfl (ex_of e2) ?_
  rintro r1 M2 ⟨hr1, hM2⟩
  rw [hr1, hM2]
  refine fx_bt rfl rfl ?_
  exact K N' hI' (k2 98 (by omega)) (k2 99 (by omega))
set_option maxRecDepth 100000 in
set_option maxHeartbeats 4000000 in
theorem law_7 {M : sy_Mm} {i L : Nat} {P : Option Value → sy_Mm → Prop} (hI : Inv M) (hX : M 98 0 = nI L) (hL : L ≤ 3072) (hi : i + 6 ≤ L) (K : ∀ N', Inv N' → N' 98 = M 98 → N' 99 = M 99 → Fx 31 i_L_law 1255 [some (.ref 99), some (.ref 0), some (.ref 30), some (.int (nI i))] [] N' P) : Fx 31 i_L_law 367 [some (.ref 99), some (.ref 0), some (.ref 30), some (.int (nI i))] [] M P := by
  obtain ⟨v, N, N', e1, e2, hI', k1, k2⟩ := law_ag (ag_undo hI )
  have n98 : N 98 = M 98 := k1 98 (by omega)
  have n99 : N 99 = M 99 := k1 99 (by omega)
  repeat refine fx_n rfl ?_
  refine fx_c rfl (ex_of e1) ?_
  rintro r1 M2 ⟨hr1, hM2⟩
  rw [hr1, hM2]
  repeat refine fx_n rfl ?_
  refine fx_c rfl (ex_of e2) ?_
  rintro r1 M2 ⟨hr1, hM2⟩
  rw [hr1, hM2]
  refine fx_bt rfl rfl ?_
  exact K N' hI' (k2 98 (by omega)) (k2 99 (by omega))
set_option maxRecDepth 100000 in
set_option maxHeartbeats 4000000 in
theorem law_8 {M : sy_Mm} {i L : Nat} {P : Option Value → sy_Mm → Prop} (hI : Inv M) (hX : M 98 0 = nI L) (hL : L ≤ 3072) (hi : i + 6 ≤ L) (K : ∀ N', Inv N' → N' 98 = M 98 → N' 99 = M 99 → Fx 31 i_L_law 1255 [some (.ref 99), some (.ref 0), some (.ref 30), some (.int (nI i))] [] N' P) : Fx 31 i_L_law 380 [some (.ref 99), some (.ref 0), some (.ref 30), some (.int (nI i))] [] M P := by
  obtain ⟨v, N, N', e1, e2, hI', k1, k2⟩ := law_ag (ag_judged hI )
  have n98 : N 98 = M 98 := k1 98 (by omega)
  have n99 : N 99 = M 99 := k1 99 (by omega)
  repeat refine fx_n rfl ?_
  refine fx_c rfl (ex_of e1) ?_
  rintro r1 M2 ⟨hr1, hM2⟩
  rw [hr1, hM2]
  repeat refine fx_n rfl ?_
  refine fx_c rfl (ex_of e2) ?_
  rintro r1 M2 ⟨hr1, hM2⟩
  rw [hr1, hM2]
  refine fx_bt rfl rfl ?_
  exact K N' hI' (k2 98 (by omega)) (k2 99 (by omega))
set_option maxRecDepth 100000 in
set_option maxHeartbeats 4000000 in
theorem law_9 {M : sy_Mm} {i L : Nat} {P : Option Value → sy_Mm → Prop} (hI : Inv M) (hX : M 98 0 = nI L) (hL : L ≤ 3072) (hi : i + 6 ≤ L) (K : ∀ N', Inv N' → N' 98 = M 98 → N' 99 = M 99 → Fx 31 i_L_law 1255 [some (.ref 99), some (.ref 0), some (.ref 30), some (.int (nI i))] [] N' P) : Fx 31 i_L_law 393 [some (.ref 99), some (.ref 0), some (.ref 30), some (.int (nI i))] [] M P := by
  obtain ⟨v, N, N', e1, e2, hI', k1, k2⟩ := law_ag (ag_at hI (M 99 (i + 1)) (M 99 (i + 2)) (M 99 (i + 3)))
  have n98 : N 98 = M 98 := k1 98 (by omega)
  have n99 : N 99 = M 99 := k1 99 (by omega)
  repeat refine fx_n rfl ?_
  rw [nI_1]
  refine fx_g rfl (ixL (L := L) (by omega) hL hX) ?_
  rw [nI_cl (by omega)]
  repeat refine fx_n rfl ?_
  rw [nI_p2]
  refine fx_g rfl (ixL (L := L) (by omega) hL hX) ?_
  rw [nI_cl (by omega)]
  repeat refine fx_n rfl ?_
  rw [nI_p3]
  refine fx_g rfl (ixL (L := L) (by omega) hL hX) ?_
  rw [nI_cl (by omega)]
  repeat refine fx_n rfl ?_
  refine fx_c rfl (ex_of e1) ?_
  rintro r1 M2 ⟨hr1, hM2⟩
  rw [hr1, hM2]
  repeat refine fx_n rfl ?_
  rw [nI_1]
  refine fx_g rfl (ixL (L := L) (by omega) hL (by rw [n98]; exact hX)) ?_
  rw [nI_cl (by omega), n99]
  repeat refine fx_n rfl ?_
  rw [nI_p2]
  refine fx_g rfl (ixL (L := L) (by omega) hL (by rw [n98]; exact hX)) ?_
  rw [nI_cl (by omega), n99]
  repeat refine fx_n rfl ?_
  rw [nI_p3]
  refine fx_g rfl (ixL (L := L) (by omega) hL (by rw [n98]; exact hX)) ?_
  rw [nI_cl (by omega), n99]
  repeat refine fx_n rfl ?_
  refine fx_c rfl (ex_of e2) ?_
  rintro r1 M2 ⟨hr1, hM2⟩
  rw [hr1, hM2]
  refine fx_bt rfl rfl ?_
  exact K N' hI' (k2 98 (by omega)) (k2 99 (by omega))
set_option maxRecDepth 100000 in
set_option maxHeartbeats 4000000 in
theorem law_10 {M : sy_Mm} {i L : Nat} {P : Option Value → sy_Mm → Prop} (hI : Inv M) (hX : M 98 0 = nI L) (hL : L ≤ 3072) (hi : i + 6 ≤ L) (K : ∀ N', Inv N' → N' 98 = M 98 → N' 99 = M 99 → Fx 31 i_L_law 1255 [some (.ref 99), some (.ref 0), some (.ref 30), some (.int (nI i))] [] N' P) : Fx 31 i_L_law 436 [some (.ref 99), some (.ref 0), some (.ref 30), some (.int (nI i))] [] M P := by
  obtain ⟨v, N, N', e1, e2, hI', k1, k2⟩ := law_ag (ag_luck hI (M 99 (i + 1)) (M 99 (i + 2)) (M 99 (i + 3)))
  have n98 : N 98 = M 98 := k1 98 (by omega)
  have n99 : N 99 = M 99 := k1 99 (by omega)
  repeat refine fx_n rfl ?_
  rw [nI_1]
  refine fx_g rfl (ixL (L := L) (by omega) hL hX) ?_
  rw [nI_cl (by omega)]
  repeat refine fx_n rfl ?_
  rw [nI_p2]
  refine fx_g rfl (ixL (L := L) (by omega) hL hX) ?_
  rw [nI_cl (by omega)]
  repeat refine fx_n rfl ?_
  rw [nI_p3]
  refine fx_g rfl (ixL (L := L) (by omega) hL hX) ?_
  rw [nI_cl (by omega)]
  repeat refine fx_n rfl ?_
  refine fx_c rfl (ex_of e1) ?_
  rintro r1 M2 ⟨hr1, hM2⟩
  rw [hr1, hM2]
  repeat refine fx_n rfl ?_
  rw [nI_1]
  refine fx_g rfl (ixL (L := L) (by omega) hL (by rw [n98]; exact hX)) ?_
  rw [nI_cl (by omega), n99]
  repeat refine fx_n rfl ?_
  rw [nI_p2]
  refine fx_g rfl (ixL (L := L) (by omega) hL (by rw [n98]; exact hX)) ?_
  rw [nI_cl (by omega), n99]
  repeat refine fx_n rfl ?_
  rw [nI_p3]
  refine fx_g rfl (ixL (L := L) (by omega) hL (by rw [n98]; exact hX)) ?_
  rw [nI_cl (by omega), n99]
  repeat refine fx_n rfl ?_
  refine fx_c rfl (ex_of e2) ?_
  rintro r1 M2 ⟨hr1, hM2⟩
  rw [hr1, hM2]
  refine fx_bt rfl rfl ?_
  exact K N' hI' (k2 98 (by omega)) (k2 99 (by omega))
set_option maxRecDepth 100000 in
set_option maxHeartbeats 4000000 in
theorem law_11 {M : sy_Mm} {i L : Nat} {P : Option Value → sy_Mm → Prop} (hI : Inv M) (hX : M 98 0 = nI L) (hL : L ≤ 3072) (hi : i + 6 ≤ L) (K : ∀ N', Inv N' → N' 98 = M 98 → N' 99 = M 99 → Fx 31 i_L_law 1255 [some (.ref 99), some (.ref 0), some (.ref 30), some (.int (nI i))] [] N' P) : Fx 31 i_L_law 479 [some (.ref 99), some (.ref 0), some (.ref 30), some (.int (nI i))] [] M P := by
  obtain ⟨v, N, N', e1, e2, hI', k1, k2⟩ := law_ag (ag_days hI (M 99 (i + 1)) (M 99 (i + 2)) (M 99 (i + 3)))
  have n98 : N 98 = M 98 := k1 98 (by omega)
  have n99 : N 99 = M 99 := k1 99 (by omega)
  repeat refine fx_n rfl ?_
  rw [nI_1]
  refine fx_g rfl (ixL (L := L) (by omega) hL hX) ?_
  rw [nI_cl (by omega)]
  repeat refine fx_n rfl ?_
  rw [nI_p2]
  refine fx_g rfl (ixL (L := L) (by omega) hL hX) ?_
  rw [nI_cl (by omega)]
  repeat refine fx_n rfl ?_
  rw [nI_p3]
  refine fx_g rfl (ixL (L := L) (by omega) hL hX) ?_
  rw [nI_cl (by omega)]
  repeat refine fx_n rfl ?_
  refine fx_c rfl (ex_of e1) ?_
  rintro r1 M2 ⟨hr1, hM2⟩
  rw [hr1, hM2]
  repeat refine fx_n rfl ?_
  rw [nI_1]
  refine fx_g rfl (ixL (L := L) (by omega) hL (by rw [n98]; exact hX)) ?_
  rw [nI_cl (by omega), n99]
  repeat refine fx_n rfl ?_
  rw [nI_p2]
  refine fx_g rfl (ixL (L := L) (by omega) hL (by rw [n98]; exact hX)) ?_
  rw [nI_cl (by omega), n99]
  repeat refine fx_n rfl ?_
  rw [nI_p3]
  refine fx_g rfl (ixL (L := L) (by omega) hL (by rw [n98]; exact hX)) ?_
  rw [nI_cl (by omega), n99]
  repeat refine fx_n rfl ?_
  refine fx_c rfl (ex_of e2) ?_
  rintro r1 M2 ⟨hr1, hM2⟩
  rw [hr1, hM2]
  refine fx_bt rfl rfl ?_
  exact K N' hI' (k2 98 (by omega)) (k2 99 (by omega))
set_option maxRecDepth 100000 in
set_option maxHeartbeats 4000000 in
theorem law_12 {M : sy_Mm} {i L : Nat} {P : Option Value → sy_Mm → Prop} (hI : Inv M) (hX : M 98 0 = nI L) (hL : L ≤ 3072) (hi : i + 6 ≤ L) (K : ∀ N', Inv N' → N' 98 = M 98 → N' 99 = M 99 → Fx 31 i_L_law 1255 [some (.ref 99), some (.ref 0), some (.ref 30), some (.int (nI i))] [] N' P) : Fx 31 i_L_law 522 [some (.ref 99), some (.ref 0), some (.ref 30), some (.int (nI i))] [] M P := by
  obtain ⟨v, N, N', e1, e2, hI', k1, k2⟩ := law_ag (ag_led hI (M 99 (i + 1)) (M 99 (i + 2)) (M 99 (i + 3)))
  have n98 : N 98 = M 98 := k1 98 (by omega)
  have n99 : N 99 = M 99 := k1 99 (by omega)
  repeat refine fx_n rfl ?_
  rw [nI_1]
  refine fx_g rfl (ixL (L := L) (by omega) hL hX) ?_
  rw [nI_cl (by omega)]
  repeat refine fx_n rfl ?_
  rw [nI_p2]
  refine fx_g rfl (ixL (L := L) (by omega) hL hX) ?_
  rw [nI_cl (by omega)]
  repeat refine fx_n rfl ?_
  rw [nI_p3]
  refine fx_g rfl (ixL (L := L) (by omega) hL hX) ?_
  rw [nI_cl (by omega)]
  repeat refine fx_n rfl ?_
  refine fx_c rfl (ex_of e1) ?_
  rintro r1 M2 ⟨hr1, hM2⟩
  rw [hr1, hM2]
  repeat refine fx_n rfl ?_
  rw [nI_1]
  refine fx_g rfl (ixL (L := L) (by omega) hL (by rw [n98]; exact hX)) ?_
  rw [nI_cl (by omega), n99]
  repeat refine fx_n rfl ?_
  rw [nI_p2]
  refine fx_g rfl (ixL (L := L) (by omega) hL (by rw [n98]; exact hX)) ?_
  rw [nI_cl (by omega), n99]
  repeat refine fx_n rfl ?_
  rw [nI_p3]
  refine fx_g rfl (ixL (L := L) (by omega) hL (by rw [n98]; exact hX)) ?_
  rw [nI_cl (by omega), n99]
  repeat refine fx_n rfl ?_
  refine fx_c rfl (ex_of e2) ?_
  rintro r1 M2 ⟨hr1, hM2⟩
  rw [hr1, hM2]
  refine fx_bt rfl rfl ?_
  exact K N' hI' (k2 98 (by omega)) (k2 99 (by omega))
set_option maxRecDepth 100000 in
set_option maxHeartbeats 4000000 in
theorem law_13 {M : sy_Mm} {i L : Nat} {P : Option Value → sy_Mm → Prop} (hI : Inv M) (hX : M 98 0 = nI L) (hL : L ≤ 3072) (hi : i + 6 ≤ L) (K : ∀ N', Inv N' → N' 98 = M 98 → N' 99 = M 99 → Fx 31 i_L_law 1255 [some (.ref 99), some (.ref 0), some (.ref 30), some (.int (nI i))] [] N' P) : Fx 31 i_L_law 565 [some (.ref 99), some (.ref 0), some (.ref 30), some (.int (nI i))] [] M P := by
  obtain ⟨v, N, N', e1, e2, hI', k1, k2⟩ := law_ag (ag_without hI (M 99 (i + 1)) (M 99 (i + 2)))
  have n98 : N 98 = M 98 := k1 98 (by omega)
  have n99 : N 99 = M 99 := k1 99 (by omega)
  repeat refine fx_n rfl ?_
  rw [nI_1]
  refine fx_g rfl (ixL (L := L) (by omega) hL hX) ?_
  rw [nI_cl (by omega)]
  repeat refine fx_n rfl ?_
  rw [nI_p2]
  refine fx_g rfl (ixL (L := L) (by omega) hL hX) ?_
  rw [nI_cl (by omega)]
  repeat refine fx_n rfl ?_
  refine fx_c rfl (ex_of e1) ?_
  rintro r1 M2 ⟨hr1, hM2⟩
  rw [hr1, hM2]
  repeat refine fx_n rfl ?_
  rw [nI_1]
  refine fx_g rfl (ixL (L := L) (by omega) hL (by rw [n98]; exact hX)) ?_
  rw [nI_cl (by omega), n99]
  repeat refine fx_n rfl ?_
  rw [nI_p2]
  refine fx_g rfl (ixL (L := L) (by omega) hL (by rw [n98]; exact hX)) ?_
  rw [nI_cl (by omega), n99]
  repeat refine fx_n rfl ?_
  refine fx_c rfl (ex_of e2) ?_
  rintro r1 M2 ⟨hr1, hM2⟩
  rw [hr1, hM2]
  refine fx_bt rfl rfl ?_
  exact K N' hI' (k2 98 (by omega)) (k2 99 (by omega))
set_option maxRecDepth 100000 in
set_option maxHeartbeats 4000000 in
theorem law_14 {M : sy_Mm} {i L : Nat} {P : Option Value → sy_Mm → Prop} (hI : Inv M) (hX : M 98 0 = nI L) (hL : L ≤ 3072) (hi : i + 6 ≤ L) (K : ∀ N', Inv N' → N' 98 = M 98 → N' 99 = M 99 → Fx 31 i_L_law 1255 [some (.ref 99), some (.ref 0), some (.ref 30), some (.int (nI i))] [] N' P) : Fx 31 i_L_law 598 [some (.ref 99), some (.ref 0), some (.ref 30), some (.int (nI i))] [] M P := by
  obtain ⟨v, N, N', e1, e2, hI', k1, k2⟩ := law_ag (ag_book hI (M 99 (i + 1)) (M 99 (i + 2)) (M 99 (i + 3)))
  have n98 : N 98 = M 98 := k1 98 (by omega)
  have n99 : N 99 = M 99 := k1 99 (by omega)
  repeat refine fx_n rfl ?_
  rw [nI_1]
  refine fx_g rfl (ixL (L := L) (by omega) hL hX) ?_
  rw [nI_cl (by omega)]
  repeat refine fx_n rfl ?_
  rw [nI_p2]
  refine fx_g rfl (ixL (L := L) (by omega) hL hX) ?_
  rw [nI_cl (by omega)]
  repeat refine fx_n rfl ?_
  rw [nI_p3]
  refine fx_g rfl (ixL (L := L) (by omega) hL hX) ?_
  rw [nI_cl (by omega)]
  repeat refine fx_n rfl ?_
  refine fx_c rfl (ex_of e1) ?_
  rintro r1 M2 ⟨hr1, hM2⟩
  rw [hr1, hM2]
  repeat refine fx_n rfl ?_
  rw [nI_1]
  refine fx_g rfl (ixL (L := L) (by omega) hL (by rw [n98]; exact hX)) ?_
  rw [nI_cl (by omega), n99]
  repeat refine fx_n rfl ?_
  rw [nI_p2]
  refine fx_g rfl (ixL (L := L) (by omega) hL (by rw [n98]; exact hX)) ?_
  rw [nI_cl (by omega), n99]
  repeat refine fx_n rfl ?_
  rw [nI_p3]
  refine fx_g rfl (ixL (L := L) (by omega) hL (by rw [n98]; exact hX)) ?_
  rw [nI_cl (by omega), n99]
  repeat refine fx_n rfl ?_
  refine fx_c rfl (ex_of e2) ?_
  rintro r1 M2 ⟨hr1, hM2⟩
  rw [hr1, hM2]
  refine fx_bt rfl rfl ?_
  exact K N' hI' (k2 98 (by omega)) (k2 99 (by omega))
set_option maxRecDepth 100000 in
set_option maxHeartbeats 4000000 in
theorem law_15 {M : sy_Mm} {i L : Nat} {P : Option Value → sy_Mm → Prop} (hI : Inv M) (hX : M 98 0 = nI L) (hL : L ≤ 3072) (hi : i + 6 ≤ L) (K : ∀ N', Inv N' → N' 98 = M 98 → N' 99 = M 99 → Fx 31 i_L_law 1255 [some (.ref 99), some (.ref 0), some (.ref 30), some (.int (nI i))] [] N' P) : Fx 31 i_L_law 641 [some (.ref 99), some (.ref 0), some (.ref 30), some (.int (nI i))] [] M P := by
  obtain ⟨v, N, N', e1, e2, hI', k1, k2⟩ := law_ag (ag_forget hI )
  have n98 : N 98 = M 98 := k1 98 (by omega)
  have n99 : N 99 = M 99 := k1 99 (by omega)
  repeat refine fx_n rfl ?_
  refine fx_c rfl (ex_of e1) ?_
  rintro r1 M2 ⟨hr1, hM2⟩
  rw [hr1, hM2]
  repeat refine fx_n rfl ?_
  refine fx_c rfl (ex_of e2) ?_
  rintro r1 M2 ⟨hr1, hM2⟩
  rw [hr1, hM2]
  refine fx_bt rfl rfl ?_
  exact K N' hI' (k2 98 (by omega)) (k2 99 (by omega))
set_option maxRecDepth 100000 in
set_option maxHeartbeats 4000000 in
theorem law_16 {M : sy_Mm} {i L : Nat} {P : Option Value → sy_Mm → Prop} (hI : Inv M) (hX : M 98 0 = nI L) (hL : L ≤ 3072) (hi : i + 6 ≤ L) (K : ∀ N', Inv N' → N' 98 = M 98 → N' 99 = M 99 → Fx 31 i_L_law 1255 [some (.ref 99), some (.ref 0), some (.ref 30), some (.int (nI i))] [] N' P) : Fx 31 i_L_law 654 [some (.ref 99), some (.ref 0), some (.ref 30), some (.int (nI i))] [] M P := by
  obtain ⟨v, N, N', e1, e2, hI', k1, k2⟩ := law_ag (ag_fitting hI (M 99 (i + 1)))
  have n98 : N 98 = M 98 := k1 98 (by omega)
  have n99 : N 99 = M 99 := k1 99 (by omega)
  repeat refine fx_n rfl ?_
  rw [nI_1]
  refine fx_g rfl (ixL (L := L) (by omega) hL hX) ?_
  rw [nI_cl (by omega)]
  repeat refine fx_n rfl ?_
  refine fx_c rfl (ex_of e1) ?_
  rintro r1 M2 ⟨hr1, hM2⟩
  rw [hr1, hM2]
  repeat refine fx_n rfl ?_
  rw [nI_1]
  refine fx_g rfl (ixL (L := L) (by omega) hL (by rw [n98]; exact hX)) ?_
  rw [nI_cl (by omega), n99]
  repeat refine fx_n rfl ?_
  refine fx_c rfl (ex_of e2) ?_
  rintro r1 M2 ⟨hr1, hM2⟩
  rw [hr1, hM2]
  refine fx_bt rfl rfl ?_
  exact K N' hI' (k2 98 (by omega)) (k2 99 (by omega))
set_option maxRecDepth 100000 in
set_option maxHeartbeats 4000000 in
theorem law_17 {M : sy_Mm} {i L : Nat} {P : Option Value → sy_Mm → Prop} (hI : Inv M) (hX : M 98 0 = nI L) (hL : L ≤ 3072) (hi : i + 6 ≤ L) (K : ∀ N', Inv N' → N' 98 = M 98 → N' 99 = M 99 → Fx 31 i_L_law 1255 [some (.ref 99), some (.ref 0), some (.ref 30), some (.int (nI i))] [] N' P) : Fx 31 i_L_law 677 [some (.ref 99), some (.ref 0), some (.ref 30), some (.int (nI i))] [] M P := by
  obtain ⟨v, N, N', e1, e2, hI', k1, k2⟩ := law_ag (ag_lets hI (M 99 (i + 1)) (M 99 (i + 2)) (M 99 (i + 3)))
  have n98 : N 98 = M 98 := k1 98 (by omega)
  have n99 : N 99 = M 99 := k1 99 (by omega)
  repeat refine fx_n rfl ?_
  rw [nI_1]
  refine fx_g rfl (ixL (L := L) (by omega) hL hX) ?_
  rw [nI_cl (by omega)]
  repeat refine fx_n rfl ?_
  rw [nI_p2]
  refine fx_g rfl (ixL (L := L) (by omega) hL hX) ?_
  rw [nI_cl (by omega)]
  repeat refine fx_n rfl ?_
  rw [nI_p3]
  refine fx_g rfl (ixL (L := L) (by omega) hL hX) ?_
  rw [nI_cl (by omega)]
  repeat refine fx_n rfl ?_
  refine fx_c rfl (ex_of e1) ?_
  rintro r1 M2 ⟨hr1, hM2⟩
  rw [hr1, hM2]
  repeat refine fx_n rfl ?_
  rw [nI_1]
  refine fx_g rfl (ixL (L := L) (by omega) hL (by rw [n98]; exact hX)) ?_
  rw [nI_cl (by omega), n99]
  repeat refine fx_n rfl ?_
  rw [nI_p2]
  refine fx_g rfl (ixL (L := L) (by omega) hL (by rw [n98]; exact hX)) ?_
  rw [nI_cl (by omega), n99]
  repeat refine fx_n rfl ?_
  rw [nI_p3]
  refine fx_g rfl (ixL (L := L) (by omega) hL (by rw [n98]; exact hX)) ?_
  rw [nI_cl (by omega), n99]
  repeat refine fx_n rfl ?_
  refine fx_c rfl (ex_of e2) ?_
  rintro r1 M2 ⟨hr1, hM2⟩
  rw [hr1, hM2]
  refine fx_bt rfl rfl ?_
  exact K N' hI' (k2 98 (by omega)) (k2 99 (by omega))
set_option maxRecDepth 100000 in
set_option maxHeartbeats 4000000 in
theorem law_18 {M : sy_Mm} {i L : Nat} {P : Option Value → sy_Mm → Prop} (hI : Inv M) (hX : M 98 0 = nI L) (hL : L ≤ 3072) (hi : i + 6 ≤ L) (K : ∀ N', Inv N' → N' 98 = M 98 → N' 99 = M 99 → Fx 31 i_L_law 1255 [some (.ref 99), some (.ref 0), some (.ref 30), some (.int (nI i))] [] N' P) : Fx 31 i_L_law 720 [some (.ref 99), some (.ref 0), some (.ref 30), some (.int (nI i))] [] M P := by
  obtain ⟨v, N, N', e1, e2, hI', k1, k2⟩ := law_ag (ag_robs hI (M 99 (i + 1)) (M 99 (i + 2)) (M 99 (i + 3)))
  have n98 : N 98 = M 98 := k1 98 (by omega)
  have n99 : N 99 = M 99 := k1 99 (by omega)
  repeat refine fx_n rfl ?_
  rw [nI_1]
  refine fx_g rfl (ixL (L := L) (by omega) hL hX) ?_
  rw [nI_cl (by omega)]
  repeat refine fx_n rfl ?_
  rw [nI_p2]
  refine fx_g rfl (ixL (L := L) (by omega) hL hX) ?_
  rw [nI_cl (by omega)]
  repeat refine fx_n rfl ?_
  rw [nI_p3]
  refine fx_g rfl (ixL (L := L) (by omega) hL hX) ?_
  rw [nI_cl (by omega)]
  repeat refine fx_n rfl ?_
  refine fx_c rfl (ex_of e1) ?_
  rintro r1 M2 ⟨hr1, hM2⟩
  rw [hr1, hM2]
  repeat refine fx_n rfl ?_
  rw [nI_1]
  refine fx_g rfl (ixL (L := L) (by omega) hL (by rw [n98]; exact hX)) ?_
  rw [nI_cl (by omega), n99]
  repeat refine fx_n rfl ?_
  rw [nI_p2]
  refine fx_g rfl (ixL (L := L) (by omega) hL (by rw [n98]; exact hX)) ?_
  rw [nI_cl (by omega), n99]
  repeat refine fx_n rfl ?_
  rw [nI_p3]
  refine fx_g rfl (ixL (L := L) (by omega) hL (by rw [n98]; exact hX)) ?_
  rw [nI_cl (by omega), n99]
  repeat refine fx_n rfl ?_
  refine fx_c rfl (ex_of e2) ?_
  rintro r1 M2 ⟨hr1, hM2⟩
  rw [hr1, hM2]
  refine fx_bt rfl rfl ?_
  exact K N' hI' (k2 98 (by omega)) (k2 99 (by omega))
set_option maxRecDepth 100000 in
set_option maxHeartbeats 4000000 in
theorem law_19 {M : sy_Mm} {i L : Nat} {P : Option Value → sy_Mm → Prop} (hI : Inv M) (hX : M 98 0 = nI L) (hL : L ≤ 3072) (hi : i + 6 ≤ L) (K : ∀ N', Inv N' → N' 98 = M 98 → N' 99 = M 99 → Fx 31 i_L_law 1255 [some (.ref 99), some (.ref 0), some (.ref 30), some (.int (nI i))] [] N' P) : Fx 31 i_L_law 763 [some (.ref 99), some (.ref 0), some (.ref 30), some (.int (nI i))] [] M P := by
  obtain ⟨v, N, N', e1, e2, hI', k1, k2⟩ := law_ag (ag_guard hI (M 99 (i + 1)) (M 99 (i + 2)))
  have n98 : N 98 = M 98 := k1 98 (by omega)
  have n99 : N 99 = M 99 := k1 99 (by omega)
  repeat refine fx_n rfl ?_
  rw [nI_1]
  refine fx_g rfl (ixL (L := L) (by omega) hL hX) ?_
  rw [nI_cl (by omega)]
  repeat refine fx_n rfl ?_
  rw [nI_p2]
  refine fx_g rfl (ixL (L := L) (by omega) hL hX) ?_
  rw [nI_cl (by omega)]
  repeat refine fx_n rfl ?_
  refine fx_c rfl (ex_of e1) ?_
  rintro r1 M2 ⟨hr1, hM2⟩
  rw [hr1, hM2]
  repeat refine fx_n rfl ?_
  rw [nI_1]
  refine fx_g rfl (ixL (L := L) (by omega) hL (by rw [n98]; exact hX)) ?_
  rw [nI_cl (by omega), n99]
  repeat refine fx_n rfl ?_
  rw [nI_p2]
  refine fx_g rfl (ixL (L := L) (by omega) hL (by rw [n98]; exact hX)) ?_
  rw [nI_cl (by omega), n99]
  repeat refine fx_n rfl ?_
  refine fx_c rfl (ex_of e2) ?_
  rintro r1 M2 ⟨hr1, hM2⟩
  rw [hr1, hM2]
  refine fx_bt rfl rfl ?_
  exact K N' hI' (k2 98 (by omega)) (k2 99 (by omega))
set_option maxRecDepth 100000 in
set_option maxHeartbeats 4000000 in
theorem law_20 {M : sy_Mm} {i L : Nat} {P : Option Value → sy_Mm → Prop} (hI : Inv M) (hX : M 98 0 = nI L) (hL : L ≤ 3072) (hi : i + 6 ≤ L) (K : ∀ N', Inv N' → N' 98 = M 98 → N' 99 = M 99 → Fx 31 i_L_law 1255 [some (.ref 99), some (.ref 0), some (.ref 30), some (.int (nI i))] [] N' P) : Fx 31 i_L_law 796 [some (.ref 99), some (.ref 0), some (.ref 30), some (.int (nI i))] [] M P := by
  obtain ⟨v, N, N', e1, e2, hI', k1, k2⟩ := law_agl (ag_chance hI (M 99 (i + 1)) (M 99 (i + 2)) (M 99 (i + 3)))
  have n98 : N 98 = M 98 := k1 98 (by omega)
  have n99 : N 99 = M 99 := k1 99 (by omega)
  repeat refine fx_n rfl ?_
  rw [nI_1]
  refine fx_g rfl (ixL (L := L) (by omega) hL hX) ?_
  rw [nI_cl (by omega)]
  repeat refine fx_n rfl ?_
  rw [nI_p2]
  refine fx_g rfl (ixL (L := L) (by omega) hL hX) ?_
  rw [nI_cl (by omega)]
  repeat refine fx_n rfl ?_
  rw [nI_p3]
  refine fx_g rfl (ixL (L := L) (by omega) hL hX) ?_
  rw [nI_cl (by omega)]
  repeat refine fx_n rfl ?_
  refine fx_c rfl (ex_of e1) ?_
  rintro r1 M2 ⟨hr1, hM2⟩
  rw [hr1, hM2]
  repeat refine fx_n rfl ?_
  rw [nI_1]
  refine fx_g rfl (ixL (L := L) (by omega) hL (by rw [n98]; exact hX)) ?_
  rw [nI_cl (by omega), n99]
  repeat refine fx_n rfl ?_
  rw [nI_p2]
  refine fx_g rfl (ixL (L := L) (by omega) hL (by rw [n98]; exact hX)) ?_
  rw [nI_cl (by omega), n99]
  repeat refine fx_n rfl ?_
  rw [nI_p3]
  refine fx_g rfl (ixL (L := L) (by omega) hL (by rw [n98]; exact hX)) ?_
  rw [nI_cl (by omega), n99]
  repeat refine fx_n rfl ?_
  refine fx_c rfl (ex_of e2) ?_
  rintro r1 M2 ⟨hr1, hM2⟩
  rw [hr1, hM2]
  repeat refine fx_n rfl ?_
  refine fx_bt rfl (lcmp_eq.mpr rfl) ?_
  exact K N' hI' (k2 98 (by omega)) (k2 99 (by omega))
set_option maxRecDepth 100000 in
set_option maxHeartbeats 4000000 in
theorem law_21 {M : sy_Mm} {i L : Nat} {P : Option Value → sy_Mm → Prop} (hI : Inv M) (hX : M 98 0 = nI L) (hL : L ≤ 3072) (hi : i + 6 ≤ L) (K : ∀ N', Inv N' → N' 98 = M 98 → N' 99 = M 99 → Fx 31 i_L_law 1255 [some (.ref 99), some (.ref 0), some (.ref 30), some (.int (nI i))] [] N' P) : Fx 31 i_L_law 840 [some (.ref 99), some (.ref 0), some (.ref 30), some (.int (nI i))] [] M P := by
  obtain ⟨v, N, N', e1, e2, hI', k1, k2⟩ := law_agl (ag_waits hI (M 99 (i + 1)) (M 99 (i + 2)))
  have n98 : N 98 = M 98 := k1 98 (by omega)
  have n99 : N 99 = M 99 := k1 99 (by omega)
  repeat refine fx_n rfl ?_
  rw [nI_1]
  refine fx_g rfl (ixL (L := L) (by omega) hL hX) ?_
  rw [nI_cl (by omega)]
  repeat refine fx_n rfl ?_
  rw [nI_p2]
  refine fx_g rfl (ixL (L := L) (by omega) hL hX) ?_
  rw [nI_cl (by omega)]
  repeat refine fx_n rfl ?_
  refine fx_c rfl (ex_of e1) ?_
  rintro r1 M2 ⟨hr1, hM2⟩
  rw [hr1, hM2]
  repeat refine fx_n rfl ?_
  rw [nI_1]
  refine fx_g rfl (ixL (L := L) (by omega) hL (by rw [n98]; exact hX)) ?_
  rw [nI_cl (by omega), n99]
  repeat refine fx_n rfl ?_
  rw [nI_p2]
  refine fx_g rfl (ixL (L := L) (by omega) hL (by rw [n98]; exact hX)) ?_
  rw [nI_cl (by omega), n99]
  repeat refine fx_n rfl ?_
  refine fx_c rfl (ex_of e2) ?_
  rintro r1 M2 ⟨hr1, hM2⟩
  rw [hr1, hM2]
  repeat refine fx_n rfl ?_
  refine fx_bt rfl (lcmp_eq.mpr rfl) ?_
  exact K N' hI' (k2 98 (by omega)) (k2 99 (by omega))
set_option maxRecDepth 100000 in
set_option maxHeartbeats 4000000 in
theorem law_22 {M : sy_Mm} {i L : Nat} {P : Option Value → sy_Mm → Prop} (hI : Inv M) (hX : M 98 0 = nI L) (hL : L ≤ 3072) (hi : i + 6 ≤ L) (K : ∀ N', Inv N' → N' 98 = M 98 → N' 99 = M 99 → Fx 31 i_L_law 1255 [some (.ref 99), some (.ref 0), some (.ref 30), some (.int (nI i))] [] N' P) : Fx 31 i_L_law 874 [some (.ref 99), some (.ref 0), some (.ref 30), some (.int (nI i))] [] M P := by
  obtain ⟨v, N, N', e1, e2, hI', k1, k2⟩ := law_ag (ag_careless hI (M 99 (i + 1)) (M 99 (i + 2)))
  have n98 : N 98 = M 98 := k1 98 (by omega)
  have n99 : N 99 = M 99 := k1 99 (by omega)
  repeat refine fx_n rfl ?_
  rw [nI_1]
  refine fx_g rfl (ixL (L := L) (by omega) hL hX) ?_
  rw [nI_cl (by omega)]
  repeat refine fx_n rfl ?_
  rw [nI_p2]
  refine fx_g rfl (ixL (L := L) (by omega) hL hX) ?_
  rw [nI_cl (by omega)]
  repeat refine fx_n rfl ?_
  refine fx_c rfl (ex_of e1) ?_
  rintro r1 M2 ⟨hr1, hM2⟩
  rw [hr1, hM2]
  repeat refine fx_n rfl ?_
  rw [nI_1]
  refine fx_g rfl (ixL (L := L) (by omega) hL (by rw [n98]; exact hX)) ?_
  rw [nI_cl (by omega), n99]
  repeat refine fx_n rfl ?_
  rw [nI_p2]
  refine fx_g rfl (ixL (L := L) (by omega) hL (by rw [n98]; exact hX)) ?_
  rw [nI_cl (by omega), n99]
  repeat refine fx_n rfl ?_
  refine fx_c rfl (ex_of e2) ?_
  rintro r1 M2 ⟨hr1, hM2⟩
  rw [hr1, hM2]
  refine fx_bt rfl rfl ?_
  exact K N' hI' (k2 98 (by omega)) (k2 99 (by omega))
set_option maxRecDepth 100000 in
set_option maxHeartbeats 4000000 in
theorem law_23 {M : sy_Mm} {i L : Nat} {P : Option Value → sy_Mm → Prop} (hI : Inv M) (hX : M 98 0 = nI L) (hL : L ≤ 3072) (hi : i + 6 ≤ L) (K : ∀ N', Inv N' → N' 98 = M 98 → N' 99 = M 99 → Fx 31 i_L_law 1255 [some (.ref 99), some (.ref 0), some (.ref 30), some (.int (nI i))] [] N' P) : Fx 31 i_L_law 907 [some (.ref 99), some (.ref 0), some (.ref 30), some (.int (nI i))] [] M P := by
  obtain ⟨v, N, N', e1, e2, hI', k1, k2⟩ := law_ag (ag_thief hI (M 99 (i + 1)) (M 99 (i + 2)) (M 99 (i + 3)))
  have n98 : N 98 = M 98 := k1 98 (by omega)
  have n99 : N 99 = M 99 := k1 99 (by omega)
  repeat refine fx_n rfl ?_
  rw [nI_1]
  refine fx_g rfl (ixL (L := L) (by omega) hL hX) ?_
  rw [nI_cl (by omega)]
  repeat refine fx_n rfl ?_
  rw [nI_p2]
  refine fx_g rfl (ixL (L := L) (by omega) hL hX) ?_
  rw [nI_cl (by omega)]
  repeat refine fx_n rfl ?_
  rw [nI_p3]
  refine fx_g rfl (ixL (L := L) (by omega) hL hX) ?_
  rw [nI_cl (by omega)]
  repeat refine fx_n rfl ?_
  refine fx_c rfl (ex_of e1) ?_
  rintro r1 M2 ⟨hr1, hM2⟩
  rw [hr1, hM2]
  repeat refine fx_n rfl ?_
  rw [nI_1]
  refine fx_g rfl (ixL (L := L) (by omega) hL (by rw [n98]; exact hX)) ?_
  rw [nI_cl (by omega), n99]
  repeat refine fx_n rfl ?_
  rw [nI_p2]
  refine fx_g rfl (ixL (L := L) (by omega) hL (by rw [n98]; exact hX)) ?_
  rw [nI_cl (by omega), n99]
  repeat refine fx_n rfl ?_
  rw [nI_p3]
  refine fx_g rfl (ixL (L := L) (by omega) hL (by rw [n98]; exact hX)) ?_
  rw [nI_cl (by omega), n99]
  repeat refine fx_n rfl ?_
  refine fx_c rfl (ex_of e2) ?_
  rintro r1 M2 ⟨hr1, hM2⟩
  rw [hr1, hM2]
  refine fx_bt rfl rfl ?_
  exact K N' hI' (k2 98 (by omega)) (k2 99 (by omega))
set_option maxRecDepth 100000 in
set_option maxHeartbeats 4000000 in
theorem law_24 {M : sy_Mm} {i L : Nat} {P : Option Value → sy_Mm → Prop} (hI : Inv M) (hX : M 98 0 = nI L) (hL : L ≤ 3072) (hi : i + 6 ≤ L) (K : ∀ N', Inv N' → N' 98 = M 98 → N' 99 = M 99 → Fx 31 i_L_law 1255 [some (.ref 99), some (.ref 0), some (.ref 30), some (.int (nI i))] [] N' P) : Fx 31 i_L_law 950 [some (.ref 99), some (.ref 0), some (.ref 30), some (.int (nI i))] [] M P := by
  obtain ⟨v, N, N', e1, e2, hI', k1, k2⟩ := law_ag (ag_sheet hI (M 99 (i + 1)) (M 99 (i + 2)) (M 99 (i + 3)))
  have n98 : N 98 = M 98 := k1 98 (by omega)
  have n99 : N 99 = M 99 := k1 99 (by omega)
  repeat refine fx_n rfl ?_
  rw [nI_1]
  refine fx_g rfl (ixL (L := L) (by omega) hL hX) ?_
  rw [nI_cl (by omega)]
  repeat refine fx_n rfl ?_
  rw [nI_p2]
  refine fx_g rfl (ixL (L := L) (by omega) hL hX) ?_
  rw [nI_cl (by omega)]
  repeat refine fx_n rfl ?_
  rw [nI_p3]
  refine fx_g rfl (ixL (L := L) (by omega) hL hX) ?_
  rw [nI_cl (by omega)]
  repeat refine fx_n rfl ?_
  refine fx_c rfl (ex_of e1) ?_
  rintro r1 M2 ⟨hr1, hM2⟩
  rw [hr1, hM2]
  repeat refine fx_n rfl ?_
  rw [nI_1]
  refine fx_g rfl (ixL (L := L) (by omega) hL (by rw [n98]; exact hX)) ?_
  rw [nI_cl (by omega), n99]
  repeat refine fx_n rfl ?_
  rw [nI_p2]
  refine fx_g rfl (ixL (L := L) (by omega) hL (by rw [n98]; exact hX)) ?_
  rw [nI_cl (by omega), n99]
  repeat refine fx_n rfl ?_
  rw [nI_p3]
  refine fx_g rfl (ixL (L := L) (by omega) hL (by rw [n98]; exact hX)) ?_
  rw [nI_cl (by omega), n99]
  repeat refine fx_n rfl ?_
  refine fx_c rfl (ex_of e2) ?_
  rintro r1 M2 ⟨hr1, hM2⟩
  rw [hr1, hM2]
  refine fx_bt rfl rfl ?_
  exact K N' hI' (k2 98 (by omega)) (k2 99 (by omega))
set_option maxRecDepth 100000 in
set_option maxHeartbeats 4000000 in
theorem law_25 {M : sy_Mm} {i L : Nat} {P : Option Value → sy_Mm → Prop} (hI : Inv M) (hX : M 98 0 = nI L) (hL : L ≤ 3072) (hi : i + 6 ≤ L) (K : ∀ N', Inv N' → N' 98 = M 98 → N' 99 = M 99 → Fx 31 i_L_law 1255 [some (.ref 99), some (.ref 0), some (.ref 30), some (.int (nI i))] [] N' P) : Fx 31 i_L_law 993 [some (.ref 99), some (.ref 0), some (.ref 30), some (.int (nI i))] [] M P := by
  obtain ⟨v, N, N', e1, e2, hI', k1, k2⟩ := law_ag (ag_lose hI (M 99 (i + 1)))
  have n98 : N 98 = M 98 := k1 98 (by omega)
  have n99 : N 99 = M 99 := k1 99 (by omega)
  repeat refine fx_n rfl ?_
  rw [nI_1]
  refine fx_g rfl (ixL (L := L) (by omega) hL hX) ?_
  rw [nI_cl (by omega)]
  repeat refine fx_n rfl ?_
  refine fx_c rfl (ex_of e1) ?_
  rintro r1 M2 ⟨hr1, hM2⟩
  rw [hr1, hM2]
  repeat refine fx_n rfl ?_
  rw [nI_1]
  refine fx_g rfl (ixL (L := L) (by omega) hL (by rw [n98]; exact hX)) ?_
  rw [nI_cl (by omega), n99]
  repeat refine fx_n rfl ?_
  refine fx_c rfl (ex_of e2) ?_
  rintro r1 M2 ⟨hr1, hM2⟩
  rw [hr1, hM2]
  refine fx_bt rfl rfl ?_
  exact K N' hI' (k2 98 (by omega)) (k2 99 (by omega))
set_option maxRecDepth 100000 in
set_option maxHeartbeats 4000000 in
theorem law_26 {M : sy_Mm} {i L : Nat} {P : Option Value → sy_Mm → Prop} (hI : Inv M) (hX : M 98 0 = nI L) (hL : L ≤ 3072) (hi : i + 6 ≤ L) (K : ∀ N', Inv N' → N' 98 = M 98 → N' 99 = M 99 → Fx 31 i_L_law 1255 [some (.ref 99), some (.ref 0), some (.ref 30), some (.int (nI i))] [] N' P) : Fx 31 i_L_law 1016 [some (.ref 99), some (.ref 0), some (.ref 30), some (.int (nI i))] [] M P := by
  obtain ⟨v, N, N', e1, e2, hI', k1, k2⟩ := law_ag (ag_lay hI (M 99 (i + 1)) (M 99 (i + 2)) (M 99 (i + 3)) (M 99 (i + 4)))
  have n98 : N 98 = M 98 := k1 98 (by omega)
  have n99 : N 99 = M 99 := k1 99 (by omega)
  repeat refine fx_n rfl ?_
  rw [nI_1]
  refine fx_g rfl (ixL (L := L) (by omega) hL hX) ?_
  rw [nI_cl (by omega)]
  repeat refine fx_n rfl ?_
  rw [nI_p2]
  refine fx_g rfl (ixL (L := L) (by omega) hL hX) ?_
  rw [nI_cl (by omega)]
  repeat refine fx_n rfl ?_
  rw [nI_p3]
  refine fx_g rfl (ixL (L := L) (by omega) hL hX) ?_
  rw [nI_cl (by omega)]
  repeat refine fx_n rfl ?_
  rw [nI_p4]
  refine fx_g rfl (ixL (L := L) (by omega) hL hX) ?_
  rw [nI_cl (by omega)]
  repeat refine fx_n rfl ?_
  refine fx_c rfl (ex_of e1) ?_
  rintro r1 M2 ⟨hr1, hM2⟩
  rw [hr1, hM2]
  repeat refine fx_n rfl ?_
  rw [nI_1]
  refine fx_g rfl (ixL (L := L) (by omega) hL (by rw [n98]; exact hX)) ?_
  rw [nI_cl (by omega), n99]
  repeat refine fx_n rfl ?_
  rw [nI_p2]
  refine fx_g rfl (ixL (L := L) (by omega) hL (by rw [n98]; exact hX)) ?_
  rw [nI_cl (by omega), n99]
  repeat refine fx_n rfl ?_
  rw [nI_p3]
  refine fx_g rfl (ixL (L := L) (by omega) hL (by rw [n98]; exact hX)) ?_
  rw [nI_cl (by omega), n99]
  repeat refine fx_n rfl ?_
  rw [nI_p4]
  refine fx_g rfl (ixL (L := L) (by omega) hL (by rw [n98]; exact hX)) ?_
  rw [nI_cl (by omega), n99]
  repeat refine fx_n rfl ?_
  refine fx_c rfl (ex_of e2) ?_
  rintro r1 M2 ⟨hr1, hM2⟩
  rw [hr1, hM2]
  refine fx_bt rfl rfl ?_
  exact K N' hI' (k2 98 (by omega)) (k2 99 (by omega))
set_option maxRecDepth 100000 in
set_option maxHeartbeats 4000000 in
theorem law_27 {M : sy_Mm} {i L : Nat} {P : Option Value → sy_Mm → Prop} (hI : Inv M) (hX : M 98 0 = nI L) (hL : L ≤ 3072) (hi : i + 6 ≤ L) (K : ∀ N', Inv N' → N' 98 = M 98 → N' 99 = M 99 → Fx 31 i_L_law 1255 [some (.ref 99), some (.ref 0), some (.ref 30), some (.int (nI i))] [] N' P) : Fx 31 i_L_law 1069 [some (.ref 99), some (.ref 0), some (.ref 30), some (.int (nI i))] [] M P := by
  obtain ⟨v, N, N', e1, e2, hI', k1, k2⟩ := law_ag (ag_get hI (M 99 (i + 1)) (M 99 (i + 2)) (M 99 (i + 3)))
  have n98 : N 98 = M 98 := k1 98 (by omega)
  have n99 : N 99 = M 99 := k1 99 (by omega)
  repeat refine fx_n rfl ?_
  rw [nI_1]
  refine fx_g rfl (ixL (L := L) (by omega) hL hX) ?_
  rw [nI_cl (by omega)]
  repeat refine fx_n rfl ?_
  rw [nI_p2]
  refine fx_g rfl (ixL (L := L) (by omega) hL hX) ?_
  rw [nI_cl (by omega)]
  repeat refine fx_n rfl ?_
  rw [nI_p3]
  refine fx_g rfl (ixL (L := L) (by omega) hL hX) ?_
  rw [nI_cl (by omega)]
  repeat refine fx_n rfl ?_
  refine fx_c rfl (ex_of e1) ?_
  rintro r1 M2 ⟨hr1, hM2⟩
  rw [hr1, hM2]
  repeat refine fx_n rfl ?_
  rw [nI_1]
  refine fx_g rfl (ixL (L := L) (by omega) hL (by rw [n98]; exact hX)) ?_
  rw [nI_cl (by omega), n99]
  repeat refine fx_n rfl ?_
  rw [nI_p2]
  refine fx_g rfl (ixL (L := L) (by omega) hL (by rw [n98]; exact hX)) ?_
  rw [nI_cl (by omega), n99]
  repeat refine fx_n rfl ?_
  rw [nI_p3]
  refine fx_g rfl (ixL (L := L) (by omega) hL (by rw [n98]; exact hX)) ?_
  rw [nI_cl (by omega), n99]
  repeat refine fx_n rfl ?_
  refine fx_c rfl (ex_of e2) ?_
  rintro r1 M2 ⟨hr1, hM2⟩
  rw [hr1, hM2]
  refine fx_bt rfl rfl ?_
  exact K N' hI' (k2 98 (by omega)) (k2 99 (by omega))
set_option maxRecDepth 100000 in
set_option maxHeartbeats 4000000 in
theorem law_28 {M : sy_Mm} {i L : Nat} {P : Option Value → sy_Mm → Prop} (hI : Inv M) (hX : M 98 0 = nI L) (hL : L ≤ 3072) (hi : i + 6 ≤ L) (K : ∀ N', Inv N' → N' 98 = M 98 → N' 99 = M 99 → Fx 31 i_L_law 1255 [some (.ref 99), some (.ref 0), some (.ref 30), some (.int (nI i))] [] N' P) : Fx 31 i_L_law 1112 [some (.ref 99), some (.ref 0), some (.ref 30), some (.int (nI i))] [] M P := by
  obtain ⟨v, N, N', e1, e2, hI', k1, k2⟩ := law_ag (ag_copy hI (M 99 (i + 1)) (M 99 (i + 2)) (M 99 (i + 3)) (M 99 (i + 4)) (M 99 (i + 5)))
  have n98 : N 98 = M 98 := k1 98 (by omega)
  have n99 : N 99 = M 99 := k1 99 (by omega)
  repeat refine fx_n rfl ?_
  rw [nI_1]
  refine fx_g rfl (ixL (L := L) (by omega) hL hX) ?_
  rw [nI_cl (by omega)]
  repeat refine fx_n rfl ?_
  rw [nI_p2]
  refine fx_g rfl (ixL (L := L) (by omega) hL hX) ?_
  rw [nI_cl (by omega)]
  repeat refine fx_n rfl ?_
  rw [nI_p3]
  refine fx_g rfl (ixL (L := L) (by omega) hL hX) ?_
  rw [nI_cl (by omega)]
  repeat refine fx_n rfl ?_
  rw [nI_p4]
  refine fx_g rfl (ixL (L := L) (by omega) hL hX) ?_
  rw [nI_cl (by omega)]
  repeat refine fx_n rfl ?_
  rw [nI_p5]
  refine fx_g rfl (ixL (L := L) (by omega) hL hX) ?_
  rw [nI_cl (by omega)]
  repeat refine fx_n rfl ?_
  refine fx_c rfl (ex_of e1) ?_
  rintro r1 M2 ⟨hr1, hM2⟩
  rw [hr1, hM2]
  repeat refine fx_n rfl ?_
  rw [nI_1]
  refine fx_g rfl (ixL (L := L) (by omega) hL (by rw [n98]; exact hX)) ?_
  rw [nI_cl (by omega), n99]
  repeat refine fx_n rfl ?_
  rw [nI_p2]
  refine fx_g rfl (ixL (L := L) (by omega) hL (by rw [n98]; exact hX)) ?_
  rw [nI_cl (by omega), n99]
  repeat refine fx_n rfl ?_
  rw [nI_p3]
  refine fx_g rfl (ixL (L := L) (by omega) hL (by rw [n98]; exact hX)) ?_
  rw [nI_cl (by omega), n99]
  repeat refine fx_n rfl ?_
  rw [nI_p4]
  refine fx_g rfl (ixL (L := L) (by omega) hL (by rw [n98]; exact hX)) ?_
  rw [nI_cl (by omega), n99]
  repeat refine fx_n rfl ?_
  rw [nI_p5]
  refine fx_g rfl (ixL (L := L) (by omega) hL (by rw [n98]; exact hX)) ?_
  rw [nI_cl (by omega), n99]
  repeat refine fx_n rfl ?_
  refine fx_c rfl (ex_of e2) ?_
  rintro r1 M2 ⟨hr1, hM2⟩
  rw [hr1, hM2]
  refine fx_bt rfl rfl ?_
  exact K N' hI' (k2 98 (by omega)) (k2 99 (by omega))
set_option maxRecDepth 100000 in
set_option maxHeartbeats 4000000 in
theorem law_29 {M : sy_Mm} {i L : Nat} {P : Option Value → sy_Mm → Prop} (hI : Inv M) (hX : M 98 0 = nI L) (hL : L ≤ 3072) (hi : i + 6 ≤ L) (K : ∀ N', Inv N' → N' 98 = M 98 → N' 99 = M 99 → Fx 31 i_L_law 1255 [some (.ref 99), some (.ref 0), some (.ref 30), some (.int (nI i))] [] N' P) : Fx 31 i_L_law 1175 [some (.ref 99), some (.ref 0), some (.ref 30), some (.int (nI i))] [] M P := by
  obtain ⟨v, N, N', e1, e2, hI', k1, k2⟩ := law_ag (ag_write hI (M 99 (i + 1)) (M 99 (i + 2)) (M 99 (i + 3)))
  have n98 : N 98 = M 98 := k1 98 (by omega)
  have n99 : N 99 = M 99 := k1 99 (by omega)
  repeat refine fx_n rfl ?_
  rw [nI_1]
  refine fx_g rfl (ixL (L := L) (by omega) hL hX) ?_
  rw [nI_cl (by omega)]
  repeat refine fx_n rfl ?_
  rw [nI_p2]
  refine fx_g rfl (ixL (L := L) (by omega) hL hX) ?_
  rw [nI_cl (by omega)]
  repeat refine fx_n rfl ?_
  rw [nI_p3]
  refine fx_g rfl (ixL (L := L) (by omega) hL hX) ?_
  rw [nI_cl (by omega)]
  repeat refine fx_n rfl ?_
  refine fx_c rfl (ex_of e1) ?_
  rintro r1 M2 ⟨hr1, hM2⟩
  rw [hr1, hM2]
  repeat refine fx_n rfl ?_
  rw [nI_1]
  refine fx_g rfl (ixL (L := L) (by omega) hL (by rw [n98]; exact hX)) ?_
  rw [nI_cl (by omega), n99]
  repeat refine fx_n rfl ?_
  rw [nI_p2]
  refine fx_g rfl (ixL (L := L) (by omega) hL (by rw [n98]; exact hX)) ?_
  rw [nI_cl (by omega), n99]
  repeat refine fx_n rfl ?_
  rw [nI_p3]
  refine fx_g rfl (ixL (L := L) (by omega) hL (by rw [n98]; exact hX)) ?_
  rw [nI_cl (by omega), n99]
  repeat refine fx_n rfl ?_
  refine fx_c rfl (ex_of e2) ?_
  rintro r1 M2 ⟨hr1, hM2⟩
  rw [hr1, hM2]
  refine fx_bt rfl rfl ?_
  exact K N' hI' (k2 98 (by omega)) (k2 99 (by omega))
set_option maxRecDepth 100000 in
set_option maxHeartbeats 4000000 in
theorem law_30 {M : sy_Mm} {i L : Nat} {P : Option Value → sy_Mm → Prop} (hI : Inv M) (hX : M 98 0 = nI L) (hL : L ≤ 3072) (hi : i + 6 ≤ L) (K : ∀ N', Inv N' → N' 98 = M 98 → N' 99 = M 99 → Fx 31 i_L_law 1255 [some (.ref 99), some (.ref 0), some (.ref 30), some (.int (nI i))] [] N' P) : Fx 31 i_L_law 1218 [some (.ref 99), some (.ref 0), some (.ref 30), some (.int (nI i))] [] M P := by
  obtain ⟨v, N, N', e1, e2, hI', k1, k2⟩ := law_ag (ag_count hI (M 99 (i + 1)))
  have n98 : N 98 = M 98 := k1 98 (by omega)
  have n99 : N 99 = M 99 := k1 99 (by omega)
  repeat refine fx_n rfl ?_
  rw [nI_1]
  refine fx_g rfl (ixL (L := L) (by omega) hL hX) ?_
  rw [nI_cl (by omega)]
  repeat refine fx_n rfl ?_
  refine fx_c rfl (ex_of e1) ?_
  rintro r1 M2 ⟨hr1, hM2⟩
  rw [hr1, hM2]
  repeat refine fx_n rfl ?_
  rw [nI_1]
  refine fx_g rfl (ixL (L := L) (by omega) hL (by rw [n98]; exact hX)) ?_
  rw [nI_cl (by omega), n99]
  repeat refine fx_n rfl ?_
  refine fx_c rfl (ex_of e2) ?_
  rintro r1 M2 ⟨hr1, hM2⟩
  rw [hr1, hM2]
  refine fx_bt rfl rfl ?_
  exact K N' hI' (k2 98 (by omega)) (k2 99 (by omega))
set_option maxRecDepth 100000 in
set_option maxHeartbeats 4000000 in
theorem law_31 {M : sy_Mm} {i L : Nat} {P : Option Value → sy_Mm → Prop} (hI : Inv M) (hX : M 98 0 = nI L) (hL : L ≤ 3072) (hi : i + 6 ≤ L) (K : ∀ N', Inv N' → N' 98 = M 98 → N' 99 = M 99 → Fx 31 i_L_law 1255 [some (.ref 99), some (.ref 0), some (.ref 30), some (.int (nI i))] [] N' P) : Fx 31 i_L_law 1241 [some (.ref 99), some (.ref 0), some (.ref 30), some (.int (nI i))] [] M P := by
  obtain ⟨v, N, N', e1, e2, hI', k1, k2⟩ := law_agl (ag_digest hI )
  have n98 : N 98 = M 98 := k1 98 (by omega)
  have n99 : N 99 = M 99 := k1 99 (by omega)
  repeat refine fx_n rfl ?_
  refine fx_c rfl (ex_of e1) ?_
  rintro r1 M2 ⟨hr1, hM2⟩
  rw [hr1, hM2]
  repeat refine fx_n rfl ?_
  refine fx_c rfl (ex_of e2) ?_
  rintro r1 M2 ⟨hr1, hM2⟩
  rw [hr1, hM2]
  repeat refine fx_n rfl ?_
  refine fx_bt rfl (lcmp_eq.mpr rfl) ?_
  exact K N' hI' (k2 98 (by omega)) (k2 99 (by omega))
set_option maxRecDepth 100000 in
set_option maxHeartbeats 4000000 in
theorem law_loop  (L : Nat) (hL : L ≤ 3072) : ∀ (j i : Nat) (M : sy_Mm), L ≤ i + j → i ≤ L → Inv M → M 98 0 = nI L → Fx 31 i_L_law 24 [some (.ref 99), some (.ref 0), some (.ref 30), some (.int (nI i))] [.int (M 98 0 - 6), .int (nI i)] M (fun r _ => r = some (.int 1)) := by
  intro j
  induction j using Nat.strongRecOn with
  | ind j ih =>
  intro i M hj hiL hI hX
  have hc : (M 98 0 - 6).toInt = (L : Int) - 6 := by rw [hX]; exact pk_sub_toInt (a := L) (b := 6) (by omega) (by omega)
  by_cases hi : i + 6 ≤ L
  · refine fx_bf rfl (by rw [Int32.lt_iff_toInt_lt, hc, nI_toInt (by omega)]; omega) ?_
    repeat refine fx_n rfl ?_
    refine fx_g rfl (ixL (L := L) (by omega) hL hX) ?_
    rw [nI_cl (by omega)]
    repeat refine fx_n rfl ?_
    obtain ⟨q, hq, e⟩ := pk_andE (M 99 i) (m := 31) 5 (by decide)
    rw [e]
    have K : ∀ N', Inv N' → N' 98 = M 98 → N' 99 = M 99 → Fx 31 i_L_law 1255 [some (.ref 99), some (.ref 0), some (.ref 30), some (.int (nI i))] [] N' (fun r _ => r = some (.int 1)) := by
      intro N' hI' k98 k99
      repeat refine fx_n rfl ?_
      rw [show nI i + 6 = nI (i + 6) from nI_add i 6]
      exact ih (j - 6) (by omega) (i + 6) N' (by omega) (by omega) hI' (by rw [k98]; exact hX)
    match q, hq with
    | 0, _ => exact fx_g rfl (by decide) (law_0 hI hX hL hi K)
    | 1, _ => exact fx_g rfl (by decide) (law_1 hI hX hL hi K)
    | 2, _ => exact fx_g rfl (by decide) (law_2 hI hX hL hi K)
    | 3, _ => exact fx_g rfl (by decide) (law_3 hI hX hL hi K)
    | 4, _ => exact fx_g rfl (by decide) (law_4 hI hX hL hi K)
    | 5, _ => exact fx_g rfl (by decide) (law_5 hI hX hL hi K)
    | 6, _ => exact fx_g rfl (by decide) (law_6 hI hX hL hi K)
    | 7, _ => exact fx_g rfl (by decide) (law_7 hI hX hL hi K)
    | 8, _ => exact fx_g rfl (by decide) (law_8 hI hX hL hi K)
    | 9, _ => exact fx_g rfl (by decide) (law_9 hI hX hL hi K)
    | 10, _ => exact fx_g rfl (by decide) (law_10 hI hX hL hi K)
    | 11, _ => exact fx_g rfl (by decide) (law_11 hI hX hL hi K)
    | 12, _ => exact fx_g rfl (by decide) (law_12 hI hX hL hi K)
    | 13, _ => exact fx_g rfl (by decide) (law_13 hI hX hL hi K)
    | 14, _ => exact fx_g rfl (by decide) (law_14 hI hX hL hi K)
    | 15, _ => exact fx_g rfl (by decide) (law_15 hI hX hL hi K)
    | 16, _ => exact fx_g rfl (by decide) (law_16 hI hX hL hi K)
    | 17, _ => exact fx_g rfl (by decide) (law_17 hI hX hL hi K)
    | 18, _ => exact fx_g rfl (by decide) (law_18 hI hX hL hi K)
    | 19, _ => exact fx_g rfl (by decide) (law_19 hI hX hL hi K)
    | 20, _ => exact fx_g rfl (by decide) (law_20 hI hX hL hi K)
    | 21, _ => exact fx_g rfl (by decide) (law_21 hI hX hL hi K)
    | 22, _ => exact fx_g rfl (by decide) (law_22 hI hX hL hi K)
    | 23, _ => exact fx_g rfl (by decide) (law_23 hI hX hL hi K)
    | 24, _ => exact fx_g rfl (by decide) (law_24 hI hX hL hi K)
    | 25, _ => exact fx_g rfl (by decide) (law_25 hI hX hL hi K)
    | 26, _ => exact fx_g rfl (by decide) (law_26 hI hX hL hi K)
    | 27, _ => exact fx_g rfl (by decide) (law_27 hI hX hL hi K)
    | 28, _ => exact fx_g rfl (by decide) (law_28 hI hX hL hi K)
    | 29, _ => exact fx_g rfl (by decide) (law_29 hI hX hL hi K)
    | 30, _ => exact fx_g rfl (by decide) (law_30 hI hX hL hi K)
    | 31, _ => exact fx_g rfl (by decide) (law_31 hI hX hL hi K)
    | q + 32, h => exact absurd h (by omega)
  · refine fx_bt rfl (by rw [Int32.lt_iff_toInt_lt, hc, nI_toInt (by omega)]; omega) ?_
    repeat refine fx_n rfl ?_
    exact fx_r rfl rfl rfl
