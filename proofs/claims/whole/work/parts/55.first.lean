/-! ===== the first memory ===== -/
def ct_ni : List Int32 → Nat → Int32
  | [], _ => 0
  | a :: _, 0 => a
  | _ :: l, n + 1 => ct_ni l n
def ct_nf : List (Nat → Int32) → Nat → Nat → Int32
  | [], _ => fun _ => 0
  | a :: _, 0 => a
  | _ :: l, n + 1 => ct_nf l n
def ct_na (b : Nat) : List Nat → Nat → Nat
  | [], _ => b
  | a :: _, 0 => a
  | _ :: l, n + 1 => ct_na b l n
def ct_sf (a b c d : Nat) : Nat → Option Nat
  | 0 => some a
  | 1 => some b
  | 2 => some c
  | 3 => some d
  | _ + 4 => none
theorem ct_sf_up (a b c d : Nat) : va_up (va_up (va_up (va_up (fun _ => none) 0 (some a)) 1 (some b)) 2 (some c)) 3 (some d) = ct_sf a b c d := by
  funext j
  match j with
  | 0 => rfl
  | 1 => rfl
  | 2 => rfl
  | 3 => rfl
  | j + 4 => simp [va_up, ct_sf]
theorem ct_sf_ad (a : Nat → Nat) : ct_sf (a 22) (a 24) (a 26) (a 28) = fun j => (([22, 24, 26, 28] : List Nat)[j]?).map a := by
  funext j
  match j with
  | 0 => rfl
  | 1 => rfl
  | 2 => rfl
  | 3 => rfl
  | j + 4 => simp [ct_sf]
def ct_rows : List (Nat → Int32) := [ct_ni [0, 0, 0, 0, 0, 0, 0, 0], ct_ni [0, 0, (-1), 0], fun _ => 0, ct_ni [0, 0, 0, 0, 0, 0], fun _ => 0, fun _ => 0, fun _ => 0, fun _ => 0, fun _ => 0, ct_ni [0, 0, 0, 0, 0, 0, 30, 0, 0, (-1), 0], fun _ => 0, fun _ => 0, fun _ => 0, ct_ni [0, (-1)], ct_ni [0, 0, 0, 0, 0, 0, 0, (-1), 0, 0], fun _ => 0, fun _ => 0, fun _ => 0, fun _ => 0, ct_ni [0], upd (upd (upd (upd (upd (upd (upd (upd (fun _ => 0) 0 8) 1 8) 2 8) 3 8) 4 8) 5 8) 6 8) 7 8, fun _ => 0, ct_ni [0, (-1), 0], fun _ => 0, ct_ni [0, (-1), 0], fun _ => 0, ct_ni [0, (-1), 0], fun _ => 0, ct_ni [0, (-1), 0], fun _ => 0, ct_ni [0, 0, 0, 0, 0, 0, 0, 0, 0, 0, 0, 30, 0, 0, 0, 0, 0, 0, 0, 0, 0, 0, 0, 0, 0, 0], upd (upd (upd (upd (fun _ => 0) 0 (-1)) 1 (-1)) 2 (-1)) 3 (-1), fun _ => 0, fun _ => 0, fun _ => 0, fun _ => 0, fun _ => 0, fun _ => 0, fun _ => 0, fun _ => 0, fun _ => 0, fun _ => 0, fun _ => 0, fun _ => 0, fun _ => 0, upd (upd (upd (upd (upd (upd (upd (upd (fun _ => 0) 0 8) 1 8) 2 8) 3 8) 4 8) 5 8) 6 8) 7 8]
def ct_M (L : Nat) (xs : Nat → Int32) : sy_Mm := fun k => cond (Nat.beq k 99) xs (cond (Nat.beq k 98) (fun _ => nI L) (ct_nf ct_rows k))
def ct_w (a : Nat → Nat) (cI cS : ClassId) : va_W := [(a 0, .inr (7, [.ref (a 1), .ref (a 3), .ref (a 9), .ref (a 13), .ref (a 14), .ref (a 19), .ref (a 21), .int 0])), (a 1, .inr (5, [.ref (a 2), .int 0, .int (-1), .int 0])), (a 2, .inl (cI, 30, .inl (fun _ => 0))), (a 3, .inr (4, [.ref (a 4), .ref (a 5), .ref (a 6), .ref (a 7), .ref (a 8), .int 0])), (a 4, .inl (cI, 40, .inl (fun _ => 0))), (a 5, .inl (cI, 40, .inl (fun _ => 0))), (a 6, .inl (cI, 40, .inl (fun _ => 0))), (a 7, .inl (cI, 40, .inl (fun _ => 0))), (a 8, .inl (cI, 40, .inl (fun _ => 0))), (a 9, .inr (6, [.ref (a 1), .ref (a 3), .ref (a 10), .ref (a 11), .ref (a 12), .int 0, .int 30, .int 0, .int 0, .int (-1), .int 0])), (a 10, .inl (cI, 9, .inl (fun _ => 0))), (a 11, .inl (cI, 9, .inl (fun _ => 0))), (a 12, .inl (cI, 9, .inl (fun _ => 0))), (a 13, .inr (2, [.ref (a 9), .int (-1)])), (a 14, .inr (0, [.ref (a 9), .ref (a 15), .ref (a 16), .ref (a 17), .ref (a 18), .int 0, .int 0, .int (-1), .int 0, .int 0])), (a 15, .inl (cI, 8, .inl (fun _ => 0))), (a 16, .inl (cI, 8, .inl (fun _ => 0))), (a 17, .inl (cI, 8, .inl (fun _ => 0))), (a 18, .inl (cI, 8, .inl (fun _ => 0))), (a 19, .inr (1, [.ref (a 20)])), (a 20, .inl (cI, 8, .inl (upd (upd (upd (upd (upd (upd (upd (upd (fun _ => 0) 0 8) 1 8) 2 8) 3 8) 4 8) 5 8) 6 8) 7 8))), (a 21, .inl (cS, 4, .inr (.inr (.inr (.inr (ct_sf (a 22) (a 24) (a 26) (a 28))))))), (a 22, .inr (3, [.ref (a 23), .int (-1), .int 0])), (a 23, .inl (cI, 60, .inl (fun _ => 0))), (a 24, .inr (3, [.ref (a 25), .int (-1), .int 0])), (a 25, .inl (cI, 60, .inl (fun _ => 0))), (a 26, .inr (3, [.ref (a 27), .int (-1), .int 0])), (a 27, .inl (cI, 60, .inl (fun _ => 0))), (a 28, .inr (3, [.ref (a 29), .int (-1), .int 0])), (a 29, .inl (cI, 60, .inl (fun _ => 0))), (a 30, .inr (8, [.ref (a 31), .ref (a 32), .ref (a 33), .ref (a 34), .int 0, .ref (a 35), .int 0, .int 0, .int 0, .ref (a 36), .int 0, .int 30, .int 0, .ref (a 37), .ref (a 38), .ref (a 39), .ref (a 40), .int 0, .int 0, .int 0, .int 0, .ref (a 41), .ref (a 42), .ref (a 43), .ref (a 44), .ref (a 45)])), (a 31, .inl (cI, 4, .inl (upd (upd (upd (upd (fun _ => 0) 0 (-1)) 1 (-1)) 2 (-1)) 3 (-1)))), (a 32, .inl (cI, 4, .inl (fun _ => 0))), (a 33, .inl (cI, 240, .inl (fun _ => 0))), (a 34, .inl (cI, 60, .inl (fun _ => 0))), (a 35, .inl (cI, 30, .inl (fun _ => 0))), (a 36, .inl (cI, 9, .inl (fun _ => 0))), (a 37, .inl (cI, 200, .inl (fun _ => 0))), (a 38, .inl (cI, 36, .inl (fun _ => 0))), (a 39, .inl (cI, 36, .inl (fun _ => 0))), (a 40, .inl (cI, 9, .inl (fun _ => 0))), (a 41, .inl (cI, 24, .inl (fun _ => 0))), (a 42, .inl (cI, 8, .inl (fun _ => 0))), (a 43, .inl (cI, 4, .inl (fun _ => 0))), (a 44, .inl (cI, 4, .inl (fun _ => 0))), (a 45, .inl (cI, 8, .inl (upd (upd (upd (upd (upd (upd (upd (upd (fun _ => 0) 0 8) 1 8) 2 8) 3 8) 4 8) 5 8) 6 8) 7 8)))]
def ct_mi (f : Nat → Option Nat → Value) : Nat → List (Option Nat) → List Value
  | _, [] => []
  | n, a :: l => f n a :: ct_mi f (n + 1) l
theorem ct_mi_eq : ∀ (l : List (Option Nat)) (f : Nat → Option Nat → Value) (n : Nat), l.mapIdx (fun i => f (n + i)) = ct_mi f n l
  | [], _, _ => rfl
  | a :: l, f, n => by
    rw [List.mapIdx_cons]
    have h := ct_mi_eq l f (n + 1)
    have e : (fun i => f (n + (i + 1))) = (fun i => f (n + 1 + i)) := by funext i; congr 1; omega
    rw [e, h]
    rfl
theorem ct_ceO (a : Nat → Nat) (cI cS : ClassId) (row : Nat → Int32) (ci : Nat) (fs : List (Option Nat)) : sy_ce a cI cS row (.inl (ci, fs)) = .inr (ci, ct_mi (sy_fv a row) 0 fs) := by
  have h := ct_mi_eq fs (sy_fv a row) 0
  have e : (fun i => sy_fv a row (0 + i)) = sy_fv a row := by funext i; rw [Nat.zero_add]
  rw [e] at h
  unfold sy_ce
  rw [← h]
set_option maxRecDepth 100000 in
set_option maxHeartbeats 4000000 in
theorem ct_w_k0 (a : Nat → Nat) (cI cS : ClassId) (L : Nat) (xs : Nat → Int32) : (ct_w a cI cS)[0]? = (sy_ws a cI cS (ct_M L xs))[0]? := by
  rw [sy_ws_at (k := 0) (sp := .inl (7, [some 1, some 3, some 9, some 13, some 14, some 19, some 21, none])) rfl, ct_ceO]
  rfl
set_option maxRecDepth 100000 in
set_option maxHeartbeats 4000000 in
theorem ct_w_k1 (a : Nat → Nat) (cI cS : ClassId) (L : Nat) (xs : Nat → Int32) : (ct_w a cI cS)[1]? = (sy_ws a cI cS (ct_M L xs))[1]? := by
  rw [sy_ws_at (k := 1) (sp := .inl (5, [some 2, none, none, none])) rfl, ct_ceO]
  rfl
set_option maxRecDepth 100000 in
set_option maxHeartbeats 4000000 in
theorem ct_w_k2 (a : Nat → Nat) (cI cS : ClassId) (L : Nat) (xs : Nat → Int32) : (ct_w a cI cS)[2]? = (sy_ws a cI cS (ct_M L xs))[2]? := by
  rw [sy_ws_at (k := 2) (sp := .inr (.inl 30)) rfl]
  rfl
set_option maxRecDepth 100000 in
set_option maxHeartbeats 4000000 in
theorem ct_w_k3 (a : Nat → Nat) (cI cS : ClassId) (L : Nat) (xs : Nat → Int32) : (ct_w a cI cS)[3]? = (sy_ws a cI cS (ct_M L xs))[3]? := by
  rw [sy_ws_at (k := 3) (sp := .inl (4, [some 4, some 5, some 6, some 7, some 8, none])) rfl, ct_ceO]
  rfl
set_option maxRecDepth 100000 in
set_option maxHeartbeats 4000000 in
theorem ct_w_k4 (a : Nat → Nat) (cI cS : ClassId) (L : Nat) (xs : Nat → Int32) : (ct_w a cI cS)[4]? = (sy_ws a cI cS (ct_M L xs))[4]? := by
  rw [sy_ws_at (k := 4) (sp := .inr (.inl 40)) rfl]
  rfl
set_option maxRecDepth 100000 in
set_option maxHeartbeats 4000000 in
theorem ct_w_k5 (a : Nat → Nat) (cI cS : ClassId) (L : Nat) (xs : Nat → Int32) : (ct_w a cI cS)[5]? = (sy_ws a cI cS (ct_M L xs))[5]? := by
  rw [sy_ws_at (k := 5) (sp := .inr (.inl 40)) rfl]
  rfl
set_option maxRecDepth 100000 in
set_option maxHeartbeats 4000000 in
theorem ct_w_k6 (a : Nat → Nat) (cI cS : ClassId) (L : Nat) (xs : Nat → Int32) : (ct_w a cI cS)[6]? = (sy_ws a cI cS (ct_M L xs))[6]? := by
  rw [sy_ws_at (k := 6) (sp := .inr (.inl 40)) rfl]
  rfl
set_option maxRecDepth 100000 in
set_option maxHeartbeats 4000000 in
theorem ct_w_k7 (a : Nat → Nat) (cI cS : ClassId) (L : Nat) (xs : Nat → Int32) : (ct_w a cI cS)[7]? = (sy_ws a cI cS (ct_M L xs))[7]? := by
  rw [sy_ws_at (k := 7) (sp := .inr (.inl 40)) rfl]
  rfl
set_option maxRecDepth 100000 in
set_option maxHeartbeats 4000000 in
theorem ct_w_k8 (a : Nat → Nat) (cI cS : ClassId) (L : Nat) (xs : Nat → Int32) : (ct_w a cI cS)[8]? = (sy_ws a cI cS (ct_M L xs))[8]? := by
  rw [sy_ws_at (k := 8) (sp := .inr (.inl 40)) rfl]
  rfl
set_option maxRecDepth 100000 in
set_option maxHeartbeats 4000000 in
theorem ct_w_k9 (a : Nat → Nat) (cI cS : ClassId) (L : Nat) (xs : Nat → Int32) : (ct_w a cI cS)[9]? = (sy_ws a cI cS (ct_M L xs))[9]? := by
  rw [sy_ws_at (k := 9) (sp := .inl (6, [some 1, some 3, some 10, some 11, some 12, none, none, none, none, none, none])) rfl, ct_ceO]
  rfl
set_option maxRecDepth 100000 in
set_option maxHeartbeats 4000000 in
theorem ct_w_k10 (a : Nat → Nat) (cI cS : ClassId) (L : Nat) (xs : Nat → Int32) : (ct_w a cI cS)[10]? = (sy_ws a cI cS (ct_M L xs))[10]? := by
  rw [sy_ws_at (k := 10) (sp := .inr (.inl 9)) rfl]
  rfl
set_option maxRecDepth 100000 in
set_option maxHeartbeats 4000000 in
theorem ct_w_k11 (a : Nat → Nat) (cI cS : ClassId) (L : Nat) (xs : Nat → Int32) : (ct_w a cI cS)[11]? = (sy_ws a cI cS (ct_M L xs))[11]? := by
  rw [sy_ws_at (k := 11) (sp := .inr (.inl 9)) rfl]
  rfl
set_option maxRecDepth 100000 in
set_option maxHeartbeats 4000000 in
theorem ct_w_k12 (a : Nat → Nat) (cI cS : ClassId) (L : Nat) (xs : Nat → Int32) : (ct_w a cI cS)[12]? = (sy_ws a cI cS (ct_M L xs))[12]? := by
  rw [sy_ws_at (k := 12) (sp := .inr (.inl 9)) rfl]
  rfl
set_option maxRecDepth 100000 in
set_option maxHeartbeats 4000000 in
theorem ct_w_k13 (a : Nat → Nat) (cI cS : ClassId) (L : Nat) (xs : Nat → Int32) : (ct_w a cI cS)[13]? = (sy_ws a cI cS (ct_M L xs))[13]? := by
  rw [sy_ws_at (k := 13) (sp := .inl (2, [some 9, none])) rfl, ct_ceO]
  rfl
set_option maxRecDepth 100000 in
set_option maxHeartbeats 4000000 in
theorem ct_w_k14 (a : Nat → Nat) (cI cS : ClassId) (L : Nat) (xs : Nat → Int32) : (ct_w a cI cS)[14]? = (sy_ws a cI cS (ct_M L xs))[14]? := by
  rw [sy_ws_at (k := 14) (sp := .inl (0, [some 9, some 15, some 16, some 17, some 18, none, none, none, none, none])) rfl, ct_ceO]
  rfl
set_option maxRecDepth 100000 in
set_option maxHeartbeats 4000000 in
theorem ct_w_k15 (a : Nat → Nat) (cI cS : ClassId) (L : Nat) (xs : Nat → Int32) : (ct_w a cI cS)[15]? = (sy_ws a cI cS (ct_M L xs))[15]? := by
  rw [sy_ws_at (k := 15) (sp := .inr (.inl 8)) rfl]
  rfl
set_option maxRecDepth 100000 in
set_option maxHeartbeats 4000000 in
theorem ct_w_k16 (a : Nat → Nat) (cI cS : ClassId) (L : Nat) (xs : Nat → Int32) : (ct_w a cI cS)[16]? = (sy_ws a cI cS (ct_M L xs))[16]? := by
  rw [sy_ws_at (k := 16) (sp := .inr (.inl 8)) rfl]
  rfl
set_option maxRecDepth 100000 in
set_option maxHeartbeats 4000000 in
theorem ct_w_k17 (a : Nat → Nat) (cI cS : ClassId) (L : Nat) (xs : Nat → Int32) : (ct_w a cI cS)[17]? = (sy_ws a cI cS (ct_M L xs))[17]? := by
  rw [sy_ws_at (k := 17) (sp := .inr (.inl 8)) rfl]
  rfl
set_option maxRecDepth 100000 in
set_option maxHeartbeats 4000000 in
theorem ct_w_k18 (a : Nat → Nat) (cI cS : ClassId) (L : Nat) (xs : Nat → Int32) : (ct_w a cI cS)[18]? = (sy_ws a cI cS (ct_M L xs))[18]? := by
  rw [sy_ws_at (k := 18) (sp := .inr (.inl 8)) rfl]
  rfl
set_option maxRecDepth 100000 in
set_option maxHeartbeats 4000000 in
theorem ct_w_k19 (a : Nat → Nat) (cI cS : ClassId) (L : Nat) (xs : Nat → Int32) : (ct_w a cI cS)[19]? = (sy_ws a cI cS (ct_M L xs))[19]? := by
  rw [sy_ws_at (k := 19) (sp := .inl (1, [some 20])) rfl, ct_ceO]
  rfl
set_option maxRecDepth 100000 in
set_option maxHeartbeats 4000000 in
theorem ct_w_k20 (a : Nat → Nat) (cI cS : ClassId) (L : Nat) (xs : Nat → Int32) : (ct_w a cI cS)[20]? = (sy_ws a cI cS (ct_M L xs))[20]? := by
  rw [sy_ws_at (k := 20) (sp := .inr (.inl 8)) rfl]
  rfl
set_option maxRecDepth 100000 in
set_option maxHeartbeats 4000000 in
theorem ct_w_k21 (a : Nat → Nat) (cI cS : ClassId) (L : Nat) (xs : Nat → Int32) : (ct_w a cI cS)[21]? = (sy_ws a cI cS (ct_M L xs))[21]? := by
  rw [sy_ws_at (k := 21) (sp := .inr (.inr [22, 24, 26, 28])) rfl]
  show (ct_w a cI cS)[21]? = some (a 21, .inl (cS, 4, .inr (.inr (.inr (.inr (fun j => (([22, 24, 26, 28] : List Nat)[j]?).map a))))))
  rw [← ct_sf_ad a]
  rfl
set_option maxRecDepth 100000 in
set_option maxHeartbeats 4000000 in
theorem ct_w_k22 (a : Nat → Nat) (cI cS : ClassId) (L : Nat) (xs : Nat → Int32) : (ct_w a cI cS)[22]? = (sy_ws a cI cS (ct_M L xs))[22]? := by
  rw [sy_ws_at (k := 22) (sp := .inl (3, [some 23, none, none])) rfl, ct_ceO]
  rfl
set_option maxRecDepth 100000 in
set_option maxHeartbeats 4000000 in
theorem ct_w_k23 (a : Nat → Nat) (cI cS : ClassId) (L : Nat) (xs : Nat → Int32) : (ct_w a cI cS)[23]? = (sy_ws a cI cS (ct_M L xs))[23]? := by
  rw [sy_ws_at (k := 23) (sp := .inr (.inl 60)) rfl]
  rfl
set_option maxRecDepth 100000 in
set_option maxHeartbeats 4000000 in
theorem ct_w_k24 (a : Nat → Nat) (cI cS : ClassId) (L : Nat) (xs : Nat → Int32) : (ct_w a cI cS)[24]? = (sy_ws a cI cS (ct_M L xs))[24]? := by
  rw [sy_ws_at (k := 24) (sp := .inl (3, [some 25, none, none])) rfl, ct_ceO]
  rfl
set_option maxRecDepth 100000 in
set_option maxHeartbeats 4000000 in
theorem ct_w_k25 (a : Nat → Nat) (cI cS : ClassId) (L : Nat) (xs : Nat → Int32) : (ct_w a cI cS)[25]? = (sy_ws a cI cS (ct_M L xs))[25]? := by
  rw [sy_ws_at (k := 25) (sp := .inr (.inl 60)) rfl]
  rfl
set_option maxRecDepth 100000 in
set_option maxHeartbeats 4000000 in
theorem ct_w_k26 (a : Nat → Nat) (cI cS : ClassId) (L : Nat) (xs : Nat → Int32) : (ct_w a cI cS)[26]? = (sy_ws a cI cS (ct_M L xs))[26]? := by
  rw [sy_ws_at (k := 26) (sp := .inl (3, [some 27, none, none])) rfl, ct_ceO]
  rfl
set_option maxRecDepth 100000 in
set_option maxHeartbeats 4000000 in
theorem ct_w_k27 (a : Nat → Nat) (cI cS : ClassId) (L : Nat) (xs : Nat → Int32) : (ct_w a cI cS)[27]? = (sy_ws a cI cS (ct_M L xs))[27]? := by
  rw [sy_ws_at (k := 27) (sp := .inr (.inl 60)) rfl]
  rfl
set_option maxRecDepth 100000 in
set_option maxHeartbeats 4000000 in
theorem ct_w_k28 (a : Nat → Nat) (cI cS : ClassId) (L : Nat) (xs : Nat → Int32) : (ct_w a cI cS)[28]? = (sy_ws a cI cS (ct_M L xs))[28]? := by
  rw [sy_ws_at (k := 28) (sp := .inl (3, [some 29, none, none])) rfl, ct_ceO]
  rfl
set_option maxRecDepth 100000 in
set_option maxHeartbeats 4000000 in
theorem ct_w_k29 (a : Nat → Nat) (cI cS : ClassId) (L : Nat) (xs : Nat → Int32) : (ct_w a cI cS)[29]? = (sy_ws a cI cS (ct_M L xs))[29]? := by
  rw [sy_ws_at (k := 29) (sp := .inr (.inl 60)) rfl]
  rfl
set_option maxRecDepth 100000 in
set_option maxHeartbeats 4000000 in
theorem ct_w_k30 (a : Nat → Nat) (cI cS : ClassId) (L : Nat) (xs : Nat → Int32) : (ct_w a cI cS)[30]? = (sy_ws a cI cS (ct_M L xs))[30]? := by
  rw [sy_ws_at (k := 30) (sp := .inl (8, [some 31, some 32, some 33, some 34, none, some 35, none, none, none, some 36, none, none, none, some 37, some 38, some 39, some 40, none, none, none, none, some 41, some 42, some 43, some 44, some 45])) rfl, ct_ceO]
  rfl
set_option maxRecDepth 100000 in
set_option maxHeartbeats 4000000 in
theorem ct_w_k31 (a : Nat → Nat) (cI cS : ClassId) (L : Nat) (xs : Nat → Int32) : (ct_w a cI cS)[31]? = (sy_ws a cI cS (ct_M L xs))[31]? := by
  rw [sy_ws_at (k := 31) (sp := .inr (.inl 4)) rfl]
  rfl
set_option maxRecDepth 100000 in
set_option maxHeartbeats 4000000 in
theorem ct_w_k32 (a : Nat → Nat) (cI cS : ClassId) (L : Nat) (xs : Nat → Int32) : (ct_w a cI cS)[32]? = (sy_ws a cI cS (ct_M L xs))[32]? := by
  rw [sy_ws_at (k := 32) (sp := .inr (.inl 4)) rfl]
  rfl
set_option maxRecDepth 100000 in
set_option maxHeartbeats 4000000 in
theorem ct_w_k33 (a : Nat → Nat) (cI cS : ClassId) (L : Nat) (xs : Nat → Int32) : (ct_w a cI cS)[33]? = (sy_ws a cI cS (ct_M L xs))[33]? := by
  rw [sy_ws_at (k := 33) (sp := .inr (.inl 240)) rfl]
  rfl
set_option maxRecDepth 100000 in
set_option maxHeartbeats 4000000 in
theorem ct_w_k34 (a : Nat → Nat) (cI cS : ClassId) (L : Nat) (xs : Nat → Int32) : (ct_w a cI cS)[34]? = (sy_ws a cI cS (ct_M L xs))[34]? := by
  rw [sy_ws_at (k := 34) (sp := .inr (.inl 60)) rfl]
  rfl
set_option maxRecDepth 100000 in
set_option maxHeartbeats 4000000 in
theorem ct_w_k35 (a : Nat → Nat) (cI cS : ClassId) (L : Nat) (xs : Nat → Int32) : (ct_w a cI cS)[35]? = (sy_ws a cI cS (ct_M L xs))[35]? := by
  rw [sy_ws_at (k := 35) (sp := .inr (.inl 30)) rfl]
  rfl
set_option maxRecDepth 100000 in
set_option maxHeartbeats 4000000 in
theorem ct_w_k36 (a : Nat → Nat) (cI cS : ClassId) (L : Nat) (xs : Nat → Int32) : (ct_w a cI cS)[36]? = (sy_ws a cI cS (ct_M L xs))[36]? := by
  rw [sy_ws_at (k := 36) (sp := .inr (.inl 9)) rfl]
  rfl
set_option maxRecDepth 100000 in
set_option maxHeartbeats 4000000 in
theorem ct_w_k37 (a : Nat → Nat) (cI cS : ClassId) (L : Nat) (xs : Nat → Int32) : (ct_w a cI cS)[37]? = (sy_ws a cI cS (ct_M L xs))[37]? := by
  rw [sy_ws_at (k := 37) (sp := .inr (.inl 200)) rfl]
  rfl
set_option maxRecDepth 100000 in
set_option maxHeartbeats 4000000 in
theorem ct_w_k38 (a : Nat → Nat) (cI cS : ClassId) (L : Nat) (xs : Nat → Int32) : (ct_w a cI cS)[38]? = (sy_ws a cI cS (ct_M L xs))[38]? := by
  rw [sy_ws_at (k := 38) (sp := .inr (.inl 36)) rfl]
  rfl
set_option maxRecDepth 100000 in
set_option maxHeartbeats 4000000 in
theorem ct_w_k39 (a : Nat → Nat) (cI cS : ClassId) (L : Nat) (xs : Nat → Int32) : (ct_w a cI cS)[39]? = (sy_ws a cI cS (ct_M L xs))[39]? := by
  rw [sy_ws_at (k := 39) (sp := .inr (.inl 36)) rfl]
  rfl
set_option maxRecDepth 100000 in
set_option maxHeartbeats 4000000 in
theorem ct_w_k40 (a : Nat → Nat) (cI cS : ClassId) (L : Nat) (xs : Nat → Int32) : (ct_w a cI cS)[40]? = (sy_ws a cI cS (ct_M L xs))[40]? := by
  rw [sy_ws_at (k := 40) (sp := .inr (.inl 9)) rfl]
  rfl
set_option maxRecDepth 100000 in
set_option maxHeartbeats 4000000 in
theorem ct_w_k41 (a : Nat → Nat) (cI cS : ClassId) (L : Nat) (xs : Nat → Int32) : (ct_w a cI cS)[41]? = (sy_ws a cI cS (ct_M L xs))[41]? := by
  rw [sy_ws_at (k := 41) (sp := .inr (.inl 24)) rfl]
  rfl
set_option maxRecDepth 100000 in
set_option maxHeartbeats 4000000 in
theorem ct_w_k42 (a : Nat → Nat) (cI cS : ClassId) (L : Nat) (xs : Nat → Int32) : (ct_w a cI cS)[42]? = (sy_ws a cI cS (ct_M L xs))[42]? := by
  rw [sy_ws_at (k := 42) (sp := .inr (.inl 8)) rfl]
  rfl
set_option maxRecDepth 100000 in
set_option maxHeartbeats 4000000 in
theorem ct_w_k43 (a : Nat → Nat) (cI cS : ClassId) (L : Nat) (xs : Nat → Int32) : (ct_w a cI cS)[43]? = (sy_ws a cI cS (ct_M L xs))[43]? := by
  rw [sy_ws_at (k := 43) (sp := .inr (.inl 4)) rfl]
  rfl
set_option maxRecDepth 100000 in
set_option maxHeartbeats 4000000 in
theorem ct_w_k44 (a : Nat → Nat) (cI cS : ClassId) (L : Nat) (xs : Nat → Int32) : (ct_w a cI cS)[44]? = (sy_ws a cI cS (ct_M L xs))[44]? := by
  rw [sy_ws_at (k := 44) (sp := .inr (.inl 4)) rfl]
  rfl
set_option maxRecDepth 100000 in
set_option maxHeartbeats 4000000 in
theorem ct_w_k45 (a : Nat → Nat) (cI cS : ClassId) (L : Nat) (xs : Nat → Int32) : (ct_w a cI cS)[45]? = (sy_ws a cI cS (ct_M L xs))[45]? := by
  rw [sy_ws_at (k := 45) (sp := .inr (.inl 8)) rfl]
  rfl
theorem ct_w_at (a : Nat → Nat) (cI cS : ClassId) (L : Nat) (xs : Nat → Int32) (k : Nat) : (ct_w a cI cS)[k]? = (sy_ws a cI cS (ct_M L xs))[k]? := by
  match k with
  | 0 => exact ct_w_k0 a cI cS L xs
  | 1 => exact ct_w_k1 a cI cS L xs
  | 2 => exact ct_w_k2 a cI cS L xs
  | 3 => exact ct_w_k3 a cI cS L xs
  | 4 => exact ct_w_k4 a cI cS L xs
  | 5 => exact ct_w_k5 a cI cS L xs
  | 6 => exact ct_w_k6 a cI cS L xs
  | 7 => exact ct_w_k7 a cI cS L xs
  | 8 => exact ct_w_k8 a cI cS L xs
  | 9 => exact ct_w_k9 a cI cS L xs
  | 10 => exact ct_w_k10 a cI cS L xs
  | 11 => exact ct_w_k11 a cI cS L xs
  | 12 => exact ct_w_k12 a cI cS L xs
  | 13 => exact ct_w_k13 a cI cS L xs
  | 14 => exact ct_w_k14 a cI cS L xs
  | 15 => exact ct_w_k15 a cI cS L xs
  | 16 => exact ct_w_k16 a cI cS L xs
  | 17 => exact ct_w_k17 a cI cS L xs
  | 18 => exact ct_w_k18 a cI cS L xs
  | 19 => exact ct_w_k19 a cI cS L xs
  | 20 => exact ct_w_k20 a cI cS L xs
  | 21 => exact ct_w_k21 a cI cS L xs
  | 22 => exact ct_w_k22 a cI cS L xs
  | 23 => exact ct_w_k23 a cI cS L xs
  | 24 => exact ct_w_k24 a cI cS L xs
  | 25 => exact ct_w_k25 a cI cS L xs
  | 26 => exact ct_w_k26 a cI cS L xs
  | 27 => exact ct_w_k27 a cI cS L xs
  | 28 => exact ct_w_k28 a cI cS L xs
  | 29 => exact ct_w_k29 a cI cS L xs
  | 30 => exact ct_w_k30 a cI cS L xs
  | 31 => exact ct_w_k31 a cI cS L xs
  | 32 => exact ct_w_k32 a cI cS L xs
  | 33 => exact ct_w_k33 a cI cS L xs
  | 34 => exact ct_w_k34 a cI cS L xs
  | 35 => exact ct_w_k35 a cI cS L xs
  | 36 => exact ct_w_k36 a cI cS L xs
  | 37 => exact ct_w_k37 a cI cS L xs
  | 38 => exact ct_w_k38 a cI cS L xs
  | 39 => exact ct_w_k39 a cI cS L xs
  | 40 => exact ct_w_k40 a cI cS L xs
  | 41 => exact ct_w_k41 a cI cS L xs
  | 42 => exact ct_w_k42 a cI cS L xs
  | 43 => exact ct_w_k43 a cI cS L xs
  | 44 => exact ct_w_k44 a cI cS L xs
  | 45 => exact ct_w_k45 a cI cS L xs
  | k + 46 =>
    have h : sy_SH[k + 46]? = none := List.getElem?_eq_none (by rw [sy_SH_len]; omega)
    rw [List.getElem?_eq_none (by show 46 ≤ k + 46; omega)]
    unfold sy_ws
    rw [List.getElem?_mapIdx, h]
    rfl
theorem ct_w_eq (a : Nat → Nat) (cI cS : ClassId) (L : Nat) (xs : Nat → Int32) : ct_w a cI cS = sy_ws a cI cS (ct_M L xs) := List.ext_getElem? (ct_w_at a cI cS L xs)
theorem ct_nt {k : Nat} (h : k < 46) : ∃ sp, sy_nt sy_SH k = some sp := by
  rw [sy_nt_eq]
  exact ⟨_, List.getElem?_eq_getElem (by rw [sy_SH_len]; exact h)⟩
theorem ct_sad {a : Nat → Nat} {A : Nat → Prop} {cI cS : ClassId} {M : sy_Mm} (h : va_D A (sy_ws a cI cS M)) : sy_ad a A := by
  refine ⟨fun i j hi hj e => ?_, fun i hi => ?_⟩
  · obtain ⟨sp, h1⟩ := ct_nt hi
    obtain ⟨sq, h2⟩ := ct_nt hj
    exact h.1 i j _ _ (sy_ws_at h1) (sy_ws_at h2) e
  · obtain ⟨sp, h1⟩ := ct_nt hi
    exact h.2 i _ (sy_ws_at h1)
theorem ct_inv (L : Nat) (xs : Nat → Int32) : Inv (ct_M L xs) := by
  refine ⟨0, fun _ _ => 0, 0, 30, fun _ _ => 0, 0, fun _ => 8, fun _ => none, ⟨by omega, rfl, rfl, fun j h => absurd h (by omega), rfl, rfl⟩, ⟨⟨by omega, fun e h => absurd h (by omega), fun e h => absurd h (by omega)⟩, ⟨rfl, fun e h => absurd h (by omega)⟩, rfl, fun e h => absurd h (by omega)⟩, ⟨rfl, rfl, by omega, by omega⟩, ⟨by omega, rfl, rfl, fun b h => absurd h (by omega)⟩, ?_, ?_, rfl⟩
  · intro h hh
    match h, hh with
    | 0, _ => exact ⟨by decide, rfl, rfl⟩
    | 1, _ => exact ⟨by decide, rfl, rfl⟩
    | 2, _ => exact ⟨by decide, rfl, rfl⟩
    | 3, _ => exact ⟨by decide, rfl, rfl⟩
    | 4, _ => exact ⟨by decide, rfl, rfl⟩
    | 5, _ => exact ⟨by decide, rfl, rfl⟩
    | 6, _ => exact ⟨by decide, rfl, rfl⟩
    | 7, _ => exact ⟨by decide, rfl, rfl⟩
    | h + 8, q => exact absurd q (by omega)
  · intro s hs
    match s, hs with
    | 0, _ => exact ⟨rfl, rfl, rfl⟩
    | 1, _ => exact ⟨rfl, rfl, rfl⟩
    | 2, _ => exact ⟨rfl, rfl, rfl⟩
    | 3, _ => exact ⟨rfl, rfl, rfl⟩
    | s + 4, q => exact absurd q (by omega)
