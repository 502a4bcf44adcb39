/-! ===== a small machine over one memory: places (cells) and their ints; the cells' shapes stand fixed ===== -/
abbrev sy_Lo : Type := List (Option Value)
abbrev sy_Mm : Type := Nat → Nat → Int32
abbrev sy_Nx : Type := Nat × sy_Lo × List Value × sy_Mm
/-- next; next if; a branch (if so, there, else); a call (method, arguments, then); a return (if, the answer) -/
abbrev sy_Rs : Type := sy_Nx ⊕ ((Bool × sy_Nx) ⊕ ((Bool × Nat × sy_Nx) ⊕ ((Nat × List Value × sy_Nx) ⊕ (Bool × Option Value))))
/-- a cell: an object (its class; for each field the place that it holds, none for an int), a row of ints, a row of places -/
abbrev sy_Sp : Type := (Nat × List (Option Nat)) ⊕ (Nat ⊕ List Nat)
def sy_SH : List sy_Sp := [
  .inl (7, [some 1, some 3, some 9, some 13, some 14, some 19, some 21, none]),
  .inl (5, [some 2, none, none, none]), .inr (.inl 30),
  .inl (4, [some 4, some 5, some 6, some 7, some 8, none]), .inr (.inl 40), .inr (.inl 40), .inr (.inl 40), .inr (.inl 40), .inr (.inl 40),
  .inl (6, [some 1, some 3, some 10, some 11, some 12, none, none, none, none, none, none]), .inr (.inl 9), .inr (.inl 9), .inr (.inl 9),
  .inl (2, [some 9, none]),
  .inl (0, [some 9, some 15, some 16, some 17, some 18, none, none, none, none, none]), .inr (.inl 8), .inr (.inl 8), .inr (.inl 8), .inr (.inl 8),
  .inl (1, [some 20]), .inr (.inl 8),
  .inr (.inr [22, 24, 26, 28]),
  .inl (3, [some 23, none, none]), .inr (.inl 60), .inl (3, [some 25, none, none]), .inr (.inl 60), .inl (3, [some 27, none, none]), .inr (.inl 60), .inl (3, [some 29, none, none]), .inr (.inl 60),
  .inl (8, [some 31, some 32, some 33, some 34, none, some 35, none, none, none, some 36, none, none, none, some 37, some 38, some 39, some 40, none, none, none, none, some 41, some 42, some 43, some 44, some 45]),
  .inr (.inl 4), .inr (.inl 4), .inr (.inl 240), .inr (.inl 60), .inr (.inl 30), .inr (.inl 9), .inr (.inl 200), .inr (.inl 36), .inr (.inl 36), .inr (.inl 9), .inr (.inl 24), .inr (.inl 8), .inr (.inl 4), .inr (.inl 4), .inr (.inl 8)]
def sy_nt {α : Type} : List α → Nat → Option α
  | [], _ => none
  | a :: _, 0 => some a
  | _ :: l, n + 1 => sy_nt l n
theorem sy_nt_eq {α : Type} (l : List α) (n : Nat) : sy_nt l n = l[n]? := by
  induction l generalizing n with
  | nil => rfl
  | cons a l ih => cases n with
    | zero => rfl
    | succ n => simpa [sy_nt] using ih n
def sy_get : sy_Lo → Nat → Option Value
  | [], _ => none
  | a :: _, 0 => a
  | _ :: l, n + 1 => sy_get l n
def sy_clr : Option Value → Option Value
  | some (.long _) => none
  | some (.double _) => none
  | o => o
def sy_set1 : sy_Lo → Nat → Value → sy_Lo
  | [], _, _ => []
  | _ :: l, 0, v => some v :: l
  | a :: l, 1, v => sy_clr a :: sy_set1 l 0 v
  | a :: l, n + 2, v => a :: sy_set1 l (n + 1) v
def sy_tl : sy_Lo → sy_Lo
  | [] => []
  | _ :: r => none :: r
def sy_set2 : sy_Lo → Nat → Value → sy_Lo
  | [], _, _ => []
  | _ :: l, 0, v => some v :: sy_tl l
  | a :: l, 1, v => sy_clr a :: sy_set2 l 0 v
  | a :: l, n + 2, v => a :: sy_set2 l (n + 1) v
/-- the memory with one row put anew -/
def sy_row (M : sy_Mm) (k : Nat) (f : Nat → Int32) : sy_Mm := fun q => cond (Nat.beq q k) f (M q)
def sy_up (M : sy_Mm) (k j : Nat) (x : Int32) : sy_Mm := sy_row M k (upd (M k) j x)
def sy_as {α : Type} : List (Nat × α) → Nat → Option α
  | [], _ => none
  | q :: r, n => cond (Nat.beq q.1 n) (some q.2) (sy_as r n)
def sy_pop : Nat → List Value → List Value → Option (List Value × List Value)
  | 0, st, acc => some (acc, st)
  | _ + 1, [], _ => none
  | n + 1, v :: st, acc => sy_pop n st (v :: acc)
def sy_cs : List Value → Nat
  | [] => 0
  | .long _ :: r => sy_cs r + 2
  | .double _ :: r => sy_cs r + 2
  | _ :: r => sy_cs r + 1
def sy_ent : List Value → sy_Lo
  | [] => []
  | .long x :: r => some (.long x) :: none :: sy_ent r
  | .double x :: r => some (.double x) :: none :: sy_ent r
  | v :: r => some v :: sy_ent r
def sy_pad : sy_Lo → Nat → sy_Lo
  | l, 0 => l
  | [], n + 1 => none :: sy_pad [] n
  | a :: l, n + 1 => a :: sy_pad l n
/-- the place of a switch's target -/
def sy_sw (pc : Nat) (dflt lo hi : Int) (offs : Array Int) (x : Int32) : Int :=
  if x.toInt < lo ∨ hi < x.toInt then (pc : Int) + dflt else match offs[(x.toInt - lo).toNat]? with
    | some off => (pc : Int) + off
    | none => -1
def sy_fld (k ci j : Nat) : Option (Option Nat) := match sy_nt sy_SH k with
  | some (.inl (c, fs)) => cond (Nat.beq c ci) (sy_nt fs j) none
  | _ => none
def sy_isO (k ci : Nat) : Bool := match sy_nt sy_SH k with
  | some (.inl (c, _)) => Nat.beq c ci
  | _ => false
def sy_call (b : Bool) (y : Nat) (as : List Value) (nx : Nat) (ls : sy_Lo) (r : List Value) (M : sy_Mm) : Option sy_Rs := cond (cond (Nat.beq (sy_mi y).2.2.2.2.1 11) false b) (cond (Nat.ble (sy_cs r) 8 && Nat.ble (sy_cs as) (sy_mi y).2.2.1) (some (.inr (.inr (.inr (.inl (y, as, (nx, ls, r, M))))))) none) none
def sy_ld1 (o : Option Value) (nx : Nat) (ls : sy_Lo) (st : List Value) (M : sy_Mm) : Option sy_Rs := match o with
  | some (.int x) => some (.inl (nx, ls, .int x :: st, M))
  | _ => none
def sy_ld2 (o : Option Value) (nx : Nat) (ls : sy_Lo) (st : List Value) (M : sy_Mm) : Option sy_Rs := match o with
  | some (.long x) => some (.inl (nx, ls, .long x :: st, M))
  | _ => none
def sy_lda (o : Option Value) (nx : Nat) (ls : sy_Lo) (st : List Value) (M : sy_Mm) : Option sy_Rs := match o with
  | some (.ref x) => some (.inl (nx, ls, .ref x :: st, M))
  | _ => none
def sy_st1 (n k nx : Nat) (ls : sy_Lo) (st : List Value) (M : sy_Mm) : Option sy_Rs := match st with
  | .int x :: r => cond (Nat.blt k n) (some (.inl (nx, sy_set1 ls k (.int x), r, M))) none
  | _ => none
def sy_sta (n k nx : Nat) (ls : sy_Lo) (st : List Value) (M : sy_Mm) : Option sy_Rs := match st with
  | .ref x :: r => cond (Nat.blt k n) (some (.inl (nx, sy_set1 ls k (.ref x), r, M))) none
  | _ => none
def sy_st2 (n k nx : Nat) (ls : sy_Lo) (st : List Value) (M : sy_Mm) : Option sy_Rs := match st with
  | .long x :: r => cond (Nat.blt (k + 1) n) (some (.inl (nx, sy_set2 ls k (.long x), r, M))) none
  | _ => none
def sy_len : Instr → Nat
  | .bipush _ => 2 | .sipush _ => 3 | .ldc _ => 2 | .ldc_w _ => 3 | .ldc2_w _ => 3
  | .iload _ => 2 | .lload _ => 2 | .aload _ => 2 | .istore _ => 2 | .lstore _ => 2 | .astore _ => 2 | .iinc _ _ => 3
  | .ifCond _ _ => 3 | .if_icmp _ _ => 3 | .goto _ => 3 | .getfield _ => 3 | .putfield _ => 3 | .invokevirtual _ => 3 | .invokestatic _ => 3 | .invokespecial _ => 3 | .new _ => 3
  | .tableswitch _ _ _ _ => 0
  | _ => 1
def sy_okL (q : sy_En) : Bool := cond (Nat.beq (sy_len q.2.1) 0) true (Nat.beq q.2.2.1 (q.1 + sy_len q.2.1))
def sy_op (i : Instr) (nx tg : Nat) (z : Int32) (mi : sy_MI) (pc : Nat) (ls : sy_Lo) (st : List Value) (M : sy_Mm) : Option sy_Rs := match i with
  | .iconst _ => some (.inl (nx, ls, .int z :: st, M))
  | .bipush _ => some (.inl (nx, ls, .int z :: st, M))
  | .sipush _ => some (.inl (nx, ls, .int z :: st, M))
  | .lconst n => match n with
    | ⟨0, _⟩ => some (.inl (nx, ls, .long 0 :: st, M))
    | ⟨_ + 1, _⟩ => some (.inl (nx, ls, .long 1 :: st, M))
  | .ldc k => match sy_as (sy_ci mi.2.2.2.2.1).2.2.2.1 k with
    | some v => some (.inl (nx, ls, .int v :: st, M))
    | none => none
  | .ldc_w k => match sy_as (sy_ci mi.2.2.2.2.1).2.2.2.1 k with
    | some v => some (.inl (nx, ls, .int v :: st, M))
    | none => none
  | .ldc2_w k => match sy_as (sy_ci mi.2.2.2.2.1).2.2.2.2 k with
    | some v => some (.inl (nx, ls, .long v :: st, M))
    | none => none
  | .iload k => sy_ld1 (sy_get ls k) nx ls st M
  | .iload_n k => sy_ld1 (sy_get ls k.val) nx ls st M
  | .lload k => sy_ld2 (sy_get ls k) nx ls st M
  | .lload_n k => sy_ld2 (sy_get ls k.val) nx ls st M
  | .aload k => sy_lda (sy_get ls k) nx ls st M
  | .aload_n k => sy_lda (sy_get ls k.val) nx ls st M
  | .istore k => sy_st1 mi.2.2.1 k nx ls st M
  | .istore_n k => sy_st1 mi.2.2.1 k.val nx ls st M
  | .lstore k => sy_st2 mi.2.2.1 k nx ls st M
  | .lstore_n k => sy_st2 mi.2.2.1 k.val nx ls st M
  | .astore k => sy_sta mi.2.2.1 k nx ls st M
  | .astore_n k => sy_sta mi.2.2.1 k.val nx ls st M
  | .iinc k _ => match sy_get ls k with
    | some (.int x) => cond (Nat.blt k mi.2.2.1) (some (.inl (nx, sy_set1 ls k (.int (x + z)), st, M))) none
    | _ => none
  | .iadd => match st with
    | .int y :: .int x :: r => some (.inl (nx, ls, .int (x + y) :: r, M))
    | _ => none
  | .isub => match st with
    | .int y :: .int x :: r => some (.inl (nx, ls, .int (x - y) :: r, M))
    | _ => none
  | .imul => match st with
    | .int y :: .int x :: r => some (.inl (nx, ls, .int (x * y) :: r, M))
    | _ => none
  | .iand => match st with
    | .int y :: .int x :: r => some (.inl (nx, ls, .int (x &&& y) :: r, M))
    | _ => none
  | .ior => match st with
    | .int y :: .int x :: r => some (.inl (nx, ls, .int (x ||| y) :: r, M))
    | _ => none
  | .ixor => match st with
    | .int y :: .int x :: r => some (.inl (nx, ls, .int (x ^^^ y) :: r, M))
    | _ => none
  | .ishl => match st with
    | .int y :: .int x :: r => some (.inl (nx, ls, .int (x <<< (y &&& 31)) :: r, M))
    | _ => none
  | .ishr => match st with
    | .int y :: .int x :: r => some (.inl (nx, ls, .int (x >>> (y &&& 31)) :: r, M))
    | _ => none
  | .iushr => match st with
    | .int y :: .int x :: r => some (.inl (nx, ls, .int (x.toUInt32 >>> (y.toUInt32 &&& Int32.toUInt32 31)).toInt32 :: r, M))
    | _ => none
  | .idiv => match st with
    | .int y :: .int x :: r => some (.inr (.inl (decide (¬ y = 0), (nx, ls, .int (x / y) :: r, M))))
    | _ => none
  | .irem => match st with
    | .int y :: .int x :: r => some (.inr (.inl (decide (¬ y = 0), (nx, ls, .int (x - x / y * y) :: r, M))))
    | _ => none
  | .ladd => match st with
    | .long y :: .long x :: r => some (.inl (nx, ls, .long (x + y) :: r, M))
    | _ => none
  | .lsub => match st with
    | .long y :: .long x :: r => some (.inl (nx, ls, .long (x - y) :: r, M))
    | _ => none
  | .lmul => match st with
    | .long y :: .long x :: r => some (.inl (nx, ls, .long (x * y) :: r, M))
    | _ => none
  | .ldiv => match st with
    | .long y :: .long x :: r => some (.inr (.inl (decide (¬ y = 0), (nx, ls, .long (x / y) :: r, M))))
    | _ => none
  | .lrem => match st with
    | .long y :: .long x :: r => some (.inr (.inl (decide (¬ y = 0), (nx, ls, .long (x - x / y * y) :: r, M))))
    | _ => none
  | .lcmp => match st with
    | .long y :: .long x :: r => some (.inl (nx, ls, .int (lg_cmp x y) :: r, M))
    | _ => none
  | .i2l => match st with
    | .int x :: r => some (.inl (nx, ls, .long x.toInt64 :: r, M))
    | _ => none
  | .i2b => match st with
    | .int x :: r => some (.inl (nx, ls, .int x.toInt8.toInt32 :: r, M))
    | _ => none
  | .i2s => match st with
    | .int x :: r => some (.inl (nx, ls, .int x.toInt16.toInt32 :: r, M))
    | _ => none
  | .dup => match st with
    | .int x :: r => some (.inl (nx, ls, .int x :: .int x :: r, M))
    | .ref x :: r => some (.inl (nx, ls, .ref x :: .ref x :: r, M))
    | _ => none
  | .dup2 => match st with
    | .int x :: .ref y :: r => some (.inl (nx, ls, .int x :: .ref y :: .int x :: .ref y :: r, M))
    | _ => none
  | .pop => match st with
    | .int _ :: r => some (.inl (nx, ls, r, M))
    | _ => none
  | .goto _ => some (.inl (tg, ls, st, M))
  | .ifCond .eq _ => match st with
    | .int x :: r => some (.inr (.inr (.inl (decide (x = 0), tg, (nx, ls, r, M)))))
    | _ => none
  | .ifCond .ne _ => match st with
    | .int x :: r => some (.inr (.inr (.inl (decide (¬ x = 0), tg, (nx, ls, r, M)))))
    | _ => none
  | .ifCond .lt _ => match st with
    | .int x :: r => some (.inr (.inr (.inl (decide (x < 0), tg, (nx, ls, r, M)))))
    | _ => none
  | .ifCond .ge _ => match st with
    | .int x :: r => some (.inr (.inr (.inl (decide (0 ≤ x), tg, (nx, ls, r, M)))))
    | _ => none
  | .ifCond .gt _ => match st with
    | .int x :: r => some (.inr (.inr (.inl (decide (0 < x), tg, (nx, ls, r, M)))))
    | _ => none
  | .ifCond .le _ => match st with
    | .int x :: r => some (.inr (.inr (.inl (decide (x ≤ 0), tg, (nx, ls, r, M)))))
    | _ => none
  | .if_icmp .eq _ => match st with
    | .int y :: .int x :: r => some (.inr (.inr (.inl (decide (x = y), tg, (nx, ls, r, M)))))
    | _ => none
  | .if_icmp .ne _ => match st with
    | .int y :: .int x :: r => some (.inr (.inr (.inl (decide (¬ x = y), tg, (nx, ls, r, M)))))
    | _ => none
  | .if_icmp .lt _ => match st with
    | .int y :: .int x :: r => some (.inr (.inr (.inl (decide (x < y), tg, (nx, ls, r, M)))))
    | _ => none
  | .if_icmp .ge _ => match st with
    | .int y :: .int x :: r => some (.inr (.inr (.inl (decide (y ≤ x), tg, (nx, ls, r, M)))))
    | _ => none
  | .if_icmp .gt _ => match st with
    | .int y :: .int x :: r => some (.inr (.inr (.inl (decide (y < x), tg, (nx, ls, r, M)))))
    | _ => none
  | .if_icmp .le _ => match st with
    | .int y :: .int x :: r => some (.inr (.inr (.inl (decide (x ≤ y), tg, (nx, ls, r, M)))))
    | _ => none
  | .tableswitch dflt lo hi offs => match st with
    | .int x :: r => some (.inr (.inl (decide (0 ≤ sy_sw pc dflt lo hi offs x), ((sy_sw pc dflt lo hi offs x).toNat, ls, r, M))))
    | _ => none
  | .getfield k => match sy_as (sy_ci mi.2.2.2.2.1).2.1 k with
    | some (ci, j) => match st with
      | .ref a :: r => match sy_fld a ci j with
        | some (some p) => some (.inl (nx, ls, .ref p :: r, M))
        | some none => some (.inl (nx, ls, .int (M a j) :: r, M))
        | none => none
      | _ => none
    | none => none
  | .putfield k => match sy_as (sy_ci mi.2.2.2.2.1).2.1 k with
    | some (ci, j) => match st with
      | .int x :: .ref a :: r => match sy_fld a ci j with
        | some none => some (.inl (nx, ls, r, sy_up M a j x))
        | _ => none
      | _ => none
    | none => none
  | .iaload => match st with
    | .int i :: .ref a :: r => match sy_nt sy_SH a with
      | some (.inr (.inl n)) => some (.inr (.inl (decide (0 ≤ i.toInt ∧ i.toInt < (n : Int)), (nx, ls, .int (M a i.toNatClampNeg) :: r, M))))
      | some _ => none
      | none => cond (Nat.beq a 99) (some (.inr (.inl (decide (0 ≤ i.toInt ∧ i.toInt < (M 98 0).toInt), (nx, ls, .int (M 99 i.toNatClampNeg) :: r, M))))) none
    | _ => none
  | .iastore => match st with
    | .int x :: .int i :: .ref a :: r => match sy_nt sy_SH a with
      | some (.inr (.inl n)) => some (.inr (.inl (decide (0 ≤ i.toInt ∧ i.toInt < (n : Int)), (nx, ls, r, sy_up M a i.toNatClampNeg x))))
      | _ => none
    | _ => none
  | .aaload => match st with
    | .int i :: .ref a :: r => match sy_nt sy_SH a with
      | some (.inr (.inr ps)) => match sy_nt ps i.toNatClampNeg with
        | some p => some (.inr (.inl (decide (0 ≤ i.toInt), (nx, ls, .ref p :: r, M))))
        | none => none
      | _ => none
    | _ => none
  | .arraylength => match st with
    | .ref a :: r => cond (Nat.beq a 99) (some (.inl (nx, ls, .int (M 98 0) :: r, M))) none
    | _ => none
  | .invokevirtual k => match sy_as (sy_ci mi.2.2.2.2.1).2.2.1 k with
    | some (y, kd) => cond (Nat.beq kd 0) (match sy_pop (sy_mi y).2.2.2.2.2.2.1 st [] with
      | some (as, .ref a :: r) => sy_call (cond (sy_mi y).2.2.2.2.2.1 false (sy_isO a (sy_mi y).2.2.2.2.1)) y (.ref a :: as) nx ls r M
      | _ => none) none
    | none => none
  | .invokestatic k => match sy_as (sy_ci mi.2.2.2.2.1).2.2.1 k with
    | some (y, kd) => cond (Nat.beq kd 2) (match st with
      | .int n :: .int dp :: .ref b :: .int sp :: .ref a :: r => match sy_nt sy_SH a, sy_nt sy_SH b with
        | some (.inr (.inl na)), some (.inr (.inl nb)) => cond (Nat.ble (sy_cs r) 8) (some (.inr (.inl (decide ((¬ sp < 0 ∧ ¬ dp < 0 ∧ ¬ n < 0) ∧ sp.toNatClampNeg + n.toNatClampNeg ≤ na ∧ dp.toNatClampNeg + n.toNatClampNeg ≤ nb), (nx, ls, r, sy_row M b (va_cpy (M a) (M b) sp.toNatClampNeg dp.toNatClampNeg n.toNatClampNeg)))))) none
        | _, _ => none
      | _ => none) <| cond (Nat.beq kd 3) (match st with
      | .int v :: .int u :: r => cond (Nat.ble (sy_cs r) 8) (some (.inl (nx, ls, .int (if v < u then v else u) :: r, M))) none
      | _ => none) (match sy_pop (sy_mi y).2.2.2.2.2.2.1 st [] with
      | some (as, r) => sy_call (sy_mi y).2.2.2.2.2.1 y as nx ls r M
      | _ => none)
    | none => none
  | .ireturn => match st with
    | [.int v] => match mi.2.2.2.1 with
      | some .int => some (.inr (.inr (.inr (.inr (true, some (.int v))))))
      | some .boolean => some (.inr (.inr (.inr (.inr (decide (v = 0 ∨ v = 1), some (.int v))))))
      | _ => none
    | _ => none
  | .lreturn => match st with
    | [.long v] => match mi.2.2.2.1 with
      | some .long => some (.inr (.inr (.inr (.inr (true, some (.long v))))))
      | _ => none
    | _ => none
  | .return_ => match st with
    | [] => match mi.2.2.2.1 with
      | none => some (.inr (.inr (.inr (.inr (true, none)))))
      | _ => none
    | _ => none
  | _ => none
def sy_step (y pc : Nat) (ls : sy_Lo) (st : List Value) (M : sy_Mm) : Option sy_Rs := match sy_lk (sy_mi y).1 pc with
  | none => none
  | some (i, nx, tg, z) => sy_op i nx tg z (sy_mi y) pc ls st M
def sy_en (y : Nat) (as : List Value) : sy_Lo := sy_pad (sy_ent as) (sy_mi y).2.2.1
/-- n steps at most, d calls deep at most -/
def sy_run : Nat → Nat → Nat → Nat → sy_Lo → List Value → sy_Mm → Option (Option Value × sy_Mm)
  | 0, _, _, _, _, _, _ => none
  | n + 1, d, y, pc, ls, st, M => match sy_step y pc ls st M with
    | none => none
    | some (.inl (pc', ls', st', M')) => sy_run n d y pc' ls' st' M'
    | some (.inr (.inl (b, pc', ls', st', M'))) => cond b (sy_run n d y pc' ls' st' M') none
    | some (.inr (.inr (.inl (b, t, pc', ls', st', M')))) => cond b (sy_run n d y t ls' st' M') (sy_run n d y pc' ls' st' M')
    | some (.inr (.inr (.inr (.inl (y', as, pc', ls', st', M'))))) => match d with
      | 0 => none
      | d' + 1 => match sy_run n d' y' 0 (sy_en y' as) [] M' with
        | none => none
        | some (r, M2) => sy_run n (d' + 1) y pc' ls' (r.toList ++ st') M2
    | some (.inr (.inr (.inr (.inr (b, v))))) => cond b (some (v, M)) none
/-- from this frame on the method comes to its end with r and the memory M' -/
def Fr (d y pc : Nat) (ls : sy_Lo) (st : List Value) (M : sy_Mm) (r : Option Value) (M' : sy_Mm) : Prop := ∃ n, sy_run n d y pc ls st M = some (r, M')
def Ev (d y : Nat) (as : List Value) (M : sy_Mm) (r : Option Value) (M' : sy_Mm) : Prop := Fr d y 0 (sy_en y as) [] M r M'
theorem sy_mono : ∀ (n n' d y pc : Nat) (ls : sy_Lo) (st : List Value) (M : sy_Mm) (x : Option Value × sy_Mm), n ≤ n' → sy_run n d y pc ls st M = some x → sy_run n' d y pc ls st M = some x := by
  intro n
  induction n with
  | zero => intro n' d y pc ls st M x _ h; simp [sy_run] at h
  | succ n ih =>
    intro n' d y pc ls st M x hn h
    obtain ⟨n', rfl⟩ : ∃ k, n' = k + 1 := ⟨n' - 1, by omega⟩
    have hn : n ≤ n' := by omega
    unfold sy_run at h ⊢
    generalize sy_step y pc ls st M = o at h ⊢
    rcases o with _ | (⟨pc', ls', st', M'⟩ | ⟨b, pc', ls', st', M'⟩ | ⟨b, t, pc', ls', st', M'⟩ | ⟨y', as, pc', ls', st', M'⟩ | ⟨b, v⟩)
    · cases h
    · exact ih _ _ _ _ _ _ _ _ hn h
    · cases b
      · cases h
      · exact ih _ _ _ _ _ _ _ _ hn h
    · cases b
      · exact ih _ _ _ _ _ _ _ _ hn h
      · exact ih _ _ _ _ _ _ _ _ hn h
    · cases d with
      | zero => cases h
      | succ d =>
        dsimp only at h ⊢
        cases q : sy_run n d y' 0 (sy_en y' as) [] M' with
        | none => rw [q] at h; cases h
        | some w =>
          rw [q] at h
          rw [ih _ _ _ _ _ _ _ _ hn q]
          exact ih _ _ _ _ _ _ _ _ hn h
    · exact h
theorem fr_n {d y pc : Nat} {ls : sy_Lo} {st : List Value} {M : sy_Mm} {r : Option Value} {M' : sy_Mm} {pc' : Nat} {ls' : sy_Lo} {st' : List Value} {M1 : sy_Mm} (h : sy_step y pc ls st M = some (.inl (pc', ls', st', M1))) (k : Fr d y pc' ls' st' M1 r M') : Fr d y pc ls st M r M' := by
  obtain ⟨n, k⟩ := k
  exact ⟨n + 1, by unfold sy_run; simp only [h]; exact k⟩
theorem fr_g {d y pc : Nat} {ls : sy_Lo} {st : List Value} {M : sy_Mm} {r : Option Value} {M' : sy_Mm} {pc' : Nat} {ls' : sy_Lo} {st' : List Value} {M1 : sy_Mm} {P : Prop} {inst : Decidable P} (h : sy_step y pc ls st M = some (.inr (.inl (decide P, pc', ls', st', M1)))) (hP : P) (k : Fr d y pc' ls' st' M1 r M') : Fr d y pc ls st M r M' := by
  obtain ⟨n, k⟩ := k
  refine ⟨n + 1, ?_⟩
  unfold sy_run
  simp only [h, decide_eq_true hP]
  exact k
theorem fr_b {d y pc : Nat} {ls : sy_Lo} {st : List Value} {M : sy_Mm} {r : Option Value} {M' : sy_Mm} {pc' t : Nat} {ls' : sy_Lo} {st' : List Value} {M1 : sy_Mm} {P : Prop} {inst : Decidable P} (h : sy_step y pc ls st M = some (.inr (.inr (.inl (decide P, t, pc', ls', st', M1))))) (kt : P → Fr d y t ls' st' M1 r M') (kf : ¬ P → Fr d y pc' ls' st' M1 r M') : Fr d y pc ls st M r M' := by
  by_cases hP : P
  · obtain ⟨n, k⟩ := kt hP
    refine ⟨n + 1, ?_⟩
    unfold sy_run
    simp only [h, decide_eq_true hP]
    exact k
  · obtain ⟨n, k⟩ := kf hP
    refine ⟨n + 1, ?_⟩
    unfold sy_run
    simp only [h, decide_eq_false hP]
    exact k
theorem fr_c {d y pc : Nat} {ls : sy_Lo} {st : List Value} {M : sy_Mm} {r : Option Value} {M' : sy_Mm} {pc' y' : Nat} {as : List Value} {ls' : sy_Lo} {st' : List Value} {M1 M2 : sy_Mm} {r1 : Option Value} (h : sy_step y pc ls st M = some (.inr (.inr (.inr (.inl (y', as, pc', ls', st', M1)))))) (hc : Ev d y' as M1 r1 M2) (k : Fr (d + 1) y pc' ls' (r1.toList ++ st') M2 r M') : Fr (d + 1) y pc ls st M r M' := by
  obtain ⟨n1, k1⟩ := hc
  obtain ⟨n2, k2⟩ := k
  refine ⟨n1 + n2 + 1, ?_⟩
  unfold sy_run
  simp only [h, sy_mono _ (n1 + n2) _ _ _ _ _ _ _ (by omega) k1]
  exact sy_mono _ _ _ _ _ _ _ _ _ (by omega) k2
theorem fr_r {d y pc : Nat} {ls : sy_Lo} {st : List Value} {M : sy_Mm} {r : Option Value} {b : Bool} (h : sy_step y pc ls st M = some (.inr (.inr (.inr (.inr (b, r)))))) (hb : b = true) : Fr d y pc ls st M r M := by
  refine ⟨1, ?_⟩
  unfold sy_run
  simp only [h, hb]
  rfl
def sy_lP (q : sy_MI) : Prop := q.1.all sy_okL = true
theorem sy_l0 : sy_lP sy_m0 := by unfold sy_lP; decide +kernel
theorem sy_l1 : sy_lP sy_m1 := by unfold sy_lP; decide +kernel
theorem sy_l2 : sy_lP sy_m2 := by unfold sy_lP; decide +kernel
theorem sy_l3 : sy_lP sy_m3 := by unfold sy_lP; decide +kernel
theorem sy_l4 : sy_lP sy_m4 := by unfold sy_lP; decide +kernel
theorem sy_l5 : sy_lP sy_m5 := by unfold sy_lP; decide +kernel
theorem sy_l6 : sy_lP sy_m6 := by unfold sy_lP; decide +kernel
theorem sy_l7 : sy_lP sy_m7 := by unfold sy_lP; decide +kernel
theorem sy_l8 : sy_lP sy_m8 := by unfold sy_lP; decide +kernel
theorem sy_l9 : sy_lP sy_m9 := by unfold sy_lP; decide +kernel
theorem sy_l10 : sy_lP sy_m10 := by unfold sy_lP; decide +kernel
theorem sy_l11 : sy_lP sy_m11 := by unfold sy_lP; decide +kernel
theorem sy_l12 : sy_lP sy_m12 := by unfold sy_lP; decide +kernel
theorem sy_l13 : sy_lP sy_m13 := by unfold sy_lP; decide +kernel
theorem sy_l14 : sy_lP sy_m14 := by unfold sy_lP; decide +kernel
theorem sy_l15 : sy_lP sy_m15 := by unfold sy_lP; decide +kernel
theorem sy_l16 : sy_lP sy_m16 := by unfold sy_lP; decide +kernel
theorem sy_l17 : sy_lP sy_m17 := by unfold sy_lP; decide +kernel
theorem sy_l18 : sy_lP sy_m18 := by unfold sy_lP; decide +kernel
theorem sy_l19 : sy_lP sy_m19 := by unfold sy_lP; decide +kernel
theorem sy_l20 : sy_lP sy_m20 := by unfold sy_lP; decide +kernel
theorem sy_l21 : sy_lP sy_m21 := by unfold sy_lP; decide +kernel
theorem sy_l22 : sy_lP sy_m22 := by unfold sy_lP; decide +kernel
theorem sy_l23 : sy_lP sy_m23 := by unfold sy_lP; decide +kernel
theorem sy_l24 : sy_lP sy_m24 := by unfold sy_lP; decide +kernel
theorem sy_l25 : sy_lP sy_m25 := by unfold sy_lP; decide +kernel
theorem sy_l26 : sy_lP sy_m26 := by unfold sy_lP; decide +kernel
theorem sy_l27 : sy_lP sy_m27 := by unfold sy_lP; decide +kernel
theorem sy_l28 : sy_lP sy_m28 := by unfold sy_lP; decide +kernel
theorem sy_l29 : sy_lP sy_m29 := by unfold sy_lP; decide +kernel
theorem sy_l30 : sy_lP sy_m30 := by unfold sy_lP; decide +kernel
theorem sy_l31 : sy_lP sy_m31 := by unfold sy_lP; decide +kernel
theorem sy_l32 : sy_lP sy_m32 := by unfold sy_lP; decide +kernel
theorem sy_l33 : sy_lP sy_m33 := by unfold sy_lP; decide +kernel
theorem sy_l34 : sy_lP sy_m34 := by unfold sy_lP; decide +kernel
theorem sy_l35 : sy_lP sy_m35 := by unfold sy_lP; decide +kernel
theorem sy_l36 : sy_lP sy_m36 := by unfold sy_lP; decide +kernel
theorem sy_l37 : sy_lP sy_m37 := by unfold sy_lP; decide +kernel
theorem sy_l38 : sy_lP sy_m38 := by unfold sy_lP; decide +kernel
theorem sy_l39 : sy_lP sy_m39 := by unfold sy_lP; decide +kernel
theorem sy_l40 : sy_lP sy_m40 := by unfold sy_lP; decide +kernel
theorem sy_l41 : sy_lP sy_m41 := by unfold sy_lP; decide +kernel
theorem sy_l42 : sy_lP sy_m42 := by unfold sy_lP; decide +kernel
theorem sy_l43 : sy_lP sy_m43 := by unfold sy_lP; decide +kernel
theorem sy_l44 : sy_lP sy_m44 := by unfold sy_lP; decide +kernel
theorem sy_l45 : sy_lP sy_m45 := by unfold sy_lP; decide +kernel
theorem sy_l46 : sy_lP sy_m46 := by unfold sy_lP; decide +kernel
theorem sy_l47 : sy_lP sy_m47 := by unfold sy_lP; decide +kernel
theorem sy_l48 : sy_lP sy_m48 := by unfold sy_lP; decide +kernel
theorem sy_l49 : sy_lP sy_m49 := by unfold sy_lP; decide +kernel
theorem sy_l50 : sy_lP sy_m50 := by unfold sy_lP; decide +kernel
theorem sy_l51 : sy_lP sy_m51 := by unfold sy_lP; decide +kernel
theorem sy_l52 : sy_lP sy_m52 := by unfold sy_lP; decide +kernel
theorem sy_l53 : sy_lP sy_m53 := by unfold sy_lP; decide +kernel
theorem sy_l54 : sy_lP sy_m54 := by unfold sy_lP; decide +kernel
theorem sy_l55 : sy_lP sy_m55 := by unfold sy_lP; decide +kernel
theorem sy_l56 : sy_lP sy_m56 := by unfold sy_lP; decide +kernel
theorem sy_l57 : sy_lP sy_m57 := by unfold sy_lP; decide +kernel
theorem sy_l58 : sy_lP sy_m58 := by unfold sy_lP; decide +kernel
theorem sy_l59 : sy_lP sy_m59 := by unfold sy_lP; decide +kernel
theorem sy_l60 : sy_lP sy_m60 := by unfold sy_lP; decide +kernel
theorem sy_l61 : sy_lP sy_m61 := by unfold sy_lP; decide +kernel
theorem sy_l62 : sy_lP sy_m62 := by unfold sy_lP; decide +kernel
theorem sy_l63 : sy_lP sy_m63 := by unfold sy_lP; decide +kernel
theorem sy_l64 : sy_lP sy_m64 := by unfold sy_lP; decide +kernel
theorem sy_l65 : sy_lP sy_m65 := by unfold sy_lP; decide +kernel
theorem sy_l66 : sy_lP sy_m66 := by unfold sy_lP; decide +kernel
theorem sy_l67 : sy_lP sy_m67 := by unfold sy_lP; decide +kernel
theorem sy_l68 : sy_lP sy_m68 := by unfold sy_lP; decide +kernel
theorem sy_l69 : sy_lP sy_m69 := by unfold sy_lP; decide +kernel
theorem sy_l70 : sy_lP sy_m70 := by unfold sy_lP; decide +kernel
theorem sy_l71 : sy_lP sy_m71 := by unfold sy_lP; decide +kernel
theorem sy_l72 : sy_lP sy_m72 := by unfold sy_lP; decide +kernel
theorem sy_l73 : sy_lP sy_m73 := by unfold sy_lP; decide +kernel
theorem sy_l74 : sy_lP sy_m74 := by unfold sy_lP; decide +kernel
theorem sy_l75 : sy_lP sy_m75 := by unfold sy_lP; decide +kernel
theorem sy_l76 : sy_lP sy_m76 := by unfold sy_lP; decide +kernel
theorem sy_l77 : sy_lP sy_m77 := by unfold sy_lP; decide +kernel
theorem sy_l78 : sy_lP sy_m78 := by unfold sy_lP; decide +kernel
theorem sy_l79 : sy_lP sy_m79 := by unfold sy_lP; decide +kernel
theorem sy_l80 : sy_lP sy_m80 := by unfold sy_lP; decide +kernel
theorem sy_l81 : sy_lP sy_m81 := by unfold sy_lP; decide +kernel
theorem sy_l82 : sy_lP sy_m82 := by unfold sy_lP; decide +kernel
theorem sy_l83 : sy_lP sy_m83 := by unfold sy_lP; decide +kernel
theorem sy_l84 : sy_lP sy_m84 := by unfold sy_lP; decide +kernel
theorem sy_l85 : sy_lP sy_m85 := by unfold sy_lP; decide +kernel
theorem sy_l86 : sy_lP sy_m86 := by unfold sy_lP; decide +kernel
theorem sy_l87 : sy_lP sy_m87 := by unfold sy_lP; decide +kernel
theorem sy_l88 : sy_lP sy_m88 := by unfold sy_lP; decide +kernel
theorem sy_l89 : sy_lP sy_m89 := by unfold sy_lP; decide +kernel
theorem sy_l90 : sy_lP sy_m90 := by unfold sy_lP; decide +kernel
theorem sy_l91 : sy_lP sy_m91 := by unfold sy_lP; decide +kernel
theorem sy_l92 : sy_lP sy_m92 := by unfold sy_lP; decide +kernel
theorem sy_l93 : sy_lP sy_m93 := by unfold sy_lP; decide +kernel
theorem sy_l94 : sy_lP sy_m94 := by unfold sy_lP; decide +kernel
theorem sy_l95 : sy_lP sy_m95 := by unfold sy_lP; decide +kernel
theorem sy_l96 : sy_lP sy_m96 := by unfold sy_lP; decide +kernel
theorem sy_l97 : sy_lP sy_m97 := by unfold sy_lP; decide +kernel
theorem sy_l98 : sy_lP sy_m98 := by unfold sy_lP; decide +kernel
theorem sy_l99 : sy_lP sy_m99 := by unfold sy_lP; decide +kernel
theorem sy_l100 : sy_lP sy_m100 := by unfold sy_lP; decide +kernel
theorem sy_l101 : sy_lP sy_m101 := by unfold sy_lP; decide +kernel
theorem sy_l102 : sy_lP sy_m102 := by unfold sy_lP; decide +kernel
theorem sy_l103 : sy_lP sy_m103 := by unfold sy_lP; decide +kernel
theorem sy_l104 : sy_lP sy_m104 := by unfold sy_lP; decide +kernel
theorem sy_l105 : sy_lP sy_m105 := by unfold sy_lP; decide +kernel
theorem sy_l106 : sy_lP sy_m106 := by unfold sy_lP; decide +kernel
theorem sy_l107 : sy_lP sy_m107 := by unfold sy_lP; decide +kernel
theorem sy_l108 : sy_lP sy_m108 := by unfold sy_lP; decide +kernel
theorem sy_l109 : sy_lP sy_m109 := by unfold sy_lP; decide +kernel
theorem sy_l110 : sy_lP sy_m110 := by unfold sy_lP; decide +kernel
theorem sy_l111 : sy_lP sy_m111 := by unfold sy_lP; decide +kernel
theorem sy_l112 : sy_lP sy_m112 := by unfold sy_lP; decide +kernel
theorem sy_l113 : sy_lP sy_m113 := by unfold sy_lP; decide +kernel
theorem sy_l114 : sy_lP sy_m114 := by unfold sy_lP; decide +kernel
theorem sy_l115 : sy_lP sy_m115 := by unfold sy_lP; decide +kernel
theorem sy_l116 : sy_lP sy_m116 := by unfold sy_lP; decide +kernel
theorem sy_l117 : sy_lP sy_m117 := by unfold sy_lP; decide +kernel
theorem sy_l118 : sy_lP sy_m118 := by unfold sy_lP; decide +kernel
theorem sy_l119 : sy_lP sy_m119 := by unfold sy_lP; decide +kernel
theorem sy_l120 : sy_lP sy_m120 := by unfold sy_lP; decide +kernel
theorem sy_l121 : sy_lP sy_m121 := by unfold sy_lP; decide +kernel
theorem sy_l122 : sy_lP sy_m122 := by unfold sy_lP; decide +kernel
theorem sy_l123 : sy_lP sy_m123 := by unfold sy_lP; decide +kernel
theorem sy_l124 : sy_lP sy_m124 := by unfold sy_lP; decide +kernel
theorem sy_l125 : sy_lP sy_m125 := by unfold sy_lP; decide +kernel
theorem sy_l126 : sy_lP sy_m126 := by unfold sy_lP; decide +kernel
theorem sy_l127 : sy_lP sy_m127 := by unfold sy_lP; decide +kernel
theorem sy_l128 : sy_lP sy_m128 := by unfold sy_lP; decide +kernel
theorem sy_l129 : sy_lP sy_m129 := by unfold sy_lP; decide +kernel
theorem sy_l130 : sy_lP sy_m130 := by unfold sy_lP; decide +kernel
theorem sy_l131 : sy_lP sy_m131 := by unfold sy_lP; decide +kernel
theorem sy_l132 : sy_lP sy_m132 := by unfold sy_lP; decide +kernel
theorem sy_l133 : sy_lP sy_m133 := by unfold sy_lP; decide +kernel
theorem sy_l134 : sy_lP sy_m134 := by unfold sy_lP; decide +kernel
theorem sy_l135 : sy_lP sy_m135 := by unfold sy_lP; decide +kernel
theorem sy_l136 : sy_lP sy_m136 := by unfold sy_lP; decide +kernel
theorem sy_l137 : sy_lP sy_m137 := by unfold sy_lP; decide +kernel
theorem sy_l138 : sy_lP sy_m138 := by unfold sy_lP; decide +kernel
theorem sy_l139 : sy_lP sy_m139 := by unfold sy_lP; decide +kernel
theorem sy_l140 : sy_lP sy_m140 := by unfold sy_lP; decide +kernel
theorem sy_l141 : sy_lP sy_m141 := by unfold sy_lP; decide +kernel
theorem sy_l142 : sy_lP sy_m142 := by unfold sy_lP; decide +kernel
theorem sy_l143 : sy_lP sy_m143 := by unfold sy_lP; decide +kernel
theorem sy_l144 : sy_lP sy_m144 := by unfold sy_lP; decide +kernel
theorem sy_l145 : sy_lP sy_m145 := by unfold sy_lP; decide +kernel
theorem sy_l146 : sy_lP sy_m146 := by unfold sy_lP; decide +kernel
theorem sy_l147 : sy_lP sy_m147 := by unfold sy_lP; decide +kernel
theorem sy_l148 : sy_lP sy_m148 := by unfold sy_lP; decide +kernel
theorem sy_l149 : sy_lP sy_m149 := by unfold sy_lP; decide +kernel
theorem sy_l150 : sy_lP sy_m150 := by unfold sy_lP; decide +kernel
theorem sy_l151 : sy_lP sy_m151 := by unfold sy_lP; decide +kernel
theorem sy_l152 : sy_lP sy_m152 := by unfold sy_lP; decide +kernel
theorem sy_l153 : sy_lP sy_m153 := by unfold sy_lP; decide +kernel
theorem sy_l154 : sy_lP sy_m154 := by unfold sy_lP; decide +kernel
theorem sy_l155 : sy_lP sy_m155 := by unfold sy_lP; decide +kernel
theorem sy_l156 : sy_lP sy_m156 := by unfold sy_lP; decide +kernel
theorem sy_l157 : sy_lP sy_m157 := by unfold sy_lP; decide +kernel
theorem sy_l158 : sy_lP sy_m158 := by unfold sy_lP; decide +kernel
theorem sy_l159 : sy_lP sy_m159 := by unfold sy_lP; decide +kernel
theorem sy_l160 : sy_lP sy_m160 := by unfold sy_lP; decide +kernel
theorem sy_l161 : sy_lP sy_m161 := by unfold sy_lP; decide +kernel
theorem sy_l162 : sy_lP sy_m162 := by unfold sy_lP; decide +kernel
theorem sy_l163 : sy_lP sy_m163 := by unfold sy_lP; decide +kernel
set_option maxRecDepth 100000 in
theorem sy_lAll (y : Nat) : sy_lP (sy_mi y) := (sy_cd (P := sy_lP) (sy_cd (P := sy_lP) (sy_cd (P := sy_lP) (sy_cd (P := sy_lP) (sy_cd (P := sy_lP) (sy_cd (P := sy_lP) (sy_cd (P := sy_lP) (sy_cd (P := sy_lP) sy_l163 sy_l162) sy_l161) (sy_cd (P := sy_lP) (sy_cd (P := sy_lP) sy_l160 sy_l159) sy_l158)) (sy_cd (P := sy_lP) (sy_cd (P := sy_lP) (sy_cd (P := sy_lP) sy_l157 sy_l156) sy_l155) (sy_cd (P := sy_lP) sy_l154 sy_l153))) (sy_cd (P := sy_lP) (sy_cd (P := sy_lP) (sy_cd (P := sy_lP) (sy_cd (P := sy_lP) sy_l152 sy_l151) sy_l150) (sy_cd (P := sy_lP) sy_l149 sy_l148)) (sy_cd (P := sy_lP) (sy_cd (P := sy_lP) (sy_cd (P := sy_lP) sy_l147 sy_l146) sy_l145) (sy_cd (P := sy_lP) sy_l144 sy_l143)))) (sy_cd (P := sy_lP) (sy_cd (P := sy_lP) (sy_cd (P := sy_lP) (sy_cd (P := sy_lP) (sy_cd (P := sy_lP) sy_l142 sy_l141) sy_l140) (sy_cd (P := sy_lP) sy_l139 sy_l138)) (sy_cd (P := sy_lP) (sy_cd (P := sy_lP) (sy_cd (P := sy_lP) sy_l137 sy_l136) sy_l135) (sy_cd (P := sy_lP) sy_l134 sy_l133))) (sy_cd (P := sy_lP) (sy_cd (P := sy_lP) (sy_cd (P := sy_lP) (sy_cd (P := sy_lP) sy_l132 sy_l131) sy_l130) (sy_cd (P := sy_lP) sy_l129 sy_l128)) (sy_cd (P := sy_lP) (sy_cd (P := sy_lP) (sy_cd (P := sy_lP) sy_l127 sy_l126) sy_l125) (sy_cd (P := sy_lP) sy_l124 sy_l123))))) (sy_cd (P := sy_lP) (sy_cd (P := sy_lP) (sy_cd (P := sy_lP) (sy_cd (P := sy_lP) (sy_cd (P := sy_lP) (sy_cd (P := sy_lP) sy_l122 sy_l121) sy_l120) (sy_cd (P := sy_lP) (sy_cd (P := sy_lP) sy_l119 sy_l118) sy_l117)) (sy_cd (P := sy_lP) (sy_cd (P := sy_lP) (sy_cd (P := sy_lP) sy_l116 sy_l115) sy_l114) (sy_cd (P := sy_lP) sy_l113 sy_l112))) (sy_cd (P := sy_lP) (sy_cd (P := sy_lP) (sy_cd (P := sy_lP) (sy_cd (P := sy_lP) sy_l111 sy_l110) sy_l109) (sy_cd (P := sy_lP) sy_l108 sy_l107)) (sy_cd (P := sy_lP) (sy_cd (P := sy_lP) (sy_cd (P := sy_lP) sy_l106 sy_l105) sy_l104) (sy_cd (P := sy_lP) sy_l103 sy_l102)))) (sy_cd (P := sy_lP) (sy_cd (P := sy_lP) (sy_cd (P := sy_lP) (sy_cd (P := sy_lP) (sy_cd (P := sy_lP) sy_l101 sy_l100) sy_l99) (sy_cd (P := sy_lP) sy_l98 sy_l97)) (sy_cd (P := sy_lP) (sy_cd (P := sy_lP) (sy_cd (P := sy_lP) sy_l96 sy_l95) sy_l94) (sy_cd (P := sy_lP) sy_l93 sy_l92))) (sy_cd (P := sy_lP) (sy_cd (P := sy_lP) (sy_cd (P := sy_lP) (sy_cd (P := sy_lP) sy_l91 sy_l90) sy_l89) (sy_cd (P := sy_lP) sy_l88 sy_l87)) (sy_cd (P := sy_lP) (sy_cd (P := sy_lP) (sy_cd (P := sy_lP) sy_l86 sy_l85) sy_l84) (sy_cd (P := sy_lP) sy_l83 sy_l82)))))) (sy_cd (P := sy_lP) (sy_cd (P := sy_lP) (sy_cd (P := sy_lP) (sy_cd (P := sy_lP) (sy_cd (P := sy_lP) (sy_cd (P := sy_lP) (sy_cd (P := sy_lP) sy_l81 sy_l80) sy_l79) (sy_cd (P := sy_lP) (sy_cd (P := sy_lP) sy_l78 sy_l77) sy_l76)) (sy_cd (P := sy_lP) (sy_cd (P := sy_lP) (sy_cd (P := sy_lP) sy_l75 sy_l74) sy_l73) (sy_cd (P := sy_lP) sy_l72 sy_l71))) (sy_cd (P := sy_lP) (sy_cd (P := sy_lP) (sy_cd (P := sy_lP) (sy_cd (P := sy_lP) sy_l70 sy_l69) sy_l68) (sy_cd (P := sy_lP) sy_l67 sy_l66)) (sy_cd (P := sy_lP) (sy_cd (P := sy_lP) (sy_cd (P := sy_lP) sy_l65 sy_l64) sy_l63) (sy_cd (P := sy_lP) sy_l62 sy_l61)))) (sy_cd (P := sy_lP) (sy_cd (P := sy_lP) (sy_cd (P := sy_lP) (sy_cd (P := sy_lP) (sy_cd (P := sy_lP) sy_l60 sy_l59) sy_l58) (sy_cd (P := sy_lP) sy_l57 sy_l56)) (sy_cd (P := sy_lP) (sy_cd (P := sy_lP) (sy_cd (P := sy_lP) sy_l55 sy_l54) sy_l53) (sy_cd (P := sy_lP) sy_l52 sy_l51))) (sy_cd (P := sy_lP) (sy_cd (P := sy_lP) (sy_cd (P := sy_lP) (sy_cd (P := sy_lP) sy_l50 sy_l49) sy_l48) (sy_cd (P := sy_lP) sy_l47 sy_l46)) (sy_cd (P := sy_lP) (sy_cd (P := sy_lP) (sy_cd (P := sy_lP) sy_l45 sy_l44) sy_l43) (sy_cd (P := sy_lP) sy_l42 sy_l41))))) (sy_cd (P := sy_lP) (sy_cd (P := sy_lP) (sy_cd (P := sy_lP) (sy_cd (P := sy_lP) (sy_cd (P := sy_lP) (sy_cd (P := sy_lP) sy_l40 sy_l39) sy_l38) (sy_cd (P := sy_lP) (sy_cd (P := sy_lP) sy_l37 sy_l36) sy_l35)) (sy_cd (P := sy_lP) (sy_cd (P := sy_lP) (sy_cd (P := sy_lP) sy_l34 sy_l33) sy_l32) (sy_cd (P := sy_lP) sy_l31 sy_l30))) (sy_cd (P := sy_lP) (sy_cd (P := sy_lP) (sy_cd (P := sy_lP) (sy_cd (P := sy_lP) sy_l29 sy_l28) sy_l27) (sy_cd (P := sy_lP) sy_l26 sy_l25)) (sy_cd (P := sy_lP) (sy_cd (P := sy_lP) (sy_cd (P := sy_lP) sy_l24 sy_l23) sy_l22) (sy_cd (P := sy_lP) sy_l21 sy_l20)))) (sy_cd (P := sy_lP) (sy_cd (P := sy_lP) (sy_cd (P := sy_lP) (sy_cd (P := sy_lP) (sy_cd (P := sy_lP) sy_l19 sy_l18) sy_l17) (sy_cd (P := sy_lP) sy_l16 sy_l15)) (sy_cd (P := sy_lP) (sy_cd (P := sy_lP) (sy_cd (P := sy_lP) sy_l14 sy_l13) sy_l12) (sy_cd (P := sy_lP) sy_l11 sy_l10))) (sy_cd (P := sy_lP) (sy_cd (P := sy_lP) (sy_cd (P := sy_lP) (sy_cd (P := sy_lP) sy_l9 sy_l8) sy_l7) (sy_cd (P := sy_lP) sy_l6 sy_l5)) (sy_cd (P := sy_lP) (sy_cd (P := sy_lP) (sy_cd (P := sy_lP) sy_l4 sy_l3) sy_l2) (sy_cd (P := sy_lP) sy_l1 sy_l0)))))))
